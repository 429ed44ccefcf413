section
-- ===== PART A: goes FIRST, ahead of the names: the tables' words, and 'selects' of the private methods out of them =====
/-- a private method of a class that the tables say can be made, by its rows of tables_1 -/
def lw_okq (q : MethodName × Nat) : Prop := (q.1.cls ≠ "java/lang/invoke/MethodHandle" ∧ q.1.cls ≠ "java/lang/invoke/VarHandle") ∧ Cond.instantiable q.1.cls q.2 ∈ tables_1 ∧ Cond.privateMethod q.1 ∈ tables_1 ∧ Cond.instanceMethod q.1 ∈ tables_1
theorem lw_p0 : lw_okq (⟨"DayCords$Reader", "skipBlanks", "()V"⟩, 5) := ⟨⟨by decide +kernel, by decide +kernel⟩, List.mem_of_getElem? (i := 26) (by decide +kernel), List.mem_of_getElem? (i := 329) (by decide +kernel), List.mem_of_getElem? (i := 330) (by decide +kernel)⟩
theorem lw_p1 : lw_okq (⟨"DayCords$Reader", "readClause", "(LDayCords$Plan;)V"⟩, 5) := ⟨⟨by decide +kernel, by decide +kernel⟩, List.mem_of_getElem? (i := 26) (by decide +kernel), List.mem_of_getElem? (i := 333) (by decide +kernel), List.mem_of_getElem? (i := 334) (by decide +kernel)⟩
theorem lw_p2 : lw_okq (⟨"DayCords$Reader", "letterHere", "()I"⟩, 5) := ⟨⟨by decide +kernel, by decide +kernel⟩, List.mem_of_getElem? (i := 26) (by decide +kernel), List.mem_of_getElem? (i := 337) (by decide +kernel), List.mem_of_getElem? (i := 338) (by decide +kernel)⟩
theorem lw_p3 : lw_okq (⟨"DayCords$Reader", "blame", "(II)V"⟩, 5) := ⟨⟨by decide +kernel, by decide +kernel⟩, List.mem_of_getElem? (i := 26) (by decide +kernel), List.mem_of_getElem? (i := 341) (by decide +kernel), List.mem_of_getElem? (i := 342) (by decide +kernel)⟩
theorem lw_p4 : lw_okq (⟨"DayCords$Reader", "readRest", "(LDayCords$Plan;I)V"⟩, 5) := ⟨⟨by decide +kernel, by decide +kernel⟩, List.mem_of_getElem? (i := 26) (by decide +kernel), List.mem_of_getElem? (i := 348) (by decide +kernel), List.mem_of_getElem? (i := 349) (by decide +kernel)⟩
theorem lw_p5 : lw_okq (⟨"DayCords$Reader", "readNumber", "(II)I"⟩, 5) := ⟨⟨by decide +kernel, by decide +kernel⟩, List.mem_of_getElem? (i := 26) (by decide +kernel), List.mem_of_getElem? (i := 352) (by decide +kernel), List.mem_of_getElem? (i := 353) (by decide +kernel)⟩
theorem lw_p6 : lw_okq (⟨"DayCords$Reader", "readKinds", "(LDayCords$Plan;)V"⟩, 5) := ⟨⟨by decide +kernel, by decide +kernel⟩, List.mem_of_getElem? (i := 26) (by decide +kernel), List.mem_of_getElem? (i := 359) (by decide +kernel), List.mem_of_getElem? (i := 360) (by decide +kernel)⟩
theorem lw_p7 : lw_okq (⟨"DayCords$Reader", "readMark", "(I)V"⟩, 5) := ⟨⟨by decide +kernel, by decide +kernel⟩, List.mem_of_getElem? (i := 26) (by decide +kernel), List.mem_of_getElem? (i := 363) (by decide +kernel), List.mem_of_getElem? (i := 364) (by decide +kernel)⟩
theorem lw_p8 : lw_okq (⟨"DayCords$Line", "risesFrom", "(I)Z"⟩, 7) := ⟨⟨by decide +kernel, by decide +kernel⟩, List.mem_of_getElem? (i := 124) (by decide +kernel), List.mem_of_getElem? (i := 412) (by decide +kernel), List.mem_of_getElem? (i := 413) (by decide +kernel)⟩
theorem lw_p9 : lw_okq (⟨"DayCords$Sailor", "countWays", "(LDayCords$Plan;LDayCords$Line;)V"⟩, 1) := ⟨⟨by decide +kernel, by decide +kernel⟩, List.mem_of_getElem? (i := 219) (by decide +kernel), List.mem_of_getElem? (i := 429) (by decide +kernel), List.mem_of_getElem? (i := 430) (by decide +kernel)⟩
theorem lw_p10 : lw_okq (⟨"DayCords$Sailor", "firstWordOn", "(LDayCords$Plan;LDayCords$Line;I)I"⟩, 1) := ⟨⟨by decide +kernel, by decide +kernel⟩, List.mem_of_getElem? (i := 219) (by decide +kernel), List.mem_of_getElem? (i := 444) (by decide +kernel), List.mem_of_getElem? (i := 445) (by decide +kernel)⟩
theorem lw_p11 : lw_okq (⟨"DayCords$Line", "swapEnds", "(II)V"⟩, 7) := ⟨⟨by decide +kernel, by decide +kernel⟩, List.mem_of_getElem? (i := 124) (by decide +kernel), List.mem_of_getElem? (i := 510) (by decide +kernel), List.mem_of_getElem? (i := 511) (by decide +kernel)⟩
theorem lw_p12 : lw_okq (⟨"DayCords", "yearsRefused", "(I)I"⟩, 12) := ⟨⟨by decide +kernel, by decide +kernel⟩, List.mem_of_getElem? (i := 18) (by decide +kernel), List.mem_of_getElem? (i := 557) (by decide +kernel), List.mem_of_getElem? (i := 558) (by decide +kernel)⟩
theorem lw_p13 : lw_okq (⟨"DayCords", "chance", "()V"⟩, 12) := ⟨⟨by decide +kernel, by decide +kernel⟩, List.mem_of_getElem? (i := 18) (by decide +kernel), List.mem_of_getElem? (i := 571) (by decide +kernel), List.mem_of_getElem? (i := 572) (by decide +kernel)⟩
theorem lw_p14 : lw_okq (⟨"DayCords", "draw", "(I)I"⟩, 12) := ⟨⟨by decide +kernel, by decide +kernel⟩, List.mem_of_getElem? (i := 18) (by decide +kernel), List.mem_of_getElem? (i := 575) (by decide +kernel), List.mem_of_getElem? (i := 576) (by decide +kernel)⟩
theorem lw_p15 : lw_okq (⟨"DayCords$Turner", "takeRanks", "(LDayCords$Line;)V"⟩, 2) := ⟨⟨by decide +kernel, by decide +kernel⟩, List.mem_of_getElem? (i := 206) (by decide +kernel), List.mem_of_getElem? (i := 602) (by decide +kernel), List.mem_of_getElem? (i := 603) (by decide +kernel)⟩
def lw_privs_1 : List (MethodName × Nat) := [(⟨"DayCords$Reader", "skipBlanks", "()V"⟩, 5), (⟨"DayCords$Reader", "readClause", "(LDayCords$Plan;)V"⟩, 5), (⟨"DayCords$Reader", "letterHere", "()I"⟩, 5), (⟨"DayCords$Reader", "blame", "(II)V"⟩, 5), (⟨"DayCords$Reader", "readRest", "(LDayCords$Plan;I)V"⟩, 5), (⟨"DayCords$Reader", "readNumber", "(II)I"⟩, 5), (⟨"DayCords$Reader", "readKinds", "(LDayCords$Plan;)V"⟩, 5), (⟨"DayCords$Reader", "readMark", "(I)V"⟩, 5), (⟨"DayCords$Line", "risesFrom", "(I)Z"⟩, 7), (⟨"DayCords$Sailor", "countWays", "(LDayCords$Plan;LDayCords$Line;)V"⟩, 1), (⟨"DayCords$Sailor", "firstWordOn", "(LDayCords$Plan;LDayCords$Line;I)I"⟩, 1), (⟨"DayCords$Line", "swapEnds", "(II)V"⟩, 7), (⟨"DayCords", "yearsRefused", "(I)I"⟩, 12), (⟨"DayCords", "chance", "()V"⟩, 12), (⟨"DayCords", "draw", "(I)I"⟩, 12), (⟨"DayCords$Turner", "takeRanks", "(LDayCords$Line;)V"⟩, 2)]
theorem lw_r1 : ∀ q ∈ lw_privs_1, lw_okq q := List.forall_mem_cons.mpr ⟨lw_p0, List.forall_mem_cons.mpr ⟨lw_p1, List.forall_mem_cons.mpr ⟨lw_p2, List.forall_mem_cons.mpr ⟨lw_p3, List.forall_mem_cons.mpr ⟨lw_p4, List.forall_mem_cons.mpr ⟨lw_p5, List.forall_mem_cons.mpr ⟨lw_p6, List.forall_mem_cons.mpr ⟨lw_p7, List.forall_mem_cons.mpr ⟨lw_p8, List.forall_mem_cons.mpr ⟨lw_p9, List.forall_mem_cons.mpr ⟨lw_p10, List.forall_mem_cons.mpr ⟨lw_p11, List.forall_mem_cons.mpr ⟨lw_p12, List.forall_mem_cons.mpr ⟨lw_p13, List.forall_mem_cons.mpr ⟨lw_p14, List.forall_mem_cons.mpr ⟨lw_p15, fun _ h => absurd h List.not_mem_nil⟩⟩⟩⟩⟩⟩⟩⟩⟩⟩⟩⟩⟩⟩⟩⟩
theorem lw_p16 : lw_okq (⟨"DayCords$Turner", "countGaps", "()I"⟩, 2) := ⟨⟨by decide +kernel, by decide +kernel⟩, List.mem_of_getElem? (i := 206) (by decide +kernel), List.mem_of_getElem? (i := 606) (by decide +kernel), List.mem_of_getElem? (i := 607) (by decide +kernel)⟩
theorem lw_p17 : lw_okq (⟨"DayCords$Line", "risesWithout", "(I)Z"⟩, 7) := ⟨⟨by decide +kernel, by decide +kernel⟩, List.mem_of_getElem? (i := 124) (by decide +kernel), List.mem_of_getElem? (i := 634) (by decide +kernel), List.mem_of_getElem? (i := 635) (by decide +kernel)⟩
theorem lw_p18 : lw_okq (⟨"DayCords$Plan", "placesOfHooks", "(I)I"⟩, 11) := ⟨⟨by decide +kernel, by decide +kernel⟩, List.mem_of_getElem? (i := 53) (by decide +kernel), List.mem_of_getElem? (i := 670) (by decide +kernel), List.mem_of_getElem? (i := 671) (by decide +kernel)⟩
theorem lw_p19 : lw_okq (⟨"DayCords", "offSet", "()I"⟩, 12) := ⟨⟨by decide +kernel, by decide +kernel⟩, List.mem_of_getElem? (i := 18) (by decide +kernel), List.mem_of_getElem? (i := 680) (by decide +kernel), List.mem_of_getElem? (i := 681) (by decide +kernel)⟩
theorem lw_p20 : lw_okq (⟨"DayCords$Takers", "fillLeads", "(LDayCords$Plan;LDayCords$Line;)V"⟩, 1) := ⟨⟨by decide +kernel, by decide +kernel⟩, List.mem_of_getElem? (i := 229) (by decide +kernel), List.mem_of_getElem? (i := 692) (by decide +kernel), List.mem_of_getElem? (i := 693) (by decide +kernel)⟩
theorem lw_p21 : lw_okq (⟨"DayCords$Takers", "byFront", "(LDayCords$Plan;LDayCords$Line;)I"⟩, 1) := ⟨⟨by decide +kernel, by decide +kernel⟩, List.mem_of_getElem? (i := 229) (by decide +kernel), List.mem_of_getElem? (i := 698) (by decide +kernel), List.mem_of_getElem? (i := 699) (by decide +kernel)⟩
theorem lw_p22 : lw_okq (⟨"DayCords$Takers", "byBack", "(LDayCords$Plan;LDayCords$Line;)I"⟩, 1) := ⟨⟨by decide +kernel, by decide +kernel⟩, List.mem_of_getElem? (i := 229) (by decide +kernel), List.mem_of_getElem? (i := 702) (by decide +kernel), List.mem_of_getElem? (i := 703) (by decide +kernel)⟩
theorem lw_p23 : lw_okq (⟨"DayCordsModel", "reads", "()Z"⟩, 25) := ⟨⟨by decide +kernel, by decide +kernel⟩, List.mem_of_getElem? (i := 780) (by decide +kernel), List.mem_of_getElem? (i := 876) (by decide +kernel), List.mem_of_getElem? (i := 877) (by decide +kernel)⟩
theorem lw_p24 : lw_okq (⟨"DayCordsModel", "next0", "()I"⟩, 25) := ⟨⟨by decide +kernel, by decide +kernel⟩, List.mem_of_getElem? (i := 780) (by decide +kernel), List.mem_of_getElem? (i := 880) (by decide +kernel), List.mem_of_getElem? (i := 881) (by decide +kernel)⟩
theorem lw_p25 : lw_okq (⟨"DayCordsModel", "readsClause", "(I)Z"⟩, 25) := ⟨⟨by decide +kernel, by decide +kernel⟩, List.mem_of_getElem? (i := 780) (by decide +kernel), List.mem_of_getElem? (i := 884) (by decide +kernel), List.mem_of_getElem? (i := 885) (by decide +kernel)⟩
theorem lw_p26 : lw_okq (⟨"DayCordsModel", "faulty", "(I)Z"⟩, 25) := ⟨⟨by decide +kernel, by decide +kernel⟩, List.mem_of_getElem? (i := 780) (by decide +kernel), List.mem_of_getElem? (i := 888) (by decide +kernel), List.mem_of_getElem? (i := 889) (by decide +kernel)⟩
theorem lw_p27 : lw_okq (⟨"DayCordsModel", "number", "(III)Z"⟩, 25) := ⟨⟨by decide +kernel, by decide +kernel⟩, List.mem_of_getElem? (i := 780) (by decide +kernel), List.mem_of_getElem? (i := 892) (by decide +kernel), List.mem_of_getElem? (i := 893) (by decide +kernel)⟩
theorem lw_p28 : lw_okq (⟨"DayCordsModel", "ends", "()Z"⟩, 25) := ⟨⟨by decide +kernel, by decide +kernel⟩, List.mem_of_getElem? (i := 780) (by decide +kernel), List.mem_of_getElem? (i := 899) (by decide +kernel), List.mem_of_getElem? (i := 900) (by decide +kernel)⟩
theorem lw_p29 : lw_okq (⟨"DayCordsModel", "readsWord", "()Z"⟩, 25) := ⟨⟨by decide +kernel, by decide +kernel⟩, List.mem_of_getElem? (i := 780) (by decide +kernel), List.mem_of_getElem? (i := 903) (by decide +kernel), List.mem_of_getElem? (i := 904) (by decide +kernel)⟩
theorem lw_p30 : lw_okq (⟨"DayCordsModel", "onIt", "()I"⟩, 25) := ⟨⟨by decide +kernel, by decide +kernel⟩, List.mem_of_getElem? (i := 780) (by decide +kernel), List.mem_of_getElem? (i := 915) (by decide +kernel), List.mem_of_getElem? (i := 916) (by decide +kernel)⟩
theorem lw_p31 : lw_okq (⟨"DayCordsModel", "outs", "()I"⟩, 25) := ⟨⟨by decide +kernel, by decide +kernel⟩, List.mem_of_getElem? (i := 780) (by decide +kernel), List.mem_of_getElem? (i := 919) (by decide +kernel), List.mem_of_getElem? (i := 920) (by decide +kernel)⟩
def lw_privs_2 : List (MethodName × Nat) := [(⟨"DayCords$Turner", "countGaps", "()I"⟩, 2), (⟨"DayCords$Line", "risesWithout", "(I)Z"⟩, 7), (⟨"DayCords$Plan", "placesOfHooks", "(I)I"⟩, 11), (⟨"DayCords", "offSet", "()I"⟩, 12), (⟨"DayCords$Takers", "fillLeads", "(LDayCords$Plan;LDayCords$Line;)V"⟩, 1), (⟨"DayCords$Takers", "byFront", "(LDayCords$Plan;LDayCords$Line;)I"⟩, 1), (⟨"DayCords$Takers", "byBack", "(LDayCords$Plan;LDayCords$Line;)I"⟩, 1), (⟨"DayCordsModel", "reads", "()Z"⟩, 25), (⟨"DayCordsModel", "next0", "()I"⟩, 25), (⟨"DayCordsModel", "readsClause", "(I)Z"⟩, 25), (⟨"DayCordsModel", "faulty", "(I)Z"⟩, 25), (⟨"DayCordsModel", "number", "(III)Z"⟩, 25), (⟨"DayCordsModel", "ends", "()Z"⟩, 25), (⟨"DayCordsModel", "readsWord", "()Z"⟩, 25), (⟨"DayCordsModel", "onIt", "()I"⟩, 25), (⟨"DayCordsModel", "outs", "()I"⟩, 25)]
theorem lw_r2 : ∀ q ∈ lw_privs_2, lw_okq q := List.forall_mem_cons.mpr ⟨lw_p16, List.forall_mem_cons.mpr ⟨lw_p17, List.forall_mem_cons.mpr ⟨lw_p18, List.forall_mem_cons.mpr ⟨lw_p19, List.forall_mem_cons.mpr ⟨lw_p20, List.forall_mem_cons.mpr ⟨lw_p21, List.forall_mem_cons.mpr ⟨lw_p22, List.forall_mem_cons.mpr ⟨lw_p23, List.forall_mem_cons.mpr ⟨lw_p24, List.forall_mem_cons.mpr ⟨lw_p25, List.forall_mem_cons.mpr ⟨lw_p26, List.forall_mem_cons.mpr ⟨lw_p27, List.forall_mem_cons.mpr ⟨lw_p28, List.forall_mem_cons.mpr ⟨lw_p29, List.forall_mem_cons.mpr ⟨lw_p30, List.forall_mem_cons.mpr ⟨lw_p31, fun _ h => absurd h List.not_mem_nil⟩⟩⟩⟩⟩⟩⟩⟩⟩⟩⟩⟩⟩⟩⟩⟩
theorem lw_p32 : lw_okq (⟨"DayCordsModel", "isOut", "(I)Z"⟩, 25) := ⟨⟨by decide +kernel, by decide +kernel⟩, List.mem_of_getElem? (i := 780) (by decide +kernel), List.mem_of_getElem? (i := 923) (by decide +kernel), List.mem_of_getElem? (i := 924) (by decide +kernel)⟩
theorem lw_p33 : lw_okq (⟨"DayCordsModel", "crossed", "()I"⟩, 25) := ⟨⟨by decide +kernel, by decide +kernel⟩, List.mem_of_getElem? (i := 780) (by decide +kernel), List.mem_of_getElem? (i := 930) (by decide +kernel), List.mem_of_getElem? (i := 931) (by decide +kernel)⟩
theorem lw_p34 : lw_okq (⟨"DayCordsModel", "cutAt", "()I"⟩, 25) := ⟨⟨by decide +kernel, by decide +kernel⟩, List.mem_of_getElem? (i := 780) (by decide +kernel), List.mem_of_getElem? (i := 934) (by decide +kernel), List.mem_of_getElem? (i := 935) (by decide +kernel)⟩
theorem lw_p35 : lw_okq (⟨"DayCordsModel", "readings", "()I"⟩, 25) := ⟨⟨by decide +kernel, by decide +kernel⟩, List.mem_of_getElem? (i := 780) (by decide +kernel), List.mem_of_getElem? (i := 938) (by decide +kernel), List.mem_of_getElem? (i := 939) (by decide +kernel)⟩
theorem lw_p36 : lw_okq (⟨"DayCordsModel", "fits", "(II)Z"⟩, 25) := ⟨⟨by decide +kernel, by decide +kernel⟩, List.mem_of_getElem? (i := 780) (by decide +kernel), List.mem_of_getElem? (i := 942) (by decide +kernel), List.mem_of_getElem? (i := 943) (by decide +kernel)⟩
theorem lw_p37 : lw_okq (⟨"DayCordsModel", "longOf", "(I)I"⟩, 25) := ⟨⟨by decide +kernel, by decide +kernel⟩, List.mem_of_getElem? (i := 780) (by decide +kernel), List.mem_of_getElem? (i := 946) (by decide +kernel), List.mem_of_getElem? (i := 947) (by decide +kernel)⟩
theorem lw_p38 : lw_okq (⟨"DayCordsModel", "firstOf", "()I"⟩, 25) := ⟨⟨by decide +kernel, by decide +kernel⟩, List.mem_of_getElem? (i := 780) (by decide +kernel), List.mem_of_getElem? (i := 950) (by decide +kernel), List.mem_of_getElem? (i := 951) (by decide +kernel)⟩
theorem lw_p39 : lw_okq (⟨"DayCordsModel", "begun", "()I"⟩, 25) := ⟨⟨by decide +kernel, by decide +kernel⟩, List.mem_of_getElem? (i := 780) (by decide +kernel), List.mem_of_getElem? (i := 954) (by decide +kernel), List.mem_of_getElem? (i := 955) (by decide +kernel)⟩
theorem lw_p40 : lw_okq (⟨"DayCordsModel", "isFlag", "(I)Z"⟩, 25) := ⟨⟨by decide +kernel, by decide +kernel⟩, List.mem_of_getElem? (i := 780) (by decide +kernel), List.mem_of_getElem? (i := 962) (by decide +kernel), List.mem_of_getElem? (i := 963) (by decide +kernel)⟩
theorem lw_p41 : lw_okq (⟨"DayCordsModel", "placeOf", "(I)I"⟩, 25) := ⟨⟨by decide +kernel, by decide +kernel⟩, List.mem_of_getElem? (i := 780) (by decide +kernel), List.mem_of_getElem? (i := 967) (by decide +kernel), List.mem_of_getElem? (i := 968) (by decide +kernel)⟩
theorem lw_p42 : lw_okq (⟨"DayCordsModel", "reached", "(I)I"⟩, 25) := ⟨⟨by decide +kernel, by decide +kernel⟩, List.mem_of_getElem? (i := 780) (by decide +kernel), List.mem_of_getElem? (i := 979) (by decide +kernel), List.mem_of_getElem? (i := 980) (by decide +kernel)⟩
theorem lw_p43 : lw_okq (⟨"DayCordsModel", "keeps", "()V"⟩, 25) := ⟨⟨by decide +kernel, by decide +kernel⟩, List.mem_of_getElem? (i := 780) (by decide +kernel), List.mem_of_getElem? (i := 991) (by decide +kernel), List.mem_of_getElem? (i := 992) (by decide +kernel)⟩
theorem lw_p44 : lw_okq (⟨"DayCordsModel", "cuts", "(I)V"⟩, 25) := ⟨⟨by decide +kernel, by decide +kernel⟩, List.mem_of_getElem? (i := 780) (by decide +kernel), List.mem_of_getElem? (i := 999) (by decide +kernel), List.mem_of_getElem? (i := 1000) (by decide +kernel)⟩
theorem lw_p45 : lw_okq (⟨"DayCordsModel", "eats", "(I)V"⟩, 25) := ⟨⟨by decide +kernel, by decide +kernel⟩, List.mem_of_getElem? (i := 780) (by decide +kernel), List.mem_of_getElem? (i := 1008) (by decide +kernel), List.mem_of_getElem? (i := 1009) (by decide +kernel)⟩
theorem lw_p46 : lw_okq (⟨"DayCordsModel", "passes", "()V"⟩, 25) := ⟨⟨by decide +kernel, by decide +kernel⟩, List.mem_of_getElem? (i := 780) (by decide +kernel), List.mem_of_getElem? (i := 1031) (by decide +kernel), List.mem_of_getElem? (i := 1032) (by decide +kernel)⟩
theorem lw_p47 : lw_okq (⟨"DayCordsModel", "draws", "(I)I"⟩, 25) := ⟨⟨by decide +kernel, by decide +kernel⟩, List.mem_of_getElem? (i := 780) (by decide +kernel), List.mem_of_getElem? (i := 1039) (by decide +kernel), List.mem_of_getElem? (i := 1040) (by decide +kernel)⟩
def lw_privs_3 : List (MethodName × Nat) := [(⟨"DayCordsModel", "isOut", "(I)Z"⟩, 25), (⟨"DayCordsModel", "crossed", "()I"⟩, 25), (⟨"DayCordsModel", "cutAt", "()I"⟩, 25), (⟨"DayCordsModel", "readings", "()I"⟩, 25), (⟨"DayCordsModel", "fits", "(II)Z"⟩, 25), (⟨"DayCordsModel", "longOf", "(I)I"⟩, 25), (⟨"DayCordsModel", "firstOf", "()I"⟩, 25), (⟨"DayCordsModel", "begun", "()I"⟩, 25), (⟨"DayCordsModel", "isFlag", "(I)Z"⟩, 25), (⟨"DayCordsModel", "placeOf", "(I)I"⟩, 25), (⟨"DayCordsModel", "reached", "(I)I"⟩, 25), (⟨"DayCordsModel", "keeps", "()V"⟩, 25), (⟨"DayCordsModel", "cuts", "(I)V"⟩, 25), (⟨"DayCordsModel", "eats", "(I)V"⟩, 25), (⟨"DayCordsModel", "passes", "()V"⟩, 25), (⟨"DayCordsModel", "draws", "(I)I"⟩, 25)]
theorem lw_r3 : ∀ q ∈ lw_privs_3, lw_okq q := List.forall_mem_cons.mpr ⟨lw_p32, List.forall_mem_cons.mpr ⟨lw_p33, List.forall_mem_cons.mpr ⟨lw_p34, List.forall_mem_cons.mpr ⟨lw_p35, List.forall_mem_cons.mpr ⟨lw_p36, List.forall_mem_cons.mpr ⟨lw_p37, List.forall_mem_cons.mpr ⟨lw_p38, List.forall_mem_cons.mpr ⟨lw_p39, List.forall_mem_cons.mpr ⟨lw_p40, List.forall_mem_cons.mpr ⟨lw_p41, List.forall_mem_cons.mpr ⟨lw_p42, List.forall_mem_cons.mpr ⟨lw_p43, List.forall_mem_cons.mpr ⟨lw_p44, List.forall_mem_cons.mpr ⟨lw_p45, List.forall_mem_cons.mpr ⟨lw_p46, List.forall_mem_cons.mpr ⟨lw_p47, fun _ h => absurd h List.not_mem_nil⟩⟩⟩⟩⟩⟩⟩⟩⟩⟩⟩⟩⟩⟩⟩⟩
theorem lw_p48 : lw_okq (⟨"DayCordsModel", "measures", "(I)V"⟩, 25) := ⟨⟨by decide +kernel, by decide +kernel⟩, List.mem_of_getElem? (i := 780) (by decide +kernel), List.mem_of_getElem? (i := 1054) (by decide +kernel), List.mem_of_getElem? (i := 1055) (by decide +kernel)⟩
theorem lw_p49 : lw_okq (⟨"DayCordsModel", "isFar", "(II)V"⟩, 25) := ⟨⟨by decide +kernel, by decide +kernel⟩, List.mem_of_getElem? (i := 780) (by decide +kernel), List.mem_of_getElem? (i := 1059) (by decide +kernel), List.mem_of_getElem? (i := 1060) (by decide +kernel)⟩
theorem lw_p50 : lw_okq (⟨"DayCordsModel", "farAt", "(I)I"⟩, 25) := ⟨⟨by decide +kernel, by decide +kernel⟩, List.mem_of_getElem? (i := 780) (by decide +kernel), List.mem_of_getElem? (i := 1064) (by decide +kernel), List.mem_of_getElem? (i := 1065) (by decide +kernel)⟩
theorem lw_p51 : lw_okq (⟨"DayCordsModel", "orderOf", "(II[I)V"⟩, 25) := ⟨⟨by decide +kernel, by decide +kernel⟩, List.mem_of_getElem? (i := 780) (by decide +kernel), List.mem_of_getElem? (i := 1068) (by decide +kernel), List.mem_of_getElem? (i := 1069) (by decide +kernel)⟩
theorem lw_p52 : lw_okq (⟨"DayCordsModel", "feltAt", "(II)I"⟩, 25) := ⟨⟨by decide +kernel, by decide +kernel⟩, List.mem_of_getElem? (i := 780) (by decide +kernel), List.mem_of_getElem? (i := 1086) (by decide +kernel), List.mem_of_getElem? (i := 1087) (by decide +kernel)⟩
theorem lw_p53 : lw_okq (⟨"DayCordsModel", "heavyAt", "(I)I"⟩, 25) := ⟨⟨by decide +kernel, by decide +kernel⟩, List.mem_of_getElem? (i := 780) (by decide +kernel), List.mem_of_getElem? (i := 1106) (by decide +kernel), List.mem_of_getElem? (i := 1107) (by decide +kernel)⟩
theorem lw_p54 : lw_okq (⟨"DayCordsModel", "moreOf", "(II)I"⟩, 25) := ⟨⟨by decide +kernel, by decide +kernel⟩, List.mem_of_getElem? (i := 780) (by decide +kernel), List.mem_of_getElem? (i := 1110) (by decide +kernel), List.mem_of_getElem? (i := 1111) (by decide +kernel)⟩
theorem lw_p55 : lw_okq (⟨"DayCordsModel", "could", "()I"⟩, 25) := ⟨⟨by decide +kernel, by decide +kernel⟩, List.mem_of_getElem? (i := 780) (by decide +kernel), List.mem_of_getElem? (i := 1128) (by decide +kernel), List.mem_of_getElem? (i := 1129) (by decide +kernel)⟩
theorem lw_p56 : lw_okq (⟨"DayCordsModel", "isSo", "(III)Z"⟩, 25) := ⟨⟨by decide +kernel, by decide +kernel⟩, List.mem_of_getElem? (i := 780) (by decide +kernel), List.mem_of_getElem? (i := 1132) (by decide +kernel), List.mem_of_getElem? (i := 1133) (by decide +kernel)⟩
def lw_privs_4 : List (MethodName × Nat) := [(⟨"DayCordsModel", "measures", "(I)V"⟩, 25), (⟨"DayCordsModel", "isFar", "(II)V"⟩, 25), (⟨"DayCordsModel", "farAt", "(I)I"⟩, 25), (⟨"DayCordsModel", "orderOf", "(II[I)V"⟩, 25), (⟨"DayCordsModel", "feltAt", "(II)I"⟩, 25), (⟨"DayCordsModel", "heavyAt", "(I)I"⟩, 25), (⟨"DayCordsModel", "moreOf", "(II)I"⟩, 25), (⟨"DayCordsModel", "could", "()I"⟩, 25), (⟨"DayCordsModel", "isSo", "(III)Z"⟩, 25)]
theorem lw_r4 : ∀ q ∈ lw_privs_4, lw_okq q := List.forall_mem_cons.mpr ⟨lw_p48, List.forall_mem_cons.mpr ⟨lw_p49, List.forall_mem_cons.mpr ⟨lw_p50, List.forall_mem_cons.mpr ⟨lw_p51, List.forall_mem_cons.mpr ⟨lw_p52, List.forall_mem_cons.mpr ⟨lw_p53, List.forall_mem_cons.mpr ⟨lw_p54, List.forall_mem_cons.mpr ⟨lw_p55, List.forall_mem_cons.mpr ⟨lw_p56, fun _ h => absurd h List.not_mem_nil⟩⟩⟩⟩⟩⟩⟩⟩⟩
def lw_privs : List (MethodName × Nat) := lw_privs_1 ++ (lw_privs_2 ++ (lw_privs_3 ++ (lw_privs_4)))
def lw_tbl : List Cond := k2_sels lw_privs ++ tables_1
theorem lw_privs_ok : ∀ q ∈ lw_privs, lw_okq q := by
  show ∀ q ∈ lw_privs_1 ++ (lw_privs_2 ++ (lw_privs_3 ++ (lw_privs_4))), lw_okq q
  exact List.forall_mem_append.mpr ⟨lw_r1, List.forall_mem_append.mpr ⟨lw_r2, List.forall_mem_append.mpr ⟨lw_r3, lw_r4⟩⟩⟩
end
section
def RX0 : String := "DayCords$Book"
def TX0 : u_T := fun k => match k with
  | 0 => ("DayCords$Book", "places", "[I", true)
  | 1 => ("DayCords$Book", "flags", "[I", true)
  | _ => ("DayCords$Book", "count", "I", false)
def tyX0 : Nat → FieldType := fun k => match k with
  | 0 => .array .int
  | 1 => .array .int
  | _ => .int
abbrev wsX00 : List Cond := u_ws RX0 TX0 3
theorem nmX0 : ∀ a, a < 3 → ∀ b, b < 3 → a ≠ b → (TX0 a).2.1 ≠ (TX0 b).2.1 := by decide +kernel
theorem tyX0_ok : ∀ k, k < 3 → parseFieldDescriptor (TX0 k).2.2.1 = some (tyX0 k) := by decide +kernel
abbrev cX0_init : ByteArray := prog_2_method_1_code
def yX0_init : MethodName := ⟨RX0, "<init>", "()V"⟩
abbrev cX0_add : ByteArray := prog_2_method_2_code
def yX0_add : MethodName := ⟨RX0, "add", "(II)V"⟩
abbrev cX0_firstWrong : ByteArray := prog_2_method_3_code
def yX0_firstWrong : MethodName := ⟨RX0, "firstWrong", "(LDayCords$Line;)I"⟩
def RX1 : String := "DayCords$Image"
def TX1 : u_T := fun k => match k with
  | 0 => ("DayCords$Image", "lineThen", "LDayCords$Line;", true)
  | 1 => ("DayCords$Image", "seedThen", "I", false)
  | _ => ("DayCords$Image", "kept", "Z", false)
def tyX1 : Nat → FieldType := fun k => match k with
  | 0 => .object "DayCords$Line"
  | 1 => .int
  | _ => .boolean
abbrev wsX10 : List Cond := u_ws RX1 TX1 3
theorem nmX1 : ∀ a, a < 3 → ∀ b, b < 3 → a ≠ b → (TX1 a).2.1 ≠ (TX1 b).2.1 := by decide +kernel
theorem tyX1_ok : ∀ k, k < 3 → parseFieldDescriptor (TX1 k).2.2.1 = some (tyX1 k) := by decide +kernel
abbrev cX1_init : ByteArray := prog_3_method_1_code
def yX1_init : MethodName := ⟨RX1, "<init>", "()V"⟩
def RX2 : String := "DayCords$Line"
def TX2 : u_T := fun k => match k with
  | 0 => ("DayCords$Line", "order", "[I", true)
  | 1 => ("DayCords$Line", "faded", "[I", true)
  | 2 => ("DayCords$Line", "sewn", "[I", true)
  | 3 => ("DayCords$Line", "count", "I", false)
  | 4 => ("DayCords$Line", "wet", "I", false)
  | 5 => ("DayCords$Line", "wind", "I", false)
  | _ => ("DayCords$Line", "years", "I", false)
def tyX2 : Nat → FieldType := fun k => match k with
  | 0 => .array .int
  | 1 => .array .int
  | 2 => .array .int
  | 3 => .int
  | 4 => .int
  | 5 => .int
  | _ => .int
abbrev wsX20 : List Cond := u_ws RX2 TX2 7
theorem nmX2 : ∀ a, a < 7 → ∀ b, b < 7 → a ≠ b → (TX2 a).2.1 ≠ (TX2 b).2.1 := by decide +kernel
theorem tyX2_ok : ∀ k, k < 7 → parseFieldDescriptor (TX2 k).2.2.1 = some (tyX2 k) := by decide +kernel
abbrev cX2_init : ByteArray := prog_4_method_1_code
def yX2_init : MethodName := ⟨RX2, "<init>", "()V"⟩
abbrev cX2_hangAll : ByteArray := prog_4_method_2_code
def yX2_hangAll : MethodName := ⟨RX2, "hangAll", "(LDayCords$Plan;)V"⟩
abbrev cX2_copyFrom : ByteArray := prog_4_method_3_code
def yX2_copyFrom : MethodName := ⟨RX2, "copyFrom", "(LDayCords$Line;)V"⟩
abbrev cX2_flagAt : ByteArray := prog_4_method_4_code
def yX2_flagAt : MethodName := ⟨RX2, "flagAt", "(I)I"⟩
abbrev cX2_placeOf : ByteArray := prog_4_method_5_code
def yX2_placeOf : MethodName := ⟨RX2, "placeOf", "(I)I"⟩
abbrev cX2_flagsAt : ByteArray := prog_4_method_6_code
def yX2_flagsAt : MethodName := ⟨RX2, "flagsAt", "(I)I"⟩
abbrev cX2_placesOf : ByteArray := prog_4_method_7_code
def yX2_placesOf : MethodName := ⟨RX2, "placesOf", "(I)I"⟩
abbrev cX2_onSet : ByteArray := prog_4_method_8_code
def yX2_onSet : MethodName := ⟨RX2, "onSet", "()I"⟩
abbrev cX2_outSet : ByteArray := prog_4_method_9_code
def yX2_outSet : MethodName := ⟨RX2, "outSet", "(LDayCords$Plan;)I"⟩
abbrev cX2_isOut : ByteArray := prog_4_method_10_code
def yX2_isOut : MethodName := ⟨RX2, "isOut", "(LDayCords$Plan;I)Z"⟩
abbrev cX2_turnFront : ByteArray := prog_4_method_11_code
def yX2_turnFront : MethodName := ⟨RX2, "turnFront", "(I)V"⟩
abbrev cX2_cutAt : ByteArray := prog_4_method_12_code
def yX2_cutAt : MethodName := ⟨RX2, "cutAt", "(I)V"⟩
abbrev cX2_swapEnds : ByteArray := prog_4_method_13_code
def yX2_swapEnds : MethodName := ⟨RX2, "swapEnds", "(II)V"⟩
abbrev cX2_takeOff : ByteArray := prog_4_method_14_code
def yX2_takeOff : MethodName := ⟨RX2, "takeOff", "(I)V"⟩
abbrev cX2_sewOn : ByteArray := prog_4_method_15_code
def yX2_sewOn : MethodName := ⟨RX2, "sewOn", "(II)V"⟩
abbrev cX2_passYear : ByteArray := prog_4_method_16_code
def yX2_passYear : MethodName := ⟨RX2, "passYear", "(LDayCords$Plan;)V"⟩
abbrev cX2_rises : ByteArray := prog_4_method_17_code
def yX2_rises : MethodName := ⟨RX2, "rises", "()Z"⟩
abbrev cX2_rightCut : ByteArray := prog_4_method_18_code
def yX2_rightCut : MethodName := ⟨RX2, "rightCut", "()I"⟩
abbrev cX2_risesFrom : ByteArray := prog_4_method_19_code
def yX2_risesFrom : MethodName := ⟨RX2, "risesFrom", "(I)Z"⟩
abbrev cX2_crossed : ByteArray := prog_4_method_20_code
def yX2_crossed : MethodName := ⟨RX2, "crossed", "()I"⟩
abbrev cX2_looseSet : ByteArray := prog_4_method_21_code
def yX2_looseSet : MethodName := ⟨RX2, "looseSet", "()I"⟩
abbrev cX2_risesWithout : ByteArray := prog_4_method_22_code
def yX2_risesWithout : MethodName := ⟨RX2, "risesWithout", "(I)Z"⟩
abbrev cX2_pullAt : ByteArray := prog_4_method_23_code
def yX2_pullAt : MethodName := ⟨RX2, "pullAt", "(LDayCords$Plan;II)I"⟩
def RX3 : String := "DayCords$Looks"
def TX3 : u_T := fun k => match k with
  | 0 => ("DayCords$Looks", "asked", "[I", true)
  | 1 => ("DayCords$Looks", "answers", "[Z", true)
  | _ => ("DayCords$Looks", "count", "I", false)
def tyX3 : Nat → FieldType := fun k => match k with
  | 0 => .array .int
  | 1 => .array .boolean
  | _ => .int
abbrev wsX30 : List Cond := u_ws RX3 TX3 3
theorem nmX3 : ∀ a, a < 3 → ∀ b, b < 3 → a ≠ b → (TX3 a).2.1 ≠ (TX3 b).2.1 := by decide +kernel
theorem tyX3_ok : ∀ k, k < 3 → parseFieldDescriptor (TX3 k).2.2.1 = some (tyX3 k) := by decide +kernel
abbrev cX3_init : ByteArray := prog_5_method_1_code
def yX3_init : MethodName := ⟨RX3, "<init>", "()V"⟩
abbrev cX3_add : ByteArray := prog_5_method_2_code
def yX3_add : MethodName := ⟨RX3, "add", "(IZ)V"⟩
abbrev cX3_fitting : ByteArray := prog_5_method_3_code
def yX3_fitting : MethodName := ⟨RX3, "fitting", "(LDayCords$Plan;I)I"⟩
abbrev cX3_bestLook : ByteArray := prog_5_method_4_code
def yX3_bestLook : MethodName := ⟨RX3, "bestLook", "(LDayCords$Plan;I)I"⟩
abbrev cX3_answering : ByteArray := prog_5_method_5_code
def yX3_answering : MethodName := ⟨RX3, "answering", "(LDayCords$Plan;II)I"⟩
def RX4 : String := "DayCords$Past"
def TX4 : u_T := fun k => match k with
  | 0 => ("DayCords$Past", "lines", "[LDayCords$Line;", true)
  | 1 => ("DayCords$Past", "top", "I", false)
  | _ => ("DayCords$Past", "count", "I", false)
def tyX4 : Nat → FieldType := fun k => match k with
  | 0 => .array (.object "DayCords$Line")
  | 1 => .int
  | _ => .int
abbrev wsX40 : List Cond := u_ws RX4 TX4 3
theorem nmX4 : ∀ a, a < 3 → ∀ b, b < 3 → a ≠ b → (TX4 a).2.1 ≠ (TX4 b).2.1 := by decide +kernel
theorem tyX4_ok : ∀ k, k < 3 → parseFieldDescriptor (TX4 k).2.2.1 = some (tyX4 k) := by decide +kernel
abbrev cX4_init : ByteArray := prog_6_method_1_code
def yX4_init : MethodName := ⟨RX4, "<init>", "()V"⟩
abbrev cX4_forget : ByteArray := prog_6_method_2_code
def yX4_forget : MethodName := ⟨RX4, "forget", "()V"⟩
abbrev cX4_remember : ByteArray := prog_6_method_3_code
def yX4_remember : MethodName := ⟨RX4, "remember", "(LDayCords$Line;)V"⟩
abbrev cX4_bringBack : ByteArray := prog_6_method_4_code
def yX4_bringBack : MethodName := ⟨RX4, "bringBack", "(ILDayCords$Line;)V"⟩
def RX5 : String := "DayCords$Plan"
def TX5 : u_T := fun k => match k with
  | 0 => ("DayCords$Plan", "kinds", "[I", true)
  | 1 => ("DayCords$Plan", "heavies", "[I", true)
  | 2 => ("DayCords$Plan", "wordKinds", "[I", true)
  | 3 => ("DayCords$Plan", "wordLengths", "[I", true)
  | 4 => ("DayCords$Plan", "hookPlaces", "[I", true)
  | 5 => ("DayCords$Plan", "hookReaches", "[I", true)
  | 6 => ("DayCords$Plan", "present", "Z", false)
  | 7 => ("DayCords$Plan", "windTold", "I", false)
  | 8 => ("DayCords$Plan", "flags", "I", false)
  | 9 => ("DayCords$Plan", "words", "I", false)
  | _ => ("DayCords$Plan", "hooks", "I", false)
def tyX5 : Nat → FieldType := fun k => match k with
  | 0 => .array .int
  | 1 => .array .int
  | 2 => .array .int
  | 3 => .array .int
  | 4 => .array .int
  | 5 => .array .int
  | 6 => .boolean
  | 7 => .int
  | 8 => .int
  | 9 => .int
  | _ => .int
abbrev wsX50 : List Cond := u_ws RX5 TX5 11
theorem nmX5 : ∀ a, a < 11 → ∀ b, b < 11 → a ≠ b → (TX5 a).2.1 ≠ (TX5 b).2.1 := by decide +kernel
theorem tyX5_ok : ∀ k, k < 11 → parseFieldDescriptor (TX5 k).2.2.1 = some (tyX5 k) := by decide +kernel
abbrev cX5_init : ByteArray := prog_7_method_1_code
def yX5_init : MethodName := ⟨RX5, "<init>", "()V"⟩
abbrev cX5_clear : ByteArray := prog_7_method_2_code
def yX5_clear : MethodName := ⟨RX5, "clear", "()V"⟩
abbrev cX5_copyFrom : ByteArray := prog_7_method_3_code
def yX5_copyFrom : MethodName := ⟨RX5, "copyFrom", "(LDayCords$Plan;)V"⟩
abbrev cX5_hasFlag : ByteArray := prog_7_method_4_code
def yX5_hasFlag : MethodName := ⟨RX5, "hasFlag", "(I)Z"⟩
abbrev cX5_allFlags : ByteArray := prog_7_method_5_code
def yX5_allFlags : MethodName := ⟨RX5, "allFlags", "()I"⟩
abbrev cX5_wordKind : ByteArray := prog_7_method_6_code
def yX5_wordKind : MethodName := ⟨RX5, "wordKind", "(II)I"⟩
abbrev cX5_placesOfHook : ByteArray := prog_7_method_7_code
def yX5_placesOfHook : MethodName := ⟨RX5, "placesOfHook", "(I)I"⟩
abbrev cX5_fewestHooks : ByteArray := prog_7_method_8_code
def yX5_fewestHooks : MethodName := ⟨RX5, "fewestHooks", "(I)I"⟩
abbrev cX5_placesOfHooks : ByteArray := prog_7_method_9_code
def yX5_placesOfHooks : MethodName := ⟨RX5, "placesOfHooks", "(I)I"⟩
def RX6 : String := "DayCords$Reader"
def TX6 : u_T := fun k => match k with
  | 0 => ("DayCords$Reader", "letters", "[I", true)
  | 1 => ("DayCords$Reader", "length", "I", false)
  | 2 => ("DayCords$Reader", "faultKind", "I", false)
  | 3 => ("DayCords$Reader", "faultLetter", "I", false)
  | _ => ("DayCords$Reader", "position", "I", false)
def tyX6 : Nat → FieldType := fun k => match k with
  | 0 => .array .int
  | 1 => .int
  | 2 => .int
  | 3 => .int
  | _ => .int
abbrev wsX60 : List Cond := u_ws RX6 TX6 5
theorem nmX6 : ∀ a, a < 5 → ∀ b, b < 5 → a ≠ b → (TX6 a).2.1 ≠ (TX6 b).2.1 := by decide +kernel
theorem tyX6_ok : ∀ k, k < 5 → parseFieldDescriptor (TX6 k).2.2.1 = some (tyX6 k) := by decide +kernel
abbrev cX6_init : ByteArray := prog_8_method_1_code
def yX6_init : MethodName := ⟨RX6, "<init>", "()V"⟩
abbrev cX6_readInto : ByteArray := prog_8_method_2_code
def yX6_readInto : MethodName := ⟨RX6, "readInto", "(LDayCords$Plan;)V"⟩
abbrev cX6_readClause : ByteArray := prog_8_method_3_code
def yX6_readClause : MethodName := ⟨RX6, "readClause", "(LDayCords$Plan;)V"⟩
abbrev cX6_isFullFor : ByteArray := prog_8_method_4_code
def yX6_isFullFor : MethodName := ⟨RX6, "isFullFor", "(LDayCords$Plan;I)Z"⟩
abbrev cX6_readRest : ByteArray := prog_8_method_5_code
def yX6_readRest : MethodName := ⟨RX6, "readRest", "(LDayCords$Plan;I)V"⟩
abbrev cX6_readKinds : ByteArray := prog_8_method_6_code
def yX6_readKinds : MethodName := ⟨RX6, "readKinds", "(LDayCords$Plan;)V"⟩
abbrev cX6_readNumber : ByteArray := prog_8_method_7_code
def yX6_readNumber : MethodName := ⟨RX6, "readNumber", "(II)I"⟩
abbrev cX6_readMark : ByteArray := prog_8_method_8_code
def yX6_readMark : MethodName := ⟨RX6, "readMark", "(I)V"⟩
abbrev cX6_skipBlanks : ByteArray := prog_8_method_9_code
def yX6_skipBlanks : MethodName := ⟨RX6, "skipBlanks", "()V"⟩
abbrev cX6_letterHere : ByteArray := prog_8_method_10_code
def yX6_letterHere : MethodName := ⟨RX6, "letterHere", "()I"⟩
abbrev cX6_isFigure : ByteArray := prog_8_method_11_code
def yX6_isFigure : MethodName := ⟨RX6, "isFigure", "(I)Z"⟩
abbrev cX6_blame : ByteArray := prog_8_method_12_code
def yX6_blame : MethodName := ⟨RX6, "blame", "(II)V"⟩
def RX7 : String := "DayCords$Sailor"
def TX7 : u_T := fun k => match k with
  | _ => ("DayCords$Sailor", "ways", "[I", true)
def tyX7 : Nat → FieldType := fun k => match k with
  | _ => .array .int
abbrev wsX70 : List Cond := u_ws RX7 TX7 1
theorem nmX7 : ∀ a, a < 1 → ∀ b, b < 1 → a ≠ b → (TX7 a).2.1 ≠ (TX7 b).2.1 := by decide +kernel
theorem tyX7_ok : ∀ k, k < 1 → parseFieldDescriptor (TX7 k).2.2.1 = some (tyX7 k) := by decide +kernel
abbrev cX7_init : ByteArray := prog_9_method_1_code
def yX7_init : MethodName := ⟨RX7, "<init>", "()V"⟩
abbrev cX7_readings : ByteArray := prog_9_method_2_code
def yX7_readings : MethodName := ⟨RX7, "readings", "(LDayCords$Plan;LDayCords$Line;)I"⟩
abbrev cX7_firstReading : ByteArray := prog_9_method_3_code
def yX7_firstReading : MethodName := ⟨RX7, "firstReading", "(LDayCords$Plan;LDayCords$Line;)I"⟩
abbrev cX7_spelt : ByteArray := prog_9_method_4_code
def yX7_spelt : MethodName := ⟨RX7, "spelt", "(LDayCords$Plan;LDayCords$Line;)I"⟩
abbrev cX7_countWays : ByteArray := prog_9_method_5_code
def yX7_countWays : MethodName := ⟨RX7, "countWays", "(LDayCords$Plan;LDayCords$Line;)V"⟩
abbrev cX7_firstWordOn : ByteArray := prog_9_method_6_code
def yX7_firstWordOn : MethodName := ⟨RX7, "firstWordOn", "(LDayCords$Plan;LDayCords$Line;I)I"⟩
abbrev cX7_begins : ByteArray := prog_9_method_7_code
def yX7_begins : MethodName := ⟨RX7, "begins", "(LDayCords$Plan;LDayCords$Line;II)Z"⟩
def RX8 : String := "DayCords$Takers"
def TX8 : u_T := fun k => match k with
  | _ => ("DayCords$Takers", "leads", "[I", true)
def tyX8 : Nat → FieldType := fun k => match k with
  | _ => .array .int
abbrev wsX80 : List Cond := u_ws RX8 TX8 1
theorem nmX8 : ∀ a, a < 1 → ∀ b, b < 1 → a ≠ b → (TX8 a).2.1 ≠ (TX8 b).2.1 := by decide +kernel
theorem tyX8_ok : ∀ k, k < 1 → parseFieldDescriptor (TX8 k).2.2.1 = some (tyX8 k) := by decide +kernel
abbrev cX8_init : ByteArray := prog_10_method_1_code
def yX8_init : MethodName := ⟨RX8, "<init>", "()V"⟩
abbrev cX8_more : ByteArray := prog_10_method_2_code
def yX8_more : MethodName := ⟨RX8, "more", "(LDayCords$Plan;LDayCords$Line;)I"⟩
abbrev cX8_firstEnd : ByteArray := prog_10_method_3_code
def yX8_firstEnd : MethodName := ⟨RX8, "firstEnd", "(LDayCords$Plan;LDayCords$Line;)I"⟩
abbrev cX8_byFront : ByteArray := prog_10_method_4_code
def yX8_byFront : MethodName := ⟨RX8, "byFront", "(LDayCords$Plan;LDayCords$Line;)I"⟩
abbrev cX8_byBack : ByteArray := prog_10_method_5_code
def yX8_byBack : MethodName := ⟨RX8, "byBack", "(LDayCords$Plan;LDayCords$Line;)I"⟩
abbrev cX8_fillLeads : ByteArray := prog_10_method_6_code
def yX8_fillLeads : MethodName := ⟨RX8, "fillLeads", "(LDayCords$Plan;LDayCords$Line;)V"⟩
def RX9 : String := "DayCords$Turner"
def TX9 : u_T := fun k => match k with
  | 0 => ("DayCords$Turner", "ranks", "[I", true)
  | _ => ("DayCords$Turner", "size", "I", false)
def tyX9 : Nat → FieldType := fun k => match k with
  | 0 => .array .int
  | _ => .int
abbrev wsX90 : List Cond := u_ws RX9 TX9 2
theorem nmX9 : ∀ a, a < 2 → ∀ b, b < 2 → a ≠ b → (TX9 a).2.1 ≠ (TX9 b).2.1 := by decide +kernel
theorem tyX9_ok : ∀ k, k < 2 → parseFieldDescriptor (TX9 k).2.2.1 = some (tyX9 k) := by decide +kernel
abbrev cX9_init : ByteArray := prog_11_method_1_code
def yX9_init : MethodName := ⟨RX9, "<init>", "()V"⟩
abbrev cX9_fewest : ByteArray := prog_11_method_2_code
def yX9_fewest : MethodName := ⟨RX9, "fewest", "(LDayCords$Line;)I"⟩
abbrev cX9_firstTurn : ByteArray := prog_11_method_3_code
def yX9_firstTurn : MethodName := ⟨RX9, "firstTurn", "(LDayCords$Line;)I"⟩
abbrev cX9_takeRanks : ByteArray := prog_11_method_4_code
def yX9_takeRanks : MethodName := ⟨RX9, "takeRanks", "(LDayCords$Line;)V"⟩
abbrev cX9_countGaps : ByteArray := prog_11_method_5_code
def yX9_countGaps : MethodName := ⟨RX9, "countGaps", "()I"⟩
abbrev cX9_gapBetween : ByteArray := prog_11_method_6_code
def yX9_gapBetween : MethodName := ⟨RX9, "gapBetween", "(II)I"⟩
abbrev cX9_firstWithin : ByteArray := prog_11_method_7_code
def yX9_firstWithin : MethodName := ⟨RX9, "firstWithin", "([IIII)I"⟩
abbrev cX9_turnRanks : ByteArray := prog_11_method_8_code
def yX9_turnRanks : MethodName := ⟨RX9, "turnRanks", "([II)V"⟩
def RX10 : String := "DayCords"
def TX10 : u_T := fun k => match k with
  | 0 => ("DayCords", "reader", "LDayCords$Reader;", true)
  | 1 => ("DayCords", "draft", "LDayCords$Plan;", true)
  | 2 => ("DayCords", "plan", "LDayCords$Plan;", true)
  | 3 => ("DayCords", "line", "LDayCords$Line;", true)
  | 4 => ("DayCords", "past", "LDayCords$Past;", true)
  | 5 => ("DayCords", "images", "[LDayCords$Image;", true)
  | 6 => ("DayCords", "turner", "LDayCords$Turner;", true)
  | 7 => ("DayCords", "sailor", "LDayCords$Sailor;", true)
  | 8 => ("DayCords", "takers", "LDayCords$Takers;", true)
  | 9 => ("DayCords", "looks", "LDayCords$Looks;", true)
  | 10 => ("DayCords", "book", "LDayCords$Book;", true)
  | _ => ("DayCords", "seedNow", "I", false)
def tyX10 : Nat → FieldType := fun k => match k with
  | 0 => .object "DayCords$Reader"
  | 1 => .object "DayCords$Plan"
  | 2 => .object "DayCords$Plan"
  | 3 => .object "DayCords$Line"
  | 4 => .object "DayCords$Past"
  | 5 => .array (.object "DayCords$Image")
  | 6 => .object "DayCords$Turner"
  | 7 => .object "DayCords$Sailor"
  | 8 => .object "DayCords$Takers"
  | 9 => .object "DayCords$Looks"
  | 10 => .object "DayCords$Book"
  | _ => .int
abbrev wsX100 : List Cond := u_ws RX10 TX10 12
theorem nmX10 : ∀ a, a < 12 → ∀ b, b < 12 → a ≠ b → (TX10 a).2.1 ≠ (TX10 b).2.1 := by decide +kernel
theorem tyX10_ok : ∀ k, k < 12 → parseFieldDescriptor (TX10 k).2.2.1 = some (tyX10 k) := by decide +kernel
abbrev cX10_init : ByteArray := prog_1_method_1_code
def yX10_init : MethodName := ⟨RX10, "<init>", "()V"⟩
abbrev cX10_feed : ByteArray := prog_1_method_2_code
def yX10_feed : MethodName := ⟨RX10, "feed", "(I)I"⟩
abbrev cX10_cord : ByteArray := prog_1_method_3_code
def yX10_cord : MethodName := ⟨RX10, "cord", "()I"⟩
abbrev cX10_fault : ByteArray := prog_1_method_4_code
def yX10_fault : MethodName := ⟨RX10, "fault", "()I"⟩
abbrev cX10_told : ByteArray := prog_1_method_5_code
def yX10_told : MethodName := ⟨RX10, "told", "(I)I"⟩
abbrev cX10_flag : ByteArray := prog_1_method_6_code
def yX10_flag : MethodName := ⟨RX10, "flag", "(II)I"⟩
abbrev cX10_at : ByteArray := prog_1_method_7_code
def yX10_at : MethodName := ⟨RX10, "at", "(I)I"⟩
abbrev cX10_hook : ByteArray := prog_1_method_8_code
def yX10_hook : MethodName := ⟨RX10, "hook", "(II)I"⟩
abbrev cX10_word : ByteArray := prog_1_method_9_code
def yX10_word : MethodName := ⟨RX10, "word", "(II)I"⟩
abbrev cX10_turn : ByteArray := prog_1_method_10_code
def yX10_turn : MethodName := ⟨RX10, "turn", "(I)I"⟩
abbrev cX10_cut : ByteArray := prog_1_method_11_code
def yX10_cut : MethodName := ⟨RX10, "cut", "(I)I"⟩
abbrev cX10_eat : ByteArray := prog_1_method_12_code
def yX10_eat : MethodName := ⟨RX10, "eat", "(I)I"⟩
abbrev cX10_sew : ByteArray := prog_1_method_13_code
def yX10_sew : MethodName := ⟨RX10, "sew", "(II)I"⟩
abbrev cX10_rain : ByteArray := prog_1_method_14_code
def yX10_rain : MethodName := ⟨RX10, "rain", "(Z)I"⟩
abbrev cX10_wind : ByteArray := prog_1_method_15_code
def yX10_wind : MethodName := ⟨RX10, "wind", "(I)I"⟩
abbrev cX10_year : ByteArray := prog_1_method_16_code
def yX10_year : MethodName := ⟨RX10, "year", "(I)I"⟩
abbrev cX10_drift : ByteArray := prog_1_method_17_code
def yX10_drift : MethodName := ⟨RX10, "drift", "(I)I"⟩
abbrev cX10_undo : ByteArray := prog_1_method_18_code
def yX10_undo : MethodName := ⟨RX10, "undo", "(I)I"⟩
abbrev cX10_turnings : ByteArray := prog_1_method_19_code
def yX10_turnings : MethodName := ⟨RX10, "turnings", "(I)I"⟩
abbrev cX10_loose : ByteArray := prog_1_method_20_code
def yX10_loose : MethodName := ⟨RX10, "loose", "(I)I"⟩
abbrev cX10_felt : ByteArray := prog_1_method_21_code
def yX10_felt : MethodName := ⟨RX10, "felt", "(II)I"⟩
abbrev cX10_farthest : ByteArray := prog_1_method_22_code
def yX10_farthest : MethodName := ⟨RX10, "farthest", "(I)I"⟩
abbrev cX10_hooked : ByteArray := prog_1_method_23_code
def yX10_hooked : MethodName := ⟨RX10, "hooked", "(I)I"⟩
abbrev cX10_gap : ByteArray := prog_1_method_24_code
def yX10_gap : MethodName := ⟨RX10, "gap", "(I)I"⟩
abbrev cX10_ends : ByteArray := prog_1_method_25_code
def yX10_ends : MethodName := ⟨RX10, "ends", "(I)I"⟩
abbrev cX10_calm : ByteArray := prog_1_method_26_code
def yX10_calm : MethodName := ⟨RX10, "calm", "(II)I"⟩
abbrev cX10_old : ByteArray := prog_1_method_27_code
def yX10_old : MethodName := ⟨RX10, "old", "(IIZ)I"⟩
abbrev cX10_couldBe : ByteArray := prog_1_method_28_code
def yX10_couldBe : MethodName := ⟨RX10, "couldBe", "()I"⟩
abbrev cX10_next : ByteArray := prog_1_method_29_code
def yX10_next : MethodName := ⟨RX10, "next", "()I"⟩
abbrev cX10_write : ByteArray := prog_1_method_30_code
def yX10_write : MethodName := ⟨RX10, "write", "(II)I"⟩
abbrev cX10_judge : ByteArray := prog_1_method_31_code
def yX10_judge : MethodName := ⟨RX10, "judge", "()I"⟩
abbrev cX10_tear : ByteArray := prog_1_method_32_code
def yX10_tear : MethodName := ⟨RX10, "tear", "()I"⟩
abbrev cX10_seed : ByteArray := prog_1_method_33_code
def yX10_seed : MethodName := ⟨RX10, "seed", "(I)I"⟩
abbrev cX10_keep : ByteArray := prog_1_method_34_code
def yX10_keep : MethodName := ⟨RX10, "keep", "(I)I"⟩
abbrev cX10_goBack : ByteArray := prog_1_method_35_code
def yX10_goBack : MethodName := ⟨RX10, "goBack", "(I)I"⟩
abbrev cX10_offSet : ByteArray := prog_1_method_36_code
def yX10_offSet : MethodName := ⟨RX10, "offSet", "()I"⟩
abbrev cX10_yearsRefused : ByteArray := prog_1_method_37_code
def yX10_yearsRefused : MethodName := ⟨RX10, "yearsRefused", "(I)I"⟩
abbrev cX10_draw : ByteArray := prog_1_method_38_code
def yX10_draw : MethodName := ⟨RX10, "draw", "(I)I"⟩
abbrev cX10_chance : ByteArray := prog_1_method_39_code
def yX10_chance : MethodName := ⟨RX10, "chance", "()V"⟩
abbrev cX10_hasBit : ByteArray := prog_1_method_40_code
def yX10_hasBit : MethodName := ⟨RX10, "hasBit", "(II)Z"⟩
def RX11 : String := "DayCordsModel"
def TX11 : u_T := fun k => match k with
  | 0 => ("DayCordsModel", "text", "[I", true)
  | 1 => ("DayCordsModel", "typed", "I", false)
  | 2 => ("DayCordsModel", "told", "[I", true)
  | 3 => ("DayCordsModel", "draft", "[I", true)
  | 4 => ("DayCordsModel", "s", "[I", true)
  | 5 => ("DayCordsModel", "past", "[I", true)
  | 6 => ("DayCordsModel", "known", "I", false)
  | 7 => ("DayCordsModel", "images", "[I", true)
  | 8 => ("DayCordsModel", "kept", "[Z", true)
  | 9 => ("DayCordsModel", "drawn", "I", false)
  | 10 => ("DayCordsModel", "looks", "[I", true)
  | 11 => ("DayCordsModel", "looked", "I", false)
  | 12 => ("DayCordsModel", "book", "[I", true)
  | 13 => ("DayCordsModel", "entries", "I", false)
  | 14 => ("DayCordsModel", "pos", "I", false)
  | 15 => ("DayCordsModel", "wrongAt", "I", false)
  | 16 => ("DayCordsModel", "wrong", "I", false)
  | 17 => ("DayCordsModel", "ways", "[I", true)
  | 18 => ("DayCordsModel", "row", "[I", true)
  | 19 => ("DayCordsModel", "far", "[J", true)
  | 20 => ("DayCordsModel", "farOf", "I", false)
  | 21 => ("DayCordsModel", "lesser", "[I", true)
  | 22 => ("DayCordsModel", "one", "[I", true)
  | 23 => ("DayCordsModel", "other", "[I", true)
  | _ => ("DayCordsModel", "more", "[I", true)
def tyX11 : Nat → FieldType := fun k => match k with
  | 0 => .array .int
  | 1 => .int
  | 2 => .array .int
  | 3 => .array .int
  | 4 => .array .int
  | 5 => .array .int
  | 6 => .int
  | 7 => .array .int
  | 8 => .array .boolean
  | 9 => .int
  | 10 => .array .int
  | 11 => .int
  | 12 => .array .int
  | 13 => .int
  | 14 => .int
  | 15 => .int
  | 16 => .int
  | 17 => .array .int
  | 18 => .array .int
  | 19 => .array .long
  | 20 => .int
  | 21 => .array .int
  | 22 => .array .int
  | 23 => .array .int
  | _ => .array .int
abbrev wsX110 : List Cond := u_ws RX11 TX11 25
theorem nmX11 : ∀ a, a < 25 → ∀ b, b < 25 → a ≠ b → (TX11 a).2.1 ≠ (TX11 b).2.1 := by decide +kernel
theorem tyX11_ok : ∀ k, k < 25 → parseFieldDescriptor (TX11 k).2.2.1 = some (tyX11 k) := by decide +kernel
abbrev cX11_init : ByteArray := prog_13_method_1_code
def yX11_init : MethodName := ⟨RX11, "<init>", "()V"⟩
abbrev cX11_in : ByteArray := prog_13_method_3_code
def yX11_in : MethodName := ⟨RX11, "in", "(III)Z"⟩
abbrev cX11_has : ByteArray := prog_13_method_4_code
def yX11_has : MethodName := ⟨RX11, "has", "(II)Z"⟩
abbrev cX11_ones : ByteArray := prog_13_method_5_code
def yX11_ones : MethodName := ⟨RX11, "ones", "(I)I"⟩
abbrev cX11_isFlag : ByteArray := prog_13_method_6_code
def yX11_isFlag : MethodName := ⟨RX11, "isFlag", "(I)Z"⟩
abbrev cX11_feed : ByteArray := prog_13_method_7_code
def yX11_feed : MethodName := ⟨RX11, "feed", "(I)I"⟩
abbrev cX11_next0 : ByteArray := prog_13_method_8_code
def yX11_next0 : MethodName := ⟨RX11, "next0", "()I"⟩
abbrev cX11_isFigure : ByteArray := prog_13_method_9_code
def yX11_isFigure : MethodName := ⟨RX11, "isFigure", "(I)Z"⟩
abbrev cX11_faulty : ByteArray := prog_13_method_10_code
def yX11_faulty : MethodName := ⟨RX11, "faulty", "(I)Z"⟩
abbrev cX11_number : ByteArray := prog_13_method_11_code
def yX11_number : MethodName := ⟨RX11, "number", "(III)Z"⟩
abbrev cX11_ends : ByteArray := prog_13_method_12_code
def yX11_ends : MethodName := ⟨RX11, "ends", "()Z"⟩
abbrev cX11_readsWord : ByteArray := prog_13_method_13_code
def yX11_readsWord : MethodName := ⟨RX11, "readsWord", "()Z"⟩
abbrev cX11_readsClause : ByteArray := prog_13_method_14_code
def yX11_readsClause : MethodName := ⟨RX11, "readsClause", "(I)Z"⟩
abbrev cX11_reads : ByteArray := prog_13_method_15_code
def yX11_reads : MethodName := ⟨RX11, "reads", "()Z"⟩
abbrev cX11_cord : ByteArray := prog_13_method_16_code
def yX11_cord : MethodName := ⟨RX11, "cord", "()I"⟩
abbrev cX11_fault : ByteArray := prog_13_method_17_code
def yX11_fault : MethodName := ⟨RX11, "fault", "()I"⟩
abbrev cX11_placeOf : ByteArray := prog_13_method_18_code
def yX11_placeOf : MethodName := ⟨RX11, "placeOf", "(I)I"⟩
abbrev cX11_isOut : ByteArray := prog_13_method_19_code
def yX11_isOut : MethodName := ⟨RX11, "isOut", "(I)Z"⟩
abbrev cX11_onIt : ByteArray := prog_13_method_20_code
def yX11_onIt : MethodName := ⟨RX11, "onIt", "()I"⟩
abbrev cX11_outs : ByteArray := prog_13_method_21_code
def yX11_outs : MethodName := ⟨RX11, "outs", "()I"⟩
abbrev cX11_crossed : ByteArray := prog_13_method_22_code
def yX11_crossed : MethodName := ⟨RX11, "crossed", "()I"⟩
abbrev cX11_cutAt : ByteArray := prog_13_method_23_code
def yX11_cutAt : MethodName := ⟨RX11, "cutAt", "()I"⟩
abbrev cX11_longOf : ByteArray := prog_13_method_24_code
def yX11_longOf : MethodName := ⟨RX11, "longOf", "(I)I"⟩
abbrev cX11_fits : ByteArray := prog_13_method_25_code
def yX11_fits : MethodName := ⟨RX11, "fits", "(II)Z"⟩
abbrev cX11_readings : ByteArray := prog_13_method_26_code
def yX11_readings : MethodName := ⟨RX11, "readings", "()I"⟩
abbrev cX11_firstOf : ByteArray := prog_13_method_27_code
def yX11_firstOf : MethodName := ⟨RX11, "firstOf", "()I"⟩
abbrev cX11_begun : ByteArray := prog_13_method_28_code
def yX11_begun : MethodName := ⟨RX11, "begun", "()I"⟩
abbrev cX11_told : ByteArray := prog_13_method_29_code
def yX11_told : MethodName := ⟨RX11, "told", "(I)I"⟩
abbrev cX11_flag : ByteArray := prog_13_method_30_code
def yX11_flag : MethodName := ⟨RX11, "flag", "(II)I"⟩
abbrev cX11_at : ByteArray := prog_13_method_31_code
def yX11_at : MethodName := ⟨RX11, "at", "(I)I"⟩
abbrev cX11_reached : ByteArray := prog_13_method_32_code
def yX11_reached : MethodName := ⟨RX11, "reached", "(I)I"⟩
abbrev cX11_hook : ByteArray := prog_13_method_33_code
def yX11_hook : MethodName := ⟨RX11, "hook", "(II)I"⟩
abbrev cX11_word : ByteArray := prog_13_method_34_code
def yX11_word : MethodName := ⟨RX11, "word", "(II)I"⟩
abbrev cX11_keeps : ByteArray := prog_13_method_35_code
def yX11_keeps : MethodName := ⟨RX11, "keeps", "()V"⟩
abbrev cX11_turn : ByteArray := prog_13_method_36_code
def yX11_turn : MethodName := ⟨RX11, "turn", "(I)I"⟩
abbrev cX11_cuts : ByteArray := prog_13_method_37_code
def yX11_cuts : MethodName := ⟨RX11, "cuts", "(I)V"⟩
abbrev cX11_cut : ByteArray := prog_13_method_38_code
def yX11_cut : MethodName := ⟨RX11, "cut", "(I)I"⟩
abbrev cX11_eats : ByteArray := prog_13_method_39_code
def yX11_eats : MethodName := ⟨RX11, "eats", "(I)V"⟩
abbrev cX11_eat : ByteArray := prog_13_method_40_code
def yX11_eat : MethodName := ⟨RX11, "eat", "(I)I"⟩
abbrev cX11_sew : ByteArray := prog_13_method_41_code
def yX11_sew : MethodName := ⟨RX11, "sew", "(II)I"⟩
abbrev cX11_rain : ByteArray := prog_13_method_42_code
def yX11_rain : MethodName := ⟨RX11, "rain", "(Z)I"⟩
abbrev cX11_wind : ByteArray := prog_13_method_43_code
def yX11_wind : MethodName := ⟨RX11, "wind", "(I)I"⟩
abbrev cX11_passes : ByteArray := prog_13_method_44_code
def yX11_passes : MethodName := ⟨RX11, "passes", "()V"⟩
abbrev cX11_year : ByteArray := prog_13_method_45_code
def yX11_year : MethodName := ⟨RX11, "year", "(I)I"⟩
abbrev cX11_draws : ByteArray := prog_13_method_46_code
def yX11_draws : MethodName := ⟨RX11, "draws", "(I)I"⟩
abbrev cX11_drift : ByteArray := prog_13_method_47_code
def yX11_drift : MethodName := ⟨RX11, "drift", "(I)I"⟩
abbrev cX11_undo : ByteArray := prog_13_method_48_code
def yX11_undo : MethodName := ⟨RX11, "undo", "(I)I"⟩
abbrev cX11_farAt : ByteArray := prog_13_method_49_code
def yX11_farAt : MethodName := ⟨RX11, "farAt", "(I)I"⟩
abbrev cX11_isFar : ByteArray := prog_13_method_50_code
def yX11_isFar : MethodName := ⟨RX11, "isFar", "(II)V"⟩
abbrev cX11_numberOf : ByteArray := prog_13_method_51_code
def yX11_numberOf : MethodName := ⟨RX11, "numberOf", "([II)I"⟩
abbrev cX11_orderOf : ByteArray := prog_13_method_52_code
def yX11_orderOf : MethodName := ⟨RX11, "orderOf", "(II[I)V"⟩
abbrev cX11_turns : ByteArray := prog_13_method_53_code
def yX11_turns : MethodName := ⟨RX11, "turns", "([I[III)V"⟩
abbrev cX11_measures : ByteArray := prog_13_method_54_code
def yX11_measures : MethodName := ⟨RX11, "measures", "(I)V"⟩
abbrev cX11_turnings : ByteArray := prog_13_method_55_code
def yX11_turnings : MethodName := ⟨RX11, "turnings", "(I)I"⟩
abbrev cX11_loose : ByteArray := prog_13_method_56_code
def yX11_loose : MethodName := ⟨RX11, "loose", "(I)I"⟩
abbrev cX11_feltAt : ByteArray := prog_13_method_57_code
def yX11_feltAt : MethodName := ⟨RX11, "feltAt", "(II)I"⟩
abbrev cX11_felt : ByteArray := prog_13_method_58_code
def yX11_felt : MethodName := ⟨RX11, "felt", "(II)I"⟩
abbrev cX11_farthest : ByteArray := prog_13_method_59_code
def yX11_farthest : MethodName := ⟨RX11, "farthest", "(I)I"⟩
abbrev cX11_hooked : ByteArray := prog_13_method_60_code
def yX11_hooked : MethodName := ⟨RX11, "hooked", "(I)I"⟩
abbrev cX11_gap : ByteArray := prog_13_method_61_code
def yX11_gap : MethodName := ⟨RX11, "gap", "(I)I"⟩
abbrev cX11_heavyAt : ByteArray := prog_13_method_62_code
def yX11_heavyAt : MethodName := ⟨RX11, "heavyAt", "(I)I"⟩
abbrev cX11_moreOf : ByteArray := prog_13_method_63_code
def yX11_moreOf : MethodName := ⟨RX11, "moreOf", "(II)I"⟩
abbrev cX11_ends_ : ByteArray := prog_13_method_64_code
def yX11_ends_ : MethodName := ⟨RX11, "ends", "(I)I"⟩
abbrev cX11_calm : ByteArray := prog_13_method_65_code
def yX11_calm : MethodName := ⟨RX11, "calm", "(II)I"⟩
abbrev cX11_old : ByteArray := prog_13_method_66_code
def yX11_old : MethodName := ⟨RX11, "old", "(IIZ)I"⟩
abbrev cX11_isSo : ByteArray := prog_13_method_67_code
def yX11_isSo : MethodName := ⟨RX11, "isSo", "(III)Z"⟩
abbrev cX11_could : ByteArray := prog_13_method_68_code
def yX11_could : MethodName := ⟨RX11, "could", "()I"⟩
abbrev cX11_couldBe : ByteArray := prog_13_method_69_code
def yX11_couldBe : MethodName := ⟨RX11, "couldBe", "()I"⟩
abbrev cX11_next : ByteArray := prog_13_method_70_code
def yX11_next : MethodName := ⟨RX11, "next", "()I"⟩
abbrev cX11_write : ByteArray := prog_13_method_71_code
def yX11_write : MethodName := ⟨RX11, "write", "(II)I"⟩
abbrev cX11_judge : ByteArray := prog_13_method_72_code
def yX11_judge : MethodName := ⟨RX11, "judge", "()I"⟩
abbrev cX11_tear : ByteArray := prog_13_method_73_code
def yX11_tear : MethodName := ⟨RX11, "tear", "()I"⟩
abbrev cX11_seed : ByteArray := prog_13_method_74_code
def yX11_seed : MethodName := ⟨RX11, "seed", "(I)I"⟩
abbrev cX11_keep : ByteArray := prog_13_method_75_code
def yX11_keep : MethodName := ⟨RX11, "keep", "(I)I"⟩
abbrev cX11_goBack : ByteArray := prog_13_method_76_code
def yX11_goBack : MethodName := ⟨RX11, "goBack", "(I)I"⟩
def RJ6 : String := "java/lang/Integer"
def TJ6 : u_T := fun k => match k with
  | _ => ("", "", "", false)
def tyJ6 : Nat → FieldType := fun k => match k with
  | _ => .int
abbrev wsJ60 : List Cond := u_ws RJ6 TJ6 0
theorem nmJ6 : ∀ a, a < 0 → ∀ b, b < 0 → a ≠ b → (TJ6 a).2.1 ≠ (TJ6 b).2.1 := by decide +kernel
theorem tyJ6_ok : ∀ k, k < 0 → parseFieldDescriptor (TJ6 k).2.2.1 = some (tyJ6 k) := by decide +kernel
abbrev cJ6_bitCount_0f7a4 : ByteArray := prog_14_method_49_code
def yJ6_bitCount_0f7a4 : MethodName := ⟨RJ6, "bitCount", "(I)I"⟩
def RJ9 : String := "java/lang/Math"
def TJ9 : u_T := fun k => match k with
  | _ => ("", "", "", false)
def tyJ9 : Nat → FieldType := fun k => match k with
  | _ => .int
abbrev wsJ90 : List Cond := u_ws RJ9 TJ9 0
theorem nmJ9 : ∀ a, a < 0 → ∀ b, b < 0 → a ≠ b → (TJ9 a).2.1 ≠ (TJ9 b).2.1 := by decide +kernel
theorem tyJ9_ok : ∀ k, k < 0 → parseFieldDescriptor (TJ9 k).2.2.1 = some (tyJ9 k) := by decide +kernel
abbrev cJ9_floorMod_7cf53 : ByteArray := prog_15_method_50_code
def yJ9_floorMod_7cf53 : MethodName := ⟨RJ9, "floorMod", "(II)I"⟩
abbrev cJ9_max_7cf53 : ByteArray := prog_15_method_65_code
def yJ9_max_7cf53 : MethodName := ⟨RJ9, "max", "(II)I"⟩
abbrev cJ9_min_7cf53 : ByteArray := prog_15_method_69_code
def yJ9_min_7cf53 : MethodName := ⟨RJ9, "min", "(II)I"⟩
def RJ10 : String := "java/lang/System"
def TJ10 : u_T := fun k => match k with
  | _ => ("", "", "", false)
def tyJ10 : Nat → FieldType := fun k => match k with
  | _ => .int
abbrev wsJ100 : List Cond := u_ws RJ10 TJ10 0
theorem nmJ10 : ∀ a, a < 0 → ∀ b, b < 0 → a ≠ b → (TJ10 a).2.1 ≠ (TJ10 b).2.1 := by decide +kernel
theorem tyJ10_ok : ∀ k, k < 0 → parseFieldDescriptor (TJ10 k).2.2.1 = some (tyJ10 k) := by decide +kernel
def RJ7 : String := "java/util/Arrays"
def TJ7 : u_T := fun k => match k with
  | _ => ("", "", "", false)
def tyJ7 : Nat → FieldType := fun k => match k with
  | _ => .int
abbrev wsJ70 : List Cond := u_ws RJ7 TJ7 0
theorem nmJ7 : ∀ a, a < 0 → ∀ b, b < 0 → a ≠ b → (TJ7 a).2.1 ≠ (TJ7 b).2.1 := by decide +kernel
theorem tyJ7_ok : ∀ k, k < 0 → parseFieldDescriptor (TJ7 k).2.2.1 = some (tyJ7 k) := by decide +kernel
abbrev cJ7_fill_53178 : ByteArray := prog_17_method_103_code
def yJ7_fill_53178 : MethodName := ⟨RJ7, "fill", "([II)V"⟩
def RL : String := "DayCordsLaw"
abbrev cL_law : ByteArray := code
def yL_law : MethodName := ⟨RL, "law", "([I)Z"⟩
abbrev vwCl : List vw_C := [(RX0, TX0, 3), (RX1, TX1, 3), (RX2, TX2, 7), (RX3, TX3, 3), (RX4, TX4, 3), (RX5, TX5, 11), (RX6, TX6, 5), (RX7, TX7, 1), (RX8, TX8, 1), (RX9, TX9, 2), (RX10, TX10, 12), (RX11, TX11, 25)]
end
section
theorem dX0_init_0 : decode cX0_init 0 = .ok (.aload_n 0, 1) := by decide +kernel
theorem dX0_init_1 : decode cX0_init 1 = .ok (.invokespecial 3, 3) := by decide +kernel
theorem dX0_init_4 : decode cX0_init 4 = .ok (.aload_n 0, 1) := by decide +kernel
theorem dX0_init_5 : decode cX0_init 5 = .ok (.bipush 20, 2) := by decide +kernel
theorem dX0_init_7 : decode cX0_init 7 = .ok (.newarray .int, 2) := by decide +kernel
theorem dX0_init_9 : decode cX0_init 9 = .ok (.putfield 9, 3) := by decide +kernel
theorem dX0_init_12 : decode cX0_init 12 = .ok (.aload_n 0, 1) := by decide +kernel
theorem dX0_init_13 : decode cX0_init 13 = .ok (.bipush 20, 2) := by decide +kernel
theorem dX0_init_15 : decode cX0_init 15 = .ok (.newarray .int, 2) := by decide +kernel
theorem dX0_init_17 : decode cX0_init 17 = .ok (.putfield 15, 3) := by decide +kernel
theorem dX0_init_20 : decode cX0_init 20 = .ok (.aload_n 0, 1) := by decide +kernel
theorem dX0_init_21 : decode cX0_init 21 = .ok (.iconst 0, 1) := by decide +kernel
theorem dX0_init_22 : decode cX0_init 22 = .ok (.putfield 18, 3) := by decide +kernel
theorem dX0_init_25 : decode cX0_init 25 = .ok (.return_, 1) := by decide +kernel
theorem dX0_add_0 : decode cX0_add 0 = .ok (.aload_n 0, 1) := by decide +kernel
theorem dX0_add_1 : decode cX0_add 1 = .ok (.getfield 18, 3) := by decide +kernel
theorem dX0_add_4 : decode cX0_add 4 = .ok (.bipush 20, 2) := by decide +kernel
theorem dX0_add_6 : decode cX0_add 6 = .ok (.if_icmp .ge 33, 3) := by decide +kernel
theorem dX0_add_9 : decode cX0_add 9 = .ok (.aload_n 0, 1) := by decide +kernel
theorem dX0_add_10 : decode cX0_add 10 = .ok (.getfield 9, 3) := by decide +kernel
theorem dX0_add_13 : decode cX0_add 13 = .ok (.aload_n 0, 1) := by decide +kernel
theorem dX0_add_14 : decode cX0_add 14 = .ok (.getfield 18, 3) := by decide +kernel
theorem dX0_add_17 : decode cX0_add 17 = .ok (.iload_n 1, 1) := by decide +kernel
theorem dX0_add_18 : decode cX0_add 18 = .ok (.iastore, 1) := by decide +kernel
theorem dX0_add_19 : decode cX0_add 19 = .ok (.aload_n 0, 1) := by decide +kernel
theorem dX0_add_20 : decode cX0_add 20 = .ok (.getfield 15, 3) := by decide +kernel
theorem dX0_add_23 : decode cX0_add 23 = .ok (.aload_n 0, 1) := by decide +kernel
theorem dX0_add_24 : decode cX0_add 24 = .ok (.getfield 18, 3) := by decide +kernel
theorem dX0_add_27 : decode cX0_add 27 = .ok (.iload_n 2, 1) := by decide +kernel
theorem dX0_add_28 : decode cX0_add 28 = .ok (.iastore, 1) := by decide +kernel
theorem dX0_add_29 : decode cX0_add 29 = .ok (.aload_n 0, 1) := by decide +kernel
theorem dX0_add_30 : decode cX0_add 30 = .ok (.dup, 1) := by decide +kernel
theorem dX0_add_31 : decode cX0_add 31 = .ok (.getfield 18, 3) := by decide +kernel
theorem dX0_add_34 : decode cX0_add 34 = .ok (.iconst 1, 1) := by decide +kernel
theorem dX0_add_35 : decode cX0_add 35 = .ok (.iadd, 1) := by decide +kernel
theorem dX0_add_36 : decode cX0_add 36 = .ok (.putfield 18, 3) := by decide +kernel
theorem dX0_add_39 : decode cX0_add 39 = .ok (.return_, 1) := by decide +kernel
theorem dX0_firstWrong_0 : decode cX0_firstWrong 0 = .ok (.iconst 0, 1) := by decide +kernel
theorem dX0_firstWrong_1 : decode cX0_firstWrong 1 = .ok (.istore_n 2, 1) := by decide +kernel
theorem dX0_firstWrong_2 : decode cX0_firstWrong 2 = .ok (.iload_n 2, 1) := by decide +kernel
theorem dX0_firstWrong_3 : decode cX0_firstWrong 3 = .ok (.aload_n 0, 1) := by decide +kernel
theorem dX0_firstWrong_4 : decode cX0_firstWrong 4 = .ok (.getfield 18, 3) := by decide +kernel
theorem dX0_firstWrong_7 : decode cX0_firstWrong 7 = .ok (.if_icmp .ge 30, 3) := by decide +kernel
theorem dX0_firstWrong_10 : decode cX0_firstWrong 10 = .ok (.aload_n 1, 1) := by decide +kernel
theorem dX0_firstWrong_11 : decode cX0_firstWrong 11 = .ok (.aload_n 0, 1) := by decide +kernel
theorem dX0_firstWrong_12 : decode cX0_firstWrong 12 = .ok (.getfield 9, 3) := by decide +kernel
theorem dX0_firstWrong_15 : decode cX0_firstWrong 15 = .ok (.iload_n 2, 1) := by decide +kernel
theorem dX0_firstWrong_16 : decode cX0_firstWrong 16 = .ok (.iaload, 1) := by decide +kernel
theorem dX0_firstWrong_17 : decode cX0_firstWrong 17 = .ok (.invokevirtual 22, 3) := by decide +kernel
theorem dX0_firstWrong_20 : decode cX0_firstWrong 20 = .ok (.aload_n 0, 1) := by decide +kernel
theorem dX0_firstWrong_21 : decode cX0_firstWrong 21 = .ok (.getfield 15, 3) := by decide +kernel
theorem dX0_firstWrong_24 : decode cX0_firstWrong 24 = .ok (.iload_n 2, 1) := by decide +kernel
theorem dX0_firstWrong_25 : decode cX0_firstWrong 25 = .ok (.iaload, 1) := by decide +kernel
theorem dX0_firstWrong_26 : decode cX0_firstWrong 26 = .ok (.if_icmp .eq 5, 3) := by decide +kernel
theorem dX0_firstWrong_29 : decode cX0_firstWrong 29 = .ok (.iload_n 2, 1) := by decide +kernel
theorem dX0_firstWrong_30 : decode cX0_firstWrong 30 = .ok (.ireturn, 1) := by decide +kernel
theorem dX0_firstWrong_31 : decode cX0_firstWrong 31 = .ok (.iinc 2 1, 3) := by decide +kernel
theorem dX0_firstWrong_34 : decode cX0_firstWrong 34 = .ok (.goto (-32), 3) := by decide +kernel
theorem dX0_firstWrong_37 : decode cX0_firstWrong 37 = .ok (.iconst (-1), 1) := by decide +kernel
theorem dX0_firstWrong_38 : decode cX0_firstWrong 38 = .ok (.ireturn, 1) := by decide +kernel
theorem dX1_init_0 : decode cX1_init 0 = .ok (.aload_n 0, 1) := by decide +kernel
theorem dX1_init_1 : decode cX1_init 1 = .ok (.invokespecial 1, 3) := by decide +kernel
theorem dX1_init_4 : decode cX1_init 4 = .ok (.aload_n 0, 1) := by decide +kernel
theorem dX1_init_5 : decode cX1_init 5 = .ok (.new 7, 3) := by decide +kernel
theorem dX1_init_8 : decode cX1_init 8 = .ok (.dup, 1) := by decide +kernel
theorem dX1_init_9 : decode cX1_init 9 = .ok (.invokespecial 9, 3) := by decide +kernel
theorem dX1_init_12 : decode cX1_init 12 = .ok (.putfield 10, 3) := by decide +kernel
theorem dX1_init_15 : decode cX1_init 15 = .ok (.aload_n 0, 1) := by decide +kernel
theorem dX1_init_16 : decode cX1_init 16 = .ok (.iconst 0, 1) := by decide +kernel
theorem dX1_init_17 : decode cX1_init 17 = .ok (.putfield 16, 3) := by decide +kernel
theorem dX1_init_20 : decode cX1_init 20 = .ok (.aload_n 0, 1) := by decide +kernel
theorem dX1_init_21 : decode cX1_init 21 = .ok (.iconst 0, 1) := by decide +kernel
theorem dX1_init_22 : decode cX1_init 22 = .ok (.putfield 20, 3) := by decide +kernel
theorem dX1_init_25 : decode cX1_init 25 = .ok (.return_, 1) := by decide +kernel
theorem dX2_init_0 : decode cX2_init 0 = .ok (.aload_n 0, 1) := by decide +kernel
theorem dX2_init_1 : decode cX2_init 1 = .ok (.invokespecial 3, 3) := by decide +kernel
theorem dX2_init_4 : decode cX2_init 4 = .ok (.aload_n 0, 1) := by decide +kernel
theorem dX2_init_5 : decode cX2_init 5 = .ok (.bipush 7, 2) := by decide +kernel
theorem dX2_init_7 : decode cX2_init 7 = .ok (.newarray .int, 2) := by decide +kernel
theorem dX2_init_9 : decode cX2_init 9 = .ok (.putfield 9, 3) := by decide +kernel
theorem dX2_init_12 : decode cX2_init 12 = .ok (.aload_n 0, 1) := by decide +kernel
theorem dX2_init_13 : decode cX2_init 13 = .ok (.bipush 7, 2) := by decide +kernel
theorem dX2_init_15 : decode cX2_init 15 = .ok (.newarray .int, 2) := by decide +kernel
theorem dX2_init_17 : decode cX2_init 17 = .ok (.putfield 15, 3) := by decide +kernel
theorem dX2_init_20 : decode cX2_init 20 = .ok (.aload_n 0, 1) := by decide +kernel
theorem dX2_init_21 : decode cX2_init 21 = .ok (.bipush 7, 2) := by decide +kernel
theorem dX2_init_23 : decode cX2_init 23 = .ok (.newarray .int, 2) := by decide +kernel
theorem dX2_init_25 : decode cX2_init 25 = .ok (.putfield 18, 3) := by decide +kernel
theorem dX2_init_28 : decode cX2_init 28 = .ok (.aload_n 0, 1) := by decide +kernel
theorem dX2_init_29 : decode cX2_init 29 = .ok (.iconst 0, 1) := by decide +kernel
theorem dX2_init_30 : decode cX2_init 30 = .ok (.putfield 21, 3) := by decide +kernel
theorem dX2_init_33 : decode cX2_init 33 = .ok (.aload_n 0, 1) := by decide +kernel
theorem dX2_init_34 : decode cX2_init 34 = .ok (.iconst 0, 1) := by decide +kernel
theorem dX2_init_35 : decode cX2_init 35 = .ok (.putfield 25, 3) := by decide +kernel
theorem dX2_init_38 : decode cX2_init 38 = .ok (.aload_n 0, 1) := by decide +kernel
theorem dX2_init_39 : decode cX2_init 39 = .ok (.iconst 0, 1) := by decide +kernel
theorem dX2_init_40 : decode cX2_init 40 = .ok (.putfield 28, 3) := by decide +kernel
theorem dX2_init_43 : decode cX2_init 43 = .ok (.aload_n 0, 1) := by decide +kernel
theorem dX2_init_44 : decode cX2_init 44 = .ok (.iconst 0, 1) := by decide +kernel
theorem dX2_init_45 : decode cX2_init 45 = .ok (.putfield 31, 3) := by decide +kernel
theorem dX2_init_48 : decode cX2_init 48 = .ok (.return_, 1) := by decide +kernel
theorem dX2_hangAll_0 : decode cX2_hangAll 0 = .ok (.aload_n 0, 1) := by decide +kernel
theorem dX2_hangAll_1 : decode cX2_hangAll 1 = .ok (.getfield 15, 3) := by decide +kernel
theorem dX2_hangAll_4 : decode cX2_hangAll 4 = .ok (.iconst 0, 1) := by decide +kernel
theorem dX2_hangAll_5 : decode cX2_hangAll 5 = .ok (.invokestatic 34, 3) := by decide +kernel
theorem dX2_hangAll_8 : decode cX2_hangAll 8 = .ok (.aload_n 0, 1) := by decide +kernel
theorem dX2_hangAll_9 : decode cX2_hangAll 9 = .ok (.getfield 18, 3) := by decide +kernel
theorem dX2_hangAll_12 : decode cX2_hangAll 12 = .ok (.iconst 0, 1) := by decide +kernel
theorem dX2_hangAll_13 : decode cX2_hangAll 13 = .ok (.invokestatic 34, 3) := by decide +kernel
theorem dX2_hangAll_16 : decode cX2_hangAll 16 = .ok (.aload_n 0, 1) := by decide +kernel
theorem dX2_hangAll_17 : decode cX2_hangAll 17 = .ok (.aload_n 1, 1) := by decide +kernel
theorem dX2_hangAll_18 : decode cX2_hangAll 18 = .ok (.getfield 40, 3) := by decide +kernel
theorem dX2_hangAll_21 : decode cX2_hangAll 21 = .ok (.putfield 21, 3) := by decide +kernel
theorem dX2_hangAll_24 : decode cX2_hangAll 24 = .ok (.iconst 0, 1) := by decide +kernel
theorem dX2_hangAll_25 : decode cX2_hangAll 25 = .ok (.istore_n 2, 1) := by decide +kernel
theorem dX2_hangAll_26 : decode cX2_hangAll 26 = .ok (.iload_n 2, 1) := by decide +kernel
theorem dX2_hangAll_27 : decode cX2_hangAll 27 = .ok (.aload_n 0, 1) := by decide +kernel
theorem dX2_hangAll_28 : decode cX2_hangAll 28 = .ok (.getfield 21, 3) := by decide +kernel
theorem dX2_hangAll_31 : decode cX2_hangAll 31 = .ok (.if_icmp .ge 16, 3) := by decide +kernel
theorem dX2_hangAll_34 : decode cX2_hangAll 34 = .ok (.aload_n 0, 1) := by decide +kernel
theorem dX2_hangAll_35 : decode cX2_hangAll 35 = .ok (.getfield 9, 3) := by decide +kernel
theorem dX2_hangAll_38 : decode cX2_hangAll 38 = .ok (.iload_n 2, 1) := by decide +kernel
theorem dX2_hangAll_39 : decode cX2_hangAll 39 = .ok (.iload_n 2, 1) := by decide +kernel
theorem dX2_hangAll_40 : decode cX2_hangAll 40 = .ok (.iastore, 1) := by decide +kernel
theorem dX2_hangAll_41 : decode cX2_hangAll 41 = .ok (.iinc 2 1, 3) := by decide +kernel
theorem dX2_hangAll_44 : decode cX2_hangAll 44 = .ok (.goto (-18), 3) := by decide +kernel
theorem dX2_hangAll_47 : decode cX2_hangAll 47 = .ok (.aload_n 0, 1) := by decide +kernel
theorem dX2_hangAll_48 : decode cX2_hangAll 48 = .ok (.iconst 0, 1) := by decide +kernel
theorem dX2_hangAll_49 : decode cX2_hangAll 49 = .ok (.putfield 25, 3) := by decide +kernel
theorem dX2_hangAll_52 : decode cX2_hangAll 52 = .ok (.aload_n 0, 1) := by decide +kernel
theorem dX2_hangAll_53 : decode cX2_hangAll 53 = .ok (.aload_n 1, 1) := by decide +kernel
theorem dX2_hangAll_54 : decode cX2_hangAll 54 = .ok (.getfield 45, 3) := by decide +kernel
theorem dX2_hangAll_57 : decode cX2_hangAll 57 = .ok (.putfield 28, 3) := by decide +kernel
theorem dX2_hangAll_60 : decode cX2_hangAll 60 = .ok (.aload_n 0, 1) := by decide +kernel
theorem dX2_hangAll_61 : decode cX2_hangAll 61 = .ok (.iconst 0, 1) := by decide +kernel
theorem dX2_hangAll_62 : decode cX2_hangAll 62 = .ok (.putfield 31, 3) := by decide +kernel
theorem dX2_hangAll_65 : decode cX2_hangAll 65 = .ok (.return_, 1) := by decide +kernel
theorem dX2_copyFrom_0 : decode cX2_copyFrom 0 = .ok (.aload_n 1, 1) := by decide +kernel
theorem dX2_copyFrom_1 : decode cX2_copyFrom 1 = .ok (.getfield 9, 3) := by decide +kernel
theorem dX2_copyFrom_4 : decode cX2_copyFrom 4 = .ok (.iconst 0, 1) := by decide +kernel
theorem dX2_copyFrom_5 : decode cX2_copyFrom 5 = .ok (.aload_n 0, 1) := by decide +kernel
theorem dX2_copyFrom_6 : decode cX2_copyFrom 6 = .ok (.getfield 9, 3) := by decide +kernel
theorem dX2_copyFrom_9 : decode cX2_copyFrom 9 = .ok (.iconst 0, 1) := by decide +kernel
theorem dX2_copyFrom_10 : decode cX2_copyFrom 10 = .ok (.bipush 7, 2) := by decide +kernel
theorem dX2_copyFrom_12 : decode cX2_copyFrom 12 = .ok (.invokestatic 48, 3) := by decide +kernel
theorem dX2_copyFrom_15 : decode cX2_copyFrom 15 = .ok (.aload_n 1, 1) := by decide +kernel
theorem dX2_copyFrom_16 : decode cX2_copyFrom 16 = .ok (.getfield 15, 3) := by decide +kernel
theorem dX2_copyFrom_19 : decode cX2_copyFrom 19 = .ok (.iconst 0, 1) := by decide +kernel
theorem dX2_copyFrom_20 : decode cX2_copyFrom 20 = .ok (.aload_n 0, 1) := by decide +kernel
theorem dX2_copyFrom_21 : decode cX2_copyFrom 21 = .ok (.getfield 15, 3) := by decide +kernel
theorem dX2_copyFrom_24 : decode cX2_copyFrom 24 = .ok (.iconst 0, 1) := by decide +kernel
theorem dX2_copyFrom_25 : decode cX2_copyFrom 25 = .ok (.bipush 7, 2) := by decide +kernel
theorem dX2_copyFrom_27 : decode cX2_copyFrom 27 = .ok (.invokestatic 48, 3) := by decide +kernel
theorem dX2_copyFrom_30 : decode cX2_copyFrom 30 = .ok (.aload_n 1, 1) := by decide +kernel
theorem dX2_copyFrom_31 : decode cX2_copyFrom 31 = .ok (.getfield 18, 3) := by decide +kernel
theorem dX2_copyFrom_34 : decode cX2_copyFrom 34 = .ok (.iconst 0, 1) := by decide +kernel
theorem dX2_copyFrom_35 : decode cX2_copyFrom 35 = .ok (.aload_n 0, 1) := by decide +kernel
theorem dX2_copyFrom_36 : decode cX2_copyFrom 36 = .ok (.getfield 18, 3) := by decide +kernel
theorem dX2_copyFrom_39 : decode cX2_copyFrom 39 = .ok (.iconst 0, 1) := by decide +kernel
theorem dX2_copyFrom_40 : decode cX2_copyFrom 40 = .ok (.bipush 7, 2) := by decide +kernel
theorem dX2_copyFrom_42 : decode cX2_copyFrom 42 = .ok (.invokestatic 48, 3) := by decide +kernel
theorem dX2_copyFrom_45 : decode cX2_copyFrom 45 = .ok (.aload_n 0, 1) := by decide +kernel
theorem dX2_copyFrom_46 : decode cX2_copyFrom 46 = .ok (.aload_n 1, 1) := by decide +kernel
theorem dX2_copyFrom_47 : decode cX2_copyFrom 47 = .ok (.getfield 21, 3) := by decide +kernel
theorem dX2_copyFrom_50 : decode cX2_copyFrom 50 = .ok (.putfield 21, 3) := by decide +kernel
theorem dX2_copyFrom_53 : decode cX2_copyFrom 53 = .ok (.aload_n 0, 1) := by decide +kernel
theorem dX2_copyFrom_54 : decode cX2_copyFrom 54 = .ok (.aload_n 1, 1) := by decide +kernel
theorem dX2_copyFrom_55 : decode cX2_copyFrom 55 = .ok (.getfield 25, 3) := by decide +kernel
theorem dX2_copyFrom_58 : decode cX2_copyFrom 58 = .ok (.putfield 25, 3) := by decide +kernel
theorem dX2_copyFrom_61 : decode cX2_copyFrom 61 = .ok (.aload_n 0, 1) := by decide +kernel
theorem dX2_copyFrom_62 : decode cX2_copyFrom 62 = .ok (.aload_n 1, 1) := by decide +kernel
theorem dX2_copyFrom_63 : decode cX2_copyFrom 63 = .ok (.getfield 28, 3) := by decide +kernel
theorem dX2_copyFrom_66 : decode cX2_copyFrom 66 = .ok (.putfield 28, 3) := by decide +kernel
theorem dX2_copyFrom_69 : decode cX2_copyFrom 69 = .ok (.aload_n 0, 1) := by decide +kernel
theorem dX2_copyFrom_70 : decode cX2_copyFrom 70 = .ok (.aload_n 1, 1) := by decide +kernel
theorem dX2_copyFrom_71 : decode cX2_copyFrom 71 = .ok (.getfield 31, 3) := by decide +kernel
theorem dX2_copyFrom_74 : decode cX2_copyFrom 74 = .ok (.putfield 31, 3) := by decide +kernel
theorem dX2_copyFrom_77 : decode cX2_copyFrom 77 = .ok (.return_, 1) := by decide +kernel
theorem dX2_flagAt_0 : decode cX2_flagAt 0 = .ok (.iload_n 1, 1) := by decide +kernel
theorem dX2_flagAt_1 : decode cX2_flagAt 1 = .ok (.ifCond .lt 20, 3) := by decide +kernel
theorem dX2_flagAt_4 : decode cX2_flagAt 4 = .ok (.iload_n 1, 1) := by decide +kernel
theorem dX2_flagAt_5 : decode cX2_flagAt 5 = .ok (.aload_n 0, 1) := by decide +kernel
theorem dX2_flagAt_6 : decode cX2_flagAt 6 = .ok (.getfield 21, 3) := by decide +kernel
theorem dX2_flagAt_9 : decode cX2_flagAt 9 = .ok (.if_icmp .ge 12, 3) := by decide +kernel
theorem dX2_flagAt_12 : decode cX2_flagAt 12 = .ok (.aload_n 0, 1) := by decide +kernel
theorem dX2_flagAt_13 : decode cX2_flagAt 13 = .ok (.getfield 9, 3) := by decide +kernel
theorem dX2_flagAt_16 : decode cX2_flagAt 16 = .ok (.iload_n 1, 1) := by decide +kernel
theorem dX2_flagAt_17 : decode cX2_flagAt 17 = .ok (.iaload, 1) := by decide +kernel
theorem dX2_flagAt_18 : decode cX2_flagAt 18 = .ok (.goto 4, 3) := by decide +kernel
theorem dX2_flagAt_21 : decode cX2_flagAt 21 = .ok (.iconst (-1), 1) := by decide +kernel
theorem dX2_flagAt_22 : decode cX2_flagAt 22 = .ok (.ireturn, 1) := by decide +kernel
theorem dX2_placeOf_0 : decode cX2_placeOf 0 = .ok (.iconst 0, 1) := by decide +kernel
theorem dX2_placeOf_1 : decode cX2_placeOf 1 = .ok (.istore_n 2, 1) := by decide +kernel
theorem dX2_placeOf_2 : decode cX2_placeOf 2 = .ok (.iload_n 2, 1) := by decide +kernel
theorem dX2_placeOf_3 : decode cX2_placeOf 3 = .ok (.aload_n 0, 1) := by decide +kernel
theorem dX2_placeOf_4 : decode cX2_placeOf 4 = .ok (.getfield 21, 3) := by decide +kernel
theorem dX2_placeOf_7 : decode cX2_placeOf 7 = .ok (.if_icmp .ge 21, 3) := by decide +kernel
theorem dX2_placeOf_10 : decode cX2_placeOf 10 = .ok (.aload_n 0, 1) := by decide +kernel
theorem dX2_placeOf_11 : decode cX2_placeOf 11 = .ok (.getfield 9, 3) := by decide +kernel
theorem dX2_placeOf_14 : decode cX2_placeOf 14 = .ok (.iload_n 2, 1) := by decide +kernel
theorem dX2_placeOf_15 : decode cX2_placeOf 15 = .ok (.iaload, 1) := by decide +kernel
theorem dX2_placeOf_16 : decode cX2_placeOf 16 = .ok (.iload_n 1, 1) := by decide +kernel
theorem dX2_placeOf_17 : decode cX2_placeOf 17 = .ok (.if_icmp .ne 5, 3) := by decide +kernel
theorem dX2_placeOf_20 : decode cX2_placeOf 20 = .ok (.iload_n 2, 1) := by decide +kernel
theorem dX2_placeOf_21 : decode cX2_placeOf 21 = .ok (.ireturn, 1) := by decide +kernel
theorem dX2_placeOf_22 : decode cX2_placeOf 22 = .ok (.iinc 2 1, 3) := by decide +kernel
theorem dX2_placeOf_25 : decode cX2_placeOf 25 = .ok (.goto (-23), 3) := by decide +kernel
theorem dX2_placeOf_28 : decode cX2_placeOf 28 = .ok (.iconst (-1), 1) := by decide +kernel
theorem dX2_placeOf_29 : decode cX2_placeOf 29 = .ok (.ireturn, 1) := by decide +kernel
theorem dX2_flagsAt_0 : decode cX2_flagsAt 0 = .ok (.iconst 0, 1) := by decide +kernel
theorem dX2_flagsAt_1 : decode cX2_flagsAt 1 = .ok (.istore_n 2, 1) := by decide +kernel
theorem dX2_flagsAt_2 : decode cX2_flagsAt 2 = .ok (.iconst 0, 1) := by decide +kernel
theorem dX2_flagsAt_3 : decode cX2_flagsAt 3 = .ok (.istore_n 3, 1) := by decide +kernel
theorem dX2_flagsAt_4 : decode cX2_flagsAt 4 = .ok (.iload_n 3, 1) := by decide +kernel
theorem dX2_flagsAt_5 : decode cX2_flagsAt 5 = .ok (.aload_n 0, 1) := by decide +kernel
theorem dX2_flagsAt_6 : decode cX2_flagsAt 6 = .ok (.getfield 21, 3) := by decide +kernel
theorem dX2_flagsAt_9 : decode cX2_flagsAt 9 = .ok (.if_icmp .ge 28, 3) := by decide +kernel
theorem dX2_flagsAt_12 : decode cX2_flagsAt 12 = .ok (.iload_n 1, 1) := by decide +kernel
theorem dX2_flagsAt_13 : decode cX2_flagsAt 13 = .ok (.iload_n 3, 1) := by decide +kernel
theorem dX2_flagsAt_14 : decode cX2_flagsAt 14 = .ok (.invokestatic 54, 3) := by decide +kernel
theorem dX2_flagsAt_17 : decode cX2_flagsAt 17 = .ok (.ifCond .eq 14, 3) := by decide +kernel
theorem dX2_flagsAt_20 : decode cX2_flagsAt 20 = .ok (.iload_n 2, 1) := by decide +kernel
theorem dX2_flagsAt_21 : decode cX2_flagsAt 21 = .ok (.iconst 1, 1) := by decide +kernel
theorem dX2_flagsAt_22 : decode cX2_flagsAt 22 = .ok (.aload_n 0, 1) := by decide +kernel
theorem dX2_flagsAt_23 : decode cX2_flagsAt 23 = .ok (.getfield 9, 3) := by decide +kernel
theorem dX2_flagsAt_26 : decode cX2_flagsAt 26 = .ok (.iload_n 3, 1) := by decide +kernel
theorem dX2_flagsAt_27 : decode cX2_flagsAt 27 = .ok (.iaload, 1) := by decide +kernel
theorem dX2_flagsAt_28 : decode cX2_flagsAt 28 = .ok (.ishl, 1) := by decide +kernel
theorem dX2_flagsAt_29 : decode cX2_flagsAt 29 = .ok (.ior, 1) := by decide +kernel
theorem dX2_flagsAt_30 : decode cX2_flagsAt 30 = .ok (.istore_n 2, 1) := by decide +kernel
theorem dX2_flagsAt_31 : decode cX2_flagsAt 31 = .ok (.iinc 3 1, 3) := by decide +kernel
theorem dX2_flagsAt_34 : decode cX2_flagsAt 34 = .ok (.goto (-30), 3) := by decide +kernel
theorem dX2_flagsAt_37 : decode cX2_flagsAt 37 = .ok (.iload_n 2, 1) := by decide +kernel
theorem dX2_flagsAt_38 : decode cX2_flagsAt 38 = .ok (.ireturn, 1) := by decide +kernel
theorem dX2_placesOf_0 : decode cX2_placesOf 0 = .ok (.iconst 0, 1) := by decide +kernel
theorem dX2_placesOf_1 : decode cX2_placesOf 1 = .ok (.istore_n 2, 1) := by decide +kernel
theorem dX2_placesOf_2 : decode cX2_placesOf 2 = .ok (.iconst 0, 1) := by decide +kernel
theorem dX2_placesOf_3 : decode cX2_placesOf 3 = .ok (.istore_n 3, 1) := by decide +kernel
theorem dX2_placesOf_4 : decode cX2_placesOf 4 = .ok (.iload_n 3, 1) := by decide +kernel
theorem dX2_placesOf_5 : decode cX2_placesOf 5 = .ok (.aload_n 0, 1) := by decide +kernel
theorem dX2_placesOf_6 : decode cX2_placesOf 6 = .ok (.getfield 21, 3) := by decide +kernel
theorem dX2_placesOf_9 : decode cX2_placesOf 9 = .ok (.if_icmp .ge 28, 3) := by decide +kernel
theorem dX2_placesOf_12 : decode cX2_placesOf 12 = .ok (.iload_n 1, 1) := by decide +kernel
theorem dX2_placesOf_13 : decode cX2_placesOf 13 = .ok (.aload_n 0, 1) := by decide +kernel
theorem dX2_placesOf_14 : decode cX2_placesOf 14 = .ok (.getfield 9, 3) := by decide +kernel
theorem dX2_placesOf_17 : decode cX2_placesOf 17 = .ok (.iload_n 3, 1) := by decide +kernel
theorem dX2_placesOf_18 : decode cX2_placesOf 18 = .ok (.iaload, 1) := by decide +kernel
theorem dX2_placesOf_19 : decode cX2_placesOf 19 = .ok (.invokestatic 54, 3) := by decide +kernel
theorem dX2_placesOf_22 : decode cX2_placesOf 22 = .ok (.ifCond .eq 9, 3) := by decide +kernel
theorem dX2_placesOf_25 : decode cX2_placesOf 25 = .ok (.iload_n 2, 1) := by decide +kernel
theorem dX2_placesOf_26 : decode cX2_placesOf 26 = .ok (.iconst 1, 1) := by decide +kernel
theorem dX2_placesOf_27 : decode cX2_placesOf 27 = .ok (.iload_n 3, 1) := by decide +kernel
theorem dX2_placesOf_28 : decode cX2_placesOf 28 = .ok (.ishl, 1) := by decide +kernel
theorem dX2_placesOf_29 : decode cX2_placesOf 29 = .ok (.ior, 1) := by decide +kernel
theorem dX2_placesOf_30 : decode cX2_placesOf 30 = .ok (.istore_n 2, 1) := by decide +kernel
theorem dX2_placesOf_31 : decode cX2_placesOf 31 = .ok (.iinc 3 1, 3) := by decide +kernel
theorem dX2_placesOf_34 : decode cX2_placesOf 34 = .ok (.goto (-30), 3) := by decide +kernel
theorem dX2_placesOf_37 : decode cX2_placesOf 37 = .ok (.iload_n 2, 1) := by decide +kernel
theorem dX2_placesOf_38 : decode cX2_placesOf 38 = .ok (.ireturn, 1) := by decide +kernel
theorem dX2_onSet_0 : decode cX2_onSet 0 = .ok (.iconst 0, 1) := by decide +kernel
theorem dX2_onSet_1 : decode cX2_onSet 1 = .ok (.istore_n 1, 1) := by decide +kernel
theorem dX2_onSet_2 : decode cX2_onSet 2 = .ok (.iconst 0, 1) := by decide +kernel
theorem dX2_onSet_3 : decode cX2_onSet 3 = .ok (.istore_n 2, 1) := by decide +kernel
theorem dX2_onSet_4 : decode cX2_onSet 4 = .ok (.iload_n 2, 1) := by decide +kernel
theorem dX2_onSet_5 : decode cX2_onSet 5 = .ok (.aload_n 0, 1) := by decide +kernel
theorem dX2_onSet_6 : decode cX2_onSet 6 = .ok (.getfield 21, 3) := by decide +kernel
theorem dX2_onSet_9 : decode cX2_onSet 9 = .ok (.if_icmp .ge 20, 3) := by decide +kernel
theorem dX2_onSet_12 : decode cX2_onSet 12 = .ok (.iload_n 1, 1) := by decide +kernel
theorem dX2_onSet_13 : decode cX2_onSet 13 = .ok (.iconst 1, 1) := by decide +kernel
theorem dX2_onSet_14 : decode cX2_onSet 14 = .ok (.aload_n 0, 1) := by decide +kernel
theorem dX2_onSet_15 : decode cX2_onSet 15 = .ok (.getfield 9, 3) := by decide +kernel
theorem dX2_onSet_18 : decode cX2_onSet 18 = .ok (.iload_n 2, 1) := by decide +kernel
theorem dX2_onSet_19 : decode cX2_onSet 19 = .ok (.iaload, 1) := by decide +kernel
theorem dX2_onSet_20 : decode cX2_onSet 20 = .ok (.ishl, 1) := by decide +kernel
theorem dX2_onSet_21 : decode cX2_onSet 21 = .ok (.ior, 1) := by decide +kernel
theorem dX2_onSet_22 : decode cX2_onSet 22 = .ok (.istore_n 1, 1) := by decide +kernel
theorem dX2_onSet_23 : decode cX2_onSet 23 = .ok (.iinc 2 1, 3) := by decide +kernel
theorem dX2_onSet_26 : decode cX2_onSet 26 = .ok (.goto (-22), 3) := by decide +kernel
theorem dX2_onSet_29 : decode cX2_onSet 29 = .ok (.iload_n 1, 1) := by decide +kernel
theorem dX2_onSet_30 : decode cX2_onSet 30 = .ok (.ireturn, 1) := by decide +kernel
theorem dX2_outSet_0 : decode cX2_outSet 0 = .ok (.iconst 0, 1) := by decide +kernel
theorem dX2_outSet_1 : decode cX2_outSet 1 = .ok (.istore_n 2, 1) := by decide +kernel
theorem dX2_outSet_2 : decode cX2_outSet 2 = .ok (.iconst 0, 1) := by decide +kernel
theorem dX2_outSet_3 : decode cX2_outSet 3 = .ok (.istore_n 3, 1) := by decide +kernel
theorem dX2_outSet_4 : decode cX2_outSet 4 = .ok (.iload_n 3, 1) := by decide +kernel
theorem dX2_outSet_5 : decode cX2_outSet 5 = .ok (.aload_n 0, 1) := by decide +kernel
theorem dX2_outSet_6 : decode cX2_outSet 6 = .ok (.getfield 21, 3) := by decide +kernel
theorem dX2_outSet_9 : decode cX2_outSet 9 = .ok (.if_icmp .ge 34, 3) := by decide +kernel
theorem dX2_outSet_12 : decode cX2_outSet 12 = .ok (.aload_n 0, 1) := by decide +kernel
theorem dX2_outSet_13 : decode cX2_outSet 13 = .ok (.aload_n 1, 1) := by decide +kernel
theorem dX2_outSet_14 : decode cX2_outSet 14 = .ok (.aload_n 0, 1) := by decide +kernel
theorem dX2_outSet_15 : decode cX2_outSet 15 = .ok (.getfield 9, 3) := by decide +kernel
theorem dX2_outSet_18 : decode cX2_outSet 18 = .ok (.iload_n 3, 1) := by decide +kernel
theorem dX2_outSet_19 : decode cX2_outSet 19 = .ok (.iaload, 1) := by decide +kernel
theorem dX2_outSet_20 : decode cX2_outSet 20 = .ok (.invokevirtual 58, 3) := by decide +kernel
theorem dX2_outSet_23 : decode cX2_outSet 23 = .ok (.ifCond .eq 14, 3) := by decide +kernel
theorem dX2_outSet_26 : decode cX2_outSet 26 = .ok (.iload_n 2, 1) := by decide +kernel
theorem dX2_outSet_27 : decode cX2_outSet 27 = .ok (.iconst 1, 1) := by decide +kernel
theorem dX2_outSet_28 : decode cX2_outSet 28 = .ok (.aload_n 0, 1) := by decide +kernel
theorem dX2_outSet_29 : decode cX2_outSet 29 = .ok (.getfield 9, 3) := by decide +kernel
theorem dX2_outSet_32 : decode cX2_outSet 32 = .ok (.iload_n 3, 1) := by decide +kernel
theorem dX2_outSet_33 : decode cX2_outSet 33 = .ok (.iaload, 1) := by decide +kernel
theorem dX2_outSet_34 : decode cX2_outSet 34 = .ok (.ishl, 1) := by decide +kernel
theorem dX2_outSet_35 : decode cX2_outSet 35 = .ok (.ior, 1) := by decide +kernel
theorem dX2_outSet_36 : decode cX2_outSet 36 = .ok (.istore_n 2, 1) := by decide +kernel
theorem dX2_outSet_37 : decode cX2_outSet 37 = .ok (.iinc 3 1, 3) := by decide +kernel
theorem dX2_outSet_40 : decode cX2_outSet 40 = .ok (.goto (-36), 3) := by decide +kernel
theorem dX2_outSet_43 : decode cX2_outSet 43 = .ok (.iload_n 2, 1) := by decide +kernel
theorem dX2_outSet_44 : decode cX2_outSet 44 = .ok (.ireturn, 1) := by decide +kernel
theorem dX2_isOut_0 : decode cX2_isOut 0 = .ok (.aload_n 0, 1) := by decide +kernel
theorem dX2_isOut_1 : decode cX2_isOut 1 = .ok (.getfield 25, 3) := by decide +kernel
theorem dX2_isOut_4 : decode cX2_isOut 4 = .ok (.iload_n 2, 1) := by decide +kernel
theorem dX2_isOut_5 : decode cX2_isOut 5 = .ok (.invokestatic 54, 3) := by decide +kernel
theorem dX2_isOut_8 : decode cX2_isOut 8 = .ok (.istore_n 3, 1) := by decide +kernel
theorem dX2_isOut_9 : decode cX2_isOut 9 = .ok (.aload_n 1, 1) := by decide +kernel
theorem dX2_isOut_10 : decode cX2_isOut 10 = .ok (.getfield 62, 3) := by decide +kernel
theorem dX2_isOut_13 : decode cX2_isOut 13 = .ok (.iload_n 2, 1) := by decide +kernel
theorem dX2_isOut_14 : decode cX2_isOut 14 = .ok (.iaload, 1) := by decide +kernel
theorem dX2_isOut_15 : decode cX2_isOut 15 = .ok (.iconst 4, 1) := by decide +kernel
theorem dX2_isOut_16 : decode cX2_isOut 16 = .ok (.if_icmp .ne 9, 3) := by decide +kernel
theorem dX2_isOut_19 : decode cX2_isOut 19 = .ok (.iload_n 3, 1) := by decide +kernel
theorem dX2_isOut_20 : decode cX2_isOut 20 = .ok (.ifCond .eq 5, 3) := by decide +kernel
theorem dX2_isOut_23 : decode cX2_isOut 23 = .ok (.iconst 0, 1) := by decide +kernel
theorem dX2_isOut_24 : decode cX2_isOut 24 = .ok (.ireturn, 1) := by decide +kernel
theorem dX2_isOut_25 : decode cX2_isOut 25 = .ok (.aload_n 1, 1) := by decide +kernel
theorem dX2_isOut_26 : decode cX2_isOut 26 = .ok (.getfield 62, 3) := by decide +kernel
theorem dX2_isOut_29 : decode cX2_isOut 29 = .ok (.iload_n 2, 1) := by decide +kernel
theorem dX2_isOut_30 : decode cX2_isOut 30 = .ok (.iaload, 1) := by decide +kernel
theorem dX2_isOut_31 : decode cX2_isOut 31 = .ok (.iconst 5, 1) := by decide +kernel
theorem dX2_isOut_32 : decode cX2_isOut 32 = .ok (.if_icmp .ne 17, 3) := by decide +kernel
theorem dX2_isOut_35 : decode cX2_isOut 35 = .ok (.aload_n 0, 1) := by decide +kernel
theorem dX2_isOut_36 : decode cX2_isOut 36 = .ok (.getfield 28, 3) := by decide +kernel
theorem dX2_isOut_39 : decode cX2_isOut 39 = .ok (.iconst 1, 1) := by decide +kernel
theorem dX2_isOut_40 : decode cX2_isOut 40 = .ok (.if_icmp .lt 7, 3) := by decide +kernel
theorem dX2_isOut_43 : decode cX2_isOut 43 = .ok (.iconst 1, 1) := by decide +kernel
theorem dX2_isOut_44 : decode cX2_isOut 44 = .ok (.goto 4, 3) := by decide +kernel
theorem dX2_isOut_47 : decode cX2_isOut 47 = .ok (.iconst 0, 1) := by decide +kernel
theorem dX2_isOut_48 : decode cX2_isOut 48 = .ok (.ireturn, 1) := by decide +kernel
theorem dX2_isOut_49 : decode cX2_isOut 49 = .ok (.aload_n 0, 1) := by decide +kernel
theorem dX2_isOut_50 : decode cX2_isOut 50 = .ok (.getfield 28, 3) := by decide +kernel
theorem dX2_isOut_53 : decode cX2_isOut 53 = .ok (.aload_n 1, 1) := by decide +kernel
theorem dX2_isOut_54 : decode cX2_isOut 54 = .ok (.getfield 65, 3) := by decide +kernel
theorem dX2_isOut_57 : decode cX2_isOut 57 = .ok (.iload_n 2, 1) := by decide +kernel
theorem dX2_isOut_58 : decode cX2_isOut 58 = .ok (.iaload, 1) := by decide +kernel
theorem dX2_isOut_59 : decode cX2_isOut 59 = .ok (.iload_n 3, 1) := by decide +kernel
theorem dX2_isOut_60 : decode cX2_isOut 60 = .ok (.ifCond .eq 7, 3) := by decide +kernel
theorem dX2_isOut_63 : decode cX2_isOut 63 = .ok (.iconst 2, 1) := by decide +kernel
theorem dX2_isOut_64 : decode cX2_isOut 64 = .ok (.goto 4, 3) := by decide +kernel
theorem dX2_isOut_67 : decode cX2_isOut 67 = .ok (.iconst 0, 1) := by decide +kernel
theorem dX2_isOut_68 : decode cX2_isOut 68 = .ok (.iadd, 1) := by decide +kernel
theorem dX2_isOut_69 : decode cX2_isOut 69 = .ok (.if_icmp .lt 7, 3) := by decide +kernel
theorem dX2_isOut_72 : decode cX2_isOut 72 = .ok (.iconst 1, 1) := by decide +kernel
theorem dX2_isOut_73 : decode cX2_isOut 73 = .ok (.goto 4, 3) := by decide +kernel
theorem dX2_isOut_76 : decode cX2_isOut 76 = .ok (.iconst 0, 1) := by decide +kernel
theorem dX2_isOut_77 : decode cX2_isOut 77 = .ok (.ireturn, 1) := by decide +kernel
theorem dX2_turnFront_0 : decode cX2_turnFront 0 = .ok (.aload_n 0, 1) := by decide +kernel
theorem dX2_turnFront_1 : decode cX2_turnFront 1 = .ok (.iconst 0, 1) := by decide +kernel
theorem dX2_turnFront_2 : decode cX2_turnFront 2 = .ok (.iload_n 1, 1) := by decide +kernel
theorem dX2_turnFront_3 : decode cX2_turnFront 3 = .ok (.iconst 1, 1) := by decide +kernel
theorem dX2_turnFront_4 : decode cX2_turnFront 4 = .ok (.isub, 1) := by decide +kernel
theorem dX2_turnFront_5 : decode cX2_turnFront 5 = .ok (.invokevirtual 68, 3) := by decide +kernel
theorem dX2_turnFront_8 : decode cX2_turnFront 8 = .ok (.return_, 1) := by decide +kernel
theorem dX2_cutAt_0 : decode cX2_cutAt 0 = .ok (.aload_n 0, 1) := by decide +kernel
theorem dX2_cutAt_1 : decode cX2_cutAt 1 = .ok (.iconst 0, 1) := by decide +kernel
theorem dX2_cutAt_2 : decode cX2_cutAt 2 = .ok (.iload_n 1, 1) := by decide +kernel
theorem dX2_cutAt_3 : decode cX2_cutAt 3 = .ok (.iconst 1, 1) := by decide +kernel
theorem dX2_cutAt_4 : decode cX2_cutAt 4 = .ok (.isub, 1) := by decide +kernel
theorem dX2_cutAt_5 : decode cX2_cutAt 5 = .ok (.invokevirtual 68, 3) := by decide +kernel
theorem dX2_cutAt_8 : decode cX2_cutAt 8 = .ok (.aload_n 0, 1) := by decide +kernel
theorem dX2_cutAt_9 : decode cX2_cutAt 9 = .ok (.iload_n 1, 1) := by decide +kernel
theorem dX2_cutAt_10 : decode cX2_cutAt 10 = .ok (.aload_n 0, 1) := by decide +kernel
theorem dX2_cutAt_11 : decode cX2_cutAt 11 = .ok (.getfield 21, 3) := by decide +kernel
theorem dX2_cutAt_14 : decode cX2_cutAt 14 = .ok (.iconst 1, 1) := by decide +kernel
theorem dX2_cutAt_15 : decode cX2_cutAt 15 = .ok (.isub, 1) := by decide +kernel
theorem dX2_cutAt_16 : decode cX2_cutAt 16 = .ok (.invokevirtual 68, 3) := by decide +kernel
theorem dX2_cutAt_19 : decode cX2_cutAt 19 = .ok (.aload_n 0, 1) := by decide +kernel
theorem dX2_cutAt_20 : decode cX2_cutAt 20 = .ok (.iconst 0, 1) := by decide +kernel
theorem dX2_cutAt_21 : decode cX2_cutAt 21 = .ok (.aload_n 0, 1) := by decide +kernel
theorem dX2_cutAt_22 : decode cX2_cutAt 22 = .ok (.getfield 21, 3) := by decide +kernel
theorem dX2_cutAt_25 : decode cX2_cutAt 25 = .ok (.iconst 1, 1) := by decide +kernel
theorem dX2_cutAt_26 : decode cX2_cutAt 26 = .ok (.isub, 1) := by decide +kernel
theorem dX2_cutAt_27 : decode cX2_cutAt 27 = .ok (.invokevirtual 68, 3) := by decide +kernel
theorem dX2_cutAt_30 : decode cX2_cutAt 30 = .ok (.return_, 1) := by decide +kernel
theorem dX2_swapEnds_0 : decode cX2_swapEnds 0 = .ok (.iload_n 1, 1) := by decide +kernel
theorem dX2_swapEnds_1 : decode cX2_swapEnds 1 = .ok (.istore_n 3, 1) := by decide +kernel
theorem dX2_swapEnds_2 : decode cX2_swapEnds 2 = .ok (.iload_n 2, 1) := by decide +kernel
theorem dX2_swapEnds_3 : decode cX2_swapEnds 3 = .ok (.istore 4, 2) := by decide +kernel
theorem dX2_swapEnds_5 : decode cX2_swapEnds 5 = .ok (.iload_n 3, 1) := by decide +kernel
theorem dX2_swapEnds_6 : decode cX2_swapEnds 6 = .ok (.iload 4, 2) := by decide +kernel
theorem dX2_swapEnds_8 : decode cX2_swapEnds 8 = .ok (.if_icmp .ge 42, 3) := by decide +kernel
theorem dX2_swapEnds_11 : decode cX2_swapEnds 11 = .ok (.aload_n 0, 1) := by decide +kernel
theorem dX2_swapEnds_12 : decode cX2_swapEnds 12 = .ok (.getfield 9, 3) := by decide +kernel
theorem dX2_swapEnds_15 : decode cX2_swapEnds 15 = .ok (.iload_n 3, 1) := by decide +kernel
theorem dX2_swapEnds_16 : decode cX2_swapEnds 16 = .ok (.iaload, 1) := by decide +kernel
theorem dX2_swapEnds_17 : decode cX2_swapEnds 17 = .ok (.istore 5, 2) := by decide +kernel
theorem dX2_swapEnds_19 : decode cX2_swapEnds 19 = .ok (.aload_n 0, 1) := by decide +kernel
theorem dX2_swapEnds_20 : decode cX2_swapEnds 20 = .ok (.getfield 9, 3) := by decide +kernel
theorem dX2_swapEnds_23 : decode cX2_swapEnds 23 = .ok (.iload_n 3, 1) := by decide +kernel
theorem dX2_swapEnds_24 : decode cX2_swapEnds 24 = .ok (.aload_n 0, 1) := by decide +kernel
theorem dX2_swapEnds_25 : decode cX2_swapEnds 25 = .ok (.getfield 9, 3) := by decide +kernel
theorem dX2_swapEnds_28 : decode cX2_swapEnds 28 = .ok (.iload 4, 2) := by decide +kernel
theorem dX2_swapEnds_30 : decode cX2_swapEnds 30 = .ok (.iaload, 1) := by decide +kernel
theorem dX2_swapEnds_31 : decode cX2_swapEnds 31 = .ok (.iastore, 1) := by decide +kernel
theorem dX2_swapEnds_32 : decode cX2_swapEnds 32 = .ok (.aload_n 0, 1) := by decide +kernel
theorem dX2_swapEnds_33 : decode cX2_swapEnds 33 = .ok (.getfield 9, 3) := by decide +kernel
theorem dX2_swapEnds_36 : decode cX2_swapEnds 36 = .ok (.iload 4, 2) := by decide +kernel
theorem dX2_swapEnds_38 : decode cX2_swapEnds 38 = .ok (.iload 5, 2) := by decide +kernel
theorem dX2_swapEnds_40 : decode cX2_swapEnds 40 = .ok (.iastore, 1) := by decide +kernel
theorem dX2_swapEnds_41 : decode cX2_swapEnds 41 = .ok (.iinc 3 1, 3) := by decide +kernel
theorem dX2_swapEnds_44 : decode cX2_swapEnds 44 = .ok (.iinc 4 (-1), 3) := by decide +kernel
theorem dX2_swapEnds_47 : decode cX2_swapEnds 47 = .ok (.goto (-42), 3) := by decide +kernel
theorem dX2_swapEnds_50 : decode cX2_swapEnds 50 = .ok (.return_, 1) := by decide +kernel
theorem dX2_takeOff_0 : decode cX2_takeOff 0 = .ok (.iload_n 1, 1) := by decide +kernel
theorem dX2_takeOff_1 : decode cX2_takeOff 1 = .ok (.ifCond .lt 11, 3) := by decide +kernel
theorem dX2_takeOff_4 : decode cX2_takeOff 4 = .ok (.iload_n 1, 1) := by decide +kernel
theorem dX2_takeOff_5 : decode cX2_takeOff 5 = .ok (.aload_n 0, 1) := by decide +kernel
theorem dX2_takeOff_6 : decode cX2_takeOff 6 = .ok (.getfield 21, 3) := by decide +kernel
theorem dX2_takeOff_9 : decode cX2_takeOff 9 = .ok (.if_icmp .lt 4, 3) := by decide +kernel
theorem dX2_takeOff_12 : decode cX2_takeOff 12 = .ok (.return_, 1) := by decide +kernel
theorem dX2_takeOff_13 : decode cX2_takeOff 13 = .ok (.aload_n 0, 1) := by decide +kernel
theorem dX2_takeOff_14 : decode cX2_takeOff 14 = .ok (.dup, 1) := by decide +kernel
theorem dX2_takeOff_15 : decode cX2_takeOff 15 = .ok (.getfield 25, 3) := by decide +kernel
theorem dX2_takeOff_18 : decode cX2_takeOff 18 = .ok (.iconst 1, 1) := by decide +kernel
theorem dX2_takeOff_19 : decode cX2_takeOff 19 = .ok (.aload_n 0, 1) := by decide +kernel
theorem dX2_takeOff_20 : decode cX2_takeOff 20 = .ok (.getfield 9, 3) := by decide +kernel
theorem dX2_takeOff_23 : decode cX2_takeOff 23 = .ok (.iload_n 1, 1) := by decide +kernel
theorem dX2_takeOff_24 : decode cX2_takeOff 24 = .ok (.iaload, 1) := by decide +kernel
theorem dX2_takeOff_25 : decode cX2_takeOff 25 = .ok (.ishl, 1) := by decide +kernel
theorem dX2_takeOff_26 : decode cX2_takeOff 26 = .ok (.iconst (-1), 1) := by decide +kernel
theorem dX2_takeOff_27 : decode cX2_takeOff 27 = .ok (.ixor, 1) := by decide +kernel
theorem dX2_takeOff_28 : decode cX2_takeOff 28 = .ok (.iand, 1) := by decide +kernel
theorem dX2_takeOff_29 : decode cX2_takeOff 29 = .ok (.putfield 25, 3) := by decide +kernel
theorem dX2_takeOff_32 : decode cX2_takeOff 32 = .ok (.iload_n 1, 1) := by decide +kernel
theorem dX2_takeOff_33 : decode cX2_takeOff 33 = .ok (.iconst 1, 1) := by decide +kernel
theorem dX2_takeOff_34 : decode cX2_takeOff 34 = .ok (.iadd, 1) := by decide +kernel
theorem dX2_takeOff_35 : decode cX2_takeOff 35 = .ok (.istore_n 2, 1) := by decide +kernel
theorem dX2_takeOff_36 : decode cX2_takeOff 36 = .ok (.iload_n 2, 1) := by decide +kernel
theorem dX2_takeOff_37 : decode cX2_takeOff 37 = .ok (.aload_n 0, 1) := by decide +kernel
theorem dX2_takeOff_38 : decode cX2_takeOff 38 = .ok (.getfield 21, 3) := by decide +kernel
theorem dX2_takeOff_41 : decode cX2_takeOff 41 = .ok (.if_icmp .ge 23, 3) := by decide +kernel
theorem dX2_takeOff_44 : decode cX2_takeOff 44 = .ok (.aload_n 0, 1) := by decide +kernel
theorem dX2_takeOff_45 : decode cX2_takeOff 45 = .ok (.getfield 9, 3) := by decide +kernel
theorem dX2_takeOff_48 : decode cX2_takeOff 48 = .ok (.iload_n 2, 1) := by decide +kernel
theorem dX2_takeOff_49 : decode cX2_takeOff 49 = .ok (.iconst 1, 1) := by decide +kernel
theorem dX2_takeOff_50 : decode cX2_takeOff 50 = .ok (.isub, 1) := by decide +kernel
theorem dX2_takeOff_51 : decode cX2_takeOff 51 = .ok (.aload_n 0, 1) := by decide +kernel
theorem dX2_takeOff_52 : decode cX2_takeOff 52 = .ok (.getfield 9, 3) := by decide +kernel
theorem dX2_takeOff_55 : decode cX2_takeOff 55 = .ok (.iload_n 2, 1) := by decide +kernel
theorem dX2_takeOff_56 : decode cX2_takeOff 56 = .ok (.iaload, 1) := by decide +kernel
theorem dX2_takeOff_57 : decode cX2_takeOff 57 = .ok (.iastore, 1) := by decide +kernel
theorem dX2_takeOff_58 : decode cX2_takeOff 58 = .ok (.iinc 2 1, 3) := by decide +kernel
theorem dX2_takeOff_61 : decode cX2_takeOff 61 = .ok (.goto (-25), 3) := by decide +kernel
theorem dX2_takeOff_64 : decode cX2_takeOff 64 = .ok (.aload_n 0, 1) := by decide +kernel
theorem dX2_takeOff_65 : decode cX2_takeOff 65 = .ok (.dup, 1) := by decide +kernel
theorem dX2_takeOff_66 : decode cX2_takeOff 66 = .ok (.getfield 21, 3) := by decide +kernel
theorem dX2_takeOff_69 : decode cX2_takeOff 69 = .ok (.iconst 1, 1) := by decide +kernel
theorem dX2_takeOff_70 : decode cX2_takeOff 70 = .ok (.isub, 1) := by decide +kernel
theorem dX2_takeOff_71 : decode cX2_takeOff 71 = .ok (.putfield 21, 3) := by decide +kernel
theorem dX2_takeOff_74 : decode cX2_takeOff 74 = .ok (.return_, 1) := by decide +kernel
theorem dX2_sewOn_0 : decode cX2_sewOn 0 = .ok (.aload_n 0, 1) := by decide +kernel
theorem dX2_sewOn_1 : decode cX2_sewOn 1 = .ok (.getfield 21, 3) := by decide +kernel
theorem dX2_sewOn_4 : decode cX2_sewOn 4 = .ok (.bipush 7, 2) := by decide +kernel
theorem dX2_sewOn_6 : decode cX2_sewOn 6 = .ok (.if_icmp .lt 4, 3) := by decide +kernel
theorem dX2_sewOn_9 : decode cX2_sewOn 9 = .ok (.return_, 1) := by decide +kernel
theorem dX2_sewOn_10 : decode cX2_sewOn 10 = .ok (.aload_n 0, 1) := by decide +kernel
theorem dX2_sewOn_11 : decode cX2_sewOn 11 = .ok (.getfield 21, 3) := by decide +kernel
theorem dX2_sewOn_14 : decode cX2_sewOn 14 = .ok (.istore_n 3, 1) := by decide +kernel
theorem dX2_sewOn_15 : decode cX2_sewOn 15 = .ok (.iload_n 3, 1) := by decide +kernel
theorem dX2_sewOn_16 : decode cX2_sewOn 16 = .ok (.iload_n 2, 1) := by decide +kernel
theorem dX2_sewOn_17 : decode cX2_sewOn 17 = .ok (.if_icmp .le 23, 3) := by decide +kernel
theorem dX2_sewOn_20 : decode cX2_sewOn 20 = .ok (.aload_n 0, 1) := by decide +kernel
theorem dX2_sewOn_21 : decode cX2_sewOn 21 = .ok (.getfield 9, 3) := by decide +kernel
theorem dX2_sewOn_24 : decode cX2_sewOn 24 = .ok (.iload_n 3, 1) := by decide +kernel
theorem dX2_sewOn_25 : decode cX2_sewOn 25 = .ok (.aload_n 0, 1) := by decide +kernel
theorem dX2_sewOn_26 : decode cX2_sewOn 26 = .ok (.getfield 9, 3) := by decide +kernel
theorem dX2_sewOn_29 : decode cX2_sewOn 29 = .ok (.iload_n 3, 1) := by decide +kernel
theorem dX2_sewOn_30 : decode cX2_sewOn 30 = .ok (.iconst 1, 1) := by decide +kernel
theorem dX2_sewOn_31 : decode cX2_sewOn 31 = .ok (.isub, 1) := by decide +kernel
theorem dX2_sewOn_32 : decode cX2_sewOn 32 = .ok (.iaload, 1) := by decide +kernel
theorem dX2_sewOn_33 : decode cX2_sewOn 33 = .ok (.iastore, 1) := by decide +kernel
theorem dX2_sewOn_34 : decode cX2_sewOn 34 = .ok (.iinc 3 (-1), 3) := by decide +kernel
theorem dX2_sewOn_37 : decode cX2_sewOn 37 = .ok (.goto (-22), 3) := by decide +kernel
theorem dX2_sewOn_40 : decode cX2_sewOn 40 = .ok (.aload_n 0, 1) := by decide +kernel
theorem dX2_sewOn_41 : decode cX2_sewOn 41 = .ok (.getfield 9, 3) := by decide +kernel
theorem dX2_sewOn_44 : decode cX2_sewOn 44 = .ok (.iload_n 2, 1) := by decide +kernel
theorem dX2_sewOn_45 : decode cX2_sewOn 45 = .ok (.iload_n 1, 1) := by decide +kernel
theorem dX2_sewOn_46 : decode cX2_sewOn 46 = .ok (.iastore, 1) := by decide +kernel
theorem dX2_sewOn_47 : decode cX2_sewOn 47 = .ok (.aload_n 0, 1) := by decide +kernel
theorem dX2_sewOn_48 : decode cX2_sewOn 48 = .ok (.dup, 1) := by decide +kernel
theorem dX2_sewOn_49 : decode cX2_sewOn 49 = .ok (.getfield 21, 3) := by decide +kernel
theorem dX2_sewOn_52 : decode cX2_sewOn 52 = .ok (.iconst 1, 1) := by decide +kernel
theorem dX2_sewOn_53 : decode cX2_sewOn 53 = .ok (.iadd, 1) := by decide +kernel
theorem dX2_sewOn_54 : decode cX2_sewOn 54 = .ok (.putfield 21, 3) := by decide +kernel
theorem dX2_sewOn_57 : decode cX2_sewOn 57 = .ok (.aload_n 0, 1) := by decide +kernel
theorem dX2_sewOn_58 : decode cX2_sewOn 58 = .ok (.getfield 15, 3) := by decide +kernel
theorem dX2_sewOn_61 : decode cX2_sewOn 61 = .ok (.iload_n 1, 1) := by decide +kernel
theorem dX2_sewOn_62 : decode cX2_sewOn 62 = .ok (.iconst 0, 1) := by decide +kernel
theorem dX2_sewOn_63 : decode cX2_sewOn 63 = .ok (.iastore, 1) := by decide +kernel
theorem dX2_sewOn_64 : decode cX2_sewOn 64 = .ok (.aload_n 0, 1) := by decide +kernel
theorem dX2_sewOn_65 : decode cX2_sewOn 65 = .ok (.getfield 18, 3) := by decide +kernel
theorem dX2_sewOn_68 : decode cX2_sewOn 68 = .ok (.iload_n 1, 1) := by decide +kernel
theorem dX2_sewOn_69 : decode cX2_sewOn 69 = .ok (.dup2, 1) := by decide +kernel
theorem dX2_sewOn_70 : decode cX2_sewOn 70 = .ok (.iaload, 1) := by decide +kernel
theorem dX2_sewOn_71 : decode cX2_sewOn 71 = .ok (.iconst 1, 1) := by decide +kernel
theorem dX2_sewOn_72 : decode cX2_sewOn 72 = .ok (.iadd, 1) := by decide +kernel
theorem dX2_sewOn_73 : decode cX2_sewOn 73 = .ok (.iastore, 1) := by decide +kernel
theorem dX2_sewOn_74 : decode cX2_sewOn 74 = .ok (.return_, 1) := by decide +kernel
theorem dX2_passYear_0 : decode cX2_passYear 0 = .ok (.iconst 0, 1) := by decide +kernel
theorem dX2_passYear_1 : decode cX2_passYear 1 = .ok (.istore_n 2, 1) := by decide +kernel
theorem dX2_passYear_2 : decode cX2_passYear 2 = .ok (.iload_n 2, 1) := by decide +kernel
theorem dX2_passYear_3 : decode cX2_passYear 3 = .ok (.aload_n 0, 1) := by decide +kernel
theorem dX2_passYear_4 : decode cX2_passYear 4 = .ok (.getfield 21, 3) := by decide +kernel
theorem dX2_passYear_7 : decode cX2_passYear 7 = .ok (.if_icmp .ge 62, 3) := by decide +kernel
theorem dX2_passYear_10 : decode cX2_passYear 10 = .ok (.aload_n 0, 1) := by decide +kernel
theorem dX2_passYear_11 : decode cX2_passYear 11 = .ok (.getfield 9, 3) := by decide +kernel
theorem dX2_passYear_14 : decode cX2_passYear 14 = .ok (.iload_n 2, 1) := by decide +kernel
theorem dX2_passYear_15 : decode cX2_passYear 15 = .ok (.iaload, 1) := by decide +kernel
theorem dX2_passYear_16 : decode cX2_passYear 16 = .ok (.istore_n 3, 1) := by decide +kernel
theorem dX2_passYear_17 : decode cX2_passYear 17 = .ok (.aload_n 0, 1) := by decide +kernel
theorem dX2_passYear_18 : decode cX2_passYear 18 = .ok (.aload_n 1, 1) := by decide +kernel
theorem dX2_passYear_19 : decode cX2_passYear 19 = .ok (.iload_n 3, 1) := by decide +kernel
theorem dX2_passYear_20 : decode cX2_passYear 20 = .ok (.invokevirtual 58, 3) := by decide +kernel
theorem dX2_passYear_23 : decode cX2_passYear 23 = .ok (.ifCond .eq 17, 3) := by decide +kernel
theorem dX2_passYear_26 : decode cX2_passYear 26 = .ok (.aload_n 1, 1) := by decide +kernel
theorem dX2_passYear_27 : decode cX2_passYear 27 = .ok (.getfield 62, 3) := by decide +kernel
theorem dX2_passYear_30 : decode cX2_passYear 30 = .ok (.iload_n 3, 1) := by decide +kernel
theorem dX2_passYear_31 : decode cX2_passYear 31 = .ok (.iaload, 1) := by decide +kernel
theorem dX2_passYear_32 : decode cX2_passYear 32 = .ok (.iconst 3, 1) := by decide +kernel
theorem dX2_passYear_33 : decode cX2_passYear 33 = .ok (.if_icmp .eq 7, 3) := by decide +kernel
theorem dX2_passYear_36 : decode cX2_passYear 36 = .ok (.iconst 2, 1) := by decide +kernel
theorem dX2_passYear_37 : decode cX2_passYear 37 = .ok (.goto 4, 3) := by decide +kernel
theorem dX2_passYear_40 : decode cX2_passYear 40 = .ok (.iconst 1, 1) := by decide +kernel
theorem dX2_passYear_41 : decode cX2_passYear 41 = .ok (.istore 4, 2) := by decide +kernel
theorem dX2_passYear_43 : decode cX2_passYear 43 = .ok (.aload_n 0, 1) := by decide +kernel
theorem dX2_passYear_44 : decode cX2_passYear 44 = .ok (.getfield 15, 3) := by decide +kernel
theorem dX2_passYear_47 : decode cX2_passYear 47 = .ok (.iload_n 3, 1) := by decide +kernel
theorem dX2_passYear_48 : decode cX2_passYear 48 = .ok (.bipush 99, 2) := by decide +kernel
theorem dX2_passYear_50 : decode cX2_passYear 50 = .ok (.aload_n 0, 1) := by decide +kernel
theorem dX2_passYear_51 : decode cX2_passYear 51 = .ok (.getfield 15, 3) := by decide +kernel
theorem dX2_passYear_54 : decode cX2_passYear 54 = .ok (.iload_n 3, 1) := by decide +kernel
theorem dX2_passYear_55 : decode cX2_passYear 55 = .ok (.iaload, 1) := by decide +kernel
theorem dX2_passYear_56 : decode cX2_passYear 56 = .ok (.iload 4, 2) := by decide +kernel
theorem dX2_passYear_58 : decode cX2_passYear 58 = .ok (.iadd, 1) := by decide +kernel
theorem dX2_passYear_59 : decode cX2_passYear 59 = .ok (.invokestatic 72, 3) := by decide +kernel
theorem dX2_passYear_62 : decode cX2_passYear 62 = .ok (.iastore, 1) := by decide +kernel
theorem dX2_passYear_63 : decode cX2_passYear 63 = .ok (.iinc 2 1, 3) := by decide +kernel
theorem dX2_passYear_66 : decode cX2_passYear 66 = .ok (.goto (-64), 3) := by decide +kernel
theorem dX2_passYear_69 : decode cX2_passYear 69 = .ok (.aload_n 0, 1) := by decide +kernel
theorem dX2_passYear_70 : decode cX2_passYear 70 = .ok (.getfield 21, 3) := by decide +kernel
theorem dX2_passYear_73 : decode cX2_passYear 73 = .ok (.iconst 1, 1) := by decide +kernel
theorem dX2_passYear_74 : decode cX2_passYear 74 = .ok (.isub, 1) := by decide +kernel
theorem dX2_passYear_75 : decode cX2_passYear 75 = .ok (.istore_n 2, 1) := by decide +kernel
theorem dX2_passYear_76 : decode cX2_passYear 76 = .ok (.iload_n 2, 1) := by decide +kernel
theorem dX2_passYear_77 : decode cX2_passYear 77 = .ok (.ifCond .lt 45, 3) := by decide +kernel
theorem dX2_passYear_80 : decode cX2_passYear 80 = .ok (.aload_n 1, 1) := by decide +kernel
theorem dX2_passYear_81 : decode cX2_passYear 81 = .ok (.getfield 62, 3) := by decide +kernel
theorem dX2_passYear_84 : decode cX2_passYear 84 = .ok (.aload_n 0, 1) := by decide +kernel
theorem dX2_passYear_85 : decode cX2_passYear 85 = .ok (.getfield 9, 3) := by decide +kernel
theorem dX2_passYear_88 : decode cX2_passYear 88 = .ok (.iload_n 2, 1) := by decide +kernel
theorem dX2_passYear_89 : decode cX2_passYear 89 = .ok (.iaload, 1) := by decide +kernel
theorem dX2_passYear_90 : decode cX2_passYear 90 = .ok (.iaload, 1) := by decide +kernel
theorem dX2_passYear_91 : decode cX2_passYear 91 = .ok (.iconst 2, 1) := by decide +kernel
theorem dX2_passYear_92 : decode cX2_passYear 92 = .ok (.if_icmp .ne 24, 3) := by decide +kernel
theorem dX2_passYear_95 : decode cX2_passYear 95 = .ok (.aload_n 0, 1) := by decide +kernel
theorem dX2_passYear_96 : decode cX2_passYear 96 = .ok (.getfield 15, 3) := by decide +kernel
theorem dX2_passYear_99 : decode cX2_passYear 99 = .ok (.aload_n 0, 1) := by decide +kernel
theorem dX2_passYear_100 : decode cX2_passYear 100 = .ok (.getfield 9, 3) := by decide +kernel
theorem dX2_passYear_103 : decode cX2_passYear 103 = .ok (.iload_n 2, 1) := by decide +kernel
theorem dX2_passYear_104 : decode cX2_passYear 104 = .ok (.iaload, 1) := by decide +kernel
theorem dX2_passYear_105 : decode cX2_passYear 105 = .ok (.iaload, 1) := by decide +kernel
theorem dX2_passYear_106 : decode cX2_passYear 106 = .ok (.bipush 40, 2) := by decide +kernel
theorem dX2_passYear_108 : decode cX2_passYear 108 = .ok (.if_icmp .lt 8, 3) := by decide +kernel
theorem dX2_passYear_111 : decode cX2_passYear 111 = .ok (.aload_n 0, 1) := by decide +kernel
theorem dX2_passYear_112 : decode cX2_passYear 112 = .ok (.iload_n 2, 1) := by decide +kernel
theorem dX2_passYear_113 : decode cX2_passYear 113 = .ok (.invokevirtual 78, 3) := by decide +kernel
theorem dX2_passYear_116 : decode cX2_passYear 116 = .ok (.iinc 2 (-1), 3) := by decide +kernel
theorem dX2_passYear_119 : decode cX2_passYear 119 = .ok (.goto (-43), 3) := by decide +kernel
theorem dX2_passYear_122 : decode cX2_passYear 122 = .ok (.aload_n 0, 1) := by decide +kernel
theorem dX2_passYear_123 : decode cX2_passYear 123 = .ok (.iconst 0, 1) := by decide +kernel
theorem dX2_passYear_124 : decode cX2_passYear 124 = .ok (.putfield 25, 3) := by decide +kernel
theorem dX2_passYear_127 : decode cX2_passYear 127 = .ok (.aload_n 0, 1) := by decide +kernel
theorem dX2_passYear_128 : decode cX2_passYear 128 = .ok (.dup, 1) := by decide +kernel
theorem dX2_passYear_129 : decode cX2_passYear 129 = .ok (.getfield 31, 3) := by decide +kernel
theorem dX2_passYear_132 : decode cX2_passYear 132 = .ok (.iconst 1, 1) := by decide +kernel
theorem dX2_passYear_133 : decode cX2_passYear 133 = .ok (.iadd, 1) := by decide +kernel
theorem dX2_passYear_134 : decode cX2_passYear 134 = .ok (.putfield 31, 3) := by decide +kernel
theorem dX2_passYear_137 : decode cX2_passYear 137 = .ok (.return_, 1) := by decide +kernel
theorem dX2_rises_0 : decode cX2_rises 0 = .ok (.aload_n 0, 1) := by decide +kernel
theorem dX2_rises_1 : decode cX2_rises 1 = .ok (.iconst 0, 1) := by decide +kernel
theorem dX2_rises_2 : decode cX2_rises 2 = .ok (.invokevirtual 82, 3) := by decide +kernel
theorem dX2_rises_5 : decode cX2_rises 5 = .ok (.ireturn, 1) := by decide +kernel
theorem dX2_rightCut_0 : decode cX2_rightCut 0 = .ok (.aload_n 0, 1) := by decide +kernel
theorem dX2_rightCut_1 : decode cX2_rightCut 1 = .ok (.invokevirtual 86, 3) := by decide +kernel
theorem dX2_rightCut_4 : decode cX2_rightCut 4 = .ok (.ifCond .eq 5, 3) := by decide +kernel
theorem dX2_rightCut_7 : decode cX2_rightCut 7 = .ok (.iconst 0, 1) := by decide +kernel
theorem dX2_rightCut_8 : decode cX2_rightCut 8 = .ok (.ireturn, 1) := by decide +kernel
theorem dX2_rightCut_9 : decode cX2_rightCut 9 = .ok (.iconst 1, 1) := by decide +kernel
theorem dX2_rightCut_10 : decode cX2_rightCut 10 = .ok (.istore_n 1, 1) := by decide +kernel
theorem dX2_rightCut_11 : decode cX2_rightCut 11 = .ok (.iload_n 1, 1) := by decide +kernel
theorem dX2_rightCut_12 : decode cX2_rightCut 12 = .ok (.aload_n 0, 1) := by decide +kernel
theorem dX2_rightCut_13 : decode cX2_rightCut 13 = .ok (.getfield 21, 3) := by decide +kernel
theorem dX2_rightCut_16 : decode cX2_rightCut 16 = .ok (.if_icmp .ge 19, 3) := by decide +kernel
theorem dX2_rightCut_19 : decode cX2_rightCut 19 = .ok (.aload_n 0, 1) := by decide +kernel
theorem dX2_rightCut_20 : decode cX2_rightCut 20 = .ok (.iload_n 1, 1) := by decide +kernel
theorem dX2_rightCut_21 : decode cX2_rightCut 21 = .ok (.invokevirtual 82, 3) := by decide +kernel
theorem dX2_rightCut_24 : decode cX2_rightCut 24 = .ok (.ifCond .eq 5, 3) := by decide +kernel
theorem dX2_rightCut_27 : decode cX2_rightCut 27 = .ok (.iload_n 1, 1) := by decide +kernel
theorem dX2_rightCut_28 : decode cX2_rightCut 28 = .ok (.ireturn, 1) := by decide +kernel
theorem dX2_rightCut_29 : decode cX2_rightCut 29 = .ok (.iinc 1 1, 3) := by decide +kernel
theorem dX2_rightCut_32 : decode cX2_rightCut 32 = .ok (.goto (-21), 3) := by decide +kernel
theorem dX2_rightCut_35 : decode cX2_rightCut 35 = .ok (.iconst (-1), 1) := by decide +kernel
theorem dX2_rightCut_36 : decode cX2_rightCut 36 = .ok (.ireturn, 1) := by decide +kernel
theorem dX2_risesFrom_0 : decode cX2_risesFrom 0 = .ok (.iconst 1, 1) := by decide +kernel
theorem dX2_risesFrom_1 : decode cX2_risesFrom 1 = .ok (.istore_n 2, 1) := by decide +kernel
theorem dX2_risesFrom_2 : decode cX2_risesFrom 2 = .ok (.iload_n 2, 1) := by decide +kernel
theorem dX2_risesFrom_3 : decode cX2_risesFrom 3 = .ok (.aload_n 0, 1) := by decide +kernel
theorem dX2_risesFrom_4 : decode cX2_risesFrom 4 = .ok (.getfield 21, 3) := by decide +kernel
theorem dX2_risesFrom_7 : decode cX2_risesFrom 7 = .ok (.if_icmp .ge 42, 3) := by decide +kernel
theorem dX2_risesFrom_10 : decode cX2_risesFrom 10 = .ok (.aload_n 0, 1) := by decide +kernel
theorem dX2_risesFrom_11 : decode cX2_risesFrom 11 = .ok (.getfield 9, 3) := by decide +kernel
theorem dX2_risesFrom_14 : decode cX2_risesFrom 14 = .ok (.iload_n 1, 1) := by decide +kernel
theorem dX2_risesFrom_15 : decode cX2_risesFrom 15 = .ok (.iload_n 2, 1) := by decide +kernel
theorem dX2_risesFrom_16 : decode cX2_risesFrom 16 = .ok (.iadd, 1) := by decide +kernel
theorem dX2_risesFrom_17 : decode cX2_risesFrom 17 = .ok (.aload_n 0, 1) := by decide +kernel
theorem dX2_risesFrom_18 : decode cX2_risesFrom 18 = .ok (.getfield 21, 3) := by decide +kernel
theorem dX2_risesFrom_21 : decode cX2_risesFrom 21 = .ok (.irem, 1) := by decide +kernel
theorem dX2_risesFrom_22 : decode cX2_risesFrom 22 = .ok (.iaload, 1) := by decide +kernel
theorem dX2_risesFrom_23 : decode cX2_risesFrom 23 = .ok (.aload_n 0, 1) := by decide +kernel
theorem dX2_risesFrom_24 : decode cX2_risesFrom 24 = .ok (.getfield 9, 3) := by decide +kernel
theorem dX2_risesFrom_27 : decode cX2_risesFrom 27 = .ok (.iload_n 1, 1) := by decide +kernel
theorem dX2_risesFrom_28 : decode cX2_risesFrom 28 = .ok (.iload_n 2, 1) := by decide +kernel
theorem dX2_risesFrom_29 : decode cX2_risesFrom 29 = .ok (.iadd, 1) := by decide +kernel
theorem dX2_risesFrom_30 : decode cX2_risesFrom 30 = .ok (.iconst 1, 1) := by decide +kernel
theorem dX2_risesFrom_31 : decode cX2_risesFrom 31 = .ok (.isub, 1) := by decide +kernel
theorem dX2_risesFrom_32 : decode cX2_risesFrom 32 = .ok (.aload_n 0, 1) := by decide +kernel
theorem dX2_risesFrom_33 : decode cX2_risesFrom 33 = .ok (.getfield 21, 3) := by decide +kernel
theorem dX2_risesFrom_36 : decode cX2_risesFrom 36 = .ok (.irem, 1) := by decide +kernel
theorem dX2_risesFrom_37 : decode cX2_risesFrom 37 = .ok (.iaload, 1) := by decide +kernel
theorem dX2_risesFrom_38 : decode cX2_risesFrom 38 = .ok (.if_icmp .ge 5, 3) := by decide +kernel
theorem dX2_risesFrom_41 : decode cX2_risesFrom 41 = .ok (.iconst 0, 1) := by decide +kernel
theorem dX2_risesFrom_42 : decode cX2_risesFrom 42 = .ok (.ireturn, 1) := by decide +kernel
theorem dX2_risesFrom_43 : decode cX2_risesFrom 43 = .ok (.iinc 2 1, 3) := by decide +kernel
theorem dX2_risesFrom_46 : decode cX2_risesFrom 46 = .ok (.goto (-44), 3) := by decide +kernel
theorem dX2_risesFrom_49 : decode cX2_risesFrom 49 = .ok (.iconst 1, 1) := by decide +kernel
theorem dX2_risesFrom_50 : decode cX2_risesFrom 50 = .ok (.ireturn, 1) := by decide +kernel
theorem dX2_crossed_0 : decode cX2_crossed 0 = .ok (.iconst 0, 1) := by decide +kernel
theorem dX2_crossed_1 : decode cX2_crossed 1 = .ok (.istore_n 1, 1) := by decide +kernel
theorem dX2_crossed_2 : decode cX2_crossed 2 = .ok (.iconst 0, 1) := by decide +kernel
theorem dX2_crossed_3 : decode cX2_crossed 3 = .ok (.istore_n 2, 1) := by decide +kernel
theorem dX2_crossed_4 : decode cX2_crossed 4 = .ok (.iload_n 2, 1) := by decide +kernel
theorem dX2_crossed_5 : decode cX2_crossed 5 = .ok (.aload_n 0, 1) := by decide +kernel
theorem dX2_crossed_6 : decode cX2_crossed 6 = .ok (.getfield 21, 3) := by decide +kernel
theorem dX2_crossed_9 : decode cX2_crossed 9 = .ok (.if_icmp .ge 45, 3) := by decide +kernel
theorem dX2_crossed_12 : decode cX2_crossed 12 = .ok (.iload_n 2, 1) := by decide +kernel
theorem dX2_crossed_13 : decode cX2_crossed 13 = .ok (.iconst 1, 1) := by decide +kernel
theorem dX2_crossed_14 : decode cX2_crossed 14 = .ok (.iadd, 1) := by decide +kernel
theorem dX2_crossed_15 : decode cX2_crossed 15 = .ok (.istore_n 3, 1) := by decide +kernel
theorem dX2_crossed_16 : decode cX2_crossed 16 = .ok (.iload_n 3, 1) := by decide +kernel
theorem dX2_crossed_17 : decode cX2_crossed 17 = .ok (.aload_n 0, 1) := by decide +kernel
theorem dX2_crossed_18 : decode cX2_crossed 18 = .ok (.getfield 21, 3) := by decide +kernel
theorem dX2_crossed_21 : decode cX2_crossed 21 = .ok (.if_icmp .ge 27, 3) := by decide +kernel
theorem dX2_crossed_24 : decode cX2_crossed 24 = .ok (.aload_n 0, 1) := by decide +kernel
theorem dX2_crossed_25 : decode cX2_crossed 25 = .ok (.getfield 9, 3) := by decide +kernel
theorem dX2_crossed_28 : decode cX2_crossed 28 = .ok (.iload_n 3, 1) := by decide +kernel
theorem dX2_crossed_29 : decode cX2_crossed 29 = .ok (.iaload, 1) := by decide +kernel
theorem dX2_crossed_30 : decode cX2_crossed 30 = .ok (.aload_n 0, 1) := by decide +kernel
theorem dX2_crossed_31 : decode cX2_crossed 31 = .ok (.getfield 9, 3) := by decide +kernel
theorem dX2_crossed_34 : decode cX2_crossed 34 = .ok (.iload_n 2, 1) := by decide +kernel
theorem dX2_crossed_35 : decode cX2_crossed 35 = .ok (.iaload, 1) := by decide +kernel
theorem dX2_crossed_36 : decode cX2_crossed 36 = .ok (.if_icmp .ge 6, 3) := by decide +kernel
theorem dX2_crossed_39 : decode cX2_crossed 39 = .ok (.iinc 1 1, 3) := by decide +kernel
theorem dX2_crossed_42 : decode cX2_crossed 42 = .ok (.iinc 3 1, 3) := by decide +kernel
theorem dX2_crossed_45 : decode cX2_crossed 45 = .ok (.goto (-29), 3) := by decide +kernel
theorem dX2_crossed_48 : decode cX2_crossed 48 = .ok (.iinc 2 1, 3) := by decide +kernel
theorem dX2_crossed_51 : decode cX2_crossed 51 = .ok (.goto (-47), 3) := by decide +kernel
theorem dX2_crossed_54 : decode cX2_crossed 54 = .ok (.iload_n 1, 1) := by decide +kernel
theorem dX2_crossed_55 : decode cX2_crossed 55 = .ok (.ireturn, 1) := by decide +kernel
theorem dX2_looseSet_0 : decode cX2_looseSet 0 = .ok (.aload_n 0, 1) := by decide +kernel
theorem dX2_looseSet_1 : decode cX2_looseSet 1 = .ok (.invokevirtual 90, 3) := by decide +kernel
theorem dX2_looseSet_4 : decode cX2_looseSet 4 = .ok (.istore_n 1, 1) := by decide +kernel
theorem dX2_looseSet_5 : decode cX2_looseSet 5 = .ok (.iload_n 1, 1) := by decide +kernel
theorem dX2_looseSet_6 : decode cX2_looseSet 6 = .ok (.istore_n 2, 1) := by decide +kernel
theorem dX2_looseSet_7 : decode cX2_looseSet 7 = .ok (.iconst 0, 1) := by decide +kernel
theorem dX2_looseSet_8 : decode cX2_looseSet 8 = .ok (.istore_n 3, 1) := by decide +kernel
theorem dX2_looseSet_9 : decode cX2_looseSet 9 = .ok (.iload_n 3, 1) := by decide +kernel
theorem dX2_looseSet_10 : decode cX2_looseSet 10 = .ok (.iload_n 1, 1) := by decide +kernel
theorem dX2_looseSet_11 : decode cX2_looseSet 11 = .ok (.if_icmp .ge 50, 3) := by decide +kernel
theorem dX2_looseSet_14 : decode cX2_looseSet 14 = .ok (.iload_n 3, 1) := by decide +kernel
theorem dX2_looseSet_15 : decode cX2_looseSet 15 = .ok (.iload_n 1, 1) := by decide +kernel
theorem dX2_looseSet_16 : decode cX2_looseSet 16 = .ok (.iconst (-1), 1) := by decide +kernel
theorem dX2_looseSet_17 : decode cX2_looseSet 17 = .ok (.ixor, 1) := by decide +kernel
theorem dX2_looseSet_18 : decode cX2_looseSet 18 = .ok (.iand, 1) := by decide +kernel
theorem dX2_looseSet_19 : decode cX2_looseSet 19 = .ok (.ifCond .ne 18, 3) := by decide +kernel
theorem dX2_looseSet_22 : decode cX2_looseSet 22 = .ok (.iload_n 3, 1) := by decide +kernel
theorem dX2_looseSet_23 : decode cX2_looseSet 23 = .ok (.invokestatic 94, 3) := by decide +kernel
theorem dX2_looseSet_26 : decode cX2_looseSet 26 = .ok (.iload_n 2, 1) := by decide +kernel
theorem dX2_looseSet_27 : decode cX2_looseSet 27 = .ok (.invokestatic 94, 3) := by decide +kernel
theorem dX2_looseSet_30 : decode cX2_looseSet 30 = .ok (.if_icmp .ge 7, 3) := by decide +kernel
theorem dX2_looseSet_33 : decode cX2_looseSet 33 = .ok (.iconst 1, 1) := by decide +kernel
theorem dX2_looseSet_34 : decode cX2_looseSet 34 = .ok (.goto 4, 3) := by decide +kernel
theorem dX2_looseSet_37 : decode cX2_looseSet 37 = .ok (.iconst 0, 1) := by decide +kernel
theorem dX2_looseSet_38 : decode cX2_looseSet 38 = .ok (.istore 4, 2) := by decide +kernel
theorem dX2_looseSet_40 : decode cX2_looseSet 40 = .ok (.iload 4, 2) := by decide +kernel
theorem dX2_looseSet_42 : decode cX2_looseSet 42 = .ok (.ifCond .eq 13, 3) := by decide +kernel
theorem dX2_looseSet_45 : decode cX2_looseSet 45 = .ok (.aload_n 0, 1) := by decide +kernel
theorem dX2_looseSet_46 : decode cX2_looseSet 46 = .ok (.iload_n 3, 1) := by decide +kernel
theorem dX2_looseSet_47 : decode cX2_looseSet 47 = .ok (.invokevirtual 100, 3) := by decide +kernel
theorem dX2_looseSet_50 : decode cX2_looseSet 50 = .ok (.ifCond .eq 5, 3) := by decide +kernel
theorem dX2_looseSet_53 : decode cX2_looseSet 53 = .ok (.iload_n 3, 1) := by decide +kernel
theorem dX2_looseSet_54 : decode cX2_looseSet 54 = .ok (.istore_n 2, 1) := by decide +kernel
theorem dX2_looseSet_55 : decode cX2_looseSet 55 = .ok (.iinc 3 1, 3) := by decide +kernel
theorem dX2_looseSet_58 : decode cX2_looseSet 58 = .ok (.goto (-49), 3) := by decide +kernel
theorem dX2_looseSet_61 : decode cX2_looseSet 61 = .ok (.iload_n 2, 1) := by decide +kernel
theorem dX2_looseSet_62 : decode cX2_looseSet 62 = .ok (.ireturn, 1) := by decide +kernel
theorem dX2_risesWithout_0 : decode cX2_risesWithout 0 = .ok (.iconst (-1), 1) := by decide +kernel
theorem dX2_risesWithout_1 : decode cX2_risesWithout 1 = .ok (.istore_n 2, 1) := by decide +kernel
theorem dX2_risesWithout_2 : decode cX2_risesWithout 2 = .ok (.iconst 0, 1) := by decide +kernel
theorem dX2_risesWithout_3 : decode cX2_risesWithout 3 = .ok (.istore_n 3, 1) := by decide +kernel
theorem dX2_risesWithout_4 : decode cX2_risesWithout 4 = .ok (.iload_n 3, 1) := by decide +kernel
theorem dX2_risesWithout_5 : decode cX2_risesWithout 5 = .ok (.aload_n 0, 1) := by decide +kernel
theorem dX2_risesWithout_6 : decode cX2_risesWithout 6 = .ok (.getfield 21, 3) := by decide +kernel
theorem dX2_risesWithout_9 : decode cX2_risesWithout 9 = .ok (.if_icmp .ge 41, 3) := by decide +kernel
theorem dX2_risesWithout_12 : decode cX2_risesWithout 12 = .ok (.iload_n 1, 1) := by decide +kernel
theorem dX2_risesWithout_13 : decode cX2_risesWithout 13 = .ok (.aload_n 0, 1) := by decide +kernel
theorem dX2_risesWithout_14 : decode cX2_risesWithout 14 = .ok (.getfield 9, 3) := by decide +kernel
theorem dX2_risesWithout_17 : decode cX2_risesWithout 17 = .ok (.iload_n 3, 1) := by decide +kernel
theorem dX2_risesWithout_18 : decode cX2_risesWithout 18 = .ok (.iaload, 1) := by decide +kernel
theorem dX2_risesWithout_19 : decode cX2_risesWithout 19 = .ok (.invokestatic 54, 3) := by decide +kernel
theorem dX2_risesWithout_22 : decode cX2_risesWithout 22 = .ok (.ifCond .ne 22, 3) := by decide +kernel
theorem dX2_risesWithout_25 : decode cX2_risesWithout 25 = .ok (.aload_n 0, 1) := by decide +kernel
theorem dX2_risesWithout_26 : decode cX2_risesWithout 26 = .ok (.getfield 9, 3) := by decide +kernel
theorem dX2_risesWithout_29 : decode cX2_risesWithout 29 = .ok (.iload_n 3, 1) := by decide +kernel
theorem dX2_risesWithout_30 : decode cX2_risesWithout 30 = .ok (.iaload, 1) := by decide +kernel
theorem dX2_risesWithout_31 : decode cX2_risesWithout 31 = .ok (.iload_n 2, 1) := by decide +kernel
theorem dX2_risesWithout_32 : decode cX2_risesWithout 32 = .ok (.if_icmp .ge 5, 3) := by decide +kernel
theorem dX2_risesWithout_35 : decode cX2_risesWithout 35 = .ok (.iconst 0, 1) := by decide +kernel
theorem dX2_risesWithout_36 : decode cX2_risesWithout 36 = .ok (.ireturn, 1) := by decide +kernel
theorem dX2_risesWithout_37 : decode cX2_risesWithout 37 = .ok (.aload_n 0, 1) := by decide +kernel
theorem dX2_risesWithout_38 : decode cX2_risesWithout 38 = .ok (.getfield 9, 3) := by decide +kernel
theorem dX2_risesWithout_41 : decode cX2_risesWithout 41 = .ok (.iload_n 3, 1) := by decide +kernel
theorem dX2_risesWithout_42 : decode cX2_risesWithout 42 = .ok (.iaload, 1) := by decide +kernel
theorem dX2_risesWithout_43 : decode cX2_risesWithout 43 = .ok (.istore_n 2, 1) := by decide +kernel
theorem dX2_risesWithout_44 : decode cX2_risesWithout 44 = .ok (.iinc 3 1, 3) := by decide +kernel
theorem dX2_risesWithout_47 : decode cX2_risesWithout 47 = .ok (.goto (-43), 3) := by decide +kernel
theorem dX2_risesWithout_50 : decode cX2_risesWithout 50 = .ok (.iconst 1, 1) := by decide +kernel
theorem dX2_risesWithout_51 : decode cX2_risesWithout 51 = .ok (.ireturn, 1) := by decide +kernel
theorem dX2_pullAt_0 : decode cX2_pullAt 0 = .ok (.iload_n 2, 1) := by decide +kernel
theorem dX2_pullAt_1 : decode cX2_pullAt 1 = .ok (.istore 4, 2) := by decide +kernel
theorem dX2_pullAt_3 : decode cX2_pullAt 3 = .ok (.iconst 0, 1) := by decide +kernel
theorem dX2_pullAt_4 : decode cX2_pullAt 4 = .ok (.istore 5, 2) := by decide +kernel
theorem dX2_pullAt_6 : decode cX2_pullAt 6 = .ok (.iload 5, 2) := by decide +kernel
theorem dX2_pullAt_8 : decode cX2_pullAt 8 = .ok (.aload_n 0, 1) := by decide +kernel
theorem dX2_pullAt_9 : decode cX2_pullAt 9 = .ok (.getfield 21, 3) := by decide +kernel
theorem dX2_pullAt_12 : decode cX2_pullAt 12 = .ok (.if_icmp .ge 60, 3) := by decide +kernel
theorem dX2_pullAt_15 : decode cX2_pullAt 15 = .ok (.iload 5, 2) := by decide +kernel
theorem dX2_pullAt_17 : decode cX2_pullAt 17 = .ok (.iload_n 3, 1) := by decide +kernel
theorem dX2_pullAt_18 : decode cX2_pullAt 18 = .ok (.if_icmp .ge 54, 3) := by decide +kernel
theorem dX2_pullAt_21 : decode cX2_pullAt 21 = .ok (.aload_n 0, 1) := by decide +kernel
theorem dX2_pullAt_22 : decode cX2_pullAt 22 = .ok (.getfield 9, 3) := by decide +kernel
theorem dX2_pullAt_25 : decode cX2_pullAt 25 = .ok (.iload 5, 2) := by decide +kernel
theorem dX2_pullAt_27 : decode cX2_pullAt 27 = .ok (.iaload, 1) := by decide +kernel
theorem dX2_pullAt_28 : decode cX2_pullAt 28 = .ok (.istore 6, 2) := by decide +kernel
theorem dX2_pullAt_30 : decode cX2_pullAt 30 = .ok (.iload 4, 2) := by decide +kernel
theorem dX2_pullAt_32 : decode cX2_pullAt 32 = .ok (.aload_n 0, 1) := by decide +kernel
theorem dX2_pullAt_33 : decode cX2_pullAt 33 = .ok (.getfield 25, 3) := by decide +kernel
theorem dX2_pullAt_36 : decode cX2_pullAt 36 = .ok (.iload 6, 2) := by decide +kernel
theorem dX2_pullAt_38 : decode cX2_pullAt 38 = .ok (.invokestatic 54, 3) := by decide +kernel
theorem dX2_pullAt_41 : decode cX2_pullAt 41 = .ok (.ifCond .eq 15, 3) := by decide +kernel
theorem dX2_pullAt_44 : decode cX2_pullAt 44 = .ok (.iconst 2, 1) := by decide +kernel
theorem dX2_pullAt_45 : decode cX2_pullAt 45 = .ok (.aload_n 1, 1) := by decide +kernel
theorem dX2_pullAt_46 : decode cX2_pullAt 46 = .ok (.getfield 65, 3) := by decide +kernel
theorem dX2_pullAt_49 : decode cX2_pullAt 49 = .ok (.iload 6, 2) := by decide +kernel
theorem dX2_pullAt_51 : decode cX2_pullAt 51 = .ok (.iaload, 1) := by decide +kernel
theorem dX2_pullAt_52 : decode cX2_pullAt 52 = .ok (.imul, 1) := by decide +kernel
theorem dX2_pullAt_53 : decode cX2_pullAt 53 = .ok (.goto 10, 3) := by decide +kernel
theorem dX2_pullAt_56 : decode cX2_pullAt 56 = .ok (.aload_n 1, 1) := by decide +kernel
theorem dX2_pullAt_57 : decode cX2_pullAt 57 = .ok (.getfield 65, 3) := by decide +kernel
theorem dX2_pullAt_60 : decode cX2_pullAt 60 = .ok (.iload 6, 2) := by decide +kernel
theorem dX2_pullAt_62 : decode cX2_pullAt 62 = .ok (.iaload, 1) := by decide +kernel
theorem dX2_pullAt_63 : decode cX2_pullAt 63 = .ok (.isub, 1) := by decide +kernel
theorem dX2_pullAt_64 : decode cX2_pullAt 64 = .ok (.istore 4, 2) := by decide +kernel
theorem dX2_pullAt_66 : decode cX2_pullAt 66 = .ok (.iinc 5 1, 3) := by decide +kernel
theorem dX2_pullAt_69 : decode cX2_pullAt 69 = .ok (.goto (-63), 3) := by decide +kernel
theorem dX2_pullAt_72 : decode cX2_pullAt 72 = .ok (.iconst 0, 1) := by decide +kernel
theorem dX2_pullAt_73 : decode cX2_pullAt 73 = .ok (.iload 4, 2) := by decide +kernel
theorem dX2_pullAt_75 : decode cX2_pullAt 75 = .ok (.invokestatic 103, 3) := by decide +kernel
theorem dX2_pullAt_78 : decode cX2_pullAt 78 = .ok (.ireturn, 1) := by decide +kernel
theorem dX3_init_0 : decode cX3_init 0 = .ok (.aload_n 0, 1) := by decide +kernel
theorem dX3_init_1 : decode cX3_init 1 = .ok (.invokespecial 3, 3) := by decide +kernel
theorem dX3_init_4 : decode cX3_init 4 = .ok (.aload_n 0, 1) := by decide +kernel
theorem dX3_init_5 : decode cX3_init 5 = .ok (.bipush 6, 2) := by decide +kernel
theorem dX3_init_7 : decode cX3_init 7 = .ok (.newarray .int, 2) := by decide +kernel
theorem dX3_init_9 : decode cX3_init 9 = .ok (.putfield 9, 3) := by decide +kernel
theorem dX3_init_12 : decode cX3_init 12 = .ok (.aload_n 0, 1) := by decide +kernel
theorem dX3_init_13 : decode cX3_init 13 = .ok (.bipush 6, 2) := by decide +kernel
theorem dX3_init_15 : decode cX3_init 15 = .ok (.newarray .boolean, 2) := by decide +kernel
theorem dX3_init_17 : decode cX3_init 17 = .ok (.putfield 15, 3) := by decide +kernel
theorem dX3_init_20 : decode cX3_init 20 = .ok (.aload_n 0, 1) := by decide +kernel
theorem dX3_init_21 : decode cX3_init 21 = .ok (.iconst 0, 1) := by decide +kernel
theorem dX3_init_22 : decode cX3_init 22 = .ok (.putfield 19, 3) := by decide +kernel
theorem dX3_init_25 : decode cX3_init 25 = .ok (.return_, 1) := by decide +kernel
theorem dX3_add_0 : decode cX3_add 0 = .ok (.aload_n 0, 1) := by decide +kernel
theorem dX3_add_1 : decode cX3_add 1 = .ok (.getfield 19, 3) := by decide +kernel
theorem dX3_add_4 : decode cX3_add 4 = .ok (.bipush 6, 2) := by decide +kernel
theorem dX3_add_6 : decode cX3_add 6 = .ok (.if_icmp .ge 33, 3) := by decide +kernel
theorem dX3_add_9 : decode cX3_add 9 = .ok (.aload_n 0, 1) := by decide +kernel
theorem dX3_add_10 : decode cX3_add 10 = .ok (.getfield 9, 3) := by decide +kernel
theorem dX3_add_13 : decode cX3_add 13 = .ok (.aload_n 0, 1) := by decide +kernel
theorem dX3_add_14 : decode cX3_add 14 = .ok (.getfield 19, 3) := by decide +kernel
theorem dX3_add_17 : decode cX3_add 17 = .ok (.iload_n 1, 1) := by decide +kernel
theorem dX3_add_18 : decode cX3_add 18 = .ok (.iastore, 1) := by decide +kernel
theorem dX3_add_19 : decode cX3_add 19 = .ok (.aload_n 0, 1) := by decide +kernel
theorem dX3_add_20 : decode cX3_add 20 = .ok (.getfield 15, 3) := by decide +kernel
theorem dX3_add_23 : decode cX3_add 23 = .ok (.aload_n 0, 1) := by decide +kernel
theorem dX3_add_24 : decode cX3_add 24 = .ok (.getfield 19, 3) := by decide +kernel
theorem dX3_add_27 : decode cX3_add 27 = .ok (.iload_n 2, 1) := by decide +kernel
theorem dX3_add_28 : decode cX3_add 28 = .ok (.bastore, 1) := by decide +kernel
theorem dX3_add_29 : decode cX3_add 29 = .ok (.aload_n 0, 1) := by decide +kernel
theorem dX3_add_30 : decode cX3_add 30 = .ok (.dup, 1) := by decide +kernel
theorem dX3_add_31 : decode cX3_add 31 = .ok (.getfield 19, 3) := by decide +kernel
theorem dX3_add_34 : decode cX3_add 34 = .ok (.iconst 1, 1) := by decide +kernel
theorem dX3_add_35 : decode cX3_add 35 = .ok (.iadd, 1) := by decide +kernel
theorem dX3_add_36 : decode cX3_add 36 = .ok (.putfield 19, 3) := by decide +kernel
theorem dX3_add_39 : decode cX3_add 39 = .ok (.return_, 1) := by decide +kernel
theorem dX3_fitting_0 : decode cX3_fitting 0 = .ok (.iload_n 2, 1) := by decide +kernel
theorem dX3_fitting_1 : decode cX3_fitting 1 = .ok (.istore_n 3, 1) := by decide +kernel
theorem dX3_fitting_2 : decode cX3_fitting 2 = .ok (.iconst 0, 1) := by decide +kernel
theorem dX3_fitting_3 : decode cX3_fitting 3 = .ok (.istore 4, 2) := by decide +kernel
theorem dX3_fitting_5 : decode cX3_fitting 5 = .ok (.iload 4, 2) := by decide +kernel
theorem dX3_fitting_7 : decode cX3_fitting 7 = .ok (.aload_n 0, 1) := by decide +kernel
theorem dX3_fitting_8 : decode cX3_fitting 8 = .ok (.getfield 19, 3) := by decide +kernel
theorem dX3_fitting_11 : decode cX3_fitting 11 = .ok (.if_icmp .ge 45, 3) := by decide +kernel
theorem dX3_fitting_14 : decode cX3_fitting 14 = .ok (.aload_n 1, 1) := by decide +kernel
theorem dX3_fitting_15 : decode cX3_fitting 15 = .ok (.iload_n 3, 1) := by decide +kernel
theorem dX3_fitting_16 : decode cX3_fitting 16 = .ok (.aload_n 0, 1) := by decide +kernel
theorem dX3_fitting_17 : decode cX3_fitting 17 = .ok (.getfield 9, 3) := by decide +kernel
theorem dX3_fitting_20 : decode cX3_fitting 20 = .ok (.iload 4, 2) := by decide +kernel
theorem dX3_fitting_22 : decode cX3_fitting 22 = .ok (.iaload, 1) := by decide +kernel
theorem dX3_fitting_23 : decode cX3_fitting 23 = .ok (.invokestatic 23, 3) := by decide +kernel
theorem dX3_fitting_26 : decode cX3_fitting 26 = .ok (.istore 5, 2) := by decide +kernel
theorem dX3_fitting_28 : decode cX3_fitting 28 = .ok (.aload_n 0, 1) := by decide +kernel
theorem dX3_fitting_29 : decode cX3_fitting 29 = .ok (.getfield 15, 3) := by decide +kernel
theorem dX3_fitting_32 : decode cX3_fitting 32 = .ok (.iload 4, 2) := by decide +kernel
theorem dX3_fitting_34 : decode cX3_fitting 34 = .ok (.baload, 1) := by decide +kernel
theorem dX3_fitting_35 : decode cX3_fitting 35 = .ok (.ifCond .eq 8, 3) := by decide +kernel
theorem dX3_fitting_38 : decode cX3_fitting 38 = .ok (.iload 5, 2) := by decide +kernel
theorem dX3_fitting_40 : decode cX3_fitting 40 = .ok (.goto 9, 3) := by decide +kernel
theorem dX3_fitting_43 : decode cX3_fitting 43 = .ok (.iload_n 3, 1) := by decide +kernel
theorem dX3_fitting_44 : decode cX3_fitting 44 = .ok (.iload 5, 2) := by decide +kernel
theorem dX3_fitting_46 : decode cX3_fitting 46 = .ok (.iconst (-1), 1) := by decide +kernel
theorem dX3_fitting_47 : decode cX3_fitting 47 = .ok (.ixor, 1) := by decide +kernel
theorem dX3_fitting_48 : decode cX3_fitting 48 = .ok (.iand, 1) := by decide +kernel
theorem dX3_fitting_49 : decode cX3_fitting 49 = .ok (.istore_n 3, 1) := by decide +kernel
theorem dX3_fitting_50 : decode cX3_fitting 50 = .ok (.iinc 4 1, 3) := by decide +kernel
theorem dX3_fitting_53 : decode cX3_fitting 53 = .ok (.goto (-48), 3) := by decide +kernel
theorem dX3_fitting_56 : decode cX3_fitting 56 = .ok (.iload_n 3, 1) := by decide +kernel
theorem dX3_fitting_57 : decode cX3_fitting 57 = .ok (.ireturn, 1) := by decide +kernel
theorem dX3_bestLook_0 : decode cX3_bestLook 0 = .ok (.iload_n 2, 1) := by decide +kernel
theorem dX3_bestLook_1 : decode cX3_bestLook 1 = .ok (.invokestatic 27, 3) := by decide +kernel
theorem dX3_bestLook_4 : decode cX3_bestLook 4 = .ok (.istore_n 3, 1) := by decide +kernel
theorem dX3_bestLook_5 : decode cX3_bestLook 5 = .ok (.iconst (-1), 1) := by decide +kernel
theorem dX3_bestLook_6 : decode cX3_bestLook 6 = .ok (.istore 4, 2) := by decide +kernel
theorem dX3_bestLook_8 : decode cX3_bestLook 8 = .ok (.iload_n 3, 1) := by decide +kernel
theorem dX3_bestLook_9 : decode cX3_bestLook 9 = .ok (.istore 5, 2) := by decide +kernel
theorem dX3_bestLook_11 : decode cX3_bestLook 11 = .ok (.iconst 0, 1) := by decide +kernel
theorem dX3_bestLook_12 : decode cX3_bestLook 12 = .ok (.istore 6, 2) := by decide +kernel
theorem dX3_bestLook_14 : decode cX3_bestLook 14 = .ok (.iload 6, 2) := by decide +kernel
theorem dX3_bestLook_16 : decode cX3_bestLook 16 = .ok (.bipush 19, 2) := by decide +kernel
theorem dX3_bestLook_18 : decode cX3_bestLook 18 = .ok (.if_icmp .gt 47, 3) := by decide +kernel
theorem dX3_bestLook_21 : decode cX3_bestLook 21 = .ok (.aload_n 1, 1) := by decide +kernel
theorem dX3_bestLook_22 : decode cX3_bestLook 22 = .ok (.iload_n 2, 1) := by decide +kernel
theorem dX3_bestLook_23 : decode cX3_bestLook 23 = .ok (.iload 6, 2) := by decide +kernel
theorem dX3_bestLook_25 : decode cX3_bestLook 25 = .ok (.invokestatic 23, 3) := by decide +kernel
theorem dX3_bestLook_28 : decode cX3_bestLook 28 = .ok (.invokestatic 27, 3) := by decide +kernel
theorem dX3_bestLook_31 : decode cX3_bestLook 31 = .ok (.istore 7, 2) := by decide +kernel
theorem dX3_bestLook_33 : decode cX3_bestLook 33 = .ok (.iload 7, 2) := by decide +kernel
theorem dX3_bestLook_35 : decode cX3_bestLook 35 = .ok (.iload_n 3, 1) := by decide +kernel
theorem dX3_bestLook_36 : decode cX3_bestLook 36 = .ok (.iload 7, 2) := by decide +kernel
theorem dX3_bestLook_38 : decode cX3_bestLook 38 = .ok (.isub, 1) := by decide +kernel
theorem dX3_bestLook_39 : decode cX3_bestLook 39 = .ok (.invokestatic 33, 3) := by decide +kernel
theorem dX3_bestLook_42 : decode cX3_bestLook 42 = .ok (.istore 8, 2) := by decide +kernel
theorem dX3_bestLook_44 : decode cX3_bestLook 44 = .ok (.iload 8, 2) := by decide +kernel
theorem dX3_bestLook_46 : decode cX3_bestLook 46 = .ok (.iload 5, 2) := by decide +kernel
theorem dX3_bestLook_48 : decode cX3_bestLook 48 = .ok (.if_icmp .ge 11, 3) := by decide +kernel
theorem dX3_bestLook_51 : decode cX3_bestLook 51 = .ok (.iload 8, 2) := by decide +kernel
theorem dX3_bestLook_53 : decode cX3_bestLook 53 = .ok (.istore 5, 2) := by decide +kernel
theorem dX3_bestLook_55 : decode cX3_bestLook 55 = .ok (.iload 6, 2) := by decide +kernel
theorem dX3_bestLook_57 : decode cX3_bestLook 57 = .ok (.istore 4, 2) := by decide +kernel
theorem dX3_bestLook_59 : decode cX3_bestLook 59 = .ok (.iinc 6 1, 3) := by decide +kernel
theorem dX3_bestLook_62 : decode cX3_bestLook 62 = .ok (.goto (-48), 3) := by decide +kernel
theorem dX3_bestLook_65 : decode cX3_bestLook 65 = .ok (.iload 4, 2) := by decide +kernel
theorem dX3_bestLook_67 : decode cX3_bestLook 67 = .ok (.ireturn, 1) := by decide +kernel
theorem dX3_answering_0 : decode cX3_answering 0 = .ok (.iconst 0, 1) := by decide +kernel
theorem dX3_answering_1 : decode cX3_answering 1 = .ok (.istore_n 3, 1) := by decide +kernel
theorem dX3_answering_2 : decode cX3_answering 2 = .ok (.iconst 0, 1) := by decide +kernel
theorem dX3_answering_3 : decode cX3_answering 3 = .ok (.istore 4, 2) := by decide +kernel
theorem dX3_answering_5 : decode cX3_answering 5 = .ok (.iload 4, 2) := by decide +kernel
theorem dX3_answering_7 : decode cX3_answering 7 = .ok (.aload_n 0, 1) := by decide +kernel
theorem dX3_answering_8 : decode cX3_answering 8 = .ok (.getfield 39, 3) := by decide +kernel
theorem dX3_answering_11 : decode cX3_answering 11 = .ok (.if_icmp .ge 62, 3) := by decide +kernel
theorem dX3_answering_14 : decode cX3_answering 14 = .ok (.aload_n 0, 1) := by decide +kernel
theorem dX3_answering_15 : decode cX3_answering 15 = .ok (.getfield 44, 3) := by decide +kernel
theorem dX3_answering_18 : decode cX3_answering 18 = .ok (.iload 4, 2) := by decide +kernel
theorem dX3_answering_20 : decode cX3_answering 20 = .ok (.iaload, 1) := by decide +kernel
theorem dX3_answering_21 : decode cX3_answering 21 = .ok (.iload_n 2, 1) := by decide +kernel
theorem dX3_answering_22 : decode cX3_answering 22 = .ok (.if_icmp .eq 17, 3) := by decide +kernel
theorem dX3_answering_25 : decode cX3_answering 25 = .ok (.aload_n 0, 1) := by decide +kernel
theorem dX3_answering_26 : decode cX3_answering 26 = .ok (.getfield 47, 3) := by decide +kernel
theorem dX3_answering_29 : decode cX3_answering 29 = .ok (.iload 4, 2) := by decide +kernel
theorem dX3_answering_31 : decode cX3_answering 31 = .ok (.iaload, 1) := by decide +kernel
theorem dX3_answering_32 : decode cX3_answering 32 = .ok (.bipush 10, 2) := by decide +kernel
theorem dX3_answering_34 : decode cX3_answering 34 = .ok (.iadd, 1) := by decide +kernel
theorem dX3_answering_35 : decode cX3_answering 35 = .ok (.iload_n 2, 1) := by decide +kernel
theorem dX3_answering_36 : decode cX3_answering 36 = .ok (.if_icmp .ne 7, 3) := by decide +kernel
theorem dX3_answering_39 : decode cX3_answering 39 = .ok (.iconst 1, 1) := by decide +kernel
theorem dX3_answering_40 : decode cX3_answering 40 = .ok (.goto 4, 3) := by decide +kernel
theorem dX3_answering_43 : decode cX3_answering 43 = .ok (.iconst 0, 1) := by decide +kernel
theorem dX3_answering_44 : decode cX3_answering 44 = .ok (.istore 5, 2) := by decide +kernel
theorem dX3_answering_46 : decode cX3_answering 46 = .ok (.iload 5, 2) := by decide +kernel
theorem dX3_answering_48 : decode cX3_answering 48 = .ok (.ifCond .eq 19, 3) := by decide +kernel
theorem dX3_answering_51 : decode cX3_answering 51 = .ok (.iload_n 1, 1) := by decide +kernel
theorem dX3_answering_52 : decode cX3_answering 52 = .ok (.iload 4, 2) := by decide +kernel
theorem dX3_answering_54 : decode cX3_answering 54 = .ok (.invokestatic 50, 3) := by decide +kernel
theorem dX3_answering_57 : decode cX3_answering 57 = .ok (.ifCond .eq 10, 3) := by decide +kernel
theorem dX3_answering_60 : decode cX3_answering 60 = .ok (.iload_n 3, 1) := by decide +kernel
theorem dX3_answering_61 : decode cX3_answering 61 = .ok (.iconst 1, 1) := by decide +kernel
theorem dX3_answering_62 : decode cX3_answering 62 = .ok (.iload 4, 2) := by decide +kernel
theorem dX3_answering_64 : decode cX3_answering 64 = .ok (.ishl, 1) := by decide +kernel
theorem dX3_answering_65 : decode cX3_answering 65 = .ok (.ior, 1) := by decide +kernel
theorem dX3_answering_66 : decode cX3_answering 66 = .ok (.istore_n 3, 1) := by decide +kernel
theorem dX3_answering_67 : decode cX3_answering 67 = .ok (.iinc 4 1, 3) := by decide +kernel
theorem dX3_answering_70 : decode cX3_answering 70 = .ok (.goto (-65), 3) := by decide +kernel
theorem dX3_answering_73 : decode cX3_answering 73 = .ok (.iload_n 3, 1) := by decide +kernel
theorem dX3_answering_74 : decode cX3_answering 74 = .ok (.ireturn, 1) := by decide +kernel
theorem dX4_init_0 : decode cX4_init 0 = .ok (.aload_n 0, 1) := by decide +kernel
theorem dX4_init_1 : decode cX4_init 1 = .ok (.invokespecial 3, 3) := by decide +kernel
theorem dX4_init_4 : decode cX4_init 4 = .ok (.aload_n 0, 1) := by decide +kernel
theorem dX4_init_5 : decode cX4_init 5 = .ok (.bipush 30, 2) := by decide +kernel
theorem dX4_init_7 : decode cX4_init 7 = .ok (.anewarray 9, 3) := by decide +kernel
theorem dX4_init_10 : decode cX4_init 10 = .ok (.putfield 11, 3) := by decide +kernel
theorem dX4_init_13 : decode cX4_init 13 = .ok (.aload_n 0, 1) := by decide +kernel
theorem dX4_init_14 : decode cX4_init 14 = .ok (.iconst 0, 1) := by decide +kernel
theorem dX4_init_15 : decode cX4_init 15 = .ok (.putfield 17, 3) := by decide +kernel
theorem dX4_init_18 : decode cX4_init 18 = .ok (.aload_n 0, 1) := by decide +kernel
theorem dX4_init_19 : decode cX4_init 19 = .ok (.iconst 0, 1) := by decide +kernel
theorem dX4_init_20 : decode cX4_init 20 = .ok (.putfield 21, 3) := by decide +kernel
theorem dX4_init_23 : decode cX4_init 23 = .ok (.iconst 0, 1) := by decide +kernel
theorem dX4_init_24 : decode cX4_init 24 = .ok (.istore_n 1, 1) := by decide +kernel
theorem dX4_init_25 : decode cX4_init 25 = .ok (.iload_n 1, 1) := by decide +kernel
theorem dX4_init_26 : decode cX4_init 26 = .ok (.bipush 30, 2) := by decide +kernel
theorem dX4_init_28 : decode cX4_init 28 = .ok (.if_icmp .ge 22, 3) := by decide +kernel
theorem dX4_init_31 : decode cX4_init 31 = .ok (.aload_n 0, 1) := by decide +kernel
theorem dX4_init_32 : decode cX4_init 32 = .ok (.getfield 11, 3) := by decide +kernel
theorem dX4_init_35 : decode cX4_init 35 = .ok (.iload_n 1, 1) := by decide +kernel
theorem dX4_init_36 : decode cX4_init 36 = .ok (.new 9, 3) := by decide +kernel
theorem dX4_init_39 : decode cX4_init 39 = .ok (.dup, 1) := by decide +kernel
theorem dX4_init_40 : decode cX4_init 40 = .ok (.invokespecial 24, 3) := by decide +kernel
theorem dX4_init_43 : decode cX4_init 43 = .ok (.aastore, 1) := by decide +kernel
theorem dX4_init_44 : decode cX4_init 44 = .ok (.iinc 1 1, 3) := by decide +kernel
theorem dX4_init_47 : decode cX4_init 47 = .ok (.goto (-22), 3) := by decide +kernel
theorem dX4_init_50 : decode cX4_init 50 = .ok (.return_, 1) := by decide +kernel
theorem dX4_forget_0 : decode cX4_forget 0 = .ok (.aload_n 0, 1) := by decide +kernel
theorem dX4_forget_1 : decode cX4_forget 1 = .ok (.iconst 0, 1) := by decide +kernel
theorem dX4_forget_2 : decode cX4_forget 2 = .ok (.putfield 21, 3) := by decide +kernel
theorem dX4_forget_5 : decode cX4_forget 5 = .ok (.return_, 1) := by decide +kernel
theorem dX4_remember_0 : decode cX4_remember 0 = .ok (.aload_n 0, 1) := by decide +kernel
theorem dX4_remember_1 : decode cX4_remember 1 = .ok (.getfield 11, 3) := by decide +kernel
theorem dX4_remember_4 : decode cX4_remember 4 = .ok (.aload_n 0, 1) := by decide +kernel
theorem dX4_remember_5 : decode cX4_remember 5 = .ok (.getfield 17, 3) := by decide +kernel
theorem dX4_remember_8 : decode cX4_remember 8 = .ok (.aaload, 1) := by decide +kernel
theorem dX4_remember_9 : decode cX4_remember 9 = .ok (.aload_n 1, 1) := by decide +kernel
theorem dX4_remember_10 : decode cX4_remember 10 = .ok (.invokevirtual 25, 3) := by decide +kernel
theorem dX4_remember_13 : decode cX4_remember 13 = .ok (.aload_n 0, 1) := by decide +kernel
theorem dX4_remember_14 : decode cX4_remember 14 = .ok (.aload_n 0, 1) := by decide +kernel
theorem dX4_remember_15 : decode cX4_remember 15 = .ok (.getfield 17, 3) := by decide +kernel
theorem dX4_remember_18 : decode cX4_remember 18 = .ok (.iconst 1, 1) := by decide +kernel
theorem dX4_remember_19 : decode cX4_remember 19 = .ok (.iadd, 1) := by decide +kernel
theorem dX4_remember_20 : decode cX4_remember 20 = .ok (.bipush 30, 2) := by decide +kernel
theorem dX4_remember_22 : decode cX4_remember 22 = .ok (.irem, 1) := by decide +kernel
theorem dX4_remember_23 : decode cX4_remember 23 = .ok (.putfield 17, 3) := by decide +kernel
theorem dX4_remember_26 : decode cX4_remember 26 = .ok (.aload_n 0, 1) := by decide +kernel
theorem dX4_remember_27 : decode cX4_remember 27 = .ok (.aload_n 0, 1) := by decide +kernel
theorem dX4_remember_28 : decode cX4_remember 28 = .ok (.getfield 21, 3) := by decide +kernel
theorem dX4_remember_31 : decode cX4_remember 31 = .ok (.iconst 1, 1) := by decide +kernel
theorem dX4_remember_32 : decode cX4_remember 32 = .ok (.iadd, 1) := by decide +kernel
theorem dX4_remember_33 : decode cX4_remember 33 = .ok (.bipush 30, 2) := by decide +kernel
theorem dX4_remember_35 : decode cX4_remember 35 = .ok (.invokestatic 29, 3) := by decide +kernel
theorem dX4_remember_38 : decode cX4_remember 38 = .ok (.putfield 21, 3) := by decide +kernel
theorem dX4_remember_41 : decode cX4_remember 41 = .ok (.return_, 1) := by decide +kernel
theorem dX4_bringBack_0 : decode cX4_bringBack 0 = .ok (.aload_n 0, 1) := by decide +kernel
theorem dX4_bringBack_1 : decode cX4_bringBack 1 = .ok (.aload_n 0, 1) := by decide +kernel
theorem dX4_bringBack_2 : decode cX4_bringBack 2 = .ok (.getfield 17, 3) := by decide +kernel
theorem dX4_bringBack_5 : decode cX4_bringBack 5 = .ok (.iload_n 1, 1) := by decide +kernel
theorem dX4_bringBack_6 : decode cX4_bringBack 6 = .ok (.isub, 1) := by decide +kernel
theorem dX4_bringBack_7 : decode cX4_bringBack 7 = .ok (.bipush 30, 2) := by decide +kernel
theorem dX4_bringBack_9 : decode cX4_bringBack 9 = .ok (.invokestatic 35, 3) := by decide +kernel
theorem dX4_bringBack_12 : decode cX4_bringBack 12 = .ok (.putfield 17, 3) := by decide +kernel
theorem dX4_bringBack_15 : decode cX4_bringBack 15 = .ok (.aload_n 0, 1) := by decide +kernel
theorem dX4_bringBack_16 : decode cX4_bringBack 16 = .ok (.dup, 1) := by decide +kernel
theorem dX4_bringBack_17 : decode cX4_bringBack 17 = .ok (.getfield 21, 3) := by decide +kernel
theorem dX4_bringBack_20 : decode cX4_bringBack 20 = .ok (.iload_n 1, 1) := by decide +kernel
theorem dX4_bringBack_21 : decode cX4_bringBack 21 = .ok (.isub, 1) := by decide +kernel
theorem dX4_bringBack_22 : decode cX4_bringBack 22 = .ok (.putfield 21, 3) := by decide +kernel
theorem dX4_bringBack_25 : decode cX4_bringBack 25 = .ok (.aload_n 2, 1) := by decide +kernel
theorem dX4_bringBack_26 : decode cX4_bringBack 26 = .ok (.aload_n 0, 1) := by decide +kernel
theorem dX4_bringBack_27 : decode cX4_bringBack 27 = .ok (.getfield 11, 3) := by decide +kernel
theorem dX4_bringBack_30 : decode cX4_bringBack 30 = .ok (.aload_n 0, 1) := by decide +kernel
theorem dX4_bringBack_31 : decode cX4_bringBack 31 = .ok (.getfield 17, 3) := by decide +kernel
theorem dX4_bringBack_34 : decode cX4_bringBack 34 = .ok (.aaload, 1) := by decide +kernel
theorem dX4_bringBack_35 : decode cX4_bringBack 35 = .ok (.invokevirtual 25, 3) := by decide +kernel
theorem dX4_bringBack_38 : decode cX4_bringBack 38 = .ok (.return_, 1) := by decide +kernel
theorem dX5_init_0 : decode cX5_init 0 = .ok (.aload_n 0, 1) := by decide +kernel
theorem dX5_init_1 : decode cX5_init 1 = .ok (.invokespecial 3, 3) := by decide +kernel
theorem dX5_init_4 : decode cX5_init 4 = .ok (.aload_n 0, 1) := by decide +kernel
theorem dX5_init_5 : decode cX5_init 5 = .ok (.bipush 7, 2) := by decide +kernel
theorem dX5_init_7 : decode cX5_init 7 = .ok (.newarray .int, 2) := by decide +kernel
theorem dX5_init_9 : decode cX5_init 9 = .ok (.putfield 9, 3) := by decide +kernel
theorem dX5_init_12 : decode cX5_init 12 = .ok (.aload_n 0, 1) := by decide +kernel
theorem dX5_init_13 : decode cX5_init 13 = .ok (.bipush 7, 2) := by decide +kernel
theorem dX5_init_15 : decode cX5_init 15 = .ok (.newarray .int, 2) := by decide +kernel
theorem dX5_init_17 : decode cX5_init 17 = .ok (.putfield 15, 3) := by decide +kernel
theorem dX5_init_20 : decode cX5_init 20 = .ok (.aload_n 0, 1) := by decide +kernel
theorem dX5_init_21 : decode cX5_init 21 = .ok (.bipush 24, 2) := by decide +kernel
theorem dX5_init_23 : decode cX5_init 23 = .ok (.newarray .int, 2) := by decide +kernel
theorem dX5_init_25 : decode cX5_init 25 = .ok (.putfield 18, 3) := by decide +kernel
theorem dX5_init_28 : decode cX5_init 28 = .ok (.aload_n 0, 1) := by decide +kernel
theorem dX5_init_29 : decode cX5_init 29 = .ok (.bipush 6, 2) := by decide +kernel
theorem dX5_init_31 : decode cX5_init 31 = .ok (.newarray .int, 2) := by decide +kernel
theorem dX5_init_33 : decode cX5_init 33 = .ok (.putfield 21, 3) := by decide +kernel
theorem dX5_init_36 : decode cX5_init 36 = .ok (.aload_n 0, 1) := by decide +kernel
theorem dX5_init_37 : decode cX5_init 37 = .ok (.iconst 5, 1) := by decide +kernel
theorem dX5_init_38 : decode cX5_init 38 = .ok (.newarray .int, 2) := by decide +kernel
theorem dX5_init_40 : decode cX5_init 40 = .ok (.putfield 24, 3) := by decide +kernel
theorem dX5_init_43 : decode cX5_init 43 = .ok (.aload_n 0, 1) := by decide +kernel
theorem dX5_init_44 : decode cX5_init 44 = .ok (.iconst 5, 1) := by decide +kernel
theorem dX5_init_45 : decode cX5_init 45 = .ok (.newarray .int, 2) := by decide +kernel
theorem dX5_init_47 : decode cX5_init 47 = .ok (.putfield 27, 3) := by decide +kernel
theorem dX5_init_50 : decode cX5_init 50 = .ok (.aload_n 0, 1) := by decide +kernel
theorem dX5_init_51 : decode cX5_init 51 = .ok (.iconst 0, 1) := by decide +kernel
theorem dX5_init_52 : decode cX5_init 52 = .ok (.putfield 30, 3) := by decide +kernel
theorem dX5_init_55 : decode cX5_init 55 = .ok (.aload_n 0, 1) := by decide +kernel
theorem dX5_init_56 : decode cX5_init 56 = .ok (.iconst 0, 1) := by decide +kernel
theorem dX5_init_57 : decode cX5_init 57 = .ok (.putfield 34, 3) := by decide +kernel
theorem dX5_init_60 : decode cX5_init 60 = .ok (.aload_n 0, 1) := by decide +kernel
theorem dX5_init_61 : decode cX5_init 61 = .ok (.iconst 0, 1) := by decide +kernel
theorem dX5_init_62 : decode cX5_init 62 = .ok (.putfield 38, 3) := by decide +kernel
theorem dX5_init_65 : decode cX5_init 65 = .ok (.aload_n 0, 1) := by decide +kernel
theorem dX5_init_66 : decode cX5_init 66 = .ok (.iconst 0, 1) := by decide +kernel
theorem dX5_init_67 : decode cX5_init 67 = .ok (.putfield 41, 3) := by decide +kernel
theorem dX5_init_70 : decode cX5_init 70 = .ok (.aload_n 0, 1) := by decide +kernel
theorem dX5_init_71 : decode cX5_init 71 = .ok (.iconst 0, 1) := by decide +kernel
theorem dX5_init_72 : decode cX5_init 72 = .ok (.putfield 44, 3) := by decide +kernel
theorem dX5_init_75 : decode cX5_init 75 = .ok (.return_, 1) := by decide +kernel
theorem dX5_clear_0 : decode cX5_clear 0 = .ok (.aload_n 0, 1) := by decide +kernel
theorem dX5_clear_1 : decode cX5_clear 1 = .ok (.iconst 0, 1) := by decide +kernel
theorem dX5_clear_2 : decode cX5_clear 2 = .ok (.putfield 30, 3) := by decide +kernel
theorem dX5_clear_5 : decode cX5_clear 5 = .ok (.aload_n 0, 1) := by decide +kernel
theorem dX5_clear_6 : decode cX5_clear 6 = .ok (.iconst 0, 1) := by decide +kernel
theorem dX5_clear_7 : decode cX5_clear 7 = .ok (.putfield 34, 3) := by decide +kernel
theorem dX5_clear_10 : decode cX5_clear 10 = .ok (.aload_n 0, 1) := by decide +kernel
theorem dX5_clear_11 : decode cX5_clear 11 = .ok (.iconst 0, 1) := by decide +kernel
theorem dX5_clear_12 : decode cX5_clear 12 = .ok (.putfield 38, 3) := by decide +kernel
theorem dX5_clear_15 : decode cX5_clear 15 = .ok (.aload_n 0, 1) := by decide +kernel
theorem dX5_clear_16 : decode cX5_clear 16 = .ok (.iconst 0, 1) := by decide +kernel
theorem dX5_clear_17 : decode cX5_clear 17 = .ok (.putfield 41, 3) := by decide +kernel
theorem dX5_clear_20 : decode cX5_clear 20 = .ok (.aload_n 0, 1) := by decide +kernel
theorem dX5_clear_21 : decode cX5_clear 21 = .ok (.iconst 0, 1) := by decide +kernel
theorem dX5_clear_22 : decode cX5_clear 22 = .ok (.putfield 44, 3) := by decide +kernel
theorem dX5_clear_25 : decode cX5_clear 25 = .ok (.return_, 1) := by decide +kernel
theorem dX5_copyFrom_0 : decode cX5_copyFrom 0 = .ok (.aload_n 1, 1) := by decide +kernel
theorem dX5_copyFrom_1 : decode cX5_copyFrom 1 = .ok (.getfield 9, 3) := by decide +kernel
theorem dX5_copyFrom_4 : decode cX5_copyFrom 4 = .ok (.iconst 0, 1) := by decide +kernel
theorem dX5_copyFrom_5 : decode cX5_copyFrom 5 = .ok (.aload_n 0, 1) := by decide +kernel
theorem dX5_copyFrom_6 : decode cX5_copyFrom 6 = .ok (.getfield 9, 3) := by decide +kernel
theorem dX5_copyFrom_9 : decode cX5_copyFrom 9 = .ok (.iconst 0, 1) := by decide +kernel
theorem dX5_copyFrom_10 : decode cX5_copyFrom 10 = .ok (.bipush 7, 2) := by decide +kernel
theorem dX5_copyFrom_12 : decode cX5_copyFrom 12 = .ok (.invokestatic 47, 3) := by decide +kernel
theorem dX5_copyFrom_15 : decode cX5_copyFrom 15 = .ok (.aload_n 1, 1) := by decide +kernel
theorem dX5_copyFrom_16 : decode cX5_copyFrom 16 = .ok (.getfield 15, 3) := by decide +kernel
theorem dX5_copyFrom_19 : decode cX5_copyFrom 19 = .ok (.iconst 0, 1) := by decide +kernel
theorem dX5_copyFrom_20 : decode cX5_copyFrom 20 = .ok (.aload_n 0, 1) := by decide +kernel
theorem dX5_copyFrom_21 : decode cX5_copyFrom 21 = .ok (.getfield 15, 3) := by decide +kernel
theorem dX5_copyFrom_24 : decode cX5_copyFrom 24 = .ok (.iconst 0, 1) := by decide +kernel
theorem dX5_copyFrom_25 : decode cX5_copyFrom 25 = .ok (.bipush 7, 2) := by decide +kernel
theorem dX5_copyFrom_27 : decode cX5_copyFrom 27 = .ok (.invokestatic 47, 3) := by decide +kernel
theorem dX5_copyFrom_30 : decode cX5_copyFrom 30 = .ok (.aload_n 1, 1) := by decide +kernel
theorem dX5_copyFrom_31 : decode cX5_copyFrom 31 = .ok (.getfield 18, 3) := by decide +kernel
theorem dX5_copyFrom_34 : decode cX5_copyFrom 34 = .ok (.iconst 0, 1) := by decide +kernel
theorem dX5_copyFrom_35 : decode cX5_copyFrom 35 = .ok (.aload_n 0, 1) := by decide +kernel
theorem dX5_copyFrom_36 : decode cX5_copyFrom 36 = .ok (.getfield 18, 3) := by decide +kernel
theorem dX5_copyFrom_39 : decode cX5_copyFrom 39 = .ok (.iconst 0, 1) := by decide +kernel
theorem dX5_copyFrom_40 : decode cX5_copyFrom 40 = .ok (.bipush 24, 2) := by decide +kernel
theorem dX5_copyFrom_42 : decode cX5_copyFrom 42 = .ok (.invokestatic 47, 3) := by decide +kernel
theorem dX5_copyFrom_45 : decode cX5_copyFrom 45 = .ok (.aload_n 1, 1) := by decide +kernel
theorem dX5_copyFrom_46 : decode cX5_copyFrom 46 = .ok (.getfield 21, 3) := by decide +kernel
theorem dX5_copyFrom_49 : decode cX5_copyFrom 49 = .ok (.iconst 0, 1) := by decide +kernel
theorem dX5_copyFrom_50 : decode cX5_copyFrom 50 = .ok (.aload_n 0, 1) := by decide +kernel
theorem dX5_copyFrom_51 : decode cX5_copyFrom 51 = .ok (.getfield 21, 3) := by decide +kernel
theorem dX5_copyFrom_54 : decode cX5_copyFrom 54 = .ok (.iconst 0, 1) := by decide +kernel
theorem dX5_copyFrom_55 : decode cX5_copyFrom 55 = .ok (.bipush 6, 2) := by decide +kernel
theorem dX5_copyFrom_57 : decode cX5_copyFrom 57 = .ok (.invokestatic 47, 3) := by decide +kernel
theorem dX5_copyFrom_60 : decode cX5_copyFrom 60 = .ok (.aload_n 1, 1) := by decide +kernel
theorem dX5_copyFrom_61 : decode cX5_copyFrom 61 = .ok (.getfield 24, 3) := by decide +kernel
theorem dX5_copyFrom_64 : decode cX5_copyFrom 64 = .ok (.iconst 0, 1) := by decide +kernel
theorem dX5_copyFrom_65 : decode cX5_copyFrom 65 = .ok (.aload_n 0, 1) := by decide +kernel
theorem dX5_copyFrom_66 : decode cX5_copyFrom 66 = .ok (.getfield 24, 3) := by decide +kernel
theorem dX5_copyFrom_69 : decode cX5_copyFrom 69 = .ok (.iconst 0, 1) := by decide +kernel
theorem dX5_copyFrom_70 : decode cX5_copyFrom 70 = .ok (.iconst 5, 1) := by decide +kernel
theorem dX5_copyFrom_71 : decode cX5_copyFrom 71 = .ok (.invokestatic 47, 3) := by decide +kernel
theorem dX5_copyFrom_74 : decode cX5_copyFrom 74 = .ok (.aload_n 1, 1) := by decide +kernel
theorem dX5_copyFrom_75 : decode cX5_copyFrom 75 = .ok (.getfield 27, 3) := by decide +kernel
theorem dX5_copyFrom_78 : decode cX5_copyFrom 78 = .ok (.iconst 0, 1) := by decide +kernel
theorem dX5_copyFrom_79 : decode cX5_copyFrom 79 = .ok (.aload_n 0, 1) := by decide +kernel
theorem dX5_copyFrom_80 : decode cX5_copyFrom 80 = .ok (.getfield 27, 3) := by decide +kernel
theorem dX5_copyFrom_83 : decode cX5_copyFrom 83 = .ok (.iconst 0, 1) := by decide +kernel
theorem dX5_copyFrom_84 : decode cX5_copyFrom 84 = .ok (.iconst 5, 1) := by decide +kernel
theorem dX5_copyFrom_85 : decode cX5_copyFrom 85 = .ok (.invokestatic 47, 3) := by decide +kernel
theorem dX5_copyFrom_88 : decode cX5_copyFrom 88 = .ok (.aload_n 0, 1) := by decide +kernel
theorem dX5_copyFrom_89 : decode cX5_copyFrom 89 = .ok (.aload_n 1, 1) := by decide +kernel
theorem dX5_copyFrom_90 : decode cX5_copyFrom 90 = .ok (.getfield 30, 3) := by decide +kernel
theorem dX5_copyFrom_93 : decode cX5_copyFrom 93 = .ok (.putfield 30, 3) := by decide +kernel
theorem dX5_copyFrom_96 : decode cX5_copyFrom 96 = .ok (.aload_n 0, 1) := by decide +kernel
theorem dX5_copyFrom_97 : decode cX5_copyFrom 97 = .ok (.aload_n 1, 1) := by decide +kernel
theorem dX5_copyFrom_98 : decode cX5_copyFrom 98 = .ok (.getfield 34, 3) := by decide +kernel
theorem dX5_copyFrom_101 : decode cX5_copyFrom 101 = .ok (.putfield 34, 3) := by decide +kernel
theorem dX5_copyFrom_104 : decode cX5_copyFrom 104 = .ok (.aload_n 0, 1) := by decide +kernel
theorem dX5_copyFrom_105 : decode cX5_copyFrom 105 = .ok (.aload_n 1, 1) := by decide +kernel
theorem dX5_copyFrom_106 : decode cX5_copyFrom 106 = .ok (.getfield 38, 3) := by decide +kernel
theorem dX5_copyFrom_109 : decode cX5_copyFrom 109 = .ok (.putfield 38, 3) := by decide +kernel
theorem dX5_copyFrom_112 : decode cX5_copyFrom 112 = .ok (.aload_n 0, 1) := by decide +kernel
theorem dX5_copyFrom_113 : decode cX5_copyFrom 113 = .ok (.aload_n 1, 1) := by decide +kernel
theorem dX5_copyFrom_114 : decode cX5_copyFrom 114 = .ok (.getfield 41, 3) := by decide +kernel
theorem dX5_copyFrom_117 : decode cX5_copyFrom 117 = .ok (.putfield 41, 3) := by decide +kernel
theorem dX5_copyFrom_120 : decode cX5_copyFrom 120 = .ok (.aload_n 0, 1) := by decide +kernel
theorem dX5_copyFrom_121 : decode cX5_copyFrom 121 = .ok (.aload_n 1, 1) := by decide +kernel
theorem dX5_copyFrom_122 : decode cX5_copyFrom 122 = .ok (.getfield 44, 3) := by decide +kernel
theorem dX5_copyFrom_125 : decode cX5_copyFrom 125 = .ok (.putfield 44, 3) := by decide +kernel
theorem dX5_copyFrom_128 : decode cX5_copyFrom 128 = .ok (.return_, 1) := by decide +kernel
theorem dX5_hasFlag_0 : decode cX5_hasFlag 0 = .ok (.iload_n 1, 1) := by decide +kernel
theorem dX5_hasFlag_1 : decode cX5_hasFlag 1 = .ok (.ifCond .lt 15, 3) := by decide +kernel
theorem dX5_hasFlag_4 : decode cX5_hasFlag 4 = .ok (.iload_n 1, 1) := by decide +kernel
theorem dX5_hasFlag_5 : decode cX5_hasFlag 5 = .ok (.aload_n 0, 1) := by decide +kernel
theorem dX5_hasFlag_6 : decode cX5_hasFlag 6 = .ok (.getfield 38, 3) := by decide +kernel
theorem dX5_hasFlag_9 : decode cX5_hasFlag 9 = .ok (.if_icmp .ge 7, 3) := by decide +kernel
theorem dX5_hasFlag_12 : decode cX5_hasFlag 12 = .ok (.iconst 1, 1) := by decide +kernel
theorem dX5_hasFlag_13 : decode cX5_hasFlag 13 = .ok (.goto 4, 3) := by decide +kernel
theorem dX5_hasFlag_16 : decode cX5_hasFlag 16 = .ok (.iconst 0, 1) := by decide +kernel
theorem dX5_hasFlag_17 : decode cX5_hasFlag 17 = .ok (.ireturn, 1) := by decide +kernel
theorem dX5_allFlags_0 : decode cX5_allFlags 0 = .ok (.iconst 1, 1) := by decide +kernel
theorem dX5_allFlags_1 : decode cX5_allFlags 1 = .ok (.aload_n 0, 1) := by decide +kernel
theorem dX5_allFlags_2 : decode cX5_allFlags 2 = .ok (.getfield 38, 3) := by decide +kernel
theorem dX5_allFlags_5 : decode cX5_allFlags 5 = .ok (.ishl, 1) := by decide +kernel
theorem dX5_allFlags_6 : decode cX5_allFlags 6 = .ok (.iconst 1, 1) := by decide +kernel
theorem dX5_allFlags_7 : decode cX5_allFlags 7 = .ok (.isub, 1) := by decide +kernel
theorem dX5_allFlags_8 : decode cX5_allFlags 8 = .ok (.ireturn, 1) := by decide +kernel
theorem dX5_wordKind_0 : decode cX5_wordKind 0 = .ok (.aload_n 0, 1) := by decide +kernel
theorem dX5_wordKind_1 : decode cX5_wordKind 1 = .ok (.getfield 18, 3) := by decide +kernel
theorem dX5_wordKind_4 : decode cX5_wordKind 4 = .ok (.iload_n 1, 1) := by decide +kernel
theorem dX5_wordKind_5 : decode cX5_wordKind 5 = .ok (.iconst 4, 1) := by decide +kernel
theorem dX5_wordKind_6 : decode cX5_wordKind 6 = .ok (.imul, 1) := by decide +kernel
theorem dX5_wordKind_7 : decode cX5_wordKind 7 = .ok (.iload_n 2, 1) := by decide +kernel
theorem dX5_wordKind_8 : decode cX5_wordKind 8 = .ok (.iadd, 1) := by decide +kernel
theorem dX5_wordKind_9 : decode cX5_wordKind 9 = .ok (.iaload, 1) := by decide +kernel
theorem dX5_wordKind_10 : decode cX5_wordKind 10 = .ok (.ireturn, 1) := by decide +kernel
theorem dX5_placesOfHook_0 : decode cX5_placesOfHook 0 = .ok (.iconst 0, 1) := by decide +kernel
theorem dX5_placesOfHook_1 : decode cX5_placesOfHook 1 = .ok (.istore_n 2, 1) := by decide +kernel
theorem dX5_placesOfHook_2 : decode cX5_placesOfHook 2 = .ok (.iconst 0, 1) := by decide +kernel
theorem dX5_placesOfHook_3 : decode cX5_placesOfHook 3 = .ok (.istore_n 3, 1) := by decide +kernel
theorem dX5_placesOfHook_4 : decode cX5_placesOfHook 4 = .ok (.iload_n 3, 1) := by decide +kernel
theorem dX5_placesOfHook_5 : decode cX5_placesOfHook 5 = .ok (.bipush 6, 2) := by decide +kernel
theorem dX5_placesOfHook_7 : decode cX5_placesOfHook 7 = .ok (.if_icmp .gt 49, 3) := by decide +kernel
theorem dX5_placesOfHook_10 : decode cX5_placesOfHook 10 = .ok (.iload_n 3, 1) := by decide +kernel
theorem dX5_placesOfHook_11 : decode cX5_placesOfHook 11 = .ok (.aload_n 0, 1) := by decide +kernel
theorem dX5_placesOfHook_12 : decode cX5_placesOfHook 12 = .ok (.getfield 24, 3) := by decide +kernel
theorem dX5_placesOfHook_15 : decode cX5_placesOfHook 15 = .ok (.iload_n 1, 1) := by decide +kernel
theorem dX5_placesOfHook_16 : decode cX5_placesOfHook 16 = .ok (.iaload, 1) := by decide +kernel
theorem dX5_placesOfHook_17 : decode cX5_placesOfHook 17 = .ok (.aload_n 0, 1) := by decide +kernel
theorem dX5_placesOfHook_18 : decode cX5_placesOfHook 18 = .ok (.getfield 27, 3) := by decide +kernel
theorem dX5_placesOfHook_21 : decode cX5_placesOfHook 21 = .ok (.iload_n 1, 1) := by decide +kernel
theorem dX5_placesOfHook_22 : decode cX5_placesOfHook 22 = .ok (.iaload, 1) := by decide +kernel
theorem dX5_placesOfHook_23 : decode cX5_placesOfHook 23 = .ok (.isub, 1) := by decide +kernel
theorem dX5_placesOfHook_24 : decode cX5_placesOfHook 24 = .ok (.if_icmp .lt 26, 3) := by decide +kernel
theorem dX5_placesOfHook_27 : decode cX5_placesOfHook 27 = .ok (.iload_n 3, 1) := by decide +kernel
theorem dX5_placesOfHook_28 : decode cX5_placesOfHook 28 = .ok (.aload_n 0, 1) := by decide +kernel
theorem dX5_placesOfHook_29 : decode cX5_placesOfHook 29 = .ok (.getfield 24, 3) := by decide +kernel
theorem dX5_placesOfHook_32 : decode cX5_placesOfHook 32 = .ok (.iload_n 1, 1) := by decide +kernel
theorem dX5_placesOfHook_33 : decode cX5_placesOfHook 33 = .ok (.iaload, 1) := by decide +kernel
theorem dX5_placesOfHook_34 : decode cX5_placesOfHook 34 = .ok (.aload_n 0, 1) := by decide +kernel
theorem dX5_placesOfHook_35 : decode cX5_placesOfHook 35 = .ok (.getfield 27, 3) := by decide +kernel
theorem dX5_placesOfHook_38 : decode cX5_placesOfHook 38 = .ok (.iload_n 1, 1) := by decide +kernel
theorem dX5_placesOfHook_39 : decode cX5_placesOfHook 39 = .ok (.iaload, 1) := by decide +kernel
theorem dX5_placesOfHook_40 : decode cX5_placesOfHook 40 = .ok (.iadd, 1) := by decide +kernel
theorem dX5_placesOfHook_41 : decode cX5_placesOfHook 41 = .ok (.if_icmp .gt 9, 3) := by decide +kernel
theorem dX5_placesOfHook_44 : decode cX5_placesOfHook 44 = .ok (.iload_n 2, 1) := by decide +kernel
theorem dX5_placesOfHook_45 : decode cX5_placesOfHook 45 = .ok (.iconst 1, 1) := by decide +kernel
theorem dX5_placesOfHook_46 : decode cX5_placesOfHook 46 = .ok (.iload_n 3, 1) := by decide +kernel
theorem dX5_placesOfHook_47 : decode cX5_placesOfHook 47 = .ok (.ishl, 1) := by decide +kernel
theorem dX5_placesOfHook_48 : decode cX5_placesOfHook 48 = .ok (.ior, 1) := by decide +kernel
theorem dX5_placesOfHook_49 : decode cX5_placesOfHook 49 = .ok (.istore_n 2, 1) := by decide +kernel
theorem dX5_placesOfHook_50 : decode cX5_placesOfHook 50 = .ok (.iinc 3 1, 3) := by decide +kernel
theorem dX5_placesOfHook_53 : decode cX5_placesOfHook 53 = .ok (.goto (-49), 3) := by decide +kernel
theorem dX5_placesOfHook_56 : decode cX5_placesOfHook 56 = .ok (.iload_n 2, 1) := by decide +kernel
theorem dX5_placesOfHook_57 : decode cX5_placesOfHook 57 = .ok (.ireturn, 1) := by decide +kernel
theorem dX5_fewestHooks_0 : decode cX5_fewestHooks 0 = .ok (.iconst (-1), 1) := by decide +kernel
theorem dX5_fewestHooks_1 : decode cX5_fewestHooks 1 = .ok (.istore_n 2, 1) := by decide +kernel
theorem dX5_fewestHooks_2 : decode cX5_fewestHooks 2 = .ok (.iconst 0, 1) := by decide +kernel
theorem dX5_fewestHooks_3 : decode cX5_fewestHooks 3 = .ok (.istore_n 3, 1) := by decide +kernel
theorem dX5_fewestHooks_4 : decode cX5_fewestHooks 4 = .ok (.iload_n 3, 1) := by decide +kernel
theorem dX5_fewestHooks_5 : decode cX5_fewestHooks 5 = .ok (.iconst 1, 1) := by decide +kernel
theorem dX5_fewestHooks_6 : decode cX5_fewestHooks 6 = .ok (.aload_n 0, 1) := by decide +kernel
theorem dX5_fewestHooks_7 : decode cX5_fewestHooks 7 = .ok (.getfield 44, 3) := by decide +kernel
theorem dX5_fewestHooks_10 : decode cX5_fewestHooks 10 = .ok (.ishl, 1) := by decide +kernel
theorem dX5_fewestHooks_11 : decode cX5_fewestHooks 11 = .ok (.if_icmp .ge 51, 3) := by decide +kernel
theorem dX5_fewestHooks_14 : decode cX5_fewestHooks 14 = .ok (.iload_n 2, 1) := by decide +kernel
theorem dX5_fewestHooks_15 : decode cX5_fewestHooks 15 = .ok (.iconst (-1), 1) := by decide +kernel
theorem dX5_fewestHooks_16 : decode cX5_fewestHooks 16 = .ok (.if_icmp .eq 14, 3) := by decide +kernel
theorem dX5_fewestHooks_19 : decode cX5_fewestHooks 19 = .ok (.iload_n 3, 1) := by decide +kernel
theorem dX5_fewestHooks_20 : decode cX5_fewestHooks 20 = .ok (.invokestatic 53, 3) := by decide +kernel
theorem dX5_fewestHooks_23 : decode cX5_fewestHooks 23 = .ok (.iload_n 2, 1) := by decide +kernel
theorem dX5_fewestHooks_24 : decode cX5_fewestHooks 24 = .ok (.invokestatic 53, 3) := by decide +kernel
theorem dX5_fewestHooks_27 : decode cX5_fewestHooks 27 = .ok (.if_icmp .ge 7, 3) := by decide +kernel
theorem dX5_fewestHooks_30 : decode cX5_fewestHooks 30 = .ok (.iconst 1, 1) := by decide +kernel
theorem dX5_fewestHooks_31 : decode cX5_fewestHooks 31 = .ok (.goto 4, 3) := by decide +kernel
theorem dX5_fewestHooks_34 : decode cX5_fewestHooks 34 = .ok (.iconst 0, 1) := by decide +kernel
theorem dX5_fewestHooks_35 : decode cX5_fewestHooks 35 = .ok (.istore 4, 2) := by decide +kernel
theorem dX5_fewestHooks_37 : decode cX5_fewestHooks 37 = .ok (.iload 4, 2) := by decide +kernel
theorem dX5_fewestHooks_39 : decode cX5_fewestHooks 39 = .ok (.ifCond .eq 17, 3) := by decide +kernel
theorem dX5_fewestHooks_42 : decode cX5_fewestHooks 42 = .ok (.iload_n 1, 1) := by decide +kernel
theorem dX5_fewestHooks_43 : decode cX5_fewestHooks 43 = .ok (.aload_n 0, 1) := by decide +kernel
theorem dX5_fewestHooks_44 : decode cX5_fewestHooks 44 = .ok (.iload_n 3, 1) := by decide +kernel
theorem dX5_fewestHooks_45 : decode cX5_fewestHooks 45 = .ok (.invokevirtual 59, 3) := by decide +kernel
theorem dX5_fewestHooks_48 : decode cX5_fewestHooks 48 = .ok (.iconst (-1), 1) := by decide +kernel
theorem dX5_fewestHooks_49 : decode cX5_fewestHooks 49 = .ok (.ixor, 1) := by decide +kernel
theorem dX5_fewestHooks_50 : decode cX5_fewestHooks 50 = .ok (.iand, 1) := by decide +kernel
theorem dX5_fewestHooks_51 : decode cX5_fewestHooks 51 = .ok (.ifCond .ne 5, 3) := by decide +kernel
theorem dX5_fewestHooks_54 : decode cX5_fewestHooks 54 = .ok (.iload_n 3, 1) := by decide +kernel
theorem dX5_fewestHooks_55 : decode cX5_fewestHooks 55 = .ok (.istore_n 2, 1) := by decide +kernel
theorem dX5_fewestHooks_56 : decode cX5_fewestHooks 56 = .ok (.iinc 3 1, 3) := by decide +kernel
theorem dX5_fewestHooks_59 : decode cX5_fewestHooks 59 = .ok (.goto (-55), 3) := by decide +kernel
theorem dX5_fewestHooks_62 : decode cX5_fewestHooks 62 = .ok (.iload_n 2, 1) := by decide +kernel
theorem dX5_fewestHooks_63 : decode cX5_fewestHooks 63 = .ok (.ireturn, 1) := by decide +kernel
theorem dX5_placesOfHooks_0 : decode cX5_placesOfHooks 0 = .ok (.iconst 0, 1) := by decide +kernel
theorem dX5_placesOfHooks_1 : decode cX5_placesOfHooks 1 = .ok (.istore_n 2, 1) := by decide +kernel
theorem dX5_placesOfHooks_2 : decode cX5_placesOfHooks 2 = .ok (.iconst 0, 1) := by decide +kernel
theorem dX5_placesOfHooks_3 : decode cX5_placesOfHooks 3 = .ok (.istore_n 3, 1) := by decide +kernel
theorem dX5_placesOfHooks_4 : decode cX5_placesOfHooks 4 = .ok (.iload_n 3, 1) := by decide +kernel
theorem dX5_placesOfHooks_5 : decode cX5_placesOfHooks 5 = .ok (.aload_n 0, 1) := by decide +kernel
theorem dX5_placesOfHooks_6 : decode cX5_placesOfHooks 6 = .ok (.getfield 44, 3) := by decide +kernel
theorem dX5_placesOfHooks_9 : decode cX5_placesOfHooks 9 = .ok (.if_icmp .ge 25, 3) := by decide +kernel
theorem dX5_placesOfHooks_12 : decode cX5_placesOfHooks 12 = .ok (.iload_n 1, 1) := by decide +kernel
theorem dX5_placesOfHooks_13 : decode cX5_placesOfHooks 13 = .ok (.iload_n 3, 1) := by decide +kernel
theorem dX5_placesOfHooks_14 : decode cX5_placesOfHooks 14 = .ok (.invokestatic 62, 3) := by decide +kernel
theorem dX5_placesOfHooks_17 : decode cX5_placesOfHooks 17 = .ok (.ifCond .eq 11, 3) := by decide +kernel
theorem dX5_placesOfHooks_20 : decode cX5_placesOfHooks 20 = .ok (.iload_n 2, 1) := by decide +kernel
theorem dX5_placesOfHooks_21 : decode cX5_placesOfHooks 21 = .ok (.aload_n 0, 1) := by decide +kernel
theorem dX5_placesOfHooks_22 : decode cX5_placesOfHooks 22 = .ok (.iload_n 3, 1) := by decide +kernel
theorem dX5_placesOfHooks_23 : decode cX5_placesOfHooks 23 = .ok (.invokevirtual 66, 3) := by decide +kernel
theorem dX5_placesOfHooks_26 : decode cX5_placesOfHooks 26 = .ok (.ior, 1) := by decide +kernel
theorem dX5_placesOfHooks_27 : decode cX5_placesOfHooks 27 = .ok (.istore_n 2, 1) := by decide +kernel
theorem dX5_placesOfHooks_28 : decode cX5_placesOfHooks 28 = .ok (.iinc 3 1, 3) := by decide +kernel
theorem dX5_placesOfHooks_31 : decode cX5_placesOfHooks 31 = .ok (.goto (-27), 3) := by decide +kernel
theorem dX5_placesOfHooks_34 : decode cX5_placesOfHooks 34 = .ok (.iload_n 2, 1) := by decide +kernel
theorem dX5_placesOfHooks_35 : decode cX5_placesOfHooks 35 = .ok (.ireturn, 1) := by decide +kernel
theorem dX6_init_0 : decode cX6_init 0 = .ok (.aload_n 0, 1) := by decide +kernel
theorem dX6_init_1 : decode cX6_init 1 = .ok (.invokespecial 3, 3) := by decide +kernel
theorem dX6_init_4 : decode cX6_init 4 = .ok (.aload_n 0, 1) := by decide +kernel
theorem dX6_init_5 : decode cX6_init 5 = .ok (.sipush 240, 3) := by decide +kernel
theorem dX6_init_8 : decode cX6_init 8 = .ok (.newarray .int, 2) := by decide +kernel
theorem dX6_init_10 : decode cX6_init 10 = .ok (.putfield 9, 3) := by decide +kernel
theorem dX6_init_13 : decode cX6_init 13 = .ok (.aload_n 0, 1) := by decide +kernel
theorem dX6_init_14 : decode cX6_init 14 = .ok (.iconst 0, 1) := by decide +kernel
theorem dX6_init_15 : decode cX6_init 15 = .ok (.putfield 15, 3) := by decide +kernel
theorem dX6_init_18 : decode cX6_init 18 = .ok (.aload_n 0, 1) := by decide +kernel
theorem dX6_init_19 : decode cX6_init 19 = .ok (.iconst 0, 1) := by decide +kernel
theorem dX6_init_20 : decode cX6_init 20 = .ok (.putfield 19, 3) := by decide +kernel
theorem dX6_init_23 : decode cX6_init 23 = .ok (.aload_n 0, 1) := by decide +kernel
theorem dX6_init_24 : decode cX6_init 24 = .ok (.iconst (-1), 1) := by decide +kernel
theorem dX6_init_25 : decode cX6_init 25 = .ok (.putfield 22, 3) := by decide +kernel
theorem dX6_init_28 : decode cX6_init 28 = .ok (.aload_n 0, 1) := by decide +kernel
theorem dX6_init_29 : decode cX6_init 29 = .ok (.iconst 0, 1) := by decide +kernel
theorem dX6_init_30 : decode cX6_init 30 = .ok (.putfield 25, 3) := by decide +kernel
theorem dX6_init_33 : decode cX6_init 33 = .ok (.return_, 1) := by decide +kernel
theorem dX6_readInto_0 : decode cX6_readInto 0 = .ok (.aload_n 1, 1) := by decide +kernel
theorem dX6_readInto_1 : decode cX6_readInto 1 = .ok (.invokevirtual 28, 3) := by decide +kernel
theorem dX6_readInto_4 : decode cX6_readInto 4 = .ok (.aload_n 0, 1) := by decide +kernel
theorem dX6_readInto_5 : decode cX6_readInto 5 = .ok (.iconst 0, 1) := by decide +kernel
theorem dX6_readInto_6 : decode cX6_readInto 6 = .ok (.putfield 19, 3) := by decide +kernel
theorem dX6_readInto_9 : decode cX6_readInto 9 = .ok (.aload_n 0, 1) := by decide +kernel
theorem dX6_readInto_10 : decode cX6_readInto 10 = .ok (.iconst (-1), 1) := by decide +kernel
theorem dX6_readInto_11 : decode cX6_readInto 11 = .ok (.putfield 22, 3) := by decide +kernel
theorem dX6_readInto_14 : decode cX6_readInto 14 = .ok (.aload_n 0, 1) := by decide +kernel
theorem dX6_readInto_15 : decode cX6_readInto 15 = .ok (.iconst 0, 1) := by decide +kernel
theorem dX6_readInto_16 : decode cX6_readInto 16 = .ok (.putfield 25, 3) := by decide +kernel
theorem dX6_readInto_19 : decode cX6_readInto 19 = .ok (.aload_n 0, 1) := by decide +kernel
theorem dX6_readInto_20 : decode cX6_readInto 20 = .ok (.invokevirtual 33, 3) := by decide +kernel
theorem dX6_readInto_23 : decode cX6_readInto 23 = .ok (.iconst 0, 1) := by decide +kernel
theorem dX6_readInto_24 : decode cX6_readInto 24 = .ok (.istore_n 2, 1) := by decide +kernel
theorem dX6_readInto_25 : decode cX6_readInto 25 = .ok (.iload_n 2, 1) := by decide +kernel
theorem dX6_readInto_26 : decode cX6_readInto 26 = .ok (.sipush 240, 3) := by decide +kernel
theorem dX6_readInto_29 : decode cX6_readInto 29 = .ok (.if_icmp .ge 36, 3) := by decide +kernel
theorem dX6_readInto_32 : decode cX6_readInto 32 = .ok (.aload_n 0, 1) := by decide +kernel
theorem dX6_readInto_33 : decode cX6_readInto 33 = .ok (.getfield 25, 3) := by decide +kernel
theorem dX6_readInto_36 : decode cX6_readInto 36 = .ok (.aload_n 0, 1) := by decide +kernel
theorem dX6_readInto_37 : decode cX6_readInto 37 = .ok (.getfield 15, 3) := by decide +kernel
theorem dX6_readInto_40 : decode cX6_readInto 40 = .ok (.if_icmp .ge 25, 3) := by decide +kernel
theorem dX6_readInto_43 : decode cX6_readInto 43 = .ok (.aload_n 0, 1) := by decide +kernel
theorem dX6_readInto_44 : decode cX6_readInto 44 = .ok (.getfield 19, 3) := by decide +kernel
theorem dX6_readInto_47 : decode cX6_readInto 47 = .ok (.ifCond .ne 18, 3) := by decide +kernel
theorem dX6_readInto_50 : decode cX6_readInto 50 = .ok (.aload_n 0, 1) := by decide +kernel
theorem dX6_readInto_51 : decode cX6_readInto 51 = .ok (.aload_n 1, 1) := by decide +kernel
theorem dX6_readInto_52 : decode cX6_readInto 52 = .ok (.invokevirtual 36, 3) := by decide +kernel
theorem dX6_readInto_55 : decode cX6_readInto 55 = .ok (.aload_n 0, 1) := by decide +kernel
theorem dX6_readInto_56 : decode cX6_readInto 56 = .ok (.invokevirtual 33, 3) := by decide +kernel
theorem dX6_readInto_59 : decode cX6_readInto 59 = .ok (.iinc 2 1, 3) := by decide +kernel
theorem dX6_readInto_62 : decode cX6_readInto 62 = .ok (.goto (-37), 3) := by decide +kernel
theorem dX6_readInto_65 : decode cX6_readInto 65 = .ok (.return_, 1) := by decide +kernel
theorem dX6_readClause_0 : decode cX6_readClause 0 = .ok (.aload_n 0, 1) := by decide +kernel
theorem dX6_readClause_1 : decode cX6_readClause 1 = .ok (.invokevirtual 40, 3) := by decide +kernel
theorem dX6_readClause_4 : decode cX6_readClause 4 = .ok (.istore_n 2, 1) := by decide +kernel
theorem dX6_readClause_5 : decode cX6_readClause 5 = .ok (.iload_n 2, 1) := by decide +kernel
theorem dX6_readClause_6 : decode cX6_readClause 6 = .ok (.bipush 121, 2) := by decide +kernel
theorem dX6_readClause_8 : decode cX6_readClause 8 = .ok (.if_icmp .eq 40, 3) := by decide +kernel
theorem dX6_readClause_11 : decode cX6_readClause 11 = .ok (.iload_n 2, 1) := by decide +kernel
theorem dX6_readClause_12 : decode cX6_readClause 12 = .ok (.bipush 102, 2) := by decide +kernel
theorem dX6_readClause_14 : decode cX6_readClause 14 = .ok (.if_icmp .eq 15, 3) := by decide +kernel
theorem dX6_readClause_17 : decode cX6_readClause 17 = .ok (.iload_n 2, 1) := by decide +kernel
theorem dX6_readClause_18 : decode cX6_readClause 18 = .ok (.bipush 119, 2) := by decide +kernel
theorem dX6_readClause_20 : decode cX6_readClause 20 = .ok (.if_icmp .eq 9, 3) := by decide +kernel
theorem dX6_readClause_23 : decode cX6_readClause 23 = .ok (.iload_n 2, 1) := by decide +kernel
theorem dX6_readClause_24 : decode cX6_readClause 24 = .ok (.bipush 104, 2) := by decide +kernel
theorem dX6_readClause_26 : decode cX6_readClause 26 = .ok (.if_icmp .ne 10, 3) := by decide +kernel
theorem dX6_readClause_29 : decode cX6_readClause 29 = .ok (.aload_n 1, 1) := by decide +kernel
theorem dX6_readClause_30 : decode cX6_readClause 30 = .ok (.getfield 44, 3) := by decide +kernel
theorem dX6_readClause_33 : decode cX6_readClause 33 = .ok (.ifCond .ne 15, 3) := by decide +kernel
theorem dX6_readClause_36 : decode cX6_readClause 36 = .ok (.aload_n 0, 1) := by decide +kernel
theorem dX6_readClause_37 : decode cX6_readClause 37 = .ok (.iconst 1, 1) := by decide +kernel
theorem dX6_readClause_38 : decode cX6_readClause 38 = .ok (.aload_n 0, 1) := by decide +kernel
theorem dX6_readClause_39 : decode cX6_readClause 39 = .ok (.getfield 25, 3) := by decide +kernel
theorem dX6_readClause_42 : decode cX6_readClause 42 = .ok (.invokevirtual 48, 3) := by decide +kernel
theorem dX6_readClause_45 : decode cX6_readClause 45 = .ok (.goto 45, 3) := by decide +kernel
theorem dX6_readClause_48 : decode cX6_readClause 48 = .ok (.aload_n 1, 1) := by decide +kernel
theorem dX6_readClause_49 : decode cX6_readClause 49 = .ok (.iload_n 2, 1) := by decide +kernel
theorem dX6_readClause_50 : decode cX6_readClause 50 = .ok (.invokestatic 52, 3) := by decide +kernel
theorem dX6_readClause_53 : decode cX6_readClause 53 = .ok (.ifCond .eq 15, 3) := by decide +kernel
theorem dX6_readClause_56 : decode cX6_readClause 56 = .ok (.aload_n 0, 1) := by decide +kernel
theorem dX6_readClause_57 : decode cX6_readClause 57 = .ok (.iconst 3, 1) := by decide +kernel
theorem dX6_readClause_58 : decode cX6_readClause 58 = .ok (.aload_n 0, 1) := by decide +kernel
theorem dX6_readClause_59 : decode cX6_readClause 59 = .ok (.getfield 25, 3) := by decide +kernel
theorem dX6_readClause_62 : decode cX6_readClause 62 = .ok (.invokevirtual 48, 3) := by decide +kernel
theorem dX6_readClause_65 : decode cX6_readClause 65 = .ok (.goto 25, 3) := by decide +kernel
theorem dX6_readClause_68 : decode cX6_readClause 68 = .ok (.aload_n 0, 1) := by decide +kernel
theorem dX6_readClause_69 : decode cX6_readClause 69 = .ok (.dup, 1) := by decide +kernel
theorem dX6_readClause_70 : decode cX6_readClause 70 = .ok (.getfield 25, 3) := by decide +kernel
theorem dX6_readClause_73 : decode cX6_readClause 73 = .ok (.iconst 1, 1) := by decide +kernel
theorem dX6_readClause_74 : decode cX6_readClause 74 = .ok (.iadd, 1) := by decide +kernel
theorem dX6_readClause_75 : decode cX6_readClause 75 = .ok (.putfield 25, 3) := by decide +kernel
theorem dX6_readClause_78 : decode cX6_readClause 78 = .ok (.aload_n 0, 1) := by decide +kernel
theorem dX6_readClause_79 : decode cX6_readClause 79 = .ok (.aload_n 1, 1) := by decide +kernel
theorem dX6_readClause_80 : decode cX6_readClause 80 = .ok (.iload_n 2, 1) := by decide +kernel
theorem dX6_readClause_81 : decode cX6_readClause 81 = .ok (.invokevirtual 56, 3) := by decide +kernel
theorem dX6_readClause_84 : decode cX6_readClause 84 = .ok (.aload_n 0, 1) := by decide +kernel
theorem dX6_readClause_85 : decode cX6_readClause 85 = .ok (.bipush 59, 2) := by decide +kernel
theorem dX6_readClause_87 : decode cX6_readClause 87 = .ok (.invokevirtual 60, 3) := by decide +kernel
theorem dX6_readClause_90 : decode cX6_readClause 90 = .ok (.return_, 1) := by decide +kernel
theorem dX6_isFullFor_0 : decode cX6_isFullFor 0 = .ok (.iload_n 1, 1) := by decide +kernel
theorem dX6_isFullFor_1 : decode cX6_isFullFor 1 = .ok (.lookupswitch 70 #[(102, 40), (119, 55), (121, 35)], 35) := by decide +kernel
theorem dX6_isFullFor_36 : decode cX6_isFullFor 36 = .ok (.aload_n 0, 1) := by decide +kernel
theorem dX6_isFullFor_37 : decode cX6_isFullFor 37 = .ok (.getfield 44, 3) := by decide +kernel
theorem dX6_isFullFor_40 : decode cX6_isFullFor 40 = .ok (.ireturn, 1) := by decide +kernel
theorem dX6_isFullFor_41 : decode cX6_isFullFor 41 = .ok (.aload_n 0, 1) := by decide +kernel
theorem dX6_isFullFor_42 : decode cX6_isFullFor 42 = .ok (.getfield 64, 3) := by decide +kernel
theorem dX6_isFullFor_45 : decode cX6_isFullFor 45 = .ok (.bipush 7, 2) := by decide +kernel
theorem dX6_isFullFor_47 : decode cX6_isFullFor 47 = .ok (.if_icmp .lt 7, 3) := by decide +kernel
theorem dX6_isFullFor_50 : decode cX6_isFullFor 50 = .ok (.iconst 1, 1) := by decide +kernel
theorem dX6_isFullFor_51 : decode cX6_isFullFor 51 = .ok (.goto 4, 3) := by decide +kernel
theorem dX6_isFullFor_54 : decode cX6_isFullFor 54 = .ok (.iconst 0, 1) := by decide +kernel
theorem dX6_isFullFor_55 : decode cX6_isFullFor 55 = .ok (.ireturn, 1) := by decide +kernel
theorem dX6_isFullFor_56 : decode cX6_isFullFor 56 = .ok (.aload_n 0, 1) := by decide +kernel
theorem dX6_isFullFor_57 : decode cX6_isFullFor 57 = .ok (.getfield 67, 3) := by decide +kernel
theorem dX6_isFullFor_60 : decode cX6_isFullFor 60 = .ok (.bipush 6, 2) := by decide +kernel
theorem dX6_isFullFor_62 : decode cX6_isFullFor 62 = .ok (.if_icmp .lt 7, 3) := by decide +kernel
theorem dX6_isFullFor_65 : decode cX6_isFullFor 65 = .ok (.iconst 1, 1) := by decide +kernel
theorem dX6_isFullFor_66 : decode cX6_isFullFor 66 = .ok (.goto 4, 3) := by decide +kernel
theorem dX6_isFullFor_69 : decode cX6_isFullFor 69 = .ok (.iconst 0, 1) := by decide +kernel
theorem dX6_isFullFor_70 : decode cX6_isFullFor 70 = .ok (.ireturn, 1) := by decide +kernel
theorem dX6_isFullFor_71 : decode cX6_isFullFor 71 = .ok (.aload_n 0, 1) := by decide +kernel
theorem dX6_isFullFor_72 : decode cX6_isFullFor 72 = .ok (.getfield 70, 3) := by decide +kernel
theorem dX6_isFullFor_75 : decode cX6_isFullFor 75 = .ok (.iconst 5, 1) := by decide +kernel
theorem dX6_isFullFor_76 : decode cX6_isFullFor 76 = .ok (.if_icmp .lt 7, 3) := by decide +kernel
theorem dX6_isFullFor_79 : decode cX6_isFullFor 79 = .ok (.iconst 1, 1) := by decide +kernel
theorem dX6_isFullFor_80 : decode cX6_isFullFor 80 = .ok (.goto 4, 3) := by decide +kernel
theorem dX6_isFullFor_83 : decode cX6_isFullFor 83 = .ok (.iconst 0, 1) := by decide +kernel
theorem dX6_isFullFor_84 : decode cX6_isFullFor 84 = .ok (.ireturn, 1) := by decide +kernel
theorem dX6_readRest_0 : decode cX6_readRest 0 = .ok (.iload_n 2, 1) := by decide +kernel
theorem dX6_readRest_1 : decode cX6_readRest 1 = .ok (.lookupswitch 116 #[(102, 54), (119, 98), (121, 35)], 35) := by decide +kernel
theorem dX6_readRest_36 : decode cX6_readRest 36 = .ok (.aload_n 1, 1) := by decide +kernel
theorem dX6_readRest_37 : decode cX6_readRest 37 = .ok (.aload_n 0, 1) := by decide +kernel
theorem dX6_readRest_38 : decode cX6_readRest 38 = .ok (.iconst 0, 1) := by decide +kernel
theorem dX6_readRest_39 : decode cX6_readRest 39 = .ok (.bipush 9, 2) := by decide +kernel
theorem dX6_readRest_41 : decode cX6_readRest 41 = .ok (.invokevirtual 73, 3) := by decide +kernel
theorem dX6_readRest_44 : decode cX6_readRest 44 = .ok (.putfield 77, 3) := by decide +kernel
theorem dX6_readRest_47 : decode cX6_readRest 47 = .ok (.aload_n 1, 1) := by decide +kernel
theorem dX6_readRest_48 : decode cX6_readRest 48 = .ok (.iconst 1, 1) := by decide +kernel
theorem dX6_readRest_49 : decode cX6_readRest 49 = .ok (.putfield 44, 3) := by decide +kernel
theorem dX6_readRest_52 : decode cX6_readRest 52 = .ok (.goto 107, 3) := by decide +kernel
theorem dX6_readRest_55 : decode cX6_readRest 55 = .ok (.aload_n 1, 1) := by decide +kernel
theorem dX6_readRest_56 : decode cX6_readRest 56 = .ok (.getfield 80, 3) := by decide +kernel
theorem dX6_readRest_59 : decode cX6_readRest 59 = .ok (.aload_n 1, 1) := by decide +kernel
theorem dX6_readRest_60 : decode cX6_readRest 60 = .ok (.getfield 64, 3) := by decide +kernel
theorem dX6_readRest_63 : decode cX6_readRest 63 = .ok (.aload_n 0, 1) := by decide +kernel
theorem dX6_readRest_64 : decode cX6_readRest 64 = .ok (.iconst 0, 1) := by decide +kernel
theorem dX6_readRest_65 : decode cX6_readRest 65 = .ok (.iconst 5, 1) := by decide +kernel
theorem dX6_readRest_66 : decode cX6_readRest 66 = .ok (.invokevirtual 73, 3) := by decide +kernel
theorem dX6_readRest_69 : decode cX6_readRest 69 = .ok (.iastore, 1) := by decide +kernel
theorem dX6_readRest_70 : decode cX6_readRest 70 = .ok (.aload_n 1, 1) := by decide +kernel
theorem dX6_readRest_71 : decode cX6_readRest 71 = .ok (.getfield 83, 3) := by decide +kernel
theorem dX6_readRest_74 : decode cX6_readRest 74 = .ok (.aload_n 1, 1) := by decide +kernel
theorem dX6_readRest_75 : decode cX6_readRest 75 = .ok (.getfield 64, 3) := by decide +kernel
theorem dX6_readRest_78 : decode cX6_readRest 78 = .ok (.aload_n 0, 1) := by decide +kernel
theorem dX6_readRest_79 : decode cX6_readRest 79 = .ok (.iconst 1, 1) := by decide +kernel
theorem dX6_readRest_80 : decode cX6_readRest 80 = .ok (.bipush 9, 2) := by decide +kernel
theorem dX6_readRest_82 : decode cX6_readRest 82 = .ok (.invokevirtual 73, 3) := by decide +kernel
theorem dX6_readRest_85 : decode cX6_readRest 85 = .ok (.iastore, 1) := by decide +kernel
theorem dX6_readRest_86 : decode cX6_readRest 86 = .ok (.aload_n 1, 1) := by decide +kernel
theorem dX6_readRest_87 : decode cX6_readRest 87 = .ok (.dup, 1) := by decide +kernel
theorem dX6_readRest_88 : decode cX6_readRest 88 = .ok (.getfield 64, 3) := by decide +kernel
theorem dX6_readRest_91 : decode cX6_readRest 91 = .ok (.iconst 1, 1) := by decide +kernel
theorem dX6_readRest_92 : decode cX6_readRest 92 = .ok (.iadd, 1) := by decide +kernel
theorem dX6_readRest_93 : decode cX6_readRest 93 = .ok (.putfield 64, 3) := by decide +kernel
theorem dX6_readRest_96 : decode cX6_readRest 96 = .ok (.goto 63, 3) := by decide +kernel
theorem dX6_readRest_99 : decode cX6_readRest 99 = .ok (.aload_n 0, 1) := by decide +kernel
theorem dX6_readRest_100 : decode cX6_readRest 100 = .ok (.aload_n 1, 1) := by decide +kernel
theorem dX6_readRest_101 : decode cX6_readRest 101 = .ok (.invokevirtual 86, 3) := by decide +kernel
theorem dX6_readRest_104 : decode cX6_readRest 104 = .ok (.aload_n 1, 1) := by decide +kernel
theorem dX6_readRest_105 : decode cX6_readRest 105 = .ok (.dup, 1) := by decide +kernel
theorem dX6_readRest_106 : decode cX6_readRest 106 = .ok (.getfield 67, 3) := by decide +kernel
theorem dX6_readRest_109 : decode cX6_readRest 109 = .ok (.iconst 1, 1) := by decide +kernel
theorem dX6_readRest_110 : decode cX6_readRest 110 = .ok (.iadd, 1) := by decide +kernel
theorem dX6_readRest_111 : decode cX6_readRest 111 = .ok (.putfield 67, 3) := by decide +kernel
theorem dX6_readRest_114 : decode cX6_readRest 114 = .ok (.goto 45, 3) := by decide +kernel
theorem dX6_readRest_117 : decode cX6_readRest 117 = .ok (.aload_n 1, 1) := by decide +kernel
theorem dX6_readRest_118 : decode cX6_readRest 118 = .ok (.getfield 89, 3) := by decide +kernel
theorem dX6_readRest_121 : decode cX6_readRest 121 = .ok (.aload_n 1, 1) := by decide +kernel
theorem dX6_readRest_122 : decode cX6_readRest 122 = .ok (.getfield 70, 3) := by decide +kernel
theorem dX6_readRest_125 : decode cX6_readRest 125 = .ok (.aload_n 0, 1) := by decide +kernel
theorem dX6_readRest_126 : decode cX6_readRest 126 = .ok (.iconst 0, 1) := by decide +kernel
theorem dX6_readRest_127 : decode cX6_readRest 127 = .ok (.bipush 6, 2) := by decide +kernel
theorem dX6_readRest_129 : decode cX6_readRest 129 = .ok (.invokevirtual 73, 3) := by decide +kernel
theorem dX6_readRest_132 : decode cX6_readRest 132 = .ok (.iastore, 1) := by decide +kernel
theorem dX6_readRest_133 : decode cX6_readRest 133 = .ok (.aload_n 1, 1) := by decide +kernel
theorem dX6_readRest_134 : decode cX6_readRest 134 = .ok (.getfield 92, 3) := by decide +kernel
theorem dX6_readRest_137 : decode cX6_readRest 137 = .ok (.aload_n 1, 1) := by decide +kernel
theorem dX6_readRest_138 : decode cX6_readRest 138 = .ok (.getfield 70, 3) := by decide +kernel
theorem dX6_readRest_141 : decode cX6_readRest 141 = .ok (.aload_n 0, 1) := by decide +kernel
theorem dX6_readRest_142 : decode cX6_readRest 142 = .ok (.iconst 0, 1) := by decide +kernel
theorem dX6_readRest_143 : decode cX6_readRest 143 = .ok (.bipush 6, 2) := by decide +kernel
theorem dX6_readRest_145 : decode cX6_readRest 145 = .ok (.invokevirtual 73, 3) := by decide +kernel
theorem dX6_readRest_148 : decode cX6_readRest 148 = .ok (.iastore, 1) := by decide +kernel
theorem dX6_readRest_149 : decode cX6_readRest 149 = .ok (.aload_n 1, 1) := by decide +kernel
theorem dX6_readRest_150 : decode cX6_readRest 150 = .ok (.dup, 1) := by decide +kernel
theorem dX6_readRest_151 : decode cX6_readRest 151 = .ok (.getfield 70, 3) := by decide +kernel
theorem dX6_readRest_154 : decode cX6_readRest 154 = .ok (.iconst 1, 1) := by decide +kernel
theorem dX6_readRest_155 : decode cX6_readRest 155 = .ok (.iadd, 1) := by decide +kernel
theorem dX6_readRest_156 : decode cX6_readRest 156 = .ok (.putfield 70, 3) := by decide +kernel
theorem dX6_readRest_159 : decode cX6_readRest 159 = .ok (.return_, 1) := by decide +kernel
theorem dX6_readKinds_0 : decode cX6_readKinds 0 = .ok (.aload_n 1, 1) := by decide +kernel
theorem dX6_readKinds_1 : decode cX6_readKinds 1 = .ok (.getfield 67, 3) := by decide +kernel
theorem dX6_readKinds_4 : decode cX6_readKinds 4 = .ok (.iconst 4, 1) := by decide +kernel
theorem dX6_readKinds_5 : decode cX6_readKinds 5 = .ok (.imul, 1) := by decide +kernel
theorem dX6_readKinds_6 : decode cX6_readKinds 6 = .ok (.istore_n 2, 1) := by decide +kernel
theorem dX6_readKinds_7 : decode cX6_readKinds 7 = .ok (.aload_n 1, 1) := by decide +kernel
theorem dX6_readKinds_8 : decode cX6_readKinds 8 = .ok (.getfield 95, 3) := by decide +kernel
theorem dX6_readKinds_11 : decode cX6_readKinds 11 = .ok (.iload_n 2, 1) := by decide +kernel
theorem dX6_readKinds_12 : decode cX6_readKinds 12 = .ok (.aload_n 0, 1) := by decide +kernel
theorem dX6_readKinds_13 : decode cX6_readKinds 13 = .ok (.iconst 0, 1) := by decide +kernel
theorem dX6_readKinds_14 : decode cX6_readKinds 14 = .ok (.iconst 5, 1) := by decide +kernel
theorem dX6_readKinds_15 : decode cX6_readKinds 15 = .ok (.invokevirtual 73, 3) := by decide +kernel
theorem dX6_readKinds_18 : decode cX6_readKinds 18 = .ok (.iastore, 1) := by decide +kernel
theorem dX6_readKinds_19 : decode cX6_readKinds 19 = .ok (.iconst 1, 1) := by decide +kernel
theorem dX6_readKinds_20 : decode cX6_readKinds 20 = .ok (.istore_n 3, 1) := by decide +kernel
theorem dX6_readKinds_21 : decode cX6_readKinds 21 = .ok (.aload_n 0, 1) := by decide +kernel
theorem dX6_readKinds_22 : decode cX6_readKinds 22 = .ok (.invokevirtual 33, 3) := by decide +kernel
theorem dX6_readKinds_25 : decode cX6_readKinds 25 = .ok (.iload_n 3, 1) := by decide +kernel
theorem dX6_readKinds_26 : decode cX6_readKinds 26 = .ok (.iconst 4, 1) := by decide +kernel
theorem dX6_readKinds_27 : decode cX6_readKinds 27 = .ok (.if_icmp .ge 53, 3) := by decide +kernel
theorem dX6_readKinds_30 : decode cX6_readKinds 30 = .ok (.aload_n 0, 1) := by decide +kernel
theorem dX6_readKinds_31 : decode cX6_readKinds 31 = .ok (.getfield 19, 3) := by decide +kernel
theorem dX6_readKinds_34 : decode cX6_readKinds 34 = .ok (.ifCond .ne 46, 3) := by decide +kernel
theorem dX6_readKinds_37 : decode cX6_readKinds 37 = .ok (.aload_n 0, 1) := by decide +kernel
theorem dX6_readKinds_38 : decode cX6_readKinds 38 = .ok (.invokevirtual 40, 3) := by decide +kernel
theorem dX6_readKinds_41 : decode cX6_readKinds 41 = .ok (.bipush 44, 2) := by decide +kernel
theorem dX6_readKinds_43 : decode cX6_readKinds 43 = .ok (.if_icmp .ne 37, 3) := by decide +kernel
theorem dX6_readKinds_46 : decode cX6_readKinds 46 = .ok (.aload_n 0, 1) := by decide +kernel
theorem dX6_readKinds_47 : decode cX6_readKinds 47 = .ok (.dup, 1) := by decide +kernel
theorem dX6_readKinds_48 : decode cX6_readKinds 48 = .ok (.getfield 25, 3) := by decide +kernel
theorem dX6_readKinds_51 : decode cX6_readKinds 51 = .ok (.iconst 1, 1) := by decide +kernel
theorem dX6_readKinds_52 : decode cX6_readKinds 52 = .ok (.iadd, 1) := by decide +kernel
theorem dX6_readKinds_53 : decode cX6_readKinds 53 = .ok (.putfield 25, 3) := by decide +kernel
theorem dX6_readKinds_56 : decode cX6_readKinds 56 = .ok (.aload_n 1, 1) := by decide +kernel
theorem dX6_readKinds_57 : decode cX6_readKinds 57 = .ok (.getfield 95, 3) := by decide +kernel
theorem dX6_readKinds_60 : decode cX6_readKinds 60 = .ok (.iload_n 2, 1) := by decide +kernel
theorem dX6_readKinds_61 : decode cX6_readKinds 61 = .ok (.iload_n 3, 1) := by decide +kernel
theorem dX6_readKinds_62 : decode cX6_readKinds 62 = .ok (.iadd, 1) := by decide +kernel
theorem dX6_readKinds_63 : decode cX6_readKinds 63 = .ok (.aload_n 0, 1) := by decide +kernel
theorem dX6_readKinds_64 : decode cX6_readKinds 64 = .ok (.iconst 0, 1) := by decide +kernel
theorem dX6_readKinds_65 : decode cX6_readKinds 65 = .ok (.iconst 5, 1) := by decide +kernel
theorem dX6_readKinds_66 : decode cX6_readKinds 66 = .ok (.invokevirtual 73, 3) := by decide +kernel
theorem dX6_readKinds_69 : decode cX6_readKinds 69 = .ok (.iastore, 1) := by decide +kernel
theorem dX6_readKinds_70 : decode cX6_readKinds 70 = .ok (.iinc 3 1, 3) := by decide +kernel
theorem dX6_readKinds_73 : decode cX6_readKinds 73 = .ok (.aload_n 0, 1) := by decide +kernel
theorem dX6_readKinds_74 : decode cX6_readKinds 74 = .ok (.invokevirtual 33, 3) := by decide +kernel
theorem dX6_readKinds_77 : decode cX6_readKinds 77 = .ok (.goto (-52), 3) := by decide +kernel
theorem dX6_readKinds_80 : decode cX6_readKinds 80 = .ok (.aload_n 1, 1) := by decide +kernel
theorem dX6_readKinds_81 : decode cX6_readKinds 81 = .ok (.getfield 98, 3) := by decide +kernel
theorem dX6_readKinds_84 : decode cX6_readKinds 84 = .ok (.aload_n 1, 1) := by decide +kernel
theorem dX6_readKinds_85 : decode cX6_readKinds 85 = .ok (.getfield 67, 3) := by decide +kernel
theorem dX6_readKinds_88 : decode cX6_readKinds 88 = .ok (.iload_n 3, 1) := by decide +kernel
theorem dX6_readKinds_89 : decode cX6_readKinds 89 = .ok (.iastore, 1) := by decide +kernel
theorem dX6_readKinds_90 : decode cX6_readKinds 90 = .ok (.return_, 1) := by decide +kernel
theorem dX6_readNumber_0 : decode cX6_readNumber 0 = .ok (.aload_n 0, 1) := by decide +kernel
theorem dX6_readNumber_1 : decode cX6_readNumber 1 = .ok (.invokevirtual 33, 3) := by decide +kernel
theorem dX6_readNumber_4 : decode cX6_readNumber 4 = .ok (.aload_n 0, 1) := by decide +kernel
theorem dX6_readNumber_5 : decode cX6_readNumber 5 = .ok (.invokevirtual 40, 3) := by decide +kernel
theorem dX6_readNumber_8 : decode cX6_readNumber 8 = .ok (.invokestatic 101, 3) := by decide +kernel
theorem dX6_readNumber_11 : decode cX6_readNumber 11 = .ok (.ifCond .ne 14, 3) := by decide +kernel
theorem dX6_readNumber_14 : decode cX6_readNumber 14 = .ok (.aload_n 0, 1) := by decide +kernel
theorem dX6_readNumber_15 : decode cX6_readNumber 15 = .ok (.iconst 1, 1) := by decide +kernel
theorem dX6_readNumber_16 : decode cX6_readNumber 16 = .ok (.aload_n 0, 1) := by decide +kernel
theorem dX6_readNumber_17 : decode cX6_readNumber 17 = .ok (.getfield 25, 3) := by decide +kernel
theorem dX6_readNumber_20 : decode cX6_readNumber 20 = .ok (.invokevirtual 48, 3) := by decide +kernel
theorem dX6_readNumber_23 : decode cX6_readNumber 23 = .ok (.iload_n 1, 1) := by decide +kernel
theorem dX6_readNumber_24 : decode cX6_readNumber 24 = .ok (.ireturn, 1) := by decide +kernel
theorem dX6_readNumber_25 : decode cX6_readNumber 25 = .ok (.aload_n 0, 1) := by decide +kernel
theorem dX6_readNumber_26 : decode cX6_readNumber 26 = .ok (.getfield 25, 3) := by decide +kernel
theorem dX6_readNumber_29 : decode cX6_readNumber 29 = .ok (.istore_n 3, 1) := by decide +kernel
theorem dX6_readNumber_30 : decode cX6_readNumber 30 = .ok (.iconst 0, 1) := by decide +kernel
theorem dX6_readNumber_31 : decode cX6_readNumber 31 = .ok (.istore 4, 2) := by decide +kernel
theorem dX6_readNumber_33 : decode cX6_readNumber 33 = .ok (.aload_n 0, 1) := by decide +kernel
theorem dX6_readNumber_34 : decode cX6_readNumber 34 = .ok (.getfield 25, 3) := by decide +kernel
theorem dX6_readNumber_37 : decode cX6_readNumber 37 = .ok (.aload_n 0, 1) := by decide +kernel
theorem dX6_readNumber_38 : decode cX6_readNumber 38 = .ok (.getfield 15, 3) := by decide +kernel
theorem dX6_readNumber_41 : decode cX6_readNumber 41 = .ok (.if_icmp .ge 61, 3) := by decide +kernel
theorem dX6_readNumber_44 : decode cX6_readNumber 44 = .ok (.aload_n 0, 1) := by decide +kernel
theorem dX6_readNumber_45 : decode cX6_readNumber 45 = .ok (.getfield 9, 3) := by decide +kernel
theorem dX6_readNumber_48 : decode cX6_readNumber 48 = .ok (.aload_n 0, 1) := by decide +kernel
theorem dX6_readNumber_49 : decode cX6_readNumber 49 = .ok (.getfield 25, 3) := by decide +kernel
theorem dX6_readNumber_52 : decode cX6_readNumber 52 = .ok (.iaload, 1) := by decide +kernel
theorem dX6_readNumber_53 : decode cX6_readNumber 53 = .ok (.invokestatic 101, 3) := by decide +kernel
theorem dX6_readNumber_56 : decode cX6_readNumber 56 = .ok (.ifCond .eq 46, 3) := by decide +kernel
theorem dX6_readNumber_59 : decode cX6_readNumber 59 = .ok (.aload_n 0, 1) := by decide +kernel
theorem dX6_readNumber_60 : decode cX6_readNumber 60 = .ok (.getfield 25, 3) := by decide +kernel
theorem dX6_readNumber_63 : decode cX6_readNumber 63 = .ok (.iload_n 3, 1) := by decide +kernel
theorem dX6_readNumber_64 : decode cX6_readNumber 64 = .ok (.isub, 1) := by decide +kernel
theorem dX6_readNumber_65 : decode cX6_readNumber 65 = .ok (.iconst 3, 1) := by decide +kernel
theorem dX6_readNumber_66 : decode cX6_readNumber 66 = .ok (.if_icmp .ge 23, 3) := by decide +kernel
theorem dX6_readNumber_69 : decode cX6_readNumber 69 = .ok (.iload 4, 2) := by decide +kernel
theorem dX6_readNumber_71 : decode cX6_readNumber 71 = .ok (.bipush 10, 2) := by decide +kernel
theorem dX6_readNumber_73 : decode cX6_readNumber 73 = .ok (.imul, 1) := by decide +kernel
theorem dX6_readNumber_74 : decode cX6_readNumber 74 = .ok (.aload_n 0, 1) := by decide +kernel
theorem dX6_readNumber_75 : decode cX6_readNumber 75 = .ok (.getfield 9, 3) := by decide +kernel
theorem dX6_readNumber_78 : decode cX6_readNumber 78 = .ok (.aload_n 0, 1) := by decide +kernel
theorem dX6_readNumber_79 : decode cX6_readNumber 79 = .ok (.getfield 25, 3) := by decide +kernel
theorem dX6_readNumber_82 : decode cX6_readNumber 82 = .ok (.iaload, 1) := by decide +kernel
theorem dX6_readNumber_83 : decode cX6_readNumber 83 = .ok (.iadd, 1) := by decide +kernel
theorem dX6_readNumber_84 : decode cX6_readNumber 84 = .ok (.bipush 48, 2) := by decide +kernel
theorem dX6_readNumber_86 : decode cX6_readNumber 86 = .ok (.isub, 1) := by decide +kernel
theorem dX6_readNumber_87 : decode cX6_readNumber 87 = .ok (.istore 4, 2) := by decide +kernel
theorem dX6_readNumber_89 : decode cX6_readNumber 89 = .ok (.aload_n 0, 1) := by decide +kernel
theorem dX6_readNumber_90 : decode cX6_readNumber 90 = .ok (.dup, 1) := by decide +kernel
theorem dX6_readNumber_91 : decode cX6_readNumber 91 = .ok (.getfield 25, 3) := by decide +kernel
theorem dX6_readNumber_94 : decode cX6_readNumber 94 = .ok (.iconst 1, 1) := by decide +kernel
theorem dX6_readNumber_95 : decode cX6_readNumber 95 = .ok (.iadd, 1) := by decide +kernel
theorem dX6_readNumber_96 : decode cX6_readNumber 96 = .ok (.putfield 25, 3) := by decide +kernel
theorem dX6_readNumber_99 : decode cX6_readNumber 99 = .ok (.goto (-66), 3) := by decide +kernel
theorem dX6_readNumber_102 : decode cX6_readNumber 102 = .ok (.aload_n 0, 1) := by decide +kernel
theorem dX6_readNumber_103 : decode cX6_readNumber 103 = .ok (.getfield 25, 3) := by decide +kernel
theorem dX6_readNumber_106 : decode cX6_readNumber 106 = .ok (.iload_n 3, 1) := by decide +kernel
theorem dX6_readNumber_107 : decode cX6_readNumber 107 = .ok (.isub, 1) := by decide +kernel
theorem dX6_readNumber_108 : decode cX6_readNumber 108 = .ok (.iconst 3, 1) := by decide +kernel
theorem dX6_readNumber_109 : decode cX6_readNumber 109 = .ok (.if_icmp .gt 15, 3) := by decide +kernel
theorem dX6_readNumber_112 : decode cX6_readNumber 112 = .ok (.iload 4, 2) := by decide +kernel
theorem dX6_readNumber_114 : decode cX6_readNumber 114 = .ok (.iload_n 1, 1) := by decide +kernel
theorem dX6_readNumber_115 : decode cX6_readNumber 115 = .ok (.if_icmp .lt 9, 3) := by decide +kernel
theorem dX6_readNumber_118 : decode cX6_readNumber 118 = .ok (.iload 4, 2) := by decide +kernel
theorem dX6_readNumber_120 : decode cX6_readNumber 120 = .ok (.iload_n 2, 1) := by decide +kernel
theorem dX6_readNumber_121 : decode cX6_readNumber 121 = .ok (.if_icmp .le 11, 3) := by decide +kernel
theorem dX6_readNumber_124 : decode cX6_readNumber 124 = .ok (.aload_n 0, 1) := by decide +kernel
theorem dX6_readNumber_125 : decode cX6_readNumber 125 = .ok (.iconst 2, 1) := by decide +kernel
theorem dX6_readNumber_126 : decode cX6_readNumber 126 = .ok (.iload_n 3, 1) := by decide +kernel
theorem dX6_readNumber_127 : decode cX6_readNumber 127 = .ok (.invokevirtual 48, 3) := by decide +kernel
theorem dX6_readNumber_130 : decode cX6_readNumber 130 = .ok (.iload_n 1, 1) := by decide +kernel
theorem dX6_readNumber_131 : decode cX6_readNumber 131 = .ok (.ireturn, 1) := by decide +kernel
theorem dX6_readNumber_132 : decode cX6_readNumber 132 = .ok (.iload 4, 2) := by decide +kernel
theorem dX6_readNumber_134 : decode cX6_readNumber 134 = .ok (.ireturn, 1) := by decide +kernel
theorem dX6_readMark_0 : decode cX6_readMark 0 = .ok (.aload_n 0, 1) := by decide +kernel
theorem dX6_readMark_1 : decode cX6_readMark 1 = .ok (.invokevirtual 33, 3) := by decide +kernel
theorem dX6_readMark_4 : decode cX6_readMark 4 = .ok (.aload_n 0, 1) := by decide +kernel
theorem dX6_readMark_5 : decode cX6_readMark 5 = .ok (.invokevirtual 40, 3) := by decide +kernel
theorem dX6_readMark_8 : decode cX6_readMark 8 = .ok (.iload_n 1, 1) := by decide +kernel
theorem dX6_readMark_9 : decode cX6_readMark 9 = .ok (.if_icmp .ne 16, 3) := by decide +kernel
theorem dX6_readMark_12 : decode cX6_readMark 12 = .ok (.aload_n 0, 1) := by decide +kernel
theorem dX6_readMark_13 : decode cX6_readMark 13 = .ok (.dup, 1) := by decide +kernel
theorem dX6_readMark_14 : decode cX6_readMark 14 = .ok (.getfield 25, 3) := by decide +kernel
theorem dX6_readMark_17 : decode cX6_readMark 17 = .ok (.iconst 1, 1) := by decide +kernel
theorem dX6_readMark_18 : decode cX6_readMark 18 = .ok (.iadd, 1) := by decide +kernel
theorem dX6_readMark_19 : decode cX6_readMark 19 = .ok (.putfield 25, 3) := by decide +kernel
theorem dX6_readMark_22 : decode cX6_readMark 22 = .ok (.goto 12, 3) := by decide +kernel
theorem dX6_readMark_25 : decode cX6_readMark 25 = .ok (.aload_n 0, 1) := by decide +kernel
theorem dX6_readMark_26 : decode cX6_readMark 26 = .ok (.iconst 1, 1) := by decide +kernel
theorem dX6_readMark_27 : decode cX6_readMark 27 = .ok (.aload_n 0, 1) := by decide +kernel
theorem dX6_readMark_28 : decode cX6_readMark 28 = .ok (.getfield 25, 3) := by decide +kernel
theorem dX6_readMark_31 : decode cX6_readMark 31 = .ok (.invokevirtual 48, 3) := by decide +kernel
theorem dX6_readMark_34 : decode cX6_readMark 34 = .ok (.return_, 1) := by decide +kernel
theorem dX6_skipBlanks_0 : decode cX6_skipBlanks 0 = .ok (.aload_n 0, 1) := by decide +kernel
theorem dX6_skipBlanks_1 : decode cX6_skipBlanks 1 = .ok (.getfield 25, 3) := by decide +kernel
theorem dX6_skipBlanks_4 : decode cX6_skipBlanks 4 = .ok (.aload_n 0, 1) := by decide +kernel
theorem dX6_skipBlanks_5 : decode cX6_skipBlanks 5 = .ok (.getfield 15, 3) := by decide +kernel
theorem dX6_skipBlanks_8 : decode cX6_skipBlanks 8 = .ok (.if_icmp .ge 30, 3) := by decide +kernel
theorem dX6_skipBlanks_11 : decode cX6_skipBlanks 11 = .ok (.aload_n 0, 1) := by decide +kernel
theorem dX6_skipBlanks_12 : decode cX6_skipBlanks 12 = .ok (.getfield 9, 3) := by decide +kernel
theorem dX6_skipBlanks_15 : decode cX6_skipBlanks 15 = .ok (.aload_n 0, 1) := by decide +kernel
theorem dX6_skipBlanks_16 : decode cX6_skipBlanks 16 = .ok (.getfield 25, 3) := by decide +kernel
theorem dX6_skipBlanks_19 : decode cX6_skipBlanks 19 = .ok (.iaload, 1) := by decide +kernel
theorem dX6_skipBlanks_20 : decode cX6_skipBlanks 20 = .ok (.bipush 32, 2) := by decide +kernel
theorem dX6_skipBlanks_22 : decode cX6_skipBlanks 22 = .ok (.if_icmp .ne 16, 3) := by decide +kernel
theorem dX6_skipBlanks_25 : decode cX6_skipBlanks 25 = .ok (.aload_n 0, 1) := by decide +kernel
theorem dX6_skipBlanks_26 : decode cX6_skipBlanks 26 = .ok (.dup, 1) := by decide +kernel
theorem dX6_skipBlanks_27 : decode cX6_skipBlanks 27 = .ok (.getfield 25, 3) := by decide +kernel
theorem dX6_skipBlanks_30 : decode cX6_skipBlanks 30 = .ok (.iconst 1, 1) := by decide +kernel
theorem dX6_skipBlanks_31 : decode cX6_skipBlanks 31 = .ok (.iadd, 1) := by decide +kernel
theorem dX6_skipBlanks_32 : decode cX6_skipBlanks 32 = .ok (.putfield 25, 3) := by decide +kernel
theorem dX6_skipBlanks_35 : decode cX6_skipBlanks 35 = .ok (.goto (-35), 3) := by decide +kernel
theorem dX6_skipBlanks_38 : decode cX6_skipBlanks 38 = .ok (.return_, 1) := by decide +kernel
theorem dX6_letterHere_0 : decode cX6_letterHere 0 = .ok (.aload_n 0, 1) := by decide +kernel
theorem dX6_letterHere_1 : decode cX6_letterHere 1 = .ok (.getfield 25, 3) := by decide +kernel
theorem dX6_letterHere_4 : decode cX6_letterHere 4 = .ok (.aload_n 0, 1) := by decide +kernel
theorem dX6_letterHere_5 : decode cX6_letterHere 5 = .ok (.getfield 15, 3) := by decide +kernel
theorem dX6_letterHere_8 : decode cX6_letterHere 8 = .ok (.if_icmp .ge 15, 3) := by decide +kernel
theorem dX6_letterHere_11 : decode cX6_letterHere 11 = .ok (.aload_n 0, 1) := by decide +kernel
theorem dX6_letterHere_12 : decode cX6_letterHere 12 = .ok (.getfield 9, 3) := by decide +kernel
theorem dX6_letterHere_15 : decode cX6_letterHere 15 = .ok (.aload_n 0, 1) := by decide +kernel
theorem dX6_letterHere_16 : decode cX6_letterHere 16 = .ok (.getfield 25, 3) := by decide +kernel
theorem dX6_letterHere_19 : decode cX6_letterHere 19 = .ok (.iaload, 1) := by decide +kernel
theorem dX6_letterHere_20 : decode cX6_letterHere 20 = .ok (.goto 4, 3) := by decide +kernel
theorem dX6_letterHere_23 : decode cX6_letterHere 23 = .ok (.iconst (-1), 1) := by decide +kernel
theorem dX6_letterHere_24 : decode cX6_letterHere 24 = .ok (.ireturn, 1) := by decide +kernel
theorem dX6_isFigure_0 : decode cX6_isFigure 0 = .ok (.iload_n 0, 1) := by decide +kernel
theorem dX6_isFigure_1 : decode cX6_isFigure 1 = .ok (.bipush 48, 2) := by decide +kernel
theorem dX6_isFigure_3 : decode cX6_isFigure 3 = .ok (.if_icmp .lt 13, 3) := by decide +kernel
theorem dX6_isFigure_6 : decode cX6_isFigure 6 = .ok (.iload_n 0, 1) := by decide +kernel
theorem dX6_isFigure_7 : decode cX6_isFigure 7 = .ok (.bipush 57, 2) := by decide +kernel
theorem dX6_isFigure_9 : decode cX6_isFigure 9 = .ok (.if_icmp .gt 7, 3) := by decide +kernel
theorem dX6_isFigure_12 : decode cX6_isFigure 12 = .ok (.iconst 1, 1) := by decide +kernel
theorem dX6_isFigure_13 : decode cX6_isFigure 13 = .ok (.goto 4, 3) := by decide +kernel
theorem dX6_isFigure_16 : decode cX6_isFigure 16 = .ok (.iconst 0, 1) := by decide +kernel
theorem dX6_isFigure_17 : decode cX6_isFigure 17 = .ok (.ireturn, 1) := by decide +kernel
theorem dX6_blame_0 : decode cX6_blame 0 = .ok (.aload_n 0, 1) := by decide +kernel
theorem dX6_blame_1 : decode cX6_blame 1 = .ok (.getfield 19, 3) := by decide +kernel
theorem dX6_blame_4 : decode cX6_blame 4 = .ok (.ifCond .ne 13, 3) := by decide +kernel
theorem dX6_blame_7 : decode cX6_blame 7 = .ok (.aload_n 0, 1) := by decide +kernel
theorem dX6_blame_8 : decode cX6_blame 8 = .ok (.iload_n 1, 1) := by decide +kernel
theorem dX6_blame_9 : decode cX6_blame 9 = .ok (.putfield 19, 3) := by decide +kernel
theorem dX6_blame_12 : decode cX6_blame 12 = .ok (.aload_n 0, 1) := by decide +kernel
theorem dX6_blame_13 : decode cX6_blame 13 = .ok (.iload_n 2, 1) := by decide +kernel
theorem dX6_blame_14 : decode cX6_blame 14 = .ok (.putfield 22, 3) := by decide +kernel
theorem dX6_blame_17 : decode cX6_blame 17 = .ok (.return_, 1) := by decide +kernel
theorem dX7_init_0 : decode cX7_init 0 = .ok (.aload_n 0, 1) := by decide +kernel
theorem dX7_init_1 : decode cX7_init 1 = .ok (.invokespecial 3, 3) := by decide +kernel
theorem dX7_init_4 : decode cX7_init 4 = .ok (.aload_n 0, 1) := by decide +kernel
theorem dX7_init_5 : decode cX7_init 5 = .ok (.bipush 8, 2) := by decide +kernel
theorem dX7_init_7 : decode cX7_init 7 = .ok (.newarray .int, 2) := by decide +kernel
theorem dX7_init_9 : decode cX7_init 9 = .ok (.putfield 9, 3) := by decide +kernel
theorem dX7_init_12 : decode cX7_init 12 = .ok (.return_, 1) := by decide +kernel
theorem dX7_readings_0 : decode cX7_readings 0 = .ok (.aload_n 0, 1) := by decide +kernel
theorem dX7_readings_1 : decode cX7_readings 1 = .ok (.aload_n 1, 1) := by decide +kernel
theorem dX7_readings_2 : decode cX7_readings 2 = .ok (.aload_n 2, 1) := by decide +kernel
theorem dX7_readings_3 : decode cX7_readings 3 = .ok (.invokevirtual 15, 3) := by decide +kernel
theorem dX7_readings_6 : decode cX7_readings 6 = .ok (.aload_n 0, 1) := by decide +kernel
theorem dX7_readings_7 : decode cX7_readings 7 = .ok (.getfield 9, 3) := by decide +kernel
theorem dX7_readings_10 : decode cX7_readings 10 = .ok (.iconst 0, 1) := by decide +kernel
theorem dX7_readings_11 : decode cX7_readings 11 = .ok (.iaload, 1) := by decide +kernel
theorem dX7_readings_12 : decode cX7_readings 12 = .ok (.ireturn, 1) := by decide +kernel
theorem dX7_firstReading_0 : decode cX7_firstReading 0 = .ok (.aload_n 0, 1) := by decide +kernel
theorem dX7_firstReading_1 : decode cX7_firstReading 1 = .ok (.aload_n 1, 1) := by decide +kernel
theorem dX7_firstReading_2 : decode cX7_firstReading 2 = .ok (.aload_n 2, 1) := by decide +kernel
theorem dX7_firstReading_3 : decode cX7_firstReading 3 = .ok (.invokevirtual 15, 3) := by decide +kernel
theorem dX7_firstReading_6 : decode cX7_firstReading 6 = .ok (.aload_n 0, 1) := by decide +kernel
theorem dX7_firstReading_7 : decode cX7_firstReading 7 = .ok (.getfield 9, 3) := by decide +kernel
theorem dX7_firstReading_10 : decode cX7_firstReading 10 = .ok (.iconst 0, 1) := by decide +kernel
theorem dX7_firstReading_11 : decode cX7_firstReading 11 = .ok (.iaload, 1) := by decide +kernel
theorem dX7_firstReading_12 : decode cX7_firstReading 12 = .ok (.ifCond .ne 5, 3) := by decide +kernel
theorem dX7_firstReading_15 : decode cX7_firstReading 15 = .ok (.iconst (-1), 1) := by decide +kernel
theorem dX7_firstReading_16 : decode cX7_firstReading 16 = .ok (.ireturn, 1) := by decide +kernel
theorem dX7_firstReading_17 : decode cX7_firstReading 17 = .ok (.iconst 0, 1) := by decide +kernel
theorem dX7_firstReading_18 : decode cX7_firstReading 18 = .ok (.istore_n 3, 1) := by decide +kernel
theorem dX7_firstReading_19 : decode cX7_firstReading 19 = .ok (.iconst 0, 1) := by decide +kernel
theorem dX7_firstReading_20 : decode cX7_firstReading 20 = .ok (.istore 4, 2) := by decide +kernel
theorem dX7_firstReading_22 : decode cX7_firstReading 22 = .ok (.iconst 0, 1) := by decide +kernel
theorem dX7_firstReading_23 : decode cX7_firstReading 23 = .ok (.istore 5, 2) := by decide +kernel
theorem dX7_firstReading_25 : decode cX7_firstReading 25 = .ok (.iload 5, 2) := by decide +kernel
theorem dX7_firstReading_27 : decode cX7_firstReading 27 = .ok (.bipush 7, 2) := by decide +kernel
theorem dX7_firstReading_29 : decode cX7_firstReading 29 = .ok (.if_icmp .ge 58, 3) := by decide +kernel
theorem dX7_firstReading_32 : decode cX7_firstReading 32 = .ok (.iload 4, 2) := by decide +kernel
theorem dX7_firstReading_34 : decode cX7_firstReading 34 = .ok (.aload_n 2, 1) := by decide +kernel
theorem dX7_firstReading_35 : decode cX7_firstReading 35 = .ok (.getfield 19, 3) := by decide +kernel
theorem dX7_firstReading_38 : decode cX7_firstReading 38 = .ok (.if_icmp .ge 49, 3) := by decide +kernel
theorem dX7_firstReading_41 : decode cX7_firstReading 41 = .ok (.aload_n 0, 1) := by decide +kernel
theorem dX7_firstReading_42 : decode cX7_firstReading 42 = .ok (.aload_n 1, 1) := by decide +kernel
theorem dX7_firstReading_43 : decode cX7_firstReading 43 = .ok (.aload_n 2, 1) := by decide +kernel
theorem dX7_firstReading_44 : decode cX7_firstReading 44 = .ok (.iload 4, 2) := by decide +kernel
theorem dX7_firstReading_46 : decode cX7_firstReading 46 = .ok (.invokevirtual 25, 3) := by decide +kernel
theorem dX7_firstReading_49 : decode cX7_firstReading 49 = .ok (.istore 6, 2) := by decide +kernel
theorem dX7_firstReading_51 : decode cX7_firstReading 51 = .ok (.iload 6, 2) := by decide +kernel
theorem dX7_firstReading_53 : decode cX7_firstReading 53 = .ok (.iconst (-1), 1) := by decide +kernel
theorem dX7_firstReading_54 : decode cX7_firstReading 54 = .ok (.if_icmp .ne 5, 3) := by decide +kernel
theorem dX7_firstReading_57 : decode cX7_firstReading 57 = .ok (.iconst (-1), 1) := by decide +kernel
theorem dX7_firstReading_58 : decode cX7_firstReading 58 = .ok (.ireturn, 1) := by decide +kernel
theorem dX7_firstReading_59 : decode cX7_firstReading 59 = .ok (.iload_n 3, 1) := by decide +kernel
theorem dX7_firstReading_60 : decode cX7_firstReading 60 = .ok (.bipush 10, 2) := by decide +kernel
theorem dX7_firstReading_62 : decode cX7_firstReading 62 = .ok (.imul, 1) := by decide +kernel
theorem dX7_firstReading_63 : decode cX7_firstReading 63 = .ok (.iload 6, 2) := by decide +kernel
theorem dX7_firstReading_65 : decode cX7_firstReading 65 = .ok (.iadd, 1) := by decide +kernel
theorem dX7_firstReading_66 : decode cX7_firstReading 66 = .ok (.iconst 1, 1) := by decide +kernel
theorem dX7_firstReading_67 : decode cX7_firstReading 67 = .ok (.iadd, 1) := by decide +kernel
theorem dX7_firstReading_68 : decode cX7_firstReading 68 = .ok (.istore_n 3, 1) := by decide +kernel
theorem dX7_firstReading_69 : decode cX7_firstReading 69 = .ok (.iload 4, 2) := by decide +kernel
theorem dX7_firstReading_71 : decode cX7_firstReading 71 = .ok (.aload_n 1, 1) := by decide +kernel
theorem dX7_firstReading_72 : decode cX7_firstReading 72 = .ok (.getfield 29, 3) := by decide +kernel
theorem dX7_firstReading_75 : decode cX7_firstReading 75 = .ok (.iload 6, 2) := by decide +kernel
theorem dX7_firstReading_77 : decode cX7_firstReading 77 = .ok (.iaload, 1) := by decide +kernel
theorem dX7_firstReading_78 : decode cX7_firstReading 78 = .ok (.iadd, 1) := by decide +kernel
theorem dX7_firstReading_79 : decode cX7_firstReading 79 = .ok (.istore 4, 2) := by decide +kernel
theorem dX7_firstReading_81 : decode cX7_firstReading 81 = .ok (.iinc 5 1, 3) := by decide +kernel
theorem dX7_firstReading_84 : decode cX7_firstReading 84 = .ok (.goto (-59), 3) := by decide +kernel
theorem dX7_firstReading_87 : decode cX7_firstReading 87 = .ok (.iload_n 3, 1) := by decide +kernel
theorem dX7_firstReading_88 : decode cX7_firstReading 88 = .ok (.ireturn, 1) := by decide +kernel
theorem dX7_spelt_0 : decode cX7_spelt 0 = .ok (.iconst 0, 1) := by decide +kernel
theorem dX7_spelt_1 : decode cX7_spelt 1 = .ok (.istore_n 3, 1) := by decide +kernel
theorem dX7_spelt_2 : decode cX7_spelt 2 = .ok (.iconst 0, 1) := by decide +kernel
theorem dX7_spelt_3 : decode cX7_spelt 3 = .ok (.istore 4, 2) := by decide +kernel
theorem dX7_spelt_5 : decode cX7_spelt 5 = .ok (.iload 4, 2) := by decide +kernel
theorem dX7_spelt_7 : decode cX7_spelt 7 = .ok (.aload_n 2, 1) := by decide +kernel
theorem dX7_spelt_8 : decode cX7_spelt 8 = .ok (.getfield 19, 3) := by decide +kernel
theorem dX7_spelt_11 : decode cX7_spelt 11 = .ok (.if_icmp .ge 46, 3) := by decide +kernel
theorem dX7_spelt_14 : decode cX7_spelt 14 = .ok (.iconst 0, 1) := by decide +kernel
theorem dX7_spelt_15 : decode cX7_spelt 15 = .ok (.istore 5, 2) := by decide +kernel
theorem dX7_spelt_17 : decode cX7_spelt 17 = .ok (.iload 5, 2) := by decide +kernel
theorem dX7_spelt_19 : decode cX7_spelt 19 = .ok (.aload_n 1, 1) := by decide +kernel
theorem dX7_spelt_20 : decode cX7_spelt 20 = .ok (.getfield 34, 3) := by decide +kernel
theorem dX7_spelt_23 : decode cX7_spelt 23 = .ok (.if_icmp .ge 28, 3) := by decide +kernel
theorem dX7_spelt_26 : decode cX7_spelt 26 = .ok (.aload_n 1, 1) := by decide +kernel
theorem dX7_spelt_27 : decode cX7_spelt 27 = .ok (.aload_n 2, 1) := by decide +kernel
theorem dX7_spelt_28 : decode cX7_spelt 28 = .ok (.iload 5, 2) := by decide +kernel
theorem dX7_spelt_30 : decode cX7_spelt 30 = .ok (.iload 4, 2) := by decide +kernel
theorem dX7_spelt_32 : decode cX7_spelt 32 = .ok (.invokestatic 37, 3) := by decide +kernel
theorem dX7_spelt_35 : decode cX7_spelt 35 = .ok (.ifCond .eq 10, 3) := by decide +kernel
theorem dX7_spelt_38 : decode cX7_spelt 38 = .ok (.iload_n 3, 1) := by decide +kernel
theorem dX7_spelt_39 : decode cX7_spelt 39 = .ok (.iconst 1, 1) := by decide +kernel
theorem dX7_spelt_40 : decode cX7_spelt 40 = .ok (.iload 4, 2) := by decide +kernel
theorem dX7_spelt_42 : decode cX7_spelt 42 = .ok (.ishl, 1) := by decide +kernel
theorem dX7_spelt_43 : decode cX7_spelt 43 = .ok (.ior, 1) := by decide +kernel
theorem dX7_spelt_44 : decode cX7_spelt 44 = .ok (.istore_n 3, 1) := by decide +kernel
theorem dX7_spelt_45 : decode cX7_spelt 45 = .ok (.iinc 5 1, 3) := by decide +kernel
theorem dX7_spelt_48 : decode cX7_spelt 48 = .ok (.goto (-31), 3) := by decide +kernel
theorem dX7_spelt_51 : decode cX7_spelt 51 = .ok (.iinc 4 1, 3) := by decide +kernel
theorem dX7_spelt_54 : decode cX7_spelt 54 = .ok (.goto (-49), 3) := by decide +kernel
theorem dX7_spelt_57 : decode cX7_spelt 57 = .ok (.iload_n 3, 1) := by decide +kernel
theorem dX7_spelt_58 : decode cX7_spelt 58 = .ok (.ireturn, 1) := by decide +kernel
theorem dX7_countWays_0 : decode cX7_countWays 0 = .ok (.aload_n 0, 1) := by decide +kernel
theorem dX7_countWays_1 : decode cX7_countWays 1 = .ok (.getfield 9, 3) := by decide +kernel
theorem dX7_countWays_4 : decode cX7_countWays 4 = .ok (.aload_n 2, 1) := by decide +kernel
theorem dX7_countWays_5 : decode cX7_countWays 5 = .ok (.getfield 19, 3) := by decide +kernel
theorem dX7_countWays_8 : decode cX7_countWays 8 = .ok (.iconst 1, 1) := by decide +kernel
theorem dX7_countWays_9 : decode cX7_countWays 9 = .ok (.iastore, 1) := by decide +kernel
theorem dX7_countWays_10 : decode cX7_countWays 10 = .ok (.aload_n 2, 1) := by decide +kernel
theorem dX7_countWays_11 : decode cX7_countWays 11 = .ok (.getfield 19, 3) := by decide +kernel
theorem dX7_countWays_14 : decode cX7_countWays 14 = .ok (.iconst 1, 1) := by decide +kernel
theorem dX7_countWays_15 : decode cX7_countWays 15 = .ok (.isub, 1) := by decide +kernel
theorem dX7_countWays_16 : decode cX7_countWays 16 = .ok (.istore_n 3, 1) := by decide +kernel
theorem dX7_countWays_17 : decode cX7_countWays 17 = .ok (.iload_n 3, 1) := by decide +kernel
theorem dX7_countWays_18 : decode cX7_countWays 18 = .ok (.ifCond .lt 68, 3) := by decide +kernel
theorem dX7_countWays_21 : decode cX7_countWays 21 = .ok (.aload_n 0, 1) := by decide +kernel
theorem dX7_countWays_22 : decode cX7_countWays 22 = .ok (.getfield 9, 3) := by decide +kernel
theorem dX7_countWays_25 : decode cX7_countWays 25 = .ok (.iload_n 3, 1) := by decide +kernel
theorem dX7_countWays_26 : decode cX7_countWays 26 = .ok (.iconst 0, 1) := by decide +kernel
theorem dX7_countWays_27 : decode cX7_countWays 27 = .ok (.iastore, 1) := by decide +kernel
theorem dX7_countWays_28 : decode cX7_countWays 28 = .ok (.iconst 0, 1) := by decide +kernel
theorem dX7_countWays_29 : decode cX7_countWays 29 = .ok (.istore 4, 2) := by decide +kernel
theorem dX7_countWays_31 : decode cX7_countWays 31 = .ok (.iload 4, 2) := by decide +kernel
theorem dX7_countWays_33 : decode cX7_countWays 33 = .ok (.aload_n 1, 1) := by decide +kernel
theorem dX7_countWays_34 : decode cX7_countWays 34 = .ok (.getfield 34, 3) := by decide +kernel
theorem dX7_countWays_37 : decode cX7_countWays 37 = .ok (.if_icmp .ge 43, 3) := by decide +kernel
theorem dX7_countWays_40 : decode cX7_countWays 40 = .ok (.aload_n 1, 1) := by decide +kernel
theorem dX7_countWays_41 : decode cX7_countWays 41 = .ok (.aload_n 2, 1) := by decide +kernel
theorem dX7_countWays_42 : decode cX7_countWays 42 = .ok (.iload 4, 2) := by decide +kernel
theorem dX7_countWays_44 : decode cX7_countWays 44 = .ok (.iload_n 3, 1) := by decide +kernel
theorem dX7_countWays_45 : decode cX7_countWays 45 = .ok (.invokestatic 37, 3) := by decide +kernel
theorem dX7_countWays_48 : decode cX7_countWays 48 = .ok (.ifCond .eq 26, 3) := by decide +kernel
theorem dX7_countWays_51 : decode cX7_countWays 51 = .ok (.aload_n 0, 1) := by decide +kernel
theorem dX7_countWays_52 : decode cX7_countWays 52 = .ok (.getfield 9, 3) := by decide +kernel
theorem dX7_countWays_55 : decode cX7_countWays 55 = .ok (.iload_n 3, 1) := by decide +kernel
theorem dX7_countWays_56 : decode cX7_countWays 56 = .ok (.dup2, 1) := by decide +kernel
theorem dX7_countWays_57 : decode cX7_countWays 57 = .ok (.iaload, 1) := by decide +kernel
theorem dX7_countWays_58 : decode cX7_countWays 58 = .ok (.aload_n 0, 1) := by decide +kernel
theorem dX7_countWays_59 : decode cX7_countWays 59 = .ok (.getfield 9, 3) := by decide +kernel
theorem dX7_countWays_62 : decode cX7_countWays 62 = .ok (.iload_n 3, 1) := by decide +kernel
theorem dX7_countWays_63 : decode cX7_countWays 63 = .ok (.aload_n 1, 1) := by decide +kernel
theorem dX7_countWays_64 : decode cX7_countWays 64 = .ok (.getfield 29, 3) := by decide +kernel
theorem dX7_countWays_67 : decode cX7_countWays 67 = .ok (.iload 4, 2) := by decide +kernel
theorem dX7_countWays_69 : decode cX7_countWays 69 = .ok (.iaload, 1) := by decide +kernel
theorem dX7_countWays_70 : decode cX7_countWays 70 = .ok (.iadd, 1) := by decide +kernel
theorem dX7_countWays_71 : decode cX7_countWays 71 = .ok (.iaload, 1) := by decide +kernel
theorem dX7_countWays_72 : decode cX7_countWays 72 = .ok (.iadd, 1) := by decide +kernel
theorem dX7_countWays_73 : decode cX7_countWays 73 = .ok (.iastore, 1) := by decide +kernel
theorem dX7_countWays_74 : decode cX7_countWays 74 = .ok (.iinc 4 1, 3) := by decide +kernel
theorem dX7_countWays_77 : decode cX7_countWays 77 = .ok (.goto (-46), 3) := by decide +kernel
theorem dX7_countWays_80 : decode cX7_countWays 80 = .ok (.iinc 3 (-1), 3) := by decide +kernel
theorem dX7_countWays_83 : decode cX7_countWays 83 = .ok (.goto (-66), 3) := by decide +kernel
theorem dX7_countWays_86 : decode cX7_countWays 86 = .ok (.return_, 1) := by decide +kernel
theorem dX7_firstWordOn_0 : decode cX7_firstWordOn 0 = .ok (.iconst 0, 1) := by decide +kernel
theorem dX7_firstWordOn_1 : decode cX7_firstWordOn 1 = .ok (.istore 4, 2) := by decide +kernel
theorem dX7_firstWordOn_3 : decode cX7_firstWordOn 3 = .ok (.iload 4, 2) := by decide +kernel
theorem dX7_firstWordOn_5 : decode cX7_firstWordOn 5 = .ok (.aload_n 1, 1) := by decide +kernel
theorem dX7_firstWordOn_6 : decode cX7_firstWordOn 6 = .ok (.getfield 34, 3) := by decide +kernel
theorem dX7_firstWordOn_9 : decode cX7_firstWordOn 9 = .ok (.if_icmp .ge 40, 3) := by decide +kernel
theorem dX7_firstWordOn_12 : decode cX7_firstWordOn 12 = .ok (.aload_n 1, 1) := by decide +kernel
theorem dX7_firstWordOn_13 : decode cX7_firstWordOn 13 = .ok (.aload_n 2, 1) := by decide +kernel
theorem dX7_firstWordOn_14 : decode cX7_firstWordOn 14 = .ok (.iload 4, 2) := by decide +kernel
theorem dX7_firstWordOn_16 : decode cX7_firstWordOn 16 = .ok (.iload_n 3, 1) := by decide +kernel
theorem dX7_firstWordOn_17 : decode cX7_firstWordOn 17 = .ok (.invokestatic 37, 3) := by decide +kernel
theorem dX7_firstWordOn_20 : decode cX7_firstWordOn 20 = .ok (.ifCond .eq 23, 3) := by decide +kernel
theorem dX7_firstWordOn_23 : decode cX7_firstWordOn 23 = .ok (.aload_n 0, 1) := by decide +kernel
theorem dX7_firstWordOn_24 : decode cX7_firstWordOn 24 = .ok (.getfield 9, 3) := by decide +kernel
theorem dX7_firstWordOn_27 : decode cX7_firstWordOn 27 = .ok (.iload_n 3, 1) := by decide +kernel
theorem dX7_firstWordOn_28 : decode cX7_firstWordOn 28 = .ok (.aload_n 1, 1) := by decide +kernel
theorem dX7_firstWordOn_29 : decode cX7_firstWordOn 29 = .ok (.getfield 29, 3) := by decide +kernel
theorem dX7_firstWordOn_32 : decode cX7_firstWordOn 32 = .ok (.iload 4, 2) := by decide +kernel
theorem dX7_firstWordOn_34 : decode cX7_firstWordOn 34 = .ok (.iaload, 1) := by decide +kernel
theorem dX7_firstWordOn_35 : decode cX7_firstWordOn 35 = .ok (.iadd, 1) := by decide +kernel
theorem dX7_firstWordOn_36 : decode cX7_firstWordOn 36 = .ok (.iaload, 1) := by decide +kernel
theorem dX7_firstWordOn_37 : decode cX7_firstWordOn 37 = .ok (.ifCond .le 6, 3) := by decide +kernel
theorem dX7_firstWordOn_40 : decode cX7_firstWordOn 40 = .ok (.iload 4, 2) := by decide +kernel
theorem dX7_firstWordOn_42 : decode cX7_firstWordOn 42 = .ok (.ireturn, 1) := by decide +kernel
theorem dX7_firstWordOn_43 : decode cX7_firstWordOn 43 = .ok (.iinc 4 1, 3) := by decide +kernel
theorem dX7_firstWordOn_46 : decode cX7_firstWordOn 46 = .ok (.goto (-43), 3) := by decide +kernel
theorem dX7_firstWordOn_49 : decode cX7_firstWordOn 49 = .ok (.iconst (-1), 1) := by decide +kernel
theorem dX7_firstWordOn_50 : decode cX7_firstWordOn 50 = .ok (.ireturn, 1) := by decide +kernel
theorem dX7_begins_0 : decode cX7_begins 0 = .ok (.iload_n 3, 1) := by decide +kernel
theorem dX7_begins_1 : decode cX7_begins 1 = .ok (.aload_n 0, 1) := by decide +kernel
theorem dX7_begins_2 : decode cX7_begins 2 = .ok (.getfield 29, 3) := by decide +kernel
theorem dX7_begins_5 : decode cX7_begins 5 = .ok (.iload_n 2, 1) := by decide +kernel
theorem dX7_begins_6 : decode cX7_begins 6 = .ok (.iaload, 1) := by decide +kernel
theorem dX7_begins_7 : decode cX7_begins 7 = .ok (.iadd, 1) := by decide +kernel
theorem dX7_begins_8 : decode cX7_begins 8 = .ok (.aload_n 1, 1) := by decide +kernel
theorem dX7_begins_9 : decode cX7_begins 9 = .ok (.getfield 19, 3) := by decide +kernel
theorem dX7_begins_12 : decode cX7_begins 12 = .ok (.if_icmp .le 5, 3) := by decide +kernel
theorem dX7_begins_15 : decode cX7_begins 15 = .ok (.iconst 0, 1) := by decide +kernel
theorem dX7_begins_16 : decode cX7_begins 16 = .ok (.ireturn, 1) := by decide +kernel
theorem dX7_begins_17 : decode cX7_begins 17 = .ok (.iconst 0, 1) := by decide +kernel
theorem dX7_begins_18 : decode cX7_begins 18 = .ok (.istore 4, 2) := by decide +kernel
theorem dX7_begins_20 : decode cX7_begins 20 = .ok (.iload 4, 2) := by decide +kernel
theorem dX7_begins_22 : decode cX7_begins 22 = .ok (.aload_n 0, 1) := by decide +kernel
theorem dX7_begins_23 : decode cX7_begins 23 = .ok (.getfield 29, 3) := by decide +kernel
theorem dX7_begins_26 : decode cX7_begins 26 = .ok (.iload_n 2, 1) := by decide +kernel
theorem dX7_begins_27 : decode cX7_begins 27 = .ok (.iaload, 1) := by decide +kernel
theorem dX7_begins_28 : decode cX7_begins 28 = .ok (.if_icmp .ge 35, 3) := by decide +kernel
theorem dX7_begins_31 : decode cX7_begins 31 = .ok (.aload_n 0, 1) := by decide +kernel
theorem dX7_begins_32 : decode cX7_begins 32 = .ok (.getfield 41, 3) := by decide +kernel
theorem dX7_begins_35 : decode cX7_begins 35 = .ok (.aload_n 1, 1) := by decide +kernel
theorem dX7_begins_36 : decode cX7_begins 36 = .ok (.getfield 44, 3) := by decide +kernel
theorem dX7_begins_39 : decode cX7_begins 39 = .ok (.iload_n 3, 1) := by decide +kernel
theorem dX7_begins_40 : decode cX7_begins 40 = .ok (.iload 4, 2) := by decide +kernel
theorem dX7_begins_42 : decode cX7_begins 42 = .ok (.iadd, 1) := by decide +kernel
theorem dX7_begins_43 : decode cX7_begins 43 = .ok (.iaload, 1) := by decide +kernel
theorem dX7_begins_44 : decode cX7_begins 44 = .ok (.iaload, 1) := by decide +kernel
theorem dX7_begins_45 : decode cX7_begins 45 = .ok (.aload_n 0, 1) := by decide +kernel
theorem dX7_begins_46 : decode cX7_begins 46 = .ok (.iload_n 2, 1) := by decide +kernel
theorem dX7_begins_47 : decode cX7_begins 47 = .ok (.iload 4, 2) := by decide +kernel
theorem dX7_begins_49 : decode cX7_begins 49 = .ok (.invokevirtual 47, 3) := by decide +kernel
theorem dX7_begins_52 : decode cX7_begins 52 = .ok (.if_icmp .eq 5, 3) := by decide +kernel
theorem dX7_begins_55 : decode cX7_begins 55 = .ok (.iconst 0, 1) := by decide +kernel
theorem dX7_begins_56 : decode cX7_begins 56 = .ok (.ireturn, 1) := by decide +kernel
theorem dX7_begins_57 : decode cX7_begins 57 = .ok (.iinc 4 1, 3) := by decide +kernel
theorem dX7_begins_60 : decode cX7_begins 60 = .ok (.goto (-40), 3) := by decide +kernel
theorem dX7_begins_63 : decode cX7_begins 63 = .ok (.iconst 1, 1) := by decide +kernel
theorem dX7_begins_64 : decode cX7_begins 64 = .ok (.ireturn, 1) := by decide +kernel
theorem dX8_init_0 : decode cX8_init 0 = .ok (.aload_n 0, 1) := by decide +kernel
theorem dX8_init_1 : decode cX8_init 1 = .ok (.invokespecial 3, 3) := by decide +kernel
theorem dX8_init_4 : decode cX8_init 4 = .ok (.aload_n 0, 1) := by decide +kernel
theorem dX8_init_5 : decode cX8_init 5 = .ok (.bipush 8, 2) := by decide +kernel
theorem dX8_init_7 : decode cX8_init 7 = .ok (.newarray .int, 2) := by decide +kernel
theorem dX8_init_9 : decode cX8_init 9 = .ok (.putfield 9, 3) := by decide +kernel
theorem dX8_init_12 : decode cX8_init 12 = .ok (.return_, 1) := by decide +kernel
theorem dX8_more_0 : decode cX8_more 0 = .ok (.aload_n 2, 1) := by decide +kernel
theorem dX8_more_1 : decode cX8_more 1 = .ok (.getfield 15, 3) := by decide +kernel
theorem dX8_more_4 : decode cX8_more 4 = .ok (.ifCond .ne 5, 3) := by decide +kernel
theorem dX8_more_7 : decode cX8_more 7 = .ok (.iconst 0, 1) := by decide +kernel
theorem dX8_more_8 : decode cX8_more 8 = .ok (.ireturn, 1) := by decide +kernel
theorem dX8_more_9 : decode cX8_more 9 = .ok (.aload_n 0, 1) := by decide +kernel
theorem dX8_more_10 : decode cX8_more 10 = .ok (.aload_n 1, 1) := by decide +kernel
theorem dX8_more_11 : decode cX8_more 11 = .ok (.aload_n 2, 1) := by decide +kernel
theorem dX8_more_12 : decode cX8_more 12 = .ok (.invokevirtual 21, 3) := by decide +kernel
theorem dX8_more_15 : decode cX8_more 15 = .ok (.aload_n 0, 1) := by decide +kernel
theorem dX8_more_16 : decode cX8_more 16 = .ok (.aload_n 1, 1) := by decide +kernel
theorem dX8_more_17 : decode cX8_more 17 = .ok (.aload_n 2, 1) := by decide +kernel
theorem dX8_more_18 : decode cX8_more 18 = .ok (.invokevirtual 25, 3) := by decide +kernel
theorem dX8_more_21 : decode cX8_more 21 = .ok (.aload_n 0, 1) := by decide +kernel
theorem dX8_more_22 : decode cX8_more 22 = .ok (.aload_n 1, 1) := by decide +kernel
theorem dX8_more_23 : decode cX8_more 23 = .ok (.aload_n 2, 1) := by decide +kernel
theorem dX8_more_24 : decode cX8_more 24 = .ok (.invokevirtual 29, 3) := by decide +kernel
theorem dX8_more_27 : decode cX8_more 27 = .ok (.invokestatic 32, 3) := by decide +kernel
theorem dX8_more_30 : decode cX8_more 30 = .ok (.ireturn, 1) := by decide +kernel
theorem dX8_firstEnd_0 : decode cX8_firstEnd 0 = .ok (.aload_n 2, 1) := by decide +kernel
theorem dX8_firstEnd_1 : decode cX8_firstEnd 1 = .ok (.getfield 15, 3) := by decide +kernel
theorem dX8_firstEnd_4 : decode cX8_firstEnd 4 = .ok (.ifCond .ne 5, 3) := by decide +kernel
theorem dX8_firstEnd_7 : decode cX8_firstEnd 7 = .ok (.iconst (-1), 1) := by decide +kernel
theorem dX8_firstEnd_8 : decode cX8_firstEnd 8 = .ok (.ireturn, 1) := by decide +kernel
theorem dX8_firstEnd_9 : decode cX8_firstEnd 9 = .ok (.aload_n 0, 1) := by decide +kernel
theorem dX8_firstEnd_10 : decode cX8_firstEnd 10 = .ok (.aload_n 1, 1) := by decide +kernel
theorem dX8_firstEnd_11 : decode cX8_firstEnd 11 = .ok (.aload_n 2, 1) := by decide +kernel
theorem dX8_firstEnd_12 : decode cX8_firstEnd 12 = .ok (.invokevirtual 21, 3) := by decide +kernel
theorem dX8_firstEnd_15 : decode cX8_firstEnd 15 = .ok (.aload_n 0, 1) := by decide +kernel
theorem dX8_firstEnd_16 : decode cX8_firstEnd 16 = .ok (.aload_n 1, 1) := by decide +kernel
theorem dX8_firstEnd_17 : decode cX8_firstEnd 17 = .ok (.aload_n 2, 1) := by decide +kernel
theorem dX8_firstEnd_18 : decode cX8_firstEnd 18 = .ok (.invokevirtual 29, 3) := by decide +kernel
theorem dX8_firstEnd_21 : decode cX8_firstEnd 21 = .ok (.aload_n 0, 1) := by decide +kernel
theorem dX8_firstEnd_22 : decode cX8_firstEnd 22 = .ok (.aload_n 1, 1) := by decide +kernel
theorem dX8_firstEnd_23 : decode cX8_firstEnd 23 = .ok (.aload_n 2, 1) := by decide +kernel
theorem dX8_firstEnd_24 : decode cX8_firstEnd 24 = .ok (.invokevirtual 25, 3) := by decide +kernel
theorem dX8_firstEnd_27 : decode cX8_firstEnd 27 = .ok (.if_icmp .le 7, 3) := by decide +kernel
theorem dX8_firstEnd_30 : decode cX8_firstEnd 30 = .ok (.iconst 1, 1) := by decide +kernel
theorem dX8_firstEnd_31 : decode cX8_firstEnd 31 = .ok (.goto 4, 3) := by decide +kernel
theorem dX8_firstEnd_34 : decode cX8_firstEnd 34 = .ok (.iconst 0, 1) := by decide +kernel
theorem dX8_firstEnd_35 : decode cX8_firstEnd 35 = .ok (.ireturn, 1) := by decide +kernel
theorem dX8_byFront_0 : decode cX8_byFront 0 = .ok (.aload_n 1, 1) := by decide +kernel
theorem dX8_byFront_1 : decode cX8_byFront 1 = .ok (.getfield 38, 3) := by decide +kernel
theorem dX8_byFront_4 : decode cX8_byFront 4 = .ok (.aload_n 2, 1) := by decide +kernel
theorem dX8_byFront_5 : decode cX8_byFront 5 = .ok (.getfield 43, 3) := by decide +kernel
theorem dX8_byFront_8 : decode cX8_byFront 8 = .ok (.iconst 0, 1) := by decide +kernel
theorem dX8_byFront_9 : decode cX8_byFront 9 = .ok (.iaload, 1) := by decide +kernel
theorem dX8_byFront_10 : decode cX8_byFront 10 = .ok (.iaload, 1) := by decide +kernel
theorem dX8_byFront_11 : decode cX8_byFront 11 = .ok (.aload_n 0, 1) := by decide +kernel
theorem dX8_byFront_12 : decode cX8_byFront 12 = .ok (.getfield 9, 3) := by decide +kernel
theorem dX8_byFront_15 : decode cX8_byFront 15 = .ok (.iconst 1, 1) := by decide +kernel
theorem dX8_byFront_16 : decode cX8_byFront 16 = .ok (.iaload, 1) := by decide +kernel
theorem dX8_byFront_17 : decode cX8_byFront 17 = .ok (.isub, 1) := by decide +kernel
theorem dX8_byFront_18 : decode cX8_byFront 18 = .ok (.ireturn, 1) := by decide +kernel
theorem dX8_byBack_0 : decode cX8_byBack 0 = .ok (.aload_n 1, 1) := by decide +kernel
theorem dX8_byBack_1 : decode cX8_byBack 1 = .ok (.getfield 38, 3) := by decide +kernel
theorem dX8_byBack_4 : decode cX8_byBack 4 = .ok (.aload_n 2, 1) := by decide +kernel
theorem dX8_byBack_5 : decode cX8_byBack 5 = .ok (.getfield 43, 3) := by decide +kernel
theorem dX8_byBack_8 : decode cX8_byBack 8 = .ok (.aload_n 2, 1) := by decide +kernel
theorem dX8_byBack_9 : decode cX8_byBack 9 = .ok (.getfield 15, 3) := by decide +kernel
theorem dX8_byBack_12 : decode cX8_byBack 12 = .ok (.iconst 1, 1) := by decide +kernel
theorem dX8_byBack_13 : decode cX8_byBack 13 = .ok (.isub, 1) := by decide +kernel
theorem dX8_byBack_14 : decode cX8_byBack 14 = .ok (.iaload, 1) := by decide +kernel
theorem dX8_byBack_15 : decode cX8_byBack 15 = .ok (.iaload, 1) := by decide +kernel
theorem dX8_byBack_16 : decode cX8_byBack 16 = .ok (.aload_n 0, 1) := by decide +kernel
theorem dX8_byBack_17 : decode cX8_byBack 17 = .ok (.getfield 9, 3) := by decide +kernel
theorem dX8_byBack_20 : decode cX8_byBack 20 = .ok (.iconst 0, 1) := by decide +kernel
theorem dX8_byBack_21 : decode cX8_byBack 21 = .ok (.iaload, 1) := by decide +kernel
theorem dX8_byBack_22 : decode cX8_byBack 22 = .ok (.isub, 1) := by decide +kernel
theorem dX8_byBack_23 : decode cX8_byBack 23 = .ok (.ireturn, 1) := by decide +kernel
theorem dX8_fillLeads_0 : decode cX8_fillLeads 0 = .ok (.aload_n 0, 1) := by decide +kernel
theorem dX8_fillLeads_1 : decode cX8_fillLeads 1 = .ok (.getfield 9, 3) := by decide +kernel
theorem dX8_fillLeads_4 : decode cX8_fillLeads 4 = .ok (.iconst 0, 1) := by decide +kernel
theorem dX8_fillLeads_5 : decode cX8_fillLeads 5 = .ok (.invokestatic 46, 3) := by decide +kernel
theorem dX8_fillLeads_8 : decode cX8_fillLeads 8 = .ok (.iconst 1, 1) := by decide +kernel
theorem dX8_fillLeads_9 : decode cX8_fillLeads 9 = .ok (.istore_n 3, 1) := by decide +kernel
theorem dX8_fillLeads_10 : decode cX8_fillLeads 10 = .ok (.iload_n 3, 1) := by decide +kernel
theorem dX8_fillLeads_11 : decode cX8_fillLeads 11 = .ok (.aload_n 2, 1) := by decide +kernel
theorem dX8_fillLeads_12 : decode cX8_fillLeads 12 = .ok (.getfield 15, 3) := by decide +kernel
theorem dX8_fillLeads_15 : decode cX8_fillLeads 15 = .ok (.if_icmp .ge 93, 3) := by decide +kernel
theorem dX8_fillLeads_18 : decode cX8_fillLeads 18 = .ok (.iconst 0, 1) := by decide +kernel
theorem dX8_fillLeads_19 : decode cX8_fillLeads 19 = .ok (.istore 4, 2) := by decide +kernel
theorem dX8_fillLeads_21 : decode cX8_fillLeads 21 = .ok (.iload 4, 2) := by decide +kernel
theorem dX8_fillLeads_23 : decode cX8_fillLeads 23 = .ok (.iload_n 3, 1) := by decide +kernel
theorem dX8_fillLeads_24 : decode cX8_fillLeads 24 = .ok (.iadd, 1) := by decide +kernel
theorem dX8_fillLeads_25 : decode cX8_fillLeads 25 = .ok (.aload_n 2, 1) := by decide +kernel
theorem dX8_fillLeads_26 : decode cX8_fillLeads 26 = .ok (.getfield 15, 3) := by decide +kernel
theorem dX8_fillLeads_29 : decode cX8_fillLeads 29 = .ok (.if_icmp .gt 73, 3) := by decide +kernel
theorem dX8_fillLeads_32 : decode cX8_fillLeads 32 = .ok (.aload_n 1, 1) := by decide +kernel
theorem dX8_fillLeads_33 : decode cX8_fillLeads 33 = .ok (.getfield 38, 3) := by decide +kernel
theorem dX8_fillLeads_36 : decode cX8_fillLeads 36 = .ok (.aload_n 2, 1) := by decide +kernel
theorem dX8_fillLeads_37 : decode cX8_fillLeads 37 = .ok (.getfield 43, 3) := by decide +kernel
theorem dX8_fillLeads_40 : decode cX8_fillLeads 40 = .ok (.iload 4, 2) := by decide +kernel
theorem dX8_fillLeads_42 : decode cX8_fillLeads 42 = .ok (.iaload, 1) := by decide +kernel
theorem dX8_fillLeads_43 : decode cX8_fillLeads 43 = .ok (.iaload, 1) := by decide +kernel
theorem dX8_fillLeads_44 : decode cX8_fillLeads 44 = .ok (.aload_n 0, 1) := by decide +kernel
theorem dX8_fillLeads_45 : decode cX8_fillLeads 45 = .ok (.getfield 9, 3) := by decide +kernel
theorem dX8_fillLeads_48 : decode cX8_fillLeads 48 = .ok (.iload 4, 2) := by decide +kernel
theorem dX8_fillLeads_50 : decode cX8_fillLeads 50 = .ok (.iconst 1, 1) := by decide +kernel
theorem dX8_fillLeads_51 : decode cX8_fillLeads 51 = .ok (.iadd, 1) := by decide +kernel
theorem dX8_fillLeads_52 : decode cX8_fillLeads 52 = .ok (.iaload, 1) := by decide +kernel
theorem dX8_fillLeads_53 : decode cX8_fillLeads 53 = .ok (.isub, 1) := by decide +kernel
theorem dX8_fillLeads_54 : decode cX8_fillLeads 54 = .ok (.istore 5, 2) := by decide +kernel
theorem dX8_fillLeads_56 : decode cX8_fillLeads 56 = .ok (.aload_n 1, 1) := by decide +kernel
theorem dX8_fillLeads_57 : decode cX8_fillLeads 57 = .ok (.getfield 38, 3) := by decide +kernel
theorem dX8_fillLeads_60 : decode cX8_fillLeads 60 = .ok (.aload_n 2, 1) := by decide +kernel
theorem dX8_fillLeads_61 : decode cX8_fillLeads 61 = .ok (.getfield 43, 3) := by decide +kernel
theorem dX8_fillLeads_64 : decode cX8_fillLeads 64 = .ok (.iload 4, 2) := by decide +kernel
theorem dX8_fillLeads_66 : decode cX8_fillLeads 66 = .ok (.iload_n 3, 1) := by decide +kernel
theorem dX8_fillLeads_67 : decode cX8_fillLeads 67 = .ok (.iadd, 1) := by decide +kernel
theorem dX8_fillLeads_68 : decode cX8_fillLeads 68 = .ok (.iconst 1, 1) := by decide +kernel
theorem dX8_fillLeads_69 : decode cX8_fillLeads 69 = .ok (.isub, 1) := by decide +kernel
theorem dX8_fillLeads_70 : decode cX8_fillLeads 70 = .ok (.iaload, 1) := by decide +kernel
theorem dX8_fillLeads_71 : decode cX8_fillLeads 71 = .ok (.iaload, 1) := by decide +kernel
theorem dX8_fillLeads_72 : decode cX8_fillLeads 72 = .ok (.aload_n 0, 1) := by decide +kernel
theorem dX8_fillLeads_73 : decode cX8_fillLeads 73 = .ok (.getfield 9, 3) := by decide +kernel
theorem dX8_fillLeads_76 : decode cX8_fillLeads 76 = .ok (.iload 4, 2) := by decide +kernel
theorem dX8_fillLeads_78 : decode cX8_fillLeads 78 = .ok (.iaload, 1) := by decide +kernel
theorem dX8_fillLeads_79 : decode cX8_fillLeads 79 = .ok (.isub, 1) := by decide +kernel
theorem dX8_fillLeads_80 : decode cX8_fillLeads 80 = .ok (.istore 6, 2) := by decide +kernel
theorem dX8_fillLeads_82 : decode cX8_fillLeads 82 = .ok (.aload_n 0, 1) := by decide +kernel
theorem dX8_fillLeads_83 : decode cX8_fillLeads 83 = .ok (.getfield 9, 3) := by decide +kernel
theorem dX8_fillLeads_86 : decode cX8_fillLeads 86 = .ok (.iload 4, 2) := by decide +kernel
theorem dX8_fillLeads_88 : decode cX8_fillLeads 88 = .ok (.iload 5, 2) := by decide +kernel
theorem dX8_fillLeads_90 : decode cX8_fillLeads 90 = .ok (.iload 6, 2) := by decide +kernel
theorem dX8_fillLeads_92 : decode cX8_fillLeads 92 = .ok (.invokestatic 32, 3) := by decide +kernel
theorem dX8_fillLeads_95 : decode cX8_fillLeads 95 = .ok (.iastore, 1) := by decide +kernel
theorem dX8_fillLeads_96 : decode cX8_fillLeads 96 = .ok (.iinc 4 1, 3) := by decide +kernel
theorem dX8_fillLeads_99 : decode cX8_fillLeads 99 = .ok (.goto (-78), 3) := by decide +kernel
theorem dX8_fillLeads_102 : decode cX8_fillLeads 102 = .ok (.iinc 3 1, 3) := by decide +kernel
theorem dX8_fillLeads_105 : decode cX8_fillLeads 105 = .ok (.goto (-95), 3) := by decide +kernel
theorem dX8_fillLeads_108 : decode cX8_fillLeads 108 = .ok (.return_, 1) := by decide +kernel
theorem dX9_init_0 : decode cX9_init 0 = .ok (.aload_n 0, 1) := by decide +kernel
theorem dX9_init_1 : decode cX9_init 1 = .ok (.invokespecial 3, 3) := by decide +kernel
theorem dX9_init_4 : decode cX9_init 4 = .ok (.aload_n 0, 1) := by decide +kernel
theorem dX9_init_5 : decode cX9_init 5 = .ok (.bipush 8, 2) := by decide +kernel
theorem dX9_init_7 : decode cX9_init 7 = .ok (.newarray .int, 2) := by decide +kernel
theorem dX9_init_9 : decode cX9_init 9 = .ok (.putfield 9, 3) := by decide +kernel
theorem dX9_init_12 : decode cX9_init 12 = .ok (.aload_n 0, 1) := by decide +kernel
theorem dX9_init_13 : decode cX9_init 13 = .ok (.iconst 0, 1) := by decide +kernel
theorem dX9_init_14 : decode cX9_init 14 = .ok (.putfield 15, 3) := by decide +kernel
theorem dX9_init_17 : decode cX9_init 17 = .ok (.return_, 1) := by decide +kernel
theorem dX9_fewest_0 : decode cX9_fewest 0 = .ok (.aload_n 0, 1) := by decide +kernel
theorem dX9_fewest_1 : decode cX9_fewest 1 = .ok (.aload_n 1, 1) := by decide +kernel
theorem dX9_fewest_2 : decode cX9_fewest 2 = .ok (.invokevirtual 19, 3) := by decide +kernel
theorem dX9_fewest_5 : decode cX9_fewest 5 = .ok (.aload_n 0, 1) := by decide +kernel
theorem dX9_fewest_6 : decode cX9_fewest 6 = .ok (.invokevirtual 23, 3) := by decide +kernel
theorem dX9_fewest_9 : decode cX9_fewest 9 = .ok (.istore_n 2, 1) := by decide +kernel
theorem dX9_fewest_10 : decode cX9_fewest 10 = .ok (.iload_n 2, 1) := by decide +kernel
theorem dX9_fewest_11 : decode cX9_fewest 11 = .ok (.ifCond .ne 5, 3) := by decide +kernel
theorem dX9_fewest_14 : decode cX9_fewest 14 = .ok (.iconst 0, 1) := by decide +kernel
theorem dX9_fewest_15 : decode cX9_fewest 15 = .ok (.ireturn, 1) := by decide +kernel
theorem dX9_fewest_16 : decode cX9_fewest 16 = .ok (.iload_n 2, 1) := by decide +kernel
theorem dX9_fewest_17 : decode cX9_fewest 17 = .ok (.istore_n 3, 1) := by decide +kernel
theorem dX9_fewest_18 : decode cX9_fewest 18 = .ok (.iload_n 3, 1) := by decide +kernel
theorem dX9_fewest_19 : decode cX9_fewest 19 = .ok (.bipush 14, 2) := by decide +kernel
theorem dX9_fewest_21 : decode cX9_fewest 21 = .ok (.if_icmp .gt 28, 3) := by decide +kernel
theorem dX9_fewest_24 : decode cX9_fewest 24 = .ok (.aload_n 0, 1) := by decide +kernel
theorem dX9_fewest_25 : decode cX9_fewest 25 = .ok (.getfield 9, 3) := by decide +kernel
theorem dX9_fewest_28 : decode cX9_fewest 28 = .ok (.aload_n 0, 1) := by decide +kernel
theorem dX9_fewest_29 : decode cX9_fewest 29 = .ok (.getfield 15, 3) := by decide +kernel
theorem dX9_fewest_32 : decode cX9_fewest 32 = .ok (.iload_n 2, 1) := by decide +kernel
theorem dX9_fewest_33 : decode cX9_fewest 33 = .ok (.iload_n 3, 1) := by decide +kernel
theorem dX9_fewest_34 : decode cX9_fewest 34 = .ok (.invokestatic 27, 3) := by decide +kernel
theorem dX9_fewest_37 : decode cX9_fewest 37 = .ok (.iconst (-1), 1) := by decide +kernel
theorem dX9_fewest_38 : decode cX9_fewest 38 = .ok (.if_icmp .eq 5, 3) := by decide +kernel
theorem dX9_fewest_41 : decode cX9_fewest 41 = .ok (.iload_n 3, 1) := by decide +kernel
theorem dX9_fewest_42 : decode cX9_fewest 42 = .ok (.ireturn, 1) := by decide +kernel
theorem dX9_fewest_43 : decode cX9_fewest 43 = .ok (.iinc 3 1, 3) := by decide +kernel
theorem dX9_fewest_46 : decode cX9_fewest 46 = .ok (.goto (-28), 3) := by decide +kernel
theorem dX9_fewest_49 : decode cX9_fewest 49 = .ok (.iconst (-1), 1) := by decide +kernel
theorem dX9_fewest_50 : decode cX9_fewest 50 = .ok (.ireturn, 1) := by decide +kernel
theorem dX9_firstTurn_0 : decode cX9_firstTurn 0 = .ok (.aload_n 0, 1) := by decide +kernel
theorem dX9_firstTurn_1 : decode cX9_firstTurn 1 = .ok (.aload_n 1, 1) := by decide +kernel
theorem dX9_firstTurn_2 : decode cX9_firstTurn 2 = .ok (.invokevirtual 31, 3) := by decide +kernel
theorem dX9_firstTurn_5 : decode cX9_firstTurn 5 = .ok (.istore_n 2, 1) := by decide +kernel
theorem dX9_firstTurn_6 : decode cX9_firstTurn 6 = .ok (.iload_n 2, 1) := by decide +kernel
theorem dX9_firstTurn_7 : decode cX9_firstTurn 7 = .ok (.ifCond .le 22, 3) := by decide +kernel
theorem dX9_firstTurn_10 : decode cX9_firstTurn 10 = .ok (.aload_n 0, 1) := by decide +kernel
theorem dX9_firstTurn_11 : decode cX9_firstTurn 11 = .ok (.getfield 9, 3) := by decide +kernel
theorem dX9_firstTurn_14 : decode cX9_firstTurn 14 = .ok (.aload_n 0, 1) := by decide +kernel
theorem dX9_firstTurn_15 : decode cX9_firstTurn 15 = .ok (.getfield 15, 3) := by decide +kernel
theorem dX9_firstTurn_18 : decode cX9_firstTurn 18 = .ok (.aload_n 0, 1) := by decide +kernel
theorem dX9_firstTurn_19 : decode cX9_firstTurn 19 = .ok (.invokevirtual 23, 3) := by decide +kernel
theorem dX9_firstTurn_22 : decode cX9_firstTurn 22 = .ok (.iload_n 2, 1) := by decide +kernel
theorem dX9_firstTurn_23 : decode cX9_firstTurn 23 = .ok (.invokestatic 27, 3) := by decide +kernel
theorem dX9_firstTurn_26 : decode cX9_firstTurn 26 = .ok (.goto 4, 3) := by decide +kernel
theorem dX9_firstTurn_29 : decode cX9_firstTurn 29 = .ok (.iconst (-1), 1) := by decide +kernel
theorem dX9_firstTurn_30 : decode cX9_firstTurn 30 = .ok (.ireturn, 1) := by decide +kernel
theorem dX9_takeRanks_0 : decode cX9_takeRanks 0 = .ok (.aload_n 0, 1) := by decide +kernel
theorem dX9_takeRanks_1 : decode cX9_takeRanks 1 = .ok (.aload_n 1, 1) := by decide +kernel
theorem dX9_takeRanks_2 : decode cX9_takeRanks 2 = .ok (.getfield 35, 3) := by decide +kernel
theorem dX9_takeRanks_5 : decode cX9_takeRanks 5 = .ok (.putfield 15, 3) := by decide +kernel
theorem dX9_takeRanks_8 : decode cX9_takeRanks 8 = .ok (.iconst 0, 1) := by decide +kernel
theorem dX9_takeRanks_9 : decode cX9_takeRanks 9 = .ok (.istore_n 2, 1) := by decide +kernel
theorem dX9_takeRanks_10 : decode cX9_takeRanks 10 = .ok (.iload_n 2, 1) := by decide +kernel
theorem dX9_takeRanks_11 : decode cX9_takeRanks 11 = .ok (.aload_n 0, 1) := by decide +kernel
theorem dX9_takeRanks_12 : decode cX9_takeRanks 12 = .ok (.getfield 15, 3) := by decide +kernel
theorem dX9_takeRanks_15 : decode cX9_takeRanks 15 = .ok (.if_icmp .ge 55, 3) := by decide +kernel
theorem dX9_takeRanks_18 : decode cX9_takeRanks 18 = .ok (.iconst 0, 1) := by decide +kernel
theorem dX9_takeRanks_19 : decode cX9_takeRanks 19 = .ok (.istore_n 3, 1) := by decide +kernel
theorem dX9_takeRanks_20 : decode cX9_takeRanks 20 = .ok (.iconst 0, 1) := by decide +kernel
theorem dX9_takeRanks_21 : decode cX9_takeRanks 21 = .ok (.istore 4, 2) := by decide +kernel
theorem dX9_takeRanks_23 : decode cX9_takeRanks 23 = .ok (.iload 4, 2) := by decide +kernel
theorem dX9_takeRanks_25 : decode cX9_takeRanks 25 = .ok (.aload_n 0, 1) := by decide +kernel
theorem dX9_takeRanks_26 : decode cX9_takeRanks 26 = .ok (.getfield 15, 3) := by decide +kernel
theorem dX9_takeRanks_29 : decode cX9_takeRanks 29 = .ok (.if_icmp .ge 28, 3) := by decide +kernel
theorem dX9_takeRanks_32 : decode cX9_takeRanks 32 = .ok (.aload_n 1, 1) := by decide +kernel
theorem dX9_takeRanks_33 : decode cX9_takeRanks 33 = .ok (.getfield 40, 3) := by decide +kernel
theorem dX9_takeRanks_36 : decode cX9_takeRanks 36 = .ok (.iload 4, 2) := by decide +kernel
theorem dX9_takeRanks_38 : decode cX9_takeRanks 38 = .ok (.iaload, 1) := by decide +kernel
theorem dX9_takeRanks_39 : decode cX9_takeRanks 39 = .ok (.aload_n 1, 1) := by decide +kernel
theorem dX9_takeRanks_40 : decode cX9_takeRanks 40 = .ok (.getfield 40, 3) := by decide +kernel
theorem dX9_takeRanks_43 : decode cX9_takeRanks 43 = .ok (.iload_n 2, 1) := by decide +kernel
theorem dX9_takeRanks_44 : decode cX9_takeRanks 44 = .ok (.iaload, 1) := by decide +kernel
theorem dX9_takeRanks_45 : decode cX9_takeRanks 45 = .ok (.if_icmp .ge 6, 3) := by decide +kernel
theorem dX9_takeRanks_48 : decode cX9_takeRanks 48 = .ok (.iinc 3 1, 3) := by decide +kernel
theorem dX9_takeRanks_51 : decode cX9_takeRanks 51 = .ok (.iinc 4 1, 3) := by decide +kernel
theorem dX9_takeRanks_54 : decode cX9_takeRanks 54 = .ok (.goto (-31), 3) := by decide +kernel
theorem dX9_takeRanks_57 : decode cX9_takeRanks 57 = .ok (.aload_n 0, 1) := by decide +kernel
theorem dX9_takeRanks_58 : decode cX9_takeRanks 58 = .ok (.getfield 9, 3) := by decide +kernel
theorem dX9_takeRanks_61 : decode cX9_takeRanks 61 = .ok (.iload_n 2, 1) := by decide +kernel
theorem dX9_takeRanks_62 : decode cX9_takeRanks 62 = .ok (.iload_n 3, 1) := by decide +kernel
theorem dX9_takeRanks_63 : decode cX9_takeRanks 63 = .ok (.iastore, 1) := by decide +kernel
theorem dX9_takeRanks_64 : decode cX9_takeRanks 64 = .ok (.iinc 2 1, 3) := by decide +kernel
theorem dX9_takeRanks_67 : decode cX9_takeRanks 67 = .ok (.goto (-57), 3) := by decide +kernel
theorem dX9_takeRanks_70 : decode cX9_takeRanks 70 = .ok (.aload_n 0, 1) := by decide +kernel
theorem dX9_takeRanks_71 : decode cX9_takeRanks 71 = .ok (.getfield 9, 3) := by decide +kernel
theorem dX9_takeRanks_74 : decode cX9_takeRanks 74 = .ok (.aload_n 0, 1) := by decide +kernel
theorem dX9_takeRanks_75 : decode cX9_takeRanks 75 = .ok (.getfield 15, 3) := by decide +kernel
theorem dX9_takeRanks_78 : decode cX9_takeRanks 78 = .ok (.aload_n 0, 1) := by decide +kernel
theorem dX9_takeRanks_79 : decode cX9_takeRanks 79 = .ok (.getfield 15, 3) := by decide +kernel
theorem dX9_takeRanks_82 : decode cX9_takeRanks 82 = .ok (.iastore, 1) := by decide +kernel
theorem dX9_takeRanks_83 : decode cX9_takeRanks 83 = .ok (.return_, 1) := by decide +kernel
theorem dX9_countGaps_0 : decode cX9_countGaps 0 = .ok (.iconst 0, 1) := by decide +kernel
theorem dX9_countGaps_1 : decode cX9_countGaps 1 = .ok (.istore_n 1, 1) := by decide +kernel
theorem dX9_countGaps_2 : decode cX9_countGaps 2 = .ok (.iconst 1, 1) := by decide +kernel
theorem dX9_countGaps_3 : decode cX9_countGaps 3 = .ok (.istore_n 2, 1) := by decide +kernel
theorem dX9_countGaps_4 : decode cX9_countGaps 4 = .ok (.iload_n 2, 1) := by decide +kernel
theorem dX9_countGaps_5 : decode cX9_countGaps 5 = .ok (.aload_n 0, 1) := by decide +kernel
theorem dX9_countGaps_6 : decode cX9_countGaps 6 = .ok (.getfield 15, 3) := by decide +kernel
theorem dX9_countGaps_9 : decode cX9_countGaps 9 = .ok (.if_icmp .gt 29, 3) := by decide +kernel
theorem dX9_countGaps_12 : decode cX9_countGaps 12 = .ok (.iload_n 1, 1) := by decide +kernel
theorem dX9_countGaps_13 : decode cX9_countGaps 13 = .ok (.aload_n 0, 1) := by decide +kernel
theorem dX9_countGaps_14 : decode cX9_countGaps 14 = .ok (.getfield 9, 3) := by decide +kernel
theorem dX9_countGaps_17 : decode cX9_countGaps 17 = .ok (.iload_n 2, 1) := by decide +kernel
theorem dX9_countGaps_18 : decode cX9_countGaps 18 = .ok (.iconst 1, 1) := by decide +kernel
theorem dX9_countGaps_19 : decode cX9_countGaps 19 = .ok (.isub, 1) := by decide +kernel
theorem dX9_countGaps_20 : decode cX9_countGaps 20 = .ok (.iaload, 1) := by decide +kernel
theorem dX9_countGaps_21 : decode cX9_countGaps 21 = .ok (.aload_n 0, 1) := by decide +kernel
theorem dX9_countGaps_22 : decode cX9_countGaps 22 = .ok (.getfield 9, 3) := by decide +kernel
theorem dX9_countGaps_25 : decode cX9_countGaps 25 = .ok (.iload_n 2, 1) := by decide +kernel
theorem dX9_countGaps_26 : decode cX9_countGaps 26 = .ok (.iaload, 1) := by decide +kernel
theorem dX9_countGaps_27 : decode cX9_countGaps 27 = .ok (.invokestatic 43, 3) := by decide +kernel
theorem dX9_countGaps_30 : decode cX9_countGaps 30 = .ok (.iadd, 1) := by decide +kernel
theorem dX9_countGaps_31 : decode cX9_countGaps 31 = .ok (.istore_n 1, 1) := by decide +kernel
theorem dX9_countGaps_32 : decode cX9_countGaps 32 = .ok (.iinc 2 1, 3) := by decide +kernel
theorem dX9_countGaps_35 : decode cX9_countGaps 35 = .ok (.goto (-31), 3) := by decide +kernel
theorem dX9_countGaps_38 : decode cX9_countGaps 38 = .ok (.iload_n 1, 1) := by decide +kernel
theorem dX9_countGaps_39 : decode cX9_countGaps 39 = .ok (.ireturn, 1) := by decide +kernel
theorem dX9_gapBetween_0 : decode cX9_gapBetween 0 = .ok (.iload_n 0, 1) := by decide +kernel
theorem dX9_gapBetween_1 : decode cX9_gapBetween 1 = .ok (.iload_n 1, 1) := by decide +kernel
theorem dX9_gapBetween_2 : decode cX9_gapBetween 2 = .ok (.isub, 1) := by decide +kernel
theorem dX9_gapBetween_3 : decode cX9_gapBetween 3 = .ok (.iconst 1, 1) := by decide +kernel
theorem dX9_gapBetween_4 : decode cX9_gapBetween 4 = .ok (.if_icmp .eq 10, 3) := by decide +kernel
theorem dX9_gapBetween_7 : decode cX9_gapBetween 7 = .ok (.iload_n 1, 1) := by decide +kernel
theorem dX9_gapBetween_8 : decode cX9_gapBetween 8 = .ok (.iload_n 0, 1) := by decide +kernel
theorem dX9_gapBetween_9 : decode cX9_gapBetween 9 = .ok (.isub, 1) := by decide +kernel
theorem dX9_gapBetween_10 : decode cX9_gapBetween 10 = .ok (.iconst 1, 1) := by decide +kernel
theorem dX9_gapBetween_11 : decode cX9_gapBetween 11 = .ok (.if_icmp .ne 7, 3) := by decide +kernel
theorem dX9_gapBetween_14 : decode cX9_gapBetween 14 = .ok (.iconst 0, 1) := by decide +kernel
theorem dX9_gapBetween_15 : decode cX9_gapBetween 15 = .ok (.goto 4, 3) := by decide +kernel
theorem dX9_gapBetween_18 : decode cX9_gapBetween 18 = .ok (.iconst 1, 1) := by decide +kernel
theorem dX9_gapBetween_19 : decode cX9_gapBetween 19 = .ok (.ireturn, 1) := by decide +kernel
theorem dX9_firstWithin_0 : decode cX9_firstWithin 0 = .ok (.iload_n 1, 1) := by decide +kernel
theorem dX9_firstWithin_1 : decode cX9_firstWithin 1 = .ok (.aload_n 0, 1) := by decide +kernel
theorem dX9_firstWithin_2 : decode cX9_firstWithin 2 = .ok (.arraylength, 1) := by decide +kernel
theorem dX9_firstWithin_3 : decode cX9_firstWithin 3 = .ok (.if_icmp .ge 13, 3) := by decide +kernel
theorem dX9_firstWithin_6 : decode cX9_firstWithin 6 = .ok (.iload_n 3, 1) := by decide +kernel
theorem dX9_firstWithin_7 : decode cX9_firstWithin 7 = .ok (.ifCond .le 9, 3) := by decide +kernel
theorem dX9_firstWithin_10 : decode cX9_firstWithin 10 = .ok (.iload_n 3, 1) := by decide +kernel
theorem dX9_firstWithin_11 : decode cX9_firstWithin 11 = .ok (.bipush 14, 2) := by decide +kernel
theorem dX9_firstWithin_13 : decode cX9_firstWithin 13 = .ok (.if_icmp .le 5, 3) := by decide +kernel
theorem dX9_firstWithin_16 : decode cX9_firstWithin 16 = .ok (.iconst (-1), 1) := by decide +kernel
theorem dX9_firstWithin_17 : decode cX9_firstWithin 17 = .ok (.ireturn, 1) := by decide +kernel
theorem dX9_firstWithin_18 : decode cX9_firstWithin 18 = .ok (.iconst 2, 1) := by decide +kernel
theorem dX9_firstWithin_19 : decode cX9_firstWithin 19 = .ok (.istore 4, 2) := by decide +kernel
theorem dX9_firstWithin_21 : decode cX9_firstWithin 21 = .ok (.iload 4, 2) := by decide +kernel
theorem dX9_firstWithin_23 : decode cX9_firstWithin 23 = .ok (.iload_n 1, 1) := by decide +kernel
theorem dX9_firstWithin_24 : decode cX9_firstWithin 24 = .ok (.if_icmp .gt 84, 3) := by decide +kernel
theorem dX9_firstWithin_27 : decode cX9_firstWithin 27 = .ok (.iload_n 2, 1) := by decide +kernel
theorem dX9_firstWithin_28 : decode cX9_firstWithin 28 = .ok (.aload_n 0, 1) := by decide +kernel
theorem dX9_firstWithin_29 : decode cX9_firstWithin 29 = .ok (.iload 4, 2) := by decide +kernel
theorem dX9_firstWithin_31 : decode cX9_firstWithin 31 = .ok (.iconst 1, 1) := by decide +kernel
theorem dX9_firstWithin_32 : decode cX9_firstWithin 32 = .ok (.isub, 1) := by decide +kernel
theorem dX9_firstWithin_33 : decode cX9_firstWithin 33 = .ok (.iaload, 1) := by decide +kernel
theorem dX9_firstWithin_34 : decode cX9_firstWithin 34 = .ok (.aload_n 0, 1) := by decide +kernel
theorem dX9_firstWithin_35 : decode cX9_firstWithin 35 = .ok (.iload 4, 2) := by decide +kernel
theorem dX9_firstWithin_37 : decode cX9_firstWithin 37 = .ok (.iaload, 1) := by decide +kernel
theorem dX9_firstWithin_38 : decode cX9_firstWithin 38 = .ok (.invokestatic 43, 3) := by decide +kernel
theorem dX9_firstWithin_41 : decode cX9_firstWithin 41 = .ok (.isub, 1) := by decide +kernel
theorem dX9_firstWithin_42 : decode cX9_firstWithin 42 = .ok (.aload_n 0, 1) := by decide +kernel
theorem dX9_firstWithin_43 : decode cX9_firstWithin 43 = .ok (.iconst 0, 1) := by decide +kernel
theorem dX9_firstWithin_44 : decode cX9_firstWithin 44 = .ok (.iaload, 1) := by decide +kernel
theorem dX9_firstWithin_45 : decode cX9_firstWithin 45 = .ok (.aload_n 0, 1) := by decide +kernel
theorem dX9_firstWithin_46 : decode cX9_firstWithin 46 = .ok (.iload 4, 2) := by decide +kernel
theorem dX9_firstWithin_48 : decode cX9_firstWithin 48 = .ok (.iaload, 1) := by decide +kernel
theorem dX9_firstWithin_49 : decode cX9_firstWithin 49 = .ok (.invokestatic 43, 3) := by decide +kernel
theorem dX9_firstWithin_52 : decode cX9_firstWithin 52 = .ok (.iadd, 1) := by decide +kernel
theorem dX9_firstWithin_53 : decode cX9_firstWithin 53 = .ok (.istore 5, 2) := by decide +kernel
theorem dX9_firstWithin_55 : decode cX9_firstWithin 55 = .ok (.iload 5, 2) := by decide +kernel
theorem dX9_firstWithin_57 : decode cX9_firstWithin 57 = .ok (.ifCond .ne 6, 3) := by decide +kernel
theorem dX9_firstWithin_60 : decode cX9_firstWithin 60 = .ok (.iload 4, 2) := by decide +kernel
theorem dX9_firstWithin_62 : decode cX9_firstWithin 62 = .ok (.ireturn, 1) := by decide +kernel
theorem dX9_firstWithin_63 : decode cX9_firstWithin 63 = .ok (.iload 5, 2) := by decide +kernel
theorem dX9_firstWithin_65 : decode cX9_firstWithin 65 = .ok (.iload_n 3, 1) := by decide +kernel
theorem dX9_firstWithin_66 : decode cX9_firstWithin 66 = .ok (.if_icmp .ge 36, 3) := by decide +kernel
theorem dX9_firstWithin_69 : decode cX9_firstWithin 69 = .ok (.aload_n 0, 1) := by decide +kernel
theorem dX9_firstWithin_70 : decode cX9_firstWithin 70 = .ok (.iload 4, 2) := by decide +kernel
theorem dX9_firstWithin_72 : decode cX9_firstWithin 72 = .ok (.invokestatic 47, 3) := by decide +kernel
theorem dX9_firstWithin_75 : decode cX9_firstWithin 75 = .ok (.aload_n 0, 1) := by decide +kernel
theorem dX9_firstWithin_76 : decode cX9_firstWithin 76 = .ok (.iload_n 1, 1) := by decide +kernel
theorem dX9_firstWithin_77 : decode cX9_firstWithin 77 = .ok (.iload 5, 2) := by decide +kernel
theorem dX9_firstWithin_79 : decode cX9_firstWithin 79 = .ok (.iload_n 3, 1) := by decide +kernel
theorem dX9_firstWithin_80 : decode cX9_firstWithin 80 = .ok (.iconst 1, 1) := by decide +kernel
theorem dX9_firstWithin_81 : decode cX9_firstWithin 81 = .ok (.isub, 1) := by decide +kernel
theorem dX9_firstWithin_82 : decode cX9_firstWithin 82 = .ok (.invokestatic 27, 3) := by decide +kernel
theorem dX9_firstWithin_85 : decode cX9_firstWithin 85 = .ok (.istore 6, 2) := by decide +kernel
theorem dX9_firstWithin_87 : decode cX9_firstWithin 87 = .ok (.aload_n 0, 1) := by decide +kernel
theorem dX9_firstWithin_88 : decode cX9_firstWithin 88 = .ok (.iload 4, 2) := by decide +kernel
theorem dX9_firstWithin_90 : decode cX9_firstWithin 90 = .ok (.invokestatic 47, 3) := by decide +kernel
theorem dX9_firstWithin_93 : decode cX9_firstWithin 93 = .ok (.iload 6, 2) := by decide +kernel
theorem dX9_firstWithin_95 : decode cX9_firstWithin 95 = .ok (.iconst (-1), 1) := by decide +kernel
theorem dX9_firstWithin_96 : decode cX9_firstWithin 96 = .ok (.if_icmp .eq 6, 3) := by decide +kernel
theorem dX9_firstWithin_99 : decode cX9_firstWithin 99 = .ok (.iload 4, 2) := by decide +kernel
theorem dX9_firstWithin_101 : decode cX9_firstWithin 101 = .ok (.ireturn, 1) := by decide +kernel
theorem dX9_firstWithin_102 : decode cX9_firstWithin 102 = .ok (.iinc 4 1, 3) := by decide +kernel
theorem dX9_firstWithin_105 : decode cX9_firstWithin 105 = .ok (.goto (-84), 3) := by decide +kernel
theorem dX9_firstWithin_108 : decode cX9_firstWithin 108 = .ok (.iconst (-1), 1) := by decide +kernel
theorem dX9_firstWithin_109 : decode cX9_firstWithin 109 = .ok (.ireturn, 1) := by decide +kernel
theorem dX9_turnRanks_0 : decode cX9_turnRanks 0 = .ok (.iconst 0, 1) := by decide +kernel
theorem dX9_turnRanks_1 : decode cX9_turnRanks 1 = .ok (.istore_n 2, 1) := by decide +kernel
theorem dX9_turnRanks_2 : decode cX9_turnRanks 2 = .ok (.iload_n 1, 1) := by decide +kernel
theorem dX9_turnRanks_3 : decode cX9_turnRanks 3 = .ok (.iconst 1, 1) := by decide +kernel
theorem dX9_turnRanks_4 : decode cX9_turnRanks 4 = .ok (.isub, 1) := by decide +kernel
theorem dX9_turnRanks_5 : decode cX9_turnRanks 5 = .ok (.istore_n 3, 1) := by decide +kernel
theorem dX9_turnRanks_6 : decode cX9_turnRanks 6 = .ok (.iload_n 2, 1) := by decide +kernel
theorem dX9_turnRanks_7 : decode cX9_turnRanks 7 = .ok (.iload_n 3, 1) := by decide +kernel
theorem dX9_turnRanks_8 : decode cX9_turnRanks 8 = .ok (.if_icmp .ge 28, 3) := by decide +kernel
theorem dX9_turnRanks_11 : decode cX9_turnRanks 11 = .ok (.aload_n 0, 1) := by decide +kernel
theorem dX9_turnRanks_12 : decode cX9_turnRanks 12 = .ok (.iload_n 2, 1) := by decide +kernel
theorem dX9_turnRanks_13 : decode cX9_turnRanks 13 = .ok (.iaload, 1) := by decide +kernel
theorem dX9_turnRanks_14 : decode cX9_turnRanks 14 = .ok (.istore 4, 2) := by decide +kernel
theorem dX9_turnRanks_16 : decode cX9_turnRanks 16 = .ok (.aload_n 0, 1) := by decide +kernel
theorem dX9_turnRanks_17 : decode cX9_turnRanks 17 = .ok (.iload_n 2, 1) := by decide +kernel
theorem dX9_turnRanks_18 : decode cX9_turnRanks 18 = .ok (.aload_n 0, 1) := by decide +kernel
theorem dX9_turnRanks_19 : decode cX9_turnRanks 19 = .ok (.iload_n 3, 1) := by decide +kernel
theorem dX9_turnRanks_20 : decode cX9_turnRanks 20 = .ok (.iaload, 1) := by decide +kernel
theorem dX9_turnRanks_21 : decode cX9_turnRanks 21 = .ok (.iastore, 1) := by decide +kernel
theorem dX9_turnRanks_22 : decode cX9_turnRanks 22 = .ok (.aload_n 0, 1) := by decide +kernel
theorem dX9_turnRanks_23 : decode cX9_turnRanks 23 = .ok (.iload_n 3, 1) := by decide +kernel
theorem dX9_turnRanks_24 : decode cX9_turnRanks 24 = .ok (.iload 4, 2) := by decide +kernel
theorem dX9_turnRanks_26 : decode cX9_turnRanks 26 = .ok (.iastore, 1) := by decide +kernel
theorem dX9_turnRanks_27 : decode cX9_turnRanks 27 = .ok (.iinc 2 1, 3) := by decide +kernel
theorem dX9_turnRanks_30 : decode cX9_turnRanks 30 = .ok (.iinc 3 (-1), 3) := by decide +kernel
theorem dX9_turnRanks_33 : decode cX9_turnRanks 33 = .ok (.goto (-27), 3) := by decide +kernel
theorem dX9_turnRanks_36 : decode cX9_turnRanks 36 = .ok (.return_, 1) := by decide +kernel
theorem dX10_init_0 : decode cX10_init 0 = .ok (.aload_n 0, 1) := by decide +kernel
theorem dX10_init_1 : decode cX10_init 1 = .ok (.invokespecial 1, 3) := by decide +kernel
theorem dX10_init_4 : decode cX10_init 4 = .ok (.aload_n 0, 1) := by decide +kernel
theorem dX10_init_5 : decode cX10_init 5 = .ok (.new 7, 3) := by decide +kernel
theorem dX10_init_8 : decode cX10_init 8 = .ok (.dup, 1) := by decide +kernel
theorem dX10_init_9 : decode cX10_init 9 = .ok (.invokespecial 9, 3) := by decide +kernel
theorem dX10_init_12 : decode cX10_init 12 = .ok (.putfield 10, 3) := by decide +kernel
theorem dX10_init_15 : decode cX10_init 15 = .ok (.aload_n 0, 1) := by decide +kernel
theorem dX10_init_16 : decode cX10_init 16 = .ok (.new 16, 3) := by decide +kernel
theorem dX10_init_19 : decode cX10_init 19 = .ok (.dup, 1) := by decide +kernel
theorem dX10_init_20 : decode cX10_init 20 = .ok (.invokespecial 18, 3) := by decide +kernel
theorem dX10_init_23 : decode cX10_init 23 = .ok (.putfield 19, 3) := by decide +kernel
theorem dX10_init_26 : decode cX10_init 26 = .ok (.aload_n 0, 1) := by decide +kernel
theorem dX10_init_27 : decode cX10_init 27 = .ok (.new 16, 3) := by decide +kernel
theorem dX10_init_30 : decode cX10_init 30 = .ok (.dup, 1) := by decide +kernel
theorem dX10_init_31 : decode cX10_init 31 = .ok (.invokespecial 18, 3) := by decide +kernel
theorem dX10_init_34 : decode cX10_init 34 = .ok (.putfield 23, 3) := by decide +kernel
theorem dX10_init_37 : decode cX10_init 37 = .ok (.aload_n 0, 1) := by decide +kernel
theorem dX10_init_38 : decode cX10_init 38 = .ok (.new 26, 3) := by decide +kernel
theorem dX10_init_41 : decode cX10_init 41 = .ok (.dup, 1) := by decide +kernel
theorem dX10_init_42 : decode cX10_init 42 = .ok (.invokespecial 28, 3) := by decide +kernel
theorem dX10_init_45 : decode cX10_init 45 = .ok (.putfield 29, 3) := by decide +kernel
theorem dX10_init_48 : decode cX10_init 48 = .ok (.aload_n 0, 1) := by decide +kernel
theorem dX10_init_49 : decode cX10_init 49 = .ok (.new 33, 3) := by decide +kernel
theorem dX10_init_52 : decode cX10_init 52 = .ok (.dup, 1) := by decide +kernel
theorem dX10_init_53 : decode cX10_init 53 = .ok (.invokespecial 35, 3) := by decide +kernel
theorem dX10_init_56 : decode cX10_init 56 = .ok (.putfield 36, 3) := by decide +kernel
theorem dX10_init_59 : decode cX10_init 59 = .ok (.aload_n 0, 1) := by decide +kernel
theorem dX10_init_60 : decode cX10_init 60 = .ok (.iconst 2, 1) := by decide +kernel
theorem dX10_init_61 : decode cX10_init 61 = .ok (.anewarray 40, 3) := by decide +kernel
theorem dX10_init_64 : decode cX10_init 64 = .ok (.dup, 1) := by decide +kernel
theorem dX10_init_65 : decode cX10_init 65 = .ok (.iconst 0, 1) := by decide +kernel
theorem dX10_init_66 : decode cX10_init 66 = .ok (.new 40, 3) := by decide +kernel
theorem dX10_init_69 : decode cX10_init 69 = .ok (.dup, 1) := by decide +kernel
theorem dX10_init_70 : decode cX10_init 70 = .ok (.invokespecial 42, 3) := by decide +kernel
theorem dX10_init_73 : decode cX10_init 73 = .ok (.aastore, 1) := by decide +kernel
theorem dX10_init_74 : decode cX10_init 74 = .ok (.dup, 1) := by decide +kernel
theorem dX10_init_75 : decode cX10_init 75 = .ok (.iconst 1, 1) := by decide +kernel
theorem dX10_init_76 : decode cX10_init 76 = .ok (.new 40, 3) := by decide +kernel
theorem dX10_init_79 : decode cX10_init 79 = .ok (.dup, 1) := by decide +kernel
theorem dX10_init_80 : decode cX10_init 80 = .ok (.invokespecial 42, 3) := by decide +kernel
theorem dX10_init_83 : decode cX10_init 83 = .ok (.aastore, 1) := by decide +kernel
theorem dX10_init_84 : decode cX10_init 84 = .ok (.putfield 43, 3) := by decide +kernel
theorem dX10_init_87 : decode cX10_init 87 = .ok (.aload_n 0, 1) := by decide +kernel
theorem dX10_init_88 : decode cX10_init 88 = .ok (.new 47, 3) := by decide +kernel
theorem dX10_init_91 : decode cX10_init 91 = .ok (.dup, 1) := by decide +kernel
theorem dX10_init_92 : decode cX10_init 92 = .ok (.invokespecial 49, 3) := by decide +kernel
theorem dX10_init_95 : decode cX10_init 95 = .ok (.putfield 50, 3) := by decide +kernel
theorem dX10_init_98 : decode cX10_init 98 = .ok (.aload_n 0, 1) := by decide +kernel
theorem dX10_init_99 : decode cX10_init 99 = .ok (.new 54, 3) := by decide +kernel
theorem dX10_init_102 : decode cX10_init 102 = .ok (.dup, 1) := by decide +kernel
theorem dX10_init_103 : decode cX10_init 103 = .ok (.invokespecial 56, 3) := by decide +kernel
theorem dX10_init_106 : decode cX10_init 106 = .ok (.putfield 57, 3) := by decide +kernel
theorem dX10_init_109 : decode cX10_init 109 = .ok (.aload_n 0, 1) := by decide +kernel
theorem dX10_init_110 : decode cX10_init 110 = .ok (.new 61, 3) := by decide +kernel
theorem dX10_init_113 : decode cX10_init 113 = .ok (.dup, 1) := by decide +kernel
theorem dX10_init_114 : decode cX10_init 114 = .ok (.invokespecial 63, 3) := by decide +kernel
theorem dX10_init_117 : decode cX10_init 117 = .ok (.putfield 64, 3) := by decide +kernel
theorem dX10_init_120 : decode cX10_init 120 = .ok (.aload_n 0, 1) := by decide +kernel
theorem dX10_init_121 : decode cX10_init 121 = .ok (.new 68, 3) := by decide +kernel
theorem dX10_init_124 : decode cX10_init 124 = .ok (.dup, 1) := by decide +kernel
theorem dX10_init_125 : decode cX10_init 125 = .ok (.invokespecial 70, 3) := by decide +kernel
theorem dX10_init_128 : decode cX10_init 128 = .ok (.putfield 71, 3) := by decide +kernel
theorem dX10_init_131 : decode cX10_init 131 = .ok (.aload_n 0, 1) := by decide +kernel
theorem dX10_init_132 : decode cX10_init 132 = .ok (.new 75, 3) := by decide +kernel
theorem dX10_init_135 : decode cX10_init 135 = .ok (.dup, 1) := by decide +kernel
theorem dX10_init_136 : decode cX10_init 136 = .ok (.invokespecial 77, 3) := by decide +kernel
theorem dX10_init_139 : decode cX10_init 139 = .ok (.putfield 78, 3) := by decide +kernel
theorem dX10_init_142 : decode cX10_init 142 = .ok (.aload_n 0, 1) := by decide +kernel
theorem dX10_init_143 : decode cX10_init 143 = .ok (.iconst 0, 1) := by decide +kernel
theorem dX10_init_144 : decode cX10_init 144 = .ok (.putfield 82, 3) := by decide +kernel
theorem dX10_init_147 : decode cX10_init 147 = .ok (.return_, 1) := by decide +kernel
theorem dX10_feed_0 : decode cX10_feed 0 = .ok (.iload_n 1, 1) := by decide +kernel
theorem dX10_feed_1 : decode cX10_feed 1 = .ok (.ifCond .lt 10, 3) := by decide +kernel
theorem dX10_feed_4 : decode cX10_feed 4 = .ok (.iload_n 1, 1) := by decide +kernel
theorem dX10_feed_5 : decode cX10_feed 5 = .ok (.sipush 255, 3) := by decide +kernel
theorem dX10_feed_8 : decode cX10_feed 8 = .ok (.if_icmp .le 6, 3) := by decide +kernel
theorem dX10_feed_11 : decode cX10_feed 11 = .ok (.ldc 86, 2) := by decide +kernel
theorem dX10_feed_13 : decode cX10_feed 13 = .ok (.ireturn, 1) := by decide +kernel
theorem dX10_feed_14 : decode cX10_feed 14 = .ok (.aload_n 0, 1) := by decide +kernel
theorem dX10_feed_15 : decode cX10_feed 15 = .ok (.getfield 10, 3) := by decide +kernel
theorem dX10_feed_18 : decode cX10_feed 18 = .ok (.getfield 87, 3) := by decide +kernel
theorem dX10_feed_21 : decode cX10_feed 21 = .ok (.sipush 240, 3) := by decide +kernel
theorem dX10_feed_24 : decode cX10_feed 24 = .ok (.if_icmp .lt 6, 3) := by decide +kernel
theorem dX10_feed_27 : decode cX10_feed 27 = .ok (.ldc 90, 2) := by decide +kernel
theorem dX10_feed_29 : decode cX10_feed 29 = .ok (.ireturn, 1) := by decide +kernel
theorem dX10_feed_30 : decode cX10_feed 30 = .ok (.aload_n 0, 1) := by decide +kernel
theorem dX10_feed_31 : decode cX10_feed 31 = .ok (.getfield 10, 3) := by decide +kernel
theorem dX10_feed_34 : decode cX10_feed 34 = .ok (.getfield 91, 3) := by decide +kernel
theorem dX10_feed_37 : decode cX10_feed 37 = .ok (.aload_n 0, 1) := by decide +kernel
theorem dX10_feed_38 : decode cX10_feed 38 = .ok (.getfield 10, 3) := by decide +kernel
theorem dX10_feed_41 : decode cX10_feed 41 = .ok (.getfield 87, 3) := by decide +kernel
theorem dX10_feed_44 : decode cX10_feed 44 = .ok (.iload_n 1, 1) := by decide +kernel
theorem dX10_feed_45 : decode cX10_feed 45 = .ok (.iastore, 1) := by decide +kernel
theorem dX10_feed_46 : decode cX10_feed 46 = .ok (.aload_n 0, 1) := by decide +kernel
theorem dX10_feed_47 : decode cX10_feed 47 = .ok (.getfield 10, 3) := by decide +kernel
theorem dX10_feed_50 : decode cX10_feed 50 = .ok (.dup, 1) := by decide +kernel
theorem dX10_feed_51 : decode cX10_feed 51 = .ok (.getfield 87, 3) := by decide +kernel
theorem dX10_feed_54 : decode cX10_feed 54 = .ok (.iconst 1, 1) := by decide +kernel
theorem dX10_feed_55 : decode cX10_feed 55 = .ok (.iadd, 1) := by decide +kernel
theorem dX10_feed_56 : decode cX10_feed 56 = .ok (.putfield 87, 3) := by decide +kernel
theorem dX10_feed_59 : decode cX10_feed 59 = .ok (.aload_n 0, 1) := by decide +kernel
theorem dX10_feed_60 : decode cX10_feed 60 = .ok (.getfield 10, 3) := by decide +kernel
theorem dX10_feed_63 : decode cX10_feed 63 = .ok (.getfield 87, 3) := by decide +kernel
theorem dX10_feed_66 : decode cX10_feed 66 = .ok (.ireturn, 1) := by decide +kernel
theorem dX10_cord_0 : decode cX10_cord 0 = .ok (.aload_n 0, 1) := by decide +kernel
theorem dX10_cord_1 : decode cX10_cord 1 = .ok (.getfield 10, 3) := by decide +kernel
theorem dX10_cord_4 : decode cX10_cord 4 = .ok (.aload_n 0, 1) := by decide +kernel
theorem dX10_cord_5 : decode cX10_cord 5 = .ok (.getfield 19, 3) := by decide +kernel
theorem dX10_cord_8 : decode cX10_cord 8 = .ok (.invokevirtual 95, 3) := by decide +kernel
theorem dX10_cord_11 : decode cX10_cord 11 = .ok (.aload_n 0, 1) := by decide +kernel
theorem dX10_cord_12 : decode cX10_cord 12 = .ok (.getfield 10, 3) := by decide +kernel
theorem dX10_cord_15 : decode cX10_cord 15 = .ok (.iconst 0, 1) := by decide +kernel
theorem dX10_cord_16 : decode cX10_cord 16 = .ok (.putfield 87, 3) := by decide +kernel
theorem dX10_cord_19 : decode cX10_cord 19 = .ok (.aload_n 0, 1) := by decide +kernel
theorem dX10_cord_20 : decode cX10_cord 20 = .ok (.getfield 10, 3) := by decide +kernel
theorem dX10_cord_23 : decode cX10_cord 23 = .ok (.getfield 99, 3) := by decide +kernel
theorem dX10_cord_26 : decode cX10_cord 26 = .ok (.ifCond .eq 14, 3) := by decide +kernel
theorem dX10_cord_29 : decode cX10_cord 29 = .ok (.bipush (-10), 2) := by decide +kernel
theorem dX10_cord_31 : decode cX10_cord 31 = .ok (.aload_n 0, 1) := by decide +kernel
theorem dX10_cord_32 : decode cX10_cord 32 = .ok (.getfield 10, 3) := by decide +kernel
theorem dX10_cord_35 : decode cX10_cord 35 = .ok (.getfield 99, 3) := by decide +kernel
theorem dX10_cord_38 : decode cX10_cord 38 = .ok (.isub, 1) := by decide +kernel
theorem dX10_cord_39 : decode cX10_cord 39 = .ok (.ireturn, 1) := by decide +kernel
theorem dX10_cord_40 : decode cX10_cord 40 = .ok (.aload_n 0, 1) := by decide +kernel
theorem dX10_cord_41 : decode cX10_cord 41 = .ok (.getfield 23, 3) := by decide +kernel
theorem dX10_cord_44 : decode cX10_cord 44 = .ok (.aload_n 0, 1) := by decide +kernel
theorem dX10_cord_45 : decode cX10_cord 45 = .ok (.getfield 19, 3) := by decide +kernel
theorem dX10_cord_48 : decode cX10_cord 48 = .ok (.invokevirtual 102, 3) := by decide +kernel
theorem dX10_cord_51 : decode cX10_cord 51 = .ok (.aload_n 0, 1) := by decide +kernel
theorem dX10_cord_52 : decode cX10_cord 52 = .ok (.getfield 29, 3) := by decide +kernel
theorem dX10_cord_55 : decode cX10_cord 55 = .ok (.aload_n 0, 1) := by decide +kernel
theorem dX10_cord_56 : decode cX10_cord 56 = .ok (.getfield 23, 3) := by decide +kernel
theorem dX10_cord_59 : decode cX10_cord 59 = .ok (.invokevirtual 105, 3) := by decide +kernel
theorem dX10_cord_62 : decode cX10_cord 62 = .ok (.aload_n 0, 1) := by decide +kernel
theorem dX10_cord_63 : decode cX10_cord 63 = .ok (.getfield 36, 3) := by decide +kernel
theorem dX10_cord_66 : decode cX10_cord 66 = .ok (.invokevirtual 108, 3) := by decide +kernel
theorem dX10_cord_69 : decode cX10_cord 69 = .ok (.aload_n 0, 1) := by decide +kernel
theorem dX10_cord_70 : decode cX10_cord 70 = .ok (.getfield 71, 3) := by decide +kernel
theorem dX10_cord_73 : decode cX10_cord 73 = .ok (.iconst 0, 1) := by decide +kernel
theorem dX10_cord_74 : decode cX10_cord 74 = .ok (.putfield 111, 3) := by decide +kernel
theorem dX10_cord_77 : decode cX10_cord 77 = .ok (.aload_n 0, 1) := by decide +kernel
theorem dX10_cord_78 : decode cX10_cord 78 = .ok (.getfield 78, 3) := by decide +kernel
theorem dX10_cord_81 : decode cX10_cord 81 = .ok (.iconst 0, 1) := by decide +kernel
theorem dX10_cord_82 : decode cX10_cord 82 = .ok (.putfield 114, 3) := by decide +kernel
theorem dX10_cord_85 : decode cX10_cord 85 = .ok (.iconst 0, 1) := by decide +kernel
theorem dX10_cord_86 : decode cX10_cord 86 = .ok (.istore_n 1, 1) := by decide +kernel
theorem dX10_cord_87 : decode cX10_cord 87 = .ok (.iload_n 1, 1) := by decide +kernel
theorem dX10_cord_88 : decode cX10_cord 88 = .ok (.iconst 2, 1) := by decide +kernel
theorem dX10_cord_89 : decode cX10_cord 89 = .ok (.if_icmp .ge 19, 3) := by decide +kernel
theorem dX10_cord_92 : decode cX10_cord 92 = .ok (.aload_n 0, 1) := by decide +kernel
theorem dX10_cord_93 : decode cX10_cord 93 = .ok (.getfield 43, 3) := by decide +kernel
theorem dX10_cord_96 : decode cX10_cord 96 = .ok (.iload_n 1, 1) := by decide +kernel
theorem dX10_cord_97 : decode cX10_cord 97 = .ok (.aaload, 1) := by decide +kernel
theorem dX10_cord_98 : decode cX10_cord 98 = .ok (.iconst 0, 1) := by decide +kernel
theorem dX10_cord_99 : decode cX10_cord 99 = .ok (.putfield 115, 3) := by decide +kernel
theorem dX10_cord_102 : decode cX10_cord 102 = .ok (.iinc 1 1, 3) := by decide +kernel
theorem dX10_cord_105 : decode cX10_cord 105 = .ok (.goto (-18), 3) := by decide +kernel
theorem dX10_cord_108 : decode cX10_cord 108 = .ok (.aload_n 0, 1) := by decide +kernel
theorem dX10_cord_109 : decode cX10_cord 109 = .ok (.getfield 23, 3) := by decide +kernel
theorem dX10_cord_112 : decode cX10_cord 112 = .ok (.getfield 119, 3) := by decide +kernel
theorem dX10_cord_115 : decode cX10_cord 115 = .ok (.ireturn, 1) := by decide +kernel
theorem dX10_fault_0 : decode cX10_fault 0 = .ok (.aload_n 0, 1) := by decide +kernel
theorem dX10_fault_1 : decode cX10_fault 1 = .ok (.getfield 10, 3) := by decide +kernel
theorem dX10_fault_4 : decode cX10_fault 4 = .ok (.getfield 122, 3) := by decide +kernel
theorem dX10_fault_7 : decode cX10_fault 7 = .ok (.ireturn, 1) := by decide +kernel
theorem dX10_told_0 : decode cX10_told 0 = .ok (.iload_n 1, 1) := by decide +kernel
theorem dX10_told_1 : decode cX10_told 1 = .ok (.tableswitch 309 0 19 #[95, 111, 119, 127, 135, 143, 151, 159, 167, 175, 187, 195, 221, 229, 237, 253, 269, 285, 293, 301], 95) := by decide +kernel
theorem dX10_told_96 : decode cX10_told 96 = .ok (.aload_n 0, 1) := by decide +kernel
theorem dX10_told_97 : decode cX10_told 97 = .ok (.getfield 23, 3) := by decide +kernel
theorem dX10_told_100 : decode cX10_told 100 = .ok (.getfield 125, 3) := by decide +kernel
theorem dX10_told_103 : decode cX10_told 103 = .ok (.ifCond .eq 7, 3) := by decide +kernel
theorem dX10_told_106 : decode cX10_told 106 = .ok (.iconst 1, 1) := by decide +kernel
theorem dX10_told_107 : decode cX10_told 107 = .ok (.goto 4, 3) := by decide +kernel
theorem dX10_told_110 : decode cX10_told 110 = .ok (.iconst 0, 1) := by decide +kernel
theorem dX10_told_111 : decode cX10_told 111 = .ok (.ireturn, 1) := by decide +kernel
theorem dX10_told_112 : decode cX10_told 112 = .ok (.aload_n 0, 1) := by decide +kernel
theorem dX10_told_113 : decode cX10_told 113 = .ok (.getfield 23, 3) := by decide +kernel
theorem dX10_told_116 : decode cX10_told 116 = .ok (.getfield 119, 3) := by decide +kernel
theorem dX10_told_119 : decode cX10_told 119 = .ok (.ireturn, 1) := by decide +kernel
theorem dX10_told_120 : decode cX10_told 120 = .ok (.aload_n 0, 1) := by decide +kernel
theorem dX10_told_121 : decode cX10_told 121 = .ok (.getfield 23, 3) := by decide +kernel
theorem dX10_told_124 : decode cX10_told 124 = .ok (.getfield 128, 3) := by decide +kernel
theorem dX10_told_127 : decode cX10_told 127 = .ok (.ireturn, 1) := by decide +kernel
theorem dX10_told_128 : decode cX10_told 128 = .ok (.aload_n 0, 1) := by decide +kernel
theorem dX10_told_129 : decode cX10_told 129 = .ok (.getfield 23, 3) := by decide +kernel
theorem dX10_told_132 : decode cX10_told 132 = .ok (.getfield 131, 3) := by decide +kernel
theorem dX10_told_135 : decode cX10_told 135 = .ok (.ireturn, 1) := by decide +kernel
theorem dX10_told_136 : decode cX10_told 136 = .ok (.aload_n 0, 1) := by decide +kernel
theorem dX10_told_137 : decode cX10_told 137 = .ok (.getfield 10, 3) := by decide +kernel
theorem dX10_told_140 : decode cX10_told 140 = .ok (.getfield 87, 3) := by decide +kernel
theorem dX10_told_143 : decode cX10_told 143 = .ok (.ireturn, 1) := by decide +kernel
theorem dX10_told_144 : decode cX10_told 144 = .ok (.aload_n 0, 1) := by decide +kernel
theorem dX10_told_145 : decode cX10_told 145 = .ok (.getfield 29, 3) := by decide +kernel
theorem dX10_told_148 : decode cX10_told 148 = .ok (.getfield 134, 3) := by decide +kernel
theorem dX10_told_151 : decode cX10_told 151 = .ok (.ireturn, 1) := by decide +kernel
theorem dX10_told_152 : decode cX10_told 152 = .ok (.aload_n 0, 1) := by decide +kernel
theorem dX10_told_153 : decode cX10_told 153 = .ok (.getfield 29, 3) := by decide +kernel
theorem dX10_told_156 : decode cX10_told 156 = .ok (.getfield 137, 3) := by decide +kernel
theorem dX10_told_159 : decode cX10_told 159 = .ok (.ireturn, 1) := by decide +kernel
theorem dX10_told_160 : decode cX10_told 160 = .ok (.aload_n 0, 1) := by decide +kernel
theorem dX10_told_161 : decode cX10_told 161 = .ok (.getfield 29, 3) := by decide +kernel
theorem dX10_told_164 : decode cX10_told 164 = .ok (.getfield 140, 3) := by decide +kernel
theorem dX10_told_167 : decode cX10_told 167 = .ok (.ireturn, 1) := by decide +kernel
theorem dX10_told_168 : decode cX10_told 168 = .ok (.aload_n 0, 1) := by decide +kernel
theorem dX10_told_169 : decode cX10_told 169 = .ok (.getfield 29, 3) := by decide +kernel
theorem dX10_told_172 : decode cX10_told 172 = .ok (.invokevirtual 141, 3) := by decide +kernel
theorem dX10_told_175 : decode cX10_told 175 = .ok (.ireturn, 1) := by decide +kernel
theorem dX10_told_176 : decode cX10_told 176 = .ok (.aload_n 0, 1) := by decide +kernel
theorem dX10_told_177 : decode cX10_told 177 = .ok (.getfield 29, 3) := by decide +kernel
theorem dX10_told_180 : decode cX10_told 180 = .ok (.aload_n 0, 1) := by decide +kernel
theorem dX10_told_181 : decode cX10_told 181 = .ok (.getfield 23, 3) := by decide +kernel
theorem dX10_told_184 : decode cX10_told 184 = .ok (.invokevirtual 145, 3) := by decide +kernel
theorem dX10_told_187 : decode cX10_told 187 = .ok (.ireturn, 1) := by decide +kernel
theorem dX10_told_188 : decode cX10_told 188 = .ok (.aload_n 0, 1) := by decide +kernel
theorem dX10_told_189 : decode cX10_told 189 = .ok (.getfield 29, 3) := by decide +kernel
theorem dX10_told_192 : decode cX10_told 192 = .ok (.getfield 149, 3) := by decide +kernel
theorem dX10_told_195 : decode cX10_told 195 = .ok (.ireturn, 1) := by decide +kernel
theorem dX10_told_196 : decode cX10_told 196 = .ok (.aload_n 0, 1) := by decide +kernel
theorem dX10_told_197 : decode cX10_told 197 = .ok (.getfield 23, 3) := by decide +kernel
theorem dX10_told_200 : decode cX10_told 200 = .ok (.getfield 125, 3) := by decide +kernel
theorem dX10_told_203 : decode cX10_told 203 = .ok (.ifCond .eq 17, 3) := by decide +kernel
theorem dX10_told_206 : decode cX10_told 206 = .ok (.aload_n 0, 1) := by decide +kernel
theorem dX10_told_207 : decode cX10_told 207 = .ok (.getfield 29, 3) := by decide +kernel
theorem dX10_told_210 : decode cX10_told 210 = .ok (.invokevirtual 152, 3) := by decide +kernel
theorem dX10_told_213 : decode cX10_told 213 = .ok (.ifCond .eq 7, 3) := by decide +kernel
theorem dX10_told_216 : decode cX10_told 216 = .ok (.iconst 1, 1) := by decide +kernel
theorem dX10_told_217 : decode cX10_told 217 = .ok (.goto 4, 3) := by decide +kernel
theorem dX10_told_220 : decode cX10_told 220 = .ok (.iconst 0, 1) := by decide +kernel
theorem dX10_told_221 : decode cX10_told 221 = .ok (.ireturn, 1) := by decide +kernel
theorem dX10_told_222 : decode cX10_told 222 = .ok (.aload_n 0, 1) := by decide +kernel
theorem dX10_told_223 : decode cX10_told 223 = .ok (.getfield 29, 3) := by decide +kernel
theorem dX10_told_226 : decode cX10_told 226 = .ok (.invokevirtual 156, 3) := by decide +kernel
theorem dX10_told_229 : decode cX10_told 229 = .ok (.ireturn, 1) := by decide +kernel
theorem dX10_told_230 : decode cX10_told 230 = .ok (.aload_n 0, 1) := by decide +kernel
theorem dX10_told_231 : decode cX10_told 231 = .ok (.getfield 29, 3) := by decide +kernel
theorem dX10_told_234 : decode cX10_told 234 = .ok (.invokevirtual 159, 3) := by decide +kernel
theorem dX10_told_237 : decode cX10_told 237 = .ok (.ireturn, 1) := by decide +kernel
theorem dX10_told_238 : decode cX10_told 238 = .ok (.aload_n 0, 1) := by decide +kernel
theorem dX10_told_239 : decode cX10_told 239 = .ok (.getfield 57, 3) := by decide +kernel
theorem dX10_told_242 : decode cX10_told 242 = .ok (.aload_n 0, 1) := by decide +kernel
theorem dX10_told_243 : decode cX10_told 243 = .ok (.getfield 23, 3) := by decide +kernel
theorem dX10_told_246 : decode cX10_told 246 = .ok (.aload_n 0, 1) := by decide +kernel
theorem dX10_told_247 : decode cX10_told 247 = .ok (.getfield 29, 3) := by decide +kernel
theorem dX10_told_250 : decode cX10_told 250 = .ok (.invokevirtual 162, 3) := by decide +kernel
theorem dX10_told_253 : decode cX10_told 253 = .ok (.ireturn, 1) := by decide +kernel
theorem dX10_told_254 : decode cX10_told 254 = .ok (.aload_n 0, 1) := by decide +kernel
theorem dX10_told_255 : decode cX10_told 255 = .ok (.getfield 57, 3) := by decide +kernel
theorem dX10_told_258 : decode cX10_told 258 = .ok (.aload_n 0, 1) := by decide +kernel
theorem dX10_told_259 : decode cX10_told 259 = .ok (.getfield 23, 3) := by decide +kernel
theorem dX10_told_262 : decode cX10_told 262 = .ok (.aload_n 0, 1) := by decide +kernel
theorem dX10_told_263 : decode cX10_told 263 = .ok (.getfield 29, 3) := by decide +kernel
theorem dX10_told_266 : decode cX10_told 266 = .ok (.invokevirtual 166, 3) := by decide +kernel
theorem dX10_told_269 : decode cX10_told 269 = .ok (.ireturn, 1) := by decide +kernel
theorem dX10_told_270 : decode cX10_told 270 = .ok (.aload_n 0, 1) := by decide +kernel
theorem dX10_told_271 : decode cX10_told 271 = .ok (.getfield 57, 3) := by decide +kernel
theorem dX10_told_274 : decode cX10_told 274 = .ok (.aload_n 0, 1) := by decide +kernel
theorem dX10_told_275 : decode cX10_told 275 = .ok (.getfield 23, 3) := by decide +kernel
theorem dX10_told_278 : decode cX10_told 278 = .ok (.aload_n 0, 1) := by decide +kernel
theorem dX10_told_279 : decode cX10_told 279 = .ok (.getfield 29, 3) := by decide +kernel
theorem dX10_told_282 : decode cX10_told 282 = .ok (.invokevirtual 169, 3) := by decide +kernel
theorem dX10_told_285 : decode cX10_told 285 = .ok (.ireturn, 1) := by decide +kernel
theorem dX10_told_286 : decode cX10_told 286 = .ok (.aload_n 0, 1) := by decide +kernel
theorem dX10_told_287 : decode cX10_told 287 = .ok (.getfield 71, 3) := by decide +kernel
theorem dX10_told_290 : decode cX10_told 290 = .ok (.getfield 111, 3) := by decide +kernel
theorem dX10_told_293 : decode cX10_told 293 = .ok (.ireturn, 1) := by decide +kernel
theorem dX10_told_294 : decode cX10_told 294 = .ok (.aload_n 0, 1) := by decide +kernel
theorem dX10_told_295 : decode cX10_told 295 = .ok (.getfield 78, 3) := by decide +kernel
theorem dX10_told_298 : decode cX10_told 298 = .ok (.getfield 114, 3) := by decide +kernel
theorem dX10_told_301 : decode cX10_told 301 = .ok (.ireturn, 1) := by decide +kernel
theorem dX10_told_302 : decode cX10_told 302 = .ok (.aload_n 0, 1) := by decide +kernel
theorem dX10_told_303 : decode cX10_told 303 = .ok (.getfield 36, 3) := by decide +kernel
theorem dX10_told_306 : decode cX10_told 306 = .ok (.getfield 172, 3) := by decide +kernel
theorem dX10_told_309 : decode cX10_told 309 = .ok (.ireturn, 1) := by decide +kernel
theorem dX10_told_310 : decode cX10_told 310 = .ok (.ldc 86, 2) := by decide +kernel
theorem dX10_told_312 : decode cX10_told 312 = .ok (.ireturn, 1) := by decide +kernel
theorem dX10_flag_0 : decode cX10_flag 0 = .ok (.aload_n 0, 1) := by decide +kernel
theorem dX10_flag_1 : decode cX10_flag 1 = .ok (.getfield 23, 3) := by decide +kernel
theorem dX10_flag_4 : decode cX10_flag 4 = .ok (.iload_n 1, 1) := by decide +kernel
theorem dX10_flag_5 : decode cX10_flag 5 = .ok (.invokevirtual 173, 3) := by decide +kernel
theorem dX10_flag_8 : decode cX10_flag 8 = .ok (.ifCond .ne 6, 3) := by decide +kernel
theorem dX10_flag_11 : decode cX10_flag 11 = .ok (.ldc 177, 2) := by decide +kernel
theorem dX10_flag_13 : decode cX10_flag 13 = .ok (.ireturn, 1) := by decide +kernel
theorem dX10_flag_14 : decode cX10_flag 14 = .ok (.iload_n 2, 1) := by decide +kernel
theorem dX10_flag_15 : decode cX10_flag 15 = .ok (.tableswitch 82 0 4 #[33, 43, 53, 62, 72], 33) := by decide +kernel
theorem dX10_flag_48 : decode cX10_flag 48 = .ok (.aload_n 0, 1) := by decide +kernel
theorem dX10_flag_49 : decode cX10_flag 49 = .ok (.getfield 23, 3) := by decide +kernel
theorem dX10_flag_52 : decode cX10_flag 52 = .ok (.getfield 178, 3) := by decide +kernel
theorem dX10_flag_55 : decode cX10_flag 55 = .ok (.iload_n 1, 1) := by decide +kernel
theorem dX10_flag_56 : decode cX10_flag 56 = .ok (.iaload, 1) := by decide +kernel
theorem dX10_flag_57 : decode cX10_flag 57 = .ok (.ireturn, 1) := by decide +kernel
theorem dX10_flag_58 : decode cX10_flag 58 = .ok (.aload_n 0, 1) := by decide +kernel
theorem dX10_flag_59 : decode cX10_flag 59 = .ok (.getfield 23, 3) := by decide +kernel
theorem dX10_flag_62 : decode cX10_flag 62 = .ok (.getfield 181, 3) := by decide +kernel
theorem dX10_flag_65 : decode cX10_flag 65 = .ok (.iload_n 1, 1) := by decide +kernel
theorem dX10_flag_66 : decode cX10_flag 66 = .ok (.iaload, 1) := by decide +kernel
theorem dX10_flag_67 : decode cX10_flag 67 = .ok (.ireturn, 1) := by decide +kernel
theorem dX10_flag_68 : decode cX10_flag 68 = .ok (.aload_n 0, 1) := by decide +kernel
theorem dX10_flag_69 : decode cX10_flag 69 = .ok (.getfield 29, 3) := by decide +kernel
theorem dX10_flag_72 : decode cX10_flag 72 = .ok (.iload_n 1, 1) := by decide +kernel
theorem dX10_flag_73 : decode cX10_flag 73 = .ok (.invokevirtual 184, 3) := by decide +kernel
theorem dX10_flag_76 : decode cX10_flag 76 = .ok (.ireturn, 1) := by decide +kernel
theorem dX10_flag_77 : decode cX10_flag 77 = .ok (.aload_n 0, 1) := by decide +kernel
theorem dX10_flag_78 : decode cX10_flag 78 = .ok (.getfield 29, 3) := by decide +kernel
theorem dX10_flag_81 : decode cX10_flag 81 = .ok (.getfield 188, 3) := by decide +kernel
theorem dX10_flag_84 : decode cX10_flag 84 = .ok (.iload_n 1, 1) := by decide +kernel
theorem dX10_flag_85 : decode cX10_flag 85 = .ok (.iaload, 1) := by decide +kernel
theorem dX10_flag_86 : decode cX10_flag 86 = .ok (.ireturn, 1) := by decide +kernel
theorem dX10_flag_87 : decode cX10_flag 87 = .ok (.aload_n 0, 1) := by decide +kernel
theorem dX10_flag_88 : decode cX10_flag 88 = .ok (.getfield 29, 3) := by decide +kernel
theorem dX10_flag_91 : decode cX10_flag 91 = .ok (.getfield 191, 3) := by decide +kernel
theorem dX10_flag_94 : decode cX10_flag 94 = .ok (.iload_n 1, 1) := by decide +kernel
theorem dX10_flag_95 : decode cX10_flag 95 = .ok (.iaload, 1) := by decide +kernel
theorem dX10_flag_96 : decode cX10_flag 96 = .ok (.ireturn, 1) := by decide +kernel
theorem dX10_flag_97 : decode cX10_flag 97 = .ok (.ldc 86, 2) := by decide +kernel
theorem dX10_flag_99 : decode cX10_flag 99 = .ok (.ireturn, 1) := by decide +kernel
theorem dX10_at_0 : decode cX10_at 0 = .ok (.iload_n 1, 1) := by decide +kernel
theorem dX10_at_1 : decode cX10_at 1 = .ok (.ifCond .lt 9, 3) := by decide +kernel
theorem dX10_at_4 : decode cX10_at 4 = .ok (.iload_n 1, 1) := by decide +kernel
theorem dX10_at_5 : decode cX10_at 5 = .ok (.bipush 6, 2) := by decide +kernel
theorem dX10_at_7 : decode cX10_at 7 = .ok (.if_icmp .le 6, 3) := by decide +kernel
theorem dX10_at_10 : decode cX10_at 10 = .ok (.ldc 86, 2) := by decide +kernel
theorem dX10_at_12 : decode cX10_at 12 = .ok (.ireturn, 1) := by decide +kernel
theorem dX10_at_13 : decode cX10_at 13 = .ok (.aload_n 0, 1) := by decide +kernel
theorem dX10_at_14 : decode cX10_at 14 = .ok (.getfield 29, 3) := by decide +kernel
theorem dX10_at_17 : decode cX10_at 17 = .ok (.iload_n 1, 1) := by decide +kernel
theorem dX10_at_18 : decode cX10_at 18 = .ok (.invokevirtual 194, 3) := by decide +kernel
theorem dX10_at_21 : decode cX10_at 21 = .ok (.ireturn, 1) := by decide +kernel
theorem dX10_hook_0 : decode cX10_hook 0 = .ok (.iload_n 1, 1) := by decide +kernel
theorem dX10_hook_1 : decode cX10_hook 1 = .ok (.ifCond .lt 14, 3) := by decide +kernel
theorem dX10_hook_4 : decode cX10_hook 4 = .ok (.iload_n 1, 1) := by decide +kernel
theorem dX10_hook_5 : decode cX10_hook 5 = .ok (.aload_n 0, 1) := by decide +kernel
theorem dX10_hook_6 : decode cX10_hook 6 = .ok (.getfield 23, 3) := by decide +kernel
theorem dX10_hook_9 : decode cX10_hook 9 = .ok (.getfield 131, 3) := by decide +kernel
theorem dX10_hook_12 : decode cX10_hook 12 = .ok (.if_icmp .lt 6, 3) := by decide +kernel
theorem dX10_hook_15 : decode cX10_hook 15 = .ok (.ldc 177, 2) := by decide +kernel
theorem dX10_hook_17 : decode cX10_hook 17 = .ok (.ireturn, 1) := by decide +kernel
theorem dX10_hook_18 : decode cX10_hook 18 = .ok (.iload_n 2, 1) := by decide +kernel
theorem dX10_hook_19 : decode cX10_hook 19 = .ok (.tableswitch 61 0 2 #[25, 35, 45], 25) := by decide +kernel
theorem dX10_hook_44 : decode cX10_hook 44 = .ok (.aload_n 0, 1) := by decide +kernel
end
section
theorem dX10_hook_45 : decode cX10_hook 45 = .ok (.getfield 23, 3) := by decide +kernel
theorem dX10_hook_48 : decode cX10_hook 48 = .ok (.getfield 197, 3) := by decide +kernel
theorem dX10_hook_51 : decode cX10_hook 51 = .ok (.iload_n 1, 1) := by decide +kernel
theorem dX10_hook_52 : decode cX10_hook 52 = .ok (.iaload, 1) := by decide +kernel
theorem dX10_hook_53 : decode cX10_hook 53 = .ok (.ireturn, 1) := by decide +kernel
theorem dX10_hook_54 : decode cX10_hook 54 = .ok (.aload_n 0, 1) := by decide +kernel
theorem dX10_hook_55 : decode cX10_hook 55 = .ok (.getfield 23, 3) := by decide +kernel
theorem dX10_hook_58 : decode cX10_hook 58 = .ok (.getfield 200, 3) := by decide +kernel
theorem dX10_hook_61 : decode cX10_hook 61 = .ok (.iload_n 1, 1) := by decide +kernel
theorem dX10_hook_62 : decode cX10_hook 62 = .ok (.iaload, 1) := by decide +kernel
theorem dX10_hook_63 : decode cX10_hook 63 = .ok (.ireturn, 1) := by decide +kernel
theorem dX10_hook_64 : decode cX10_hook 64 = .ok (.aload_n 0, 1) := by decide +kernel
theorem dX10_hook_65 : decode cX10_hook 65 = .ok (.getfield 29, 3) := by decide +kernel
theorem dX10_hook_68 : decode cX10_hook 68 = .ok (.aload_n 0, 1) := by decide +kernel
theorem dX10_hook_69 : decode cX10_hook 69 = .ok (.getfield 23, 3) := by decide +kernel
theorem dX10_hook_72 : decode cX10_hook 72 = .ok (.iload_n 1, 1) := by decide +kernel
theorem dX10_hook_73 : decode cX10_hook 73 = .ok (.invokevirtual 203, 3) := by decide +kernel
theorem dX10_hook_76 : decode cX10_hook 76 = .ok (.invokevirtual 206, 3) := by decide +kernel
theorem dX10_hook_79 : decode cX10_hook 79 = .ok (.ireturn, 1) := by decide +kernel
theorem dX10_hook_80 : decode cX10_hook 80 = .ok (.ldc 86, 2) := by decide +kernel
theorem dX10_hook_82 : decode cX10_hook 82 = .ok (.ireturn, 1) := by decide +kernel
theorem dX10_word_0 : decode cX10_word 0 = .ok (.iload_n 1, 1) := by decide +kernel
theorem dX10_word_1 : decode cX10_word 1 = .ok (.ifCond .lt 14, 3) := by decide +kernel
theorem dX10_word_4 : decode cX10_word 4 = .ok (.iload_n 1, 1) := by decide +kernel
theorem dX10_word_5 : decode cX10_word 5 = .ok (.aload_n 0, 1) := by decide +kernel
theorem dX10_word_6 : decode cX10_word 6 = .ok (.getfield 23, 3) := by decide +kernel
theorem dX10_word_9 : decode cX10_word 9 = .ok (.getfield 128, 3) := by decide +kernel
theorem dX10_word_12 : decode cX10_word 12 = .ok (.if_icmp .lt 6, 3) := by decide +kernel
theorem dX10_word_15 : decode cX10_word 15 = .ok (.ldc 177, 2) := by decide +kernel
theorem dX10_word_17 : decode cX10_word 17 = .ok (.ireturn, 1) := by decide +kernel
theorem dX10_word_18 : decode cX10_word 18 = .ok (.iload_n 2, 1) := by decide +kernel
theorem dX10_word_19 : decode cX10_word 19 = .ok (.ifCond .lt 8, 3) := by decide +kernel
theorem dX10_word_22 : decode cX10_word 22 = .ok (.iload_n 2, 1) := by decide +kernel
theorem dX10_word_23 : decode cX10_word 23 = .ok (.iconst 4, 1) := by decide +kernel
theorem dX10_word_24 : decode cX10_word 24 = .ok (.if_icmp .lt 6, 3) := by decide +kernel
theorem dX10_word_27 : decode cX10_word 27 = .ok (.ldc 86, 2) := by decide +kernel
theorem dX10_word_29 : decode cX10_word 29 = .ok (.ireturn, 1) := by decide +kernel
theorem dX10_word_30 : decode cX10_word 30 = .ok (.iload_n 2, 1) := by decide +kernel
theorem dX10_word_31 : decode cX10_word 31 = .ok (.aload_n 0, 1) := by decide +kernel
theorem dX10_word_32 : decode cX10_word 32 = .ok (.getfield 23, 3) := by decide +kernel
theorem dX10_word_35 : decode cX10_word 35 = .ok (.getfield 209, 3) := by decide +kernel
theorem dX10_word_38 : decode cX10_word 38 = .ok (.iload_n 1, 1) := by decide +kernel
theorem dX10_word_39 : decode cX10_word 39 = .ok (.iaload, 1) := by decide +kernel
theorem dX10_word_40 : decode cX10_word 40 = .ok (.if_icmp .ge 15, 3) := by decide +kernel
theorem dX10_word_43 : decode cX10_word 43 = .ok (.aload_n 0, 1) := by decide +kernel
theorem dX10_word_44 : decode cX10_word 44 = .ok (.getfield 23, 3) := by decide +kernel
theorem dX10_word_47 : decode cX10_word 47 = .ok (.iload_n 1, 1) := by decide +kernel
theorem dX10_word_48 : decode cX10_word 48 = .ok (.iload_n 2, 1) := by decide +kernel
theorem dX10_word_49 : decode cX10_word 49 = .ok (.invokevirtual 212, 3) := by decide +kernel
theorem dX10_word_52 : decode cX10_word 52 = .ok (.goto 4, 3) := by decide +kernel
theorem dX10_word_55 : decode cX10_word 55 = .ok (.iconst (-1), 1) := by decide +kernel
theorem dX10_word_56 : decode cX10_word 56 = .ok (.ireturn, 1) := by decide +kernel
theorem dX10_turn_0 : decode cX10_turn 0 = .ok (.iload_n 1, 1) := by decide +kernel
theorem dX10_turn_1 : decode cX10_turn 1 = .ok (.iconst 2, 1) := by decide +kernel
theorem dX10_turn_2 : decode cX10_turn 2 = .ok (.if_icmp .lt 14, 3) := by decide +kernel
theorem dX10_turn_5 : decode cX10_turn 5 = .ok (.iload_n 1, 1) := by decide +kernel
theorem dX10_turn_6 : decode cX10_turn 6 = .ok (.aload_n 0, 1) := by decide +kernel
theorem dX10_turn_7 : decode cX10_turn 7 = .ok (.getfield 29, 3) := by decide +kernel
theorem dX10_turn_10 : decode cX10_turn 10 = .ok (.getfield 140, 3) := by decide +kernel
theorem dX10_turn_13 : decode cX10_turn 13 = .ok (.if_icmp .le 6, 3) := by decide +kernel
theorem dX10_turn_16 : decode cX10_turn 16 = .ok (.ldc 86, 2) := by decide +kernel
theorem dX10_turn_18 : decode cX10_turn 18 = .ok (.ireturn, 1) := by decide +kernel
theorem dX10_turn_19 : decode cX10_turn 19 = .ok (.aload_n 0, 1) := by decide +kernel
theorem dX10_turn_20 : decode cX10_turn 20 = .ok (.getfield 36, 3) := by decide +kernel
theorem dX10_turn_23 : decode cX10_turn 23 = .ok (.aload_n 0, 1) := by decide +kernel
theorem dX10_turn_24 : decode cX10_turn 24 = .ok (.getfield 29, 3) := by decide +kernel
theorem dX10_turn_27 : decode cX10_turn 27 = .ok (.invokevirtual 216, 3) := by decide +kernel
theorem dX10_turn_30 : decode cX10_turn 30 = .ok (.aload_n 0, 1) := by decide +kernel
theorem dX10_turn_31 : decode cX10_turn 31 = .ok (.getfield 29, 3) := by decide +kernel
theorem dX10_turn_34 : decode cX10_turn 34 = .ok (.iload_n 1, 1) := by decide +kernel
theorem dX10_turn_35 : decode cX10_turn 35 = .ok (.invokevirtual 220, 3) := by decide +kernel
theorem dX10_turn_38 : decode cX10_turn 38 = .ok (.aload_n 0, 1) := by decide +kernel
theorem dX10_turn_39 : decode cX10_turn 39 = .ok (.getfield 29, 3) := by decide +kernel
theorem dX10_turn_42 : decode cX10_turn 42 = .ok (.iconst 0, 1) := by decide +kernel
theorem dX10_turn_43 : decode cX10_turn 43 = .ok (.invokevirtual 194, 3) := by decide +kernel
theorem dX10_turn_46 : decode cX10_turn 46 = .ok (.ireturn, 1) := by decide +kernel
theorem dX10_cut_0 : decode cX10_cut 0 = .ok (.iload_n 1, 1) := by decide +kernel
theorem dX10_cut_1 : decode cX10_cut 1 = .ok (.iconst 1, 1) := by decide +kernel
theorem dX10_cut_2 : decode cX10_cut 2 = .ok (.if_icmp .lt 14, 3) := by decide +kernel
theorem dX10_cut_5 : decode cX10_cut 5 = .ok (.iload_n 1, 1) := by decide +kernel
theorem dX10_cut_6 : decode cX10_cut 6 = .ok (.aload_n 0, 1) := by decide +kernel
theorem dX10_cut_7 : decode cX10_cut 7 = .ok (.getfield 29, 3) := by decide +kernel
theorem dX10_cut_10 : decode cX10_cut 10 = .ok (.getfield 140, 3) := by decide +kernel
theorem dX10_cut_13 : decode cX10_cut 13 = .ok (.if_icmp .lt 6, 3) := by decide +kernel
theorem dX10_cut_16 : decode cX10_cut 16 = .ok (.ldc 86, 2) := by decide +kernel
theorem dX10_cut_18 : decode cX10_cut 18 = .ok (.ireturn, 1) := by decide +kernel
theorem dX10_cut_19 : decode cX10_cut 19 = .ok (.aload_n 0, 1) := by decide +kernel
theorem dX10_cut_20 : decode cX10_cut 20 = .ok (.getfield 36, 3) := by decide +kernel
theorem dX10_cut_23 : decode cX10_cut 23 = .ok (.aload_n 0, 1) := by decide +kernel
theorem dX10_cut_24 : decode cX10_cut 24 = .ok (.getfield 29, 3) := by decide +kernel
theorem dX10_cut_27 : decode cX10_cut 27 = .ok (.invokevirtual 216, 3) := by decide +kernel
theorem dX10_cut_30 : decode cX10_cut 30 = .ok (.aload_n 0, 1) := by decide +kernel
theorem dX10_cut_31 : decode cX10_cut 31 = .ok (.getfield 29, 3) := by decide +kernel
theorem dX10_cut_34 : decode cX10_cut 34 = .ok (.iload_n 1, 1) := by decide +kernel
theorem dX10_cut_35 : decode cX10_cut 35 = .ok (.invokevirtual 224, 3) := by decide +kernel
theorem dX10_cut_38 : decode cX10_cut 38 = .ok (.aload_n 0, 1) := by decide +kernel
theorem dX10_cut_39 : decode cX10_cut 39 = .ok (.getfield 29, 3) := by decide +kernel
theorem dX10_cut_42 : decode cX10_cut 42 = .ok (.iconst 0, 1) := by decide +kernel
theorem dX10_cut_43 : decode cX10_cut 43 = .ok (.invokevirtual 194, 3) := by decide +kernel
theorem dX10_cut_46 : decode cX10_cut 46 = .ok (.ireturn, 1) := by decide +kernel
theorem dX10_eat_0 : decode cX10_eat 0 = .ok (.aload_n 0, 1) := by decide +kernel
theorem dX10_eat_1 : decode cX10_eat 1 = .ok (.getfield 23, 3) := by decide +kernel
theorem dX10_eat_4 : decode cX10_eat 4 = .ok (.iload_n 1, 1) := by decide +kernel
theorem dX10_eat_5 : decode cX10_eat 5 = .ok (.invokevirtual 173, 3) := by decide +kernel
theorem dX10_eat_8 : decode cX10_eat 8 = .ok (.ifCond .ne 6, 3) := by decide +kernel
theorem dX10_eat_11 : decode cX10_eat 11 = .ok (.ldc 177, 2) := by decide +kernel
theorem dX10_eat_13 : decode cX10_eat 13 = .ok (.ireturn, 1) := by decide +kernel
theorem dX10_eat_14 : decode cX10_eat 14 = .ok (.aload_n 0, 1) := by decide +kernel
theorem dX10_eat_15 : decode cX10_eat 15 = .ok (.getfield 29, 3) := by decide +kernel
theorem dX10_eat_18 : decode cX10_eat 18 = .ok (.iload_n 1, 1) := by decide +kernel
theorem dX10_eat_19 : decode cX10_eat 19 = .ok (.invokevirtual 184, 3) := by decide +kernel
theorem dX10_eat_22 : decode cX10_eat 22 = .ok (.istore_n 2, 1) := by decide +kernel
theorem dX10_eat_23 : decode cX10_eat 23 = .ok (.iload_n 2, 1) := by decide +kernel
theorem dX10_eat_24 : decode cX10_eat 24 = .ok (.iconst (-1), 1) := by decide +kernel
theorem dX10_eat_25 : decode cX10_eat 25 = .ok (.if_icmp .ne 6, 3) := by decide +kernel
theorem dX10_eat_28 : decode cX10_eat 28 = .ok (.ldc 227, 2) := by decide +kernel
theorem dX10_eat_30 : decode cX10_eat 30 = .ok (.ireturn, 1) := by decide +kernel
theorem dX10_eat_31 : decode cX10_eat 31 = .ok (.aload_n 0, 1) := by decide +kernel
theorem dX10_eat_32 : decode cX10_eat 32 = .ok (.getfield 36, 3) := by decide +kernel
theorem dX10_eat_35 : decode cX10_eat 35 = .ok (.aload_n 0, 1) := by decide +kernel
theorem dX10_eat_36 : decode cX10_eat 36 = .ok (.getfield 29, 3) := by decide +kernel
theorem dX10_eat_39 : decode cX10_eat 39 = .ok (.invokevirtual 216, 3) := by decide +kernel
theorem dX10_eat_42 : decode cX10_eat 42 = .ok (.aload_n 0, 1) := by decide +kernel
theorem dX10_eat_43 : decode cX10_eat 43 = .ok (.getfield 29, 3) := by decide +kernel
theorem dX10_eat_46 : decode cX10_eat 46 = .ok (.iload_n 2, 1) := by decide +kernel
theorem dX10_eat_47 : decode cX10_eat 47 = .ok (.invokevirtual 228, 3) := by decide +kernel
theorem dX10_eat_50 : decode cX10_eat 50 = .ok (.iload_n 2, 1) := by decide +kernel
theorem dX10_eat_51 : decode cX10_eat 51 = .ok (.ireturn, 1) := by decide +kernel
theorem dX10_sew_0 : decode cX10_sew 0 = .ok (.aload_n 0, 1) := by decide +kernel
theorem dX10_sew_1 : decode cX10_sew 1 = .ok (.getfield 23, 3) := by decide +kernel
theorem dX10_sew_4 : decode cX10_sew 4 = .ok (.iload_n 1, 1) := by decide +kernel
theorem dX10_sew_5 : decode cX10_sew 5 = .ok (.invokevirtual 173, 3) := by decide +kernel
theorem dX10_sew_8 : decode cX10_sew 8 = .ok (.ifCond .ne 6, 3) := by decide +kernel
theorem dX10_sew_11 : decode cX10_sew 11 = .ok (.ldc 177, 2) := by decide +kernel
theorem dX10_sew_13 : decode cX10_sew 13 = .ok (.ireturn, 1) := by decide +kernel
theorem dX10_sew_14 : decode cX10_sew 14 = .ok (.iload_n 2, 1) := by decide +kernel
theorem dX10_sew_15 : decode cX10_sew 15 = .ok (.ifCond .lt 14, 3) := by decide +kernel
theorem dX10_sew_18 : decode cX10_sew 18 = .ok (.iload_n 2, 1) := by decide +kernel
theorem dX10_sew_19 : decode cX10_sew 19 = .ok (.aload_n 0, 1) := by decide +kernel
theorem dX10_sew_20 : decode cX10_sew 20 = .ok (.getfield 29, 3) := by decide +kernel
theorem dX10_sew_23 : decode cX10_sew 23 = .ok (.getfield 140, 3) := by decide +kernel
theorem dX10_sew_26 : decode cX10_sew 26 = .ok (.if_icmp .le 6, 3) := by decide +kernel
theorem dX10_sew_29 : decode cX10_sew 29 = .ok (.ldc 86, 2) := by decide +kernel
theorem dX10_sew_31 : decode cX10_sew 31 = .ok (.ireturn, 1) := by decide +kernel
theorem dX10_sew_32 : decode cX10_sew 32 = .ok (.aload_n 0, 1) := by decide +kernel
theorem dX10_sew_33 : decode cX10_sew 33 = .ok (.getfield 29, 3) := by decide +kernel
theorem dX10_sew_36 : decode cX10_sew 36 = .ok (.iload_n 1, 1) := by decide +kernel
theorem dX10_sew_37 : decode cX10_sew 37 = .ok (.invokevirtual 184, 3) := by decide +kernel
theorem dX10_sew_40 : decode cX10_sew 40 = .ok (.iconst (-1), 1) := by decide +kernel
theorem dX10_sew_41 : decode cX10_sew 41 = .ok (.if_icmp .eq 6, 3) := by decide +kernel
theorem dX10_sew_44 : decode cX10_sew 44 = .ok (.ldc 227, 2) := by decide +kernel
theorem dX10_sew_46 : decode cX10_sew 46 = .ok (.ireturn, 1) := by decide +kernel
theorem dX10_sew_47 : decode cX10_sew 47 = .ok (.aload_n 0, 1) := by decide +kernel
theorem dX10_sew_48 : decode cX10_sew 48 = .ok (.getfield 36, 3) := by decide +kernel
theorem dX10_sew_51 : decode cX10_sew 51 = .ok (.aload_n 0, 1) := by decide +kernel
theorem dX10_sew_52 : decode cX10_sew 52 = .ok (.getfield 29, 3) := by decide +kernel
theorem dX10_sew_55 : decode cX10_sew 55 = .ok (.invokevirtual 216, 3) := by decide +kernel
theorem dX10_sew_58 : decode cX10_sew 58 = .ok (.aload_n 0, 1) := by decide +kernel
theorem dX10_sew_59 : decode cX10_sew 59 = .ok (.getfield 29, 3) := by decide +kernel
theorem dX10_sew_62 : decode cX10_sew 62 = .ok (.iload_n 1, 1) := by decide +kernel
theorem dX10_sew_63 : decode cX10_sew 63 = .ok (.iload_n 2, 1) := by decide +kernel
theorem dX10_sew_64 : decode cX10_sew 64 = .ok (.invokevirtual 231, 3) := by decide +kernel
theorem dX10_sew_67 : decode cX10_sew 67 = .ok (.aload_n 0, 1) := by decide +kernel
theorem dX10_sew_68 : decode cX10_sew 68 = .ok (.getfield 29, 3) := by decide +kernel
theorem dX10_sew_71 : decode cX10_sew 71 = .ok (.getfield 140, 3) := by decide +kernel
theorem dX10_sew_74 : decode cX10_sew 74 = .ok (.ireturn, 1) := by decide +kernel
theorem dX10_rain_0 : decode cX10_rain 0 = .ok (.aload_n 0, 1) := by decide +kernel
theorem dX10_rain_1 : decode cX10_rain 1 = .ok (.getfield 23, 3) := by decide +kernel
theorem dX10_rain_4 : decode cX10_rain 4 = .ok (.getfield 125, 3) := by decide +kernel
theorem dX10_rain_7 : decode cX10_rain 7 = .ok (.ifCond .ne 6, 3) := by decide +kernel
theorem dX10_rain_10 : decode cX10_rain 10 = .ok (.ldc 227, 2) := by decide +kernel
theorem dX10_rain_12 : decode cX10_rain 12 = .ok (.ireturn, 1) := by decide +kernel
theorem dX10_rain_13 : decode cX10_rain 13 = .ok (.aload_n 0, 1) := by decide +kernel
theorem dX10_rain_14 : decode cX10_rain 14 = .ok (.getfield 29, 3) := by decide +kernel
theorem dX10_rain_17 : decode cX10_rain 17 = .ok (.getfield 149, 3) := by decide +kernel
theorem dX10_rain_20 : decode cX10_rain 20 = .ok (.invokestatic 235, 3) := by decide +kernel
theorem dX10_rain_23 : decode cX10_rain 23 = .ok (.istore_n 2, 1) := by decide +kernel
theorem dX10_rain_24 : decode cX10_rain 24 = .ok (.aload_n 0, 1) := by decide +kernel
theorem dX10_rain_25 : decode cX10_rain 25 = .ok (.getfield 36, 3) := by decide +kernel
theorem dX10_rain_28 : decode cX10_rain 28 = .ok (.aload_n 0, 1) := by decide +kernel
theorem dX10_rain_29 : decode cX10_rain 29 = .ok (.getfield 29, 3) := by decide +kernel
theorem dX10_rain_32 : decode cX10_rain 32 = .ok (.invokevirtual 216, 3) := by decide +kernel
theorem dX10_rain_35 : decode cX10_rain 35 = .ok (.aload_n 0, 1) := by decide +kernel
theorem dX10_rain_36 : decode cX10_rain 36 = .ok (.getfield 29, 3) := by decide +kernel
theorem dX10_rain_39 : decode cX10_rain 39 = .ok (.iload_n 1, 1) := by decide +kernel
theorem dX10_rain_40 : decode cX10_rain 40 = .ok (.ifCond .eq 13, 3) := by decide +kernel
theorem dX10_rain_43 : decode cX10_rain 43 = .ok (.aload_n 0, 1) := by decide +kernel
theorem dX10_rain_44 : decode cX10_rain 44 = .ok (.getfield 29, 3) := by decide +kernel
theorem dX10_rain_47 : decode cX10_rain 47 = .ok (.invokevirtual 141, 3) := by decide +kernel
theorem dX10_rain_50 : decode cX10_rain 50 = .ok (.goto 4, 3) := by decide +kernel
theorem dX10_rain_53 : decode cX10_rain 53 = .ok (.iconst 0, 1) := by decide +kernel
theorem dX10_rain_54 : decode cX10_rain 54 = .ok (.putfield 149, 3) := by decide +kernel
theorem dX10_rain_57 : decode cX10_rain 57 = .ok (.iload_n 2, 1) := by decide +kernel
theorem dX10_rain_58 : decode cX10_rain 58 = .ok (.ireturn, 1) := by decide +kernel
theorem dX10_wind_0 : decode cX10_wind 0 = .ok (.iload_n 1, 1) := by decide +kernel
theorem dX10_wind_1 : decode cX10_wind 1 = .ok (.ifCond .lt 9, 3) := by decide +kernel
theorem dX10_wind_4 : decode cX10_wind 4 = .ok (.iload_n 1, 1) := by decide +kernel
theorem dX10_wind_5 : decode cX10_wind 5 = .ok (.bipush 9, 2) := by decide +kernel
theorem dX10_wind_7 : decode cX10_wind 7 = .ok (.if_icmp .le 6, 3) := by decide +kernel
theorem dX10_wind_10 : decode cX10_wind 10 = .ok (.ldc 86, 2) := by decide +kernel
theorem dX10_wind_12 : decode cX10_wind 12 = .ok (.ireturn, 1) := by decide +kernel
theorem dX10_wind_13 : decode cX10_wind 13 = .ok (.aload_n 0, 1) := by decide +kernel
theorem dX10_wind_14 : decode cX10_wind 14 = .ok (.getfield 23, 3) := by decide +kernel
theorem dX10_wind_17 : decode cX10_wind 17 = .ok (.getfield 125, 3) := by decide +kernel
theorem dX10_wind_20 : decode cX10_wind 20 = .ok (.ifCond .ne 6, 3) := by decide +kernel
theorem dX10_wind_23 : decode cX10_wind 23 = .ok (.ldc 227, 2) := by decide +kernel
theorem dX10_wind_25 : decode cX10_wind 25 = .ok (.ireturn, 1) := by decide +kernel
theorem dX10_wind_26 : decode cX10_wind 26 = .ok (.aload_n 0, 1) := by decide +kernel
theorem dX10_wind_27 : decode cX10_wind 27 = .ok (.getfield 29, 3) := by decide +kernel
theorem dX10_wind_30 : decode cX10_wind 30 = .ok (.getfield 137, 3) := by decide +kernel
theorem dX10_wind_33 : decode cX10_wind 33 = .ok (.istore_n 2, 1) := by decide +kernel
theorem dX10_wind_34 : decode cX10_wind 34 = .ok (.aload_n 0, 1) := by decide +kernel
theorem dX10_wind_35 : decode cX10_wind 35 = .ok (.getfield 36, 3) := by decide +kernel
theorem dX10_wind_38 : decode cX10_wind 38 = .ok (.aload_n 0, 1) := by decide +kernel
theorem dX10_wind_39 : decode cX10_wind 39 = .ok (.getfield 29, 3) := by decide +kernel
theorem dX10_wind_42 : decode cX10_wind 42 = .ok (.invokevirtual 216, 3) := by decide +kernel
theorem dX10_wind_45 : decode cX10_wind 45 = .ok (.aload_n 0, 1) := by decide +kernel
theorem dX10_wind_46 : decode cX10_wind 46 = .ok (.getfield 29, 3) := by decide +kernel
theorem dX10_wind_49 : decode cX10_wind 49 = .ok (.iload_n 1, 1) := by decide +kernel
theorem dX10_wind_50 : decode cX10_wind 50 = .ok (.putfield 137, 3) := by decide +kernel
theorem dX10_wind_53 : decode cX10_wind 53 = .ok (.iload_n 2, 1) := by decide +kernel
theorem dX10_wind_54 : decode cX10_wind 54 = .ok (.ireturn, 1) := by decide +kernel
theorem dX10_year_0 : decode cX10_year 0 = .ok (.aload_n 0, 1) := by decide +kernel
theorem dX10_year_1 : decode cX10_year 1 = .ok (.iload_n 1, 1) := by decide +kernel
theorem dX10_year_2 : decode cX10_year 2 = .ok (.invokevirtual 240, 3) := by decide +kernel
theorem dX10_year_5 : decode cX10_year 5 = .ok (.istore_n 2, 1) := by decide +kernel
theorem dX10_year_6 : decode cX10_year 6 = .ok (.iload_n 2, 1) := by decide +kernel
theorem dX10_year_7 : decode cX10_year 7 = .ok (.ifCond .eq 5, 3) := by decide +kernel
theorem dX10_year_10 : decode cX10_year 10 = .ok (.iload_n 2, 1) := by decide +kernel
theorem dX10_year_11 : decode cX10_year 11 = .ok (.ireturn, 1) := by decide +kernel
theorem dX10_year_12 : decode cX10_year 12 = .ok (.iconst 0, 1) := by decide +kernel
theorem dX10_year_13 : decode cX10_year 13 = .ok (.istore_n 3, 1) := by decide +kernel
theorem dX10_year_14 : decode cX10_year 14 = .ok (.iload_n 3, 1) := by decide +kernel
theorem dX10_year_15 : decode cX10_year 15 = .ok (.iload_n 1, 1) := by decide +kernel
theorem dX10_year_16 : decode cX10_year 16 = .ok (.if_icmp .ge 31, 3) := by decide +kernel
theorem dX10_year_19 : decode cX10_year 19 = .ok (.aload_n 0, 1) := by decide +kernel
theorem dX10_year_20 : decode cX10_year 20 = .ok (.getfield 36, 3) := by decide +kernel
theorem dX10_year_23 : decode cX10_year 23 = .ok (.aload_n 0, 1) := by decide +kernel
theorem dX10_year_24 : decode cX10_year 24 = .ok (.getfield 29, 3) := by decide +kernel
theorem dX10_year_27 : decode cX10_year 27 = .ok (.invokevirtual 216, 3) := by decide +kernel
theorem dX10_year_30 : decode cX10_year 30 = .ok (.aload_n 0, 1) := by decide +kernel
theorem dX10_year_31 : decode cX10_year 31 = .ok (.getfield 29, 3) := by decide +kernel
theorem dX10_year_34 : decode cX10_year 34 = .ok (.aload_n 0, 1) := by decide +kernel
theorem dX10_year_35 : decode cX10_year 35 = .ok (.getfield 23, 3) := by decide +kernel
theorem dX10_year_38 : decode cX10_year 38 = .ok (.invokevirtual 243, 3) := by decide +kernel
theorem dX10_year_41 : decode cX10_year 41 = .ok (.iinc 3 1, 3) := by decide +kernel
theorem dX10_year_44 : decode cX10_year 44 = .ok (.goto (-30), 3) := by decide +kernel
theorem dX10_year_47 : decode cX10_year 47 = .ok (.aload_n 0, 1) := by decide +kernel
theorem dX10_year_48 : decode cX10_year 48 = .ok (.getfield 29, 3) := by decide +kernel
theorem dX10_year_51 : decode cX10_year 51 = .ok (.getfield 140, 3) := by decide +kernel
theorem dX10_year_54 : decode cX10_year 54 = .ok (.ireturn, 1) := by decide +kernel
theorem dX10_drift_0 : decode cX10_drift 0 = .ok (.aload_n 0, 1) := by decide +kernel
theorem dX10_drift_1 : decode cX10_drift 1 = .ok (.iload_n 1, 1) := by decide +kernel
theorem dX10_drift_2 : decode cX10_drift 2 = .ok (.invokevirtual 240, 3) := by decide +kernel
theorem dX10_drift_5 : decode cX10_drift 5 = .ok (.istore_n 2, 1) := by decide +kernel
theorem dX10_drift_6 : decode cX10_drift 6 = .ok (.iload_n 2, 1) := by decide +kernel
theorem dX10_drift_7 : decode cX10_drift 7 = .ok (.ifCond .eq 5, 3) := by decide +kernel
theorem dX10_drift_10 : decode cX10_drift 10 = .ok (.iload_n 2, 1) := by decide +kernel
theorem dX10_drift_11 : decode cX10_drift 11 = .ok (.ireturn, 1) := by decide +kernel
theorem dX10_drift_12 : decode cX10_drift 12 = .ok (.iconst 0, 1) := by decide +kernel
theorem dX10_drift_13 : decode cX10_drift 13 = .ok (.istore_n 3, 1) := by decide +kernel
theorem dX10_drift_14 : decode cX10_drift 14 = .ok (.iload_n 3, 1) := by decide +kernel
theorem dX10_drift_15 : decode cX10_drift 15 = .ok (.iload_n 1, 1) := by decide +kernel
theorem dX10_drift_16 : decode cX10_drift 16 = .ok (.if_icmp .ge 35, 3) := by decide +kernel
theorem dX10_drift_19 : decode cX10_drift 19 = .ok (.aload_n 0, 1) := by decide +kernel
theorem dX10_drift_20 : decode cX10_drift 20 = .ok (.getfield 36, 3) := by decide +kernel
theorem dX10_drift_23 : decode cX10_drift 23 = .ok (.aload_n 0, 1) := by decide +kernel
theorem dX10_drift_24 : decode cX10_drift 24 = .ok (.getfield 29, 3) := by decide +kernel
theorem dX10_drift_27 : decode cX10_drift 27 = .ok (.invokevirtual 216, 3) := by decide +kernel
theorem dX10_drift_30 : decode cX10_drift 30 = .ok (.aload_n 0, 1) := by decide +kernel
theorem dX10_drift_31 : decode cX10_drift 31 = .ok (.invokevirtual 246, 3) := by decide +kernel
theorem dX10_drift_34 : decode cX10_drift 34 = .ok (.aload_n 0, 1) := by decide +kernel
theorem dX10_drift_35 : decode cX10_drift 35 = .ok (.getfield 29, 3) := by decide +kernel
theorem dX10_drift_38 : decode cX10_drift 38 = .ok (.aload_n 0, 1) := by decide +kernel
theorem dX10_drift_39 : decode cX10_drift 39 = .ok (.getfield 23, 3) := by decide +kernel
theorem dX10_drift_42 : decode cX10_drift 42 = .ok (.invokevirtual 243, 3) := by decide +kernel
theorem dX10_drift_45 : decode cX10_drift 45 = .ok (.iinc 3 1, 3) := by decide +kernel
theorem dX10_drift_48 : decode cX10_drift 48 = .ok (.goto (-34), 3) := by decide +kernel
theorem dX10_drift_51 : decode cX10_drift 51 = .ok (.aload_n 0, 1) := by decide +kernel
theorem dX10_drift_52 : decode cX10_drift 52 = .ok (.getfield 29, 3) := by decide +kernel
theorem dX10_drift_55 : decode cX10_drift 55 = .ok (.getfield 140, 3) := by decide +kernel
theorem dX10_drift_58 : decode cX10_drift 58 = .ok (.ireturn, 1) := by decide +kernel
theorem dX10_undo_0 : decode cX10_undo 0 = .ok (.iload_n 1, 1) := by decide +kernel
theorem dX10_undo_1 : decode cX10_undo 1 = .ok (.iconst 1, 1) := by decide +kernel
theorem dX10_undo_2 : decode cX10_undo 2 = .ok (.if_icmp .lt 9, 3) := by decide +kernel
theorem dX10_undo_5 : decode cX10_undo 5 = .ok (.iload_n 1, 1) := by decide +kernel
theorem dX10_undo_6 : decode cX10_undo 6 = .ok (.bipush 30, 2) := by decide +kernel
theorem dX10_undo_8 : decode cX10_undo 8 = .ok (.if_icmp .le 6, 3) := by decide +kernel
theorem dX10_undo_11 : decode cX10_undo 11 = .ok (.ldc 86, 2) := by decide +kernel
theorem dX10_undo_13 : decode cX10_undo 13 = .ok (.ireturn, 1) := by decide +kernel
theorem dX10_undo_14 : decode cX10_undo 14 = .ok (.iload_n 1, 1) := by decide +kernel
theorem dX10_undo_15 : decode cX10_undo 15 = .ok (.aload_n 0, 1) := by decide +kernel
theorem dX10_undo_16 : decode cX10_undo 16 = .ok (.getfield 36, 3) := by decide +kernel
theorem dX10_undo_19 : decode cX10_undo 19 = .ok (.getfield 172, 3) := by decide +kernel
theorem dX10_undo_22 : decode cX10_undo 22 = .ok (.if_icmp .le 6, 3) := by decide +kernel
theorem dX10_undo_25 : decode cX10_undo 25 = .ok (.ldc 227, 2) := by decide +kernel
theorem dX10_undo_27 : decode cX10_undo 27 = .ok (.ireturn, 1) := by decide +kernel
theorem dX10_undo_28 : decode cX10_undo 28 = .ok (.aload_n 0, 1) := by decide +kernel
theorem dX10_undo_29 : decode cX10_undo 29 = .ok (.getfield 36, 3) := by decide +kernel
theorem dX10_undo_32 : decode cX10_undo 32 = .ok (.iload_n 1, 1) := by decide +kernel
theorem dX10_undo_33 : decode cX10_undo 33 = .ok (.aload_n 0, 1) := by decide +kernel
theorem dX10_undo_34 : decode cX10_undo 34 = .ok (.getfield 29, 3) := by decide +kernel
theorem dX10_undo_37 : decode cX10_undo 37 = .ok (.invokevirtual 249, 3) := by decide +kernel
theorem dX10_undo_40 : decode cX10_undo 40 = .ok (.aload_n 0, 1) := by decide +kernel
theorem dX10_undo_41 : decode cX10_undo 41 = .ok (.getfield 29, 3) := by decide +kernel
theorem dX10_undo_44 : decode cX10_undo 44 = .ok (.getfield 134, 3) := by decide +kernel
theorem dX10_undo_47 : decode cX10_undo 47 = .ok (.ireturn, 1) := by decide +kernel
theorem dX10_turnings_0 : decode cX10_turnings 0 = .ok (.iload_n 1, 1) := by decide +kernel
theorem dX10_turnings_1 : decode cX10_turnings 1 = .ok (.lookupswitch 51 #[(0, 27), (1, 39)], 27) := by decide +kernel
theorem dX10_turnings_28 : decode cX10_turnings 28 = .ok (.aload_n 0, 1) := by decide +kernel
theorem dX10_turnings_29 : decode cX10_turnings 29 = .ok (.getfield 50, 3) := by decide +kernel
theorem dX10_turnings_32 : decode cX10_turnings 32 = .ok (.aload_n 0, 1) := by decide +kernel
theorem dX10_turnings_33 : decode cX10_turnings 33 = .ok (.getfield 29, 3) := by decide +kernel
theorem dX10_turnings_36 : decode cX10_turnings 36 = .ok (.invokevirtual 253, 3) := by decide +kernel
theorem dX10_turnings_39 : decode cX10_turnings 39 = .ok (.ireturn, 1) := by decide +kernel
theorem dX10_turnings_40 : decode cX10_turnings 40 = .ok (.aload_n 0, 1) := by decide +kernel
theorem dX10_turnings_41 : decode cX10_turnings 41 = .ok (.getfield 50, 3) := by decide +kernel
theorem dX10_turnings_44 : decode cX10_turnings 44 = .ok (.aload_n 0, 1) := by decide +kernel
theorem dX10_turnings_45 : decode cX10_turnings 45 = .ok (.getfield 29, 3) := by decide +kernel
theorem dX10_turnings_48 : decode cX10_turnings 48 = .ok (.invokevirtual 257, 3) := by decide +kernel
theorem dX10_turnings_51 : decode cX10_turnings 51 = .ok (.ireturn, 1) := by decide +kernel
theorem dX10_turnings_52 : decode cX10_turnings 52 = .ok (.ldc 86, 2) := by decide +kernel
theorem dX10_turnings_54 : decode cX10_turnings 54 = .ok (.ireturn, 1) := by decide +kernel
theorem dX10_loose_0 : decode cX10_loose 0 = .ok (.iload_n 1, 1) := by decide +kernel
theorem dX10_loose_1 : decode cX10_loose 1 = .ok (.lookupswitch 46 #[(0, 27), (1, 38)], 27) := by decide +kernel
theorem dX10_loose_28 : decode cX10_loose 28 = .ok (.aload_n 0, 1) := by decide +kernel
theorem dX10_loose_29 : decode cX10_loose 29 = .ok (.getfield 29, 3) := by decide +kernel
theorem dX10_loose_32 : decode cX10_loose 32 = .ok (.invokevirtual 260, 3) := by decide +kernel
theorem dX10_loose_35 : decode cX10_loose 35 = .ok (.invokestatic 235, 3) := by decide +kernel
theorem dX10_loose_38 : decode cX10_loose 38 = .ok (.ireturn, 1) := by decide +kernel
theorem dX10_loose_39 : decode cX10_loose 39 = .ok (.aload_n 0, 1) := by decide +kernel
theorem dX10_loose_40 : decode cX10_loose 40 = .ok (.getfield 29, 3) := by decide +kernel
theorem dX10_loose_43 : decode cX10_loose 43 = .ok (.invokevirtual 260, 3) := by decide +kernel
theorem dX10_loose_46 : decode cX10_loose 46 = .ok (.ireturn, 1) := by decide +kernel
theorem dX10_loose_47 : decode cX10_loose 47 = .ok (.ldc 86, 2) := by decide +kernel
theorem dX10_loose_49 : decode cX10_loose 49 = .ok (.ireturn, 1) := by decide +kernel
theorem dX10_felt_0 : decode cX10_felt 0 = .ok (.iload_n 1, 1) := by decide +kernel
theorem dX10_felt_1 : decode cX10_felt 1 = .ok (.ifCond .lt 19, 3) := by decide +kernel
theorem dX10_felt_4 : decode cX10_felt 4 = .ok (.iload_n 1, 1) := by decide +kernel
theorem dX10_felt_5 : decode cX10_felt 5 = .ok (.bipush 99, 2) := by decide +kernel
theorem dX10_felt_7 : decode cX10_felt 7 = .ok (.if_icmp .gt 13, 3) := by decide +kernel
theorem dX10_felt_10 : decode cX10_felt 10 = .ok (.iload_n 2, 1) := by decide +kernel
theorem dX10_felt_11 : decode cX10_felt 11 = .ok (.ifCond .lt 9, 3) := by decide +kernel
theorem dX10_felt_14 : decode cX10_felt 14 = .ok (.iload_n 2, 1) := by decide +kernel
theorem dX10_felt_15 : decode cX10_felt 15 = .ok (.bipush 7, 2) := by decide +kernel
theorem dX10_felt_17 : decode cX10_felt 17 = .ok (.if_icmp .le 6, 3) := by decide +kernel
theorem dX10_felt_20 : decode cX10_felt 20 = .ok (.ldc 86, 2) := by decide +kernel
theorem dX10_felt_22 : decode cX10_felt 22 = .ok (.ireturn, 1) := by decide +kernel
theorem dX10_felt_23 : decode cX10_felt 23 = .ok (.aload_n 0, 1) := by decide +kernel
theorem dX10_felt_24 : decode cX10_felt 24 = .ok (.getfield 29, 3) := by decide +kernel
theorem dX10_felt_27 : decode cX10_felt 27 = .ok (.aload_n 0, 1) := by decide +kernel
theorem dX10_felt_28 : decode cX10_felt 28 = .ok (.getfield 23, 3) := by decide +kernel
theorem dX10_felt_31 : decode cX10_felt 31 = .ok (.iload_n 1, 1) := by decide +kernel
theorem dX10_felt_32 : decode cX10_felt 32 = .ok (.iload_n 2, 1) := by decide +kernel
theorem dX10_felt_33 : decode cX10_felt 33 = .ok (.invokevirtual 263, 3) := by decide +kernel
theorem dX10_felt_36 : decode cX10_felt 36 = .ok (.ireturn, 1) := by decide +kernel
theorem dX10_farthest_0 : decode cX10_farthest 0 = .ok (.iload_n 1, 1) := by decide +kernel
theorem dX10_farthest_1 : decode cX10_farthest 1 = .ok (.ifCond .lt 9, 3) := by decide +kernel
theorem dX10_farthest_4 : decode cX10_farthest 4 = .ok (.iload_n 1, 1) := by decide +kernel
theorem dX10_farthest_5 : decode cX10_farthest 5 = .ok (.bipush 99, 2) := by decide +kernel
theorem dX10_farthest_7 : decode cX10_farthest 7 = .ok (.if_icmp .le 6, 3) := by decide +kernel
theorem dX10_farthest_10 : decode cX10_farthest 10 = .ok (.ldc 86, 2) := by decide +kernel
theorem dX10_farthest_12 : decode cX10_farthest 12 = .ok (.ireturn, 1) := by decide +kernel
theorem dX10_farthest_13 : decode cX10_farthest 13 = .ok (.iconst (-1), 1) := by decide +kernel
theorem dX10_farthest_14 : decode cX10_farthest 14 = .ok (.istore_n 2, 1) := by decide +kernel
theorem dX10_farthest_15 : decode cX10_farthest 15 = .ok (.iconst 0, 1) := by decide +kernel
theorem dX10_farthest_16 : decode cX10_farthest 16 = .ok (.istore_n 3, 1) := by decide +kernel
theorem dX10_farthest_17 : decode cX10_farthest 17 = .ok (.iload_n 3, 1) := by decide +kernel
theorem dX10_farthest_18 : decode cX10_farthest 18 = .ok (.aload_n 0, 1) := by decide +kernel
theorem dX10_farthest_19 : decode cX10_farthest 19 = .ok (.getfield 29, 3) := by decide +kernel
theorem dX10_farthest_22 : decode cX10_farthest 22 = .ok (.getfield 140, 3) := by decide +kernel
theorem dX10_farthest_25 : decode cX10_farthest 25 = .ok (.if_icmp .ge 28, 3) := by decide +kernel
theorem dX10_farthest_28 : decode cX10_farthest 28 = .ok (.aload_n 0, 1) := by decide +kernel
theorem dX10_farthest_29 : decode cX10_farthest 29 = .ok (.getfield 29, 3) := by decide +kernel
theorem dX10_farthest_32 : decode cX10_farthest 32 = .ok (.aload_n 0, 1) := by decide +kernel
theorem dX10_farthest_33 : decode cX10_farthest 33 = .ok (.getfield 23, 3) := by decide +kernel
theorem dX10_farthest_36 : decode cX10_farthest 36 = .ok (.iload_n 1, 1) := by decide +kernel
theorem dX10_farthest_37 : decode cX10_farthest 37 = .ok (.iload_n 3, 1) := by decide +kernel
theorem dX10_farthest_38 : decode cX10_farthest 38 = .ok (.invokevirtual 263, 3) := by decide +kernel
theorem dX10_farthest_41 : decode cX10_farthest 41 = .ok (.iconst 1, 1) := by decide +kernel
theorem dX10_farthest_42 : decode cX10_farthest 42 = .ok (.if_icmp .lt 5, 3) := by decide +kernel
theorem dX10_farthest_45 : decode cX10_farthest 45 = .ok (.iload_n 3, 1) := by decide +kernel
theorem dX10_farthest_46 : decode cX10_farthest 46 = .ok (.istore_n 2, 1) := by decide +kernel
theorem dX10_farthest_47 : decode cX10_farthest 47 = .ok (.iinc 3 1, 3) := by decide +kernel
theorem dX10_farthest_50 : decode cX10_farthest 50 = .ok (.goto (-33), 3) := by decide +kernel
theorem dX10_farthest_53 : decode cX10_farthest 53 = .ok (.iload_n 2, 1) := by decide +kernel
theorem dX10_farthest_54 : decode cX10_farthest 54 = .ok (.ireturn, 1) := by decide +kernel
theorem dX10_hooked_0 : decode cX10_hooked 0 = .ok (.iload_n 1, 1) := by decide +kernel
theorem dX10_hooked_1 : decode cX10_hooked 1 = .ok (.aload_n 0, 1) := by decide +kernel
theorem dX10_hooked_2 : decode cX10_hooked 2 = .ok (.getfield 23, 3) := by decide +kernel
theorem dX10_hooked_5 : decode cX10_hooked 5 = .ok (.invokevirtual 267, 3) := by decide +kernel
theorem dX10_hooked_8 : decode cX10_hooked 8 = .ok (.iconst (-1), 1) := by decide +kernel
theorem dX10_hooked_9 : decode cX10_hooked 9 = .ok (.ixor, 1) := by decide +kernel
theorem dX10_hooked_10 : decode cX10_hooked 10 = .ok (.iand, 1) := by decide +kernel
theorem dX10_hooked_11 : decode cX10_hooked 11 = .ok (.ifCond .eq 6, 3) := by decide +kernel
theorem dX10_hooked_14 : decode cX10_hooked 14 = .ok (.ldc 177, 2) := by decide +kernel
theorem dX10_hooked_16 : decode cX10_hooked 16 = .ok (.ireturn, 1) := by decide +kernel
theorem dX10_hooked_17 : decode cX10_hooked 17 = .ok (.iload_n 1, 1) := by decide +kernel
theorem dX10_hooked_18 : decode cX10_hooked 18 = .ok (.aload_n 0, 1) := by decide +kernel
theorem dX10_hooked_19 : decode cX10_hooked 19 = .ok (.getfield 29, 3) := by decide +kernel
theorem dX10_hooked_22 : decode cX10_hooked 22 = .ok (.invokevirtual 141, 3) := by decide +kernel
theorem dX10_hooked_25 : decode cX10_hooked 25 = .ok (.iconst (-1), 1) := by decide +kernel
theorem dX10_hooked_26 : decode cX10_hooked 26 = .ok (.ixor, 1) := by decide +kernel
theorem dX10_hooked_27 : decode cX10_hooked 27 = .ok (.iand, 1) := by decide +kernel
theorem dX10_hooked_28 : decode cX10_hooked 28 = .ok (.ifCond .eq 5, 3) := by decide +kernel
theorem dX10_hooked_31 : decode cX10_hooked 31 = .ok (.iconst (-1), 1) := by decide +kernel
theorem dX10_hooked_32 : decode cX10_hooked 32 = .ok (.ireturn, 1) := by decide +kernel
theorem dX10_hooked_33 : decode cX10_hooked 33 = .ok (.aload_n 0, 1) := by decide +kernel
theorem dX10_hooked_34 : decode cX10_hooked 34 = .ok (.getfield 23, 3) := by decide +kernel
theorem dX10_hooked_37 : decode cX10_hooked 37 = .ok (.aload_n 0, 1) := by decide +kernel
theorem dX10_hooked_38 : decode cX10_hooked 38 = .ok (.getfield 29, 3) := by decide +kernel
theorem dX10_hooked_41 : decode cX10_hooked 41 = .ok (.iload_n 1, 1) := by decide +kernel
theorem dX10_hooked_42 : decode cX10_hooked 42 = .ok (.invokevirtual 270, 3) := by decide +kernel
theorem dX10_hooked_45 : decode cX10_hooked 45 = .ok (.invokevirtual 273, 3) := by decide +kernel
theorem dX10_hooked_48 : decode cX10_hooked 48 = .ok (.ireturn, 1) := by decide +kernel
theorem dX10_gap_0 : decode cX10_gap 0 = .ok (.iload_n 1, 1) := by decide +kernel
theorem dX10_gap_1 : decode cX10_gap 1 = .ok (.ifCond .lt 14, 3) := by decide +kernel
theorem dX10_gap_4 : decode cX10_gap 4 = .ok (.iload_n 1, 1) := by decide +kernel
theorem dX10_gap_5 : decode cX10_gap 5 = .ok (.aload_n 0, 1) := by decide +kernel
theorem dX10_gap_6 : decode cX10_gap 6 = .ok (.getfield 29, 3) := by decide +kernel
theorem dX10_gap_9 : decode cX10_gap 9 = .ok (.getfield 140, 3) := by decide +kernel
theorem dX10_gap_12 : decode cX10_gap 12 = .ok (.if_icmp .le 6, 3) := by decide +kernel
theorem dX10_gap_15 : decode cX10_gap 15 = .ok (.ldc 86, 2) := by decide +kernel
theorem dX10_gap_17 : decode cX10_gap 17 = .ok (.ireturn, 1) := by decide +kernel
theorem dX10_gap_18 : decode cX10_gap 18 = .ok (.iload_n 1, 1) := by decide +kernel
theorem dX10_gap_19 : decode cX10_gap 19 = .ok (.ifCond .le 16, 3) := by decide +kernel
theorem dX10_gap_22 : decode cX10_gap 22 = .ok (.aload_n 0, 1) := by decide +kernel
theorem dX10_gap_23 : decode cX10_gap 23 = .ok (.getfield 29, 3) := by decide +kernel
theorem dX10_gap_26 : decode cX10_gap 26 = .ok (.iload_n 1, 1) := by decide +kernel
theorem dX10_gap_27 : decode cX10_gap 27 = .ok (.iconst 1, 1) := by decide +kernel
theorem dX10_gap_28 : decode cX10_gap 28 = .ok (.isub, 1) := by decide +kernel
theorem dX10_gap_29 : decode cX10_gap 29 = .ok (.invokevirtual 194, 3) := by decide +kernel
theorem dX10_gap_32 : decode cX10_gap 32 = .ok (.goto 4, 3) := by decide +kernel
theorem dX10_gap_35 : decode cX10_gap 35 = .ok (.iconst (-1), 1) := by decide +kernel
theorem dX10_gap_36 : decode cX10_gap 36 = .ok (.istore_n 2, 1) := by decide +kernel
theorem dX10_gap_37 : decode cX10_gap 37 = .ok (.iload_n 1, 1) := by decide +kernel
theorem dX10_gap_38 : decode cX10_gap 38 = .ok (.aload_n 0, 1) := by decide +kernel
theorem dX10_gap_39 : decode cX10_gap 39 = .ok (.getfield 29, 3) := by decide +kernel
theorem dX10_gap_42 : decode cX10_gap 42 = .ok (.getfield 140, 3) := by decide +kernel
theorem dX10_gap_45 : decode cX10_gap 45 = .ok (.if_icmp .ge 14, 3) := by decide +kernel
theorem dX10_gap_48 : decode cX10_gap 48 = .ok (.aload_n 0, 1) := by decide +kernel
theorem dX10_gap_49 : decode cX10_gap 49 = .ok (.getfield 29, 3) := by decide +kernel
theorem dX10_gap_52 : decode cX10_gap 52 = .ok (.iload_n 1, 1) := by decide +kernel
theorem dX10_gap_53 : decode cX10_gap 53 = .ok (.invokevirtual 194, 3) := by decide +kernel
theorem dX10_gap_56 : decode cX10_gap 56 = .ok (.goto 10, 3) := by decide +kernel
theorem dX10_gap_59 : decode cX10_gap 59 = .ok (.aload_n 0, 1) := by decide +kernel
theorem dX10_gap_60 : decode cX10_gap 60 = .ok (.getfield 23, 3) := by decide +kernel
theorem dX10_gap_63 : decode cX10_gap 63 = .ok (.getfield 119, 3) := by decide +kernel
theorem dX10_gap_66 : decode cX10_gap 66 = .ok (.istore_n 3, 1) := by decide +kernel
theorem dX10_gap_67 : decode cX10_gap 67 = .ok (.iconst 0, 1) := by decide +kernel
theorem dX10_gap_68 : decode cX10_gap 68 = .ok (.istore 4, 2) := by decide +kernel
theorem dX10_gap_70 : decode cX10_gap 70 = .ok (.iload_n 2, 1) := by decide +kernel
theorem dX10_gap_71 : decode cX10_gap 71 = .ok (.iconst 1, 1) := by decide +kernel
theorem dX10_gap_72 : decode cX10_gap 72 = .ok (.iadd, 1) := by decide +kernel
theorem dX10_gap_73 : decode cX10_gap 73 = .ok (.istore 5, 2) := by decide +kernel
theorem dX10_gap_75 : decode cX10_gap 75 = .ok (.iload 5, 2) := by decide +kernel
theorem dX10_gap_77 : decode cX10_gap 77 = .ok (.iload_n 3, 1) := by decide +kernel
theorem dX10_gap_78 : decode cX10_gap 78 = .ok (.if_icmp .ge 18, 3) := by decide +kernel
theorem dX10_gap_81 : decode cX10_gap 81 = .ok (.iload 4, 2) := by decide +kernel
theorem dX10_gap_83 : decode cX10_gap 83 = .ok (.iconst 1, 1) := by decide +kernel
theorem dX10_gap_84 : decode cX10_gap 84 = .ok (.iload 5, 2) := by decide +kernel
theorem dX10_gap_86 : decode cX10_gap 86 = .ok (.ishl, 1) := by decide +kernel
theorem dX10_gap_87 : decode cX10_gap 87 = .ok (.ior, 1) := by decide +kernel
theorem dX10_gap_88 : decode cX10_gap 88 = .ok (.istore 4, 2) := by decide +kernel
theorem dX10_gap_90 : decode cX10_gap 90 = .ok (.iinc 5 1, 3) := by decide +kernel
theorem dX10_gap_93 : decode cX10_gap 93 = .ok (.goto (-18), 3) := by decide +kernel
theorem dX10_gap_96 : decode cX10_gap 96 = .ok (.iload 4, 2) := by decide +kernel
theorem dX10_gap_98 : decode cX10_gap 98 = .ok (.aload_n 0, 1) := by decide +kernel
theorem dX10_gap_99 : decode cX10_gap 99 = .ok (.invokevirtual 276, 3) := by decide +kernel
theorem dX10_gap_102 : decode cX10_gap 102 = .ok (.iand, 1) := by decide +kernel
theorem dX10_gap_103 : decode cX10_gap 103 = .ok (.ireturn, 1) := by decide +kernel
theorem dX10_ends_0 : decode cX10_ends 0 = .ok (.iload_n 1, 1) := by decide +kernel
theorem dX10_ends_1 : decode cX10_ends 1 = .ok (.lookupswitch 63 #[(0, 27), (1, 47)], 27) := by decide +kernel
theorem dX10_ends_28 : decode cX10_ends 28 = .ok (.sipush 1000, 3) := by decide +kernel
theorem dX10_ends_31 : decode cX10_ends 31 = .ok (.aload_n 0, 1) := by decide +kernel
theorem dX10_ends_32 : decode cX10_ends 32 = .ok (.getfield 64, 3) := by decide +kernel
theorem dX10_ends_35 : decode cX10_ends 35 = .ok (.aload_n 0, 1) := by decide +kernel
theorem dX10_ends_36 : decode cX10_ends 36 = .ok (.getfield 23, 3) := by decide +kernel
theorem dX10_ends_39 : decode cX10_ends 39 = .ok (.aload_n 0, 1) := by decide +kernel
theorem dX10_ends_40 : decode cX10_ends 40 = .ok (.getfield 29, 3) := by decide +kernel
theorem dX10_ends_43 : decode cX10_ends 43 = .ok (.invokevirtual 279, 3) := by decide +kernel
theorem dX10_ends_46 : decode cX10_ends 46 = .ok (.iadd, 1) := by decide +kernel
theorem dX10_ends_47 : decode cX10_ends 47 = .ok (.ireturn, 1) := by decide +kernel
theorem dX10_ends_48 : decode cX10_ends 48 = .ok (.aload_n 0, 1) := by decide +kernel
theorem dX10_ends_49 : decode cX10_ends 49 = .ok (.getfield 64, 3) := by decide +kernel
theorem dX10_ends_52 : decode cX10_ends 52 = .ok (.aload_n 0, 1) := by decide +kernel
theorem dX10_ends_53 : decode cX10_ends 53 = .ok (.getfield 23, 3) := by decide +kernel
theorem dX10_ends_56 : decode cX10_ends 56 = .ok (.aload_n 0, 1) := by decide +kernel
theorem dX10_ends_57 : decode cX10_ends 57 = .ok (.getfield 29, 3) := by decide +kernel
theorem dX10_ends_60 : decode cX10_ends 60 = .ok (.invokevirtual 282, 3) := by decide +kernel
theorem dX10_ends_63 : decode cX10_ends 63 = .ok (.ireturn, 1) := by decide +kernel
theorem dX10_ends_64 : decode cX10_ends 64 = .ok (.ldc 86, 2) := by decide +kernel
theorem dX10_ends_66 : decode cX10_ends 66 = .ok (.ireturn, 1) := by decide +kernel
theorem dX10_calm_0 : decode cX10_calm 0 = .ok (.iload_n 1, 1) := by decide +kernel
theorem dX10_calm_1 : decode cX10_calm 1 = .ok (.ifCond .lt 19, 3) := by decide +kernel
theorem dX10_calm_4 : decode cX10_calm 4 = .ok (.iload_n 1, 1) := by decide +kernel
theorem dX10_calm_5 : decode cX10_calm 5 = .ok (.bipush 60, 2) := by decide +kernel
theorem dX10_calm_7 : decode cX10_calm 7 = .ok (.if_icmp .gt 13, 3) := by decide +kernel
theorem dX10_calm_10 : decode cX10_calm 10 = .ok (.iload_n 2, 1) := by decide +kernel
theorem dX10_calm_11 : decode cX10_calm 11 = .ok (.ifCond .lt 9, 3) := by decide +kernel
theorem dX10_calm_14 : decode cX10_calm 14 = .ok (.iload_n 2, 1) := by decide +kernel
theorem dX10_calm_15 : decode cX10_calm 15 = .ok (.bipush 100, 2) := by decide +kernel
theorem dX10_calm_17 : decode cX10_calm 17 = .ok (.if_icmp .le 6, 3) := by decide +kernel
theorem dX10_calm_20 : decode cX10_calm 20 = .ok (.ldc 86, 2) := by decide +kernel
theorem dX10_calm_22 : decode cX10_calm 22 = .ok (.ireturn, 1) := by decide +kernel
theorem dX10_calm_23 : decode cX10_calm 23 = .ok (.ldc2_w 285, 3) := by decide +kernel
theorem dX10_calm_26 : decode cX10_calm 26 = .ok (.lstore_n 3, 1) := by decide +kernel
theorem dX10_calm_27 : decode cX10_calm 27 = .ok (.iconst 0, 1) := by decide +kernel
theorem dX10_calm_28 : decode cX10_calm 28 = .ok (.istore 5, 2) := by decide +kernel
theorem dX10_calm_30 : decode cX10_calm 30 = .ok (.iload 5, 2) := by decide +kernel
theorem dX10_calm_32 : decode cX10_calm 32 = .ok (.iload_n 1, 1) := by decide +kernel
theorem dX10_calm_33 : decode cX10_calm 33 = .ok (.if_icmp .ge 18, 3) := by decide +kernel
theorem dX10_calm_36 : decode cX10_calm 36 = .ok (.lload_n 3, 1) := by decide +kernel
theorem dX10_calm_37 : decode cX10_calm 37 = .ok (.iload_n 2, 1) := by decide +kernel
theorem dX10_calm_38 : decode cX10_calm 38 = .ok (.i2l, 1) := by decide +kernel
theorem dX10_calm_39 : decode cX10_calm 39 = .ok (.lmul, 1) := by decide +kernel
theorem dX10_calm_40 : decode cX10_calm 40 = .ok (.ldc2_w 287, 3) := by decide +kernel
theorem dX10_calm_43 : decode cX10_calm 43 = .ok (.ldiv, 1) := by decide +kernel
theorem dX10_calm_44 : decode cX10_calm 44 = .ok (.lstore_n 3, 1) := by decide +kernel
theorem dX10_calm_45 : decode cX10_calm 45 = .ok (.iinc 5 1, 3) := by decide +kernel
theorem dX10_calm_48 : decode cX10_calm 48 = .ok (.goto (-18), 3) := by decide +kernel
theorem dX10_calm_51 : decode cX10_calm 51 = .ok (.lload_n 3, 1) := by decide +kernel
theorem dX10_calm_52 : decode cX10_calm 52 = .ok (.l2i, 1) := by decide +kernel
theorem dX10_calm_53 : decode cX10_calm 53 = .ok (.ireturn, 1) := by decide +kernel
theorem dX10_old_0 : decode cX10_old 0 = .ok (.iload_n 1, 1) := by decide +kernel
theorem dX10_old_1 : decode cX10_old 1 = .ok (.ifCond .ne 16, 3) := by decide +kernel
theorem dX10_old_4 : decode cX10_old 4 = .ok (.iload_n 2, 1) := by decide +kernel
theorem dX10_old_5 : decode cX10_old 5 = .ok (.ifCond .lt 12, 3) := by decide +kernel
theorem dX10_old_8 : decode cX10_old 8 = .ok (.iload_n 2, 1) := by decide +kernel
theorem dX10_old_9 : decode cX10_old 9 = .ok (.iconst 5, 1) := by decide +kernel
theorem dX10_old_10 : decode cX10_old 10 = .ok (.if_icmp .gt 7, 3) := by decide +kernel
theorem dX10_old_13 : decode cX10_old 13 = .ok (.iconst 1, 1) := by decide +kernel
theorem dX10_old_14 : decode cX10_old 14 = .ok (.goto 4, 3) := by decide +kernel
theorem dX10_old_17 : decode cX10_old 17 = .ok (.iconst 0, 1) := by decide +kernel
theorem dX10_old_18 : decode cX10_old 18 = .ok (.istore 4, 2) := by decide +kernel
theorem dX10_old_20 : decode cX10_old 20 = .ok (.iload_n 1, 1) := by decide +kernel
theorem dX10_old_21 : decode cX10_old 21 = .ok (.iconst 1, 1) := by decide +kernel
theorem dX10_old_22 : decode cX10_old 22 = .ok (.if_icmp .ne 18, 3) := by decide +kernel
theorem dX10_old_25 : decode cX10_old 25 = .ok (.iload_n 2, 1) := by decide +kernel
theorem dX10_old_26 : decode cX10_old 26 = .ok (.iconst 1, 1) := by decide +kernel
theorem dX10_old_27 : decode cX10_old 27 = .ok (.if_icmp .lt 13, 3) := by decide +kernel
theorem dX10_old_30 : decode cX10_old 30 = .ok (.iload_n 2, 1) := by decide +kernel
theorem dX10_old_31 : decode cX10_old 31 = .ok (.bipush 9, 2) := by decide +kernel
theorem dX10_old_33 : decode cX10_old 33 = .ok (.if_icmp .gt 7, 3) := by decide +kernel
theorem dX10_old_36 : decode cX10_old 36 = .ok (.iconst 1, 1) := by decide +kernel
theorem dX10_old_37 : decode cX10_old 37 = .ok (.goto 4, 3) := by decide +kernel
theorem dX10_old_40 : decode cX10_old 40 = .ok (.iconst 0, 1) := by decide +kernel
theorem dX10_old_41 : decode cX10_old 41 = .ok (.istore 5, 2) := by decide +kernel
theorem dX10_old_43 : decode cX10_old 43 = .ok (.iload 4, 2) := by decide +kernel
theorem dX10_old_45 : decode cX10_old 45 = .ok (.ifCond .ne 11, 3) := by decide +kernel
theorem dX10_old_48 : decode cX10_old 48 = .ok (.iload 5, 2) := by decide +kernel
theorem dX10_old_50 : decode cX10_old 50 = .ok (.ifCond .ne 6, 3) := by decide +kernel
theorem dX10_old_53 : decode cX10_old 53 = .ok (.ldc 86, 2) := by decide +kernel
theorem dX10_old_55 : decode cX10_old 55 = .ok (.ireturn, 1) := by decide +kernel
theorem dX10_old_56 : decode cX10_old 56 = .ok (.aload_n 0, 1) := by decide +kernel
theorem dX10_old_57 : decode cX10_old 57 = .ok (.getfield 71, 3) := by decide +kernel
theorem dX10_old_60 : decode cX10_old 60 = .ok (.getfield 111, 3) := by decide +kernel
theorem dX10_old_63 : decode cX10_old 63 = .ok (.bipush 6, 2) := by decide +kernel
theorem dX10_old_65 : decode cX10_old 65 = .ok (.if_icmp .lt 6, 3) := by decide +kernel
theorem dX10_old_68 : decode cX10_old 68 = .ok (.ldc 90, 2) := by decide +kernel
theorem dX10_old_70 : decode cX10_old 70 = .ok (.ireturn, 1) := by decide +kernel
theorem dX10_old_71 : decode cX10_old 71 = .ok (.aload_n 0, 1) := by decide +kernel
theorem dX10_old_72 : decode cX10_old 72 = .ok (.getfield 71, 3) := by decide +kernel
theorem dX10_old_75 : decode cX10_old 75 = .ok (.iload 5, 2) := by decide +kernel
theorem dX10_old_77 : decode cX10_old 77 = .ok (.ifCond .eq 10, 3) := by decide +kernel
theorem dX10_old_80 : decode cX10_old 80 = .ok (.bipush 10, 2) := by decide +kernel
theorem dX10_old_82 : decode cX10_old 82 = .ok (.iload_n 2, 1) := by decide +kernel
theorem dX10_old_83 : decode cX10_old 83 = .ok (.iadd, 1) := by decide +kernel
theorem dX10_old_84 : decode cX10_old 84 = .ok (.goto 4, 3) := by decide +kernel
theorem dX10_old_87 : decode cX10_old 87 = .ok (.iload_n 2, 1) := by decide +kernel
theorem dX10_old_88 : decode cX10_old 88 = .ok (.iload_n 3, 1) := by decide +kernel
theorem dX10_old_89 : decode cX10_old 89 = .ok (.invokevirtual 289, 3) := by decide +kernel
theorem dX10_old_92 : decode cX10_old 92 = .ok (.aload_n 0, 1) := by decide +kernel
theorem dX10_old_93 : decode cX10_old 93 = .ok (.getfield 71, 3) := by decide +kernel
theorem dX10_old_96 : decode cX10_old 96 = .ok (.getfield 111, 3) := by decide +kernel
theorem dX10_old_99 : decode cX10_old 99 = .ok (.ireturn, 1) := by decide +kernel
theorem dX10_couldBe_0 : decode cX10_couldBe 0 = .ok (.aload_n 0, 1) := by decide +kernel
theorem dX10_couldBe_1 : decode cX10_couldBe 1 = .ok (.getfield 71, 3) := by decide +kernel
theorem dX10_couldBe_4 : decode cX10_couldBe 4 = .ok (.aload_n 0, 1) := by decide +kernel
theorem dX10_couldBe_5 : decode cX10_couldBe 5 = .ok (.getfield 23, 3) := by decide +kernel
theorem dX10_couldBe_8 : decode cX10_couldBe 8 = .ok (.aload_n 0, 1) := by decide +kernel
theorem dX10_couldBe_9 : decode cX10_couldBe 9 = .ok (.invokevirtual 276, 3) := by decide +kernel
theorem dX10_couldBe_12 : decode cX10_couldBe 12 = .ok (.invokevirtual 293, 3) := by decide +kernel
theorem dX10_couldBe_15 : decode cX10_couldBe 15 = .ok (.ireturn, 1) := by decide +kernel
theorem dX10_next_0 : decode cX10_next 0 = .ok (.aload_n 0, 1) := by decide +kernel
theorem dX10_next_1 : decode cX10_next 1 = .ok (.getfield 71, 3) := by decide +kernel
theorem dX10_next_4 : decode cX10_next 4 = .ok (.aload_n 0, 1) := by decide +kernel
theorem dX10_next_5 : decode cX10_next 5 = .ok (.getfield 23, 3) := by decide +kernel
theorem dX10_next_8 : decode cX10_next 8 = .ok (.aload_n 0, 1) := by decide +kernel
theorem dX10_next_9 : decode cX10_next 9 = .ok (.getfield 71, 3) := by decide +kernel
theorem dX10_next_12 : decode cX10_next 12 = .ok (.aload_n 0, 1) := by decide +kernel
theorem dX10_next_13 : decode cX10_next 13 = .ok (.getfield 23, 3) := by decide +kernel
theorem dX10_next_16 : decode cX10_next 16 = .ok (.aload_n 0, 1) := by decide +kernel
theorem dX10_next_17 : decode cX10_next 17 = .ok (.invokevirtual 276, 3) := by decide +kernel
theorem dX10_next_20 : decode cX10_next 20 = .ok (.invokevirtual 293, 3) := by decide +kernel
theorem dX10_next_23 : decode cX10_next 23 = .ok (.invokevirtual 297, 3) := by decide +kernel
theorem dX10_next_26 : decode cX10_next 26 = .ok (.ireturn, 1) := by decide +kernel
theorem dX10_write_0 : decode cX10_write 0 = .ok (.iload_n 2, 1) := by decide +kernel
theorem dX10_write_1 : decode cX10_write 1 = .ok (.iconst (-1), 1) := by decide +kernel
theorem dX10_write_2 : decode cX10_write 2 = .ok (.if_icmp .eq 17, 3) := by decide +kernel
theorem dX10_write_5 : decode cX10_write 5 = .ok (.aload_n 0, 1) := by decide +kernel
theorem dX10_write_6 : decode cX10_write 6 = .ok (.getfield 23, 3) := by decide +kernel
theorem dX10_write_9 : decode cX10_write 9 = .ok (.iload_n 2, 1) := by decide +kernel
theorem dX10_write_10 : decode cX10_write 10 = .ok (.invokevirtual 173, 3) := by decide +kernel
theorem dX10_write_13 : decode cX10_write 13 = .ok (.ifCond .ne 6, 3) := by decide +kernel
theorem dX10_write_16 : decode cX10_write 16 = .ok (.ldc 177, 2) := by decide +kernel
theorem dX10_write_18 : decode cX10_write 18 = .ok (.ireturn, 1) := by decide +kernel
theorem dX10_write_19 : decode cX10_write 19 = .ok (.iload_n 1, 1) := by decide +kernel
theorem dX10_write_20 : decode cX10_write 20 = .ok (.ifCond .lt 9, 3) := by decide +kernel
theorem dX10_write_23 : decode cX10_write 23 = .ok (.iload_n 1, 1) := by decide +kernel
theorem dX10_write_24 : decode cX10_write 24 = .ok (.bipush 6, 2) := by decide +kernel
theorem dX10_write_26 : decode cX10_write 26 = .ok (.if_icmp .le 6, 3) := by decide +kernel
theorem dX10_write_29 : decode cX10_write 29 = .ok (.ldc 86, 2) := by decide +kernel
theorem dX10_write_31 : decode cX10_write 31 = .ok (.ireturn, 1) := by decide +kernel
theorem dX10_write_32 : decode cX10_write 32 = .ok (.aload_n 0, 1) := by decide +kernel
theorem dX10_write_33 : decode cX10_write 33 = .ok (.getfield 78, 3) := by decide +kernel
theorem dX10_write_36 : decode cX10_write 36 = .ok (.getfield 114, 3) := by decide +kernel
theorem dX10_write_39 : decode cX10_write 39 = .ok (.bipush 20, 2) := by decide +kernel
theorem dX10_write_41 : decode cX10_write 41 = .ok (.if_icmp .lt 6, 3) := by decide +kernel
theorem dX10_write_44 : decode cX10_write 44 = .ok (.ldc 90, 2) := by decide +kernel
theorem dX10_write_46 : decode cX10_write 46 = .ok (.ireturn, 1) := by decide +kernel
theorem dX10_write_47 : decode cX10_write 47 = .ok (.aload_n 0, 1) := by decide +kernel
theorem dX10_write_48 : decode cX10_write 48 = .ok (.getfield 78, 3) := by decide +kernel
theorem dX10_write_51 : decode cX10_write 51 = .ok (.iload_n 1, 1) := by decide +kernel
theorem dX10_write_52 : decode cX10_write 52 = .ok (.iload_n 2, 1) := by decide +kernel
theorem dX10_write_53 : decode cX10_write 53 = .ok (.invokevirtual 300, 3) := by decide +kernel
theorem dX10_write_56 : decode cX10_write 56 = .ok (.aload_n 0, 1) := by decide +kernel
theorem dX10_write_57 : decode cX10_write 57 = .ok (.getfield 78, 3) := by decide +kernel
theorem dX10_write_60 : decode cX10_write 60 = .ok (.getfield 114, 3) := by decide +kernel
theorem dX10_write_63 : decode cX10_write 63 = .ok (.ireturn, 1) := by decide +kernel
theorem dX10_judge_0 : decode cX10_judge 0 = .ok (.aload_n 0, 1) := by decide +kernel
theorem dX10_judge_1 : decode cX10_judge 1 = .ok (.getfield 78, 3) := by decide +kernel
theorem dX10_judge_4 : decode cX10_judge 4 = .ok (.aload_n 0, 1) := by decide +kernel
theorem dX10_judge_5 : decode cX10_judge 5 = .ok (.getfield 29, 3) := by decide +kernel
theorem dX10_judge_8 : decode cX10_judge 8 = .ok (.invokevirtual 302, 3) := by decide +kernel
theorem dX10_judge_11 : decode cX10_judge 11 = .ok (.ireturn, 1) := by decide +kernel
theorem dX10_tear_0 : decode cX10_tear 0 = .ok (.aload_n 0, 1) := by decide +kernel
theorem dX10_tear_1 : decode cX10_tear 1 = .ok (.getfield 71, 3) := by decide +kernel
theorem dX10_tear_4 : decode cX10_tear 4 = .ok (.getfield 111, 3) := by decide +kernel
theorem dX10_tear_7 : decode cX10_tear 7 = .ok (.aload_n 0, 1) := by decide +kernel
theorem dX10_tear_8 : decode cX10_tear 8 = .ok (.getfield 78, 3) := by decide +kernel
theorem dX10_tear_11 : decode cX10_tear 11 = .ok (.getfield 114, 3) := by decide +kernel
theorem dX10_tear_14 : decode cX10_tear 14 = .ok (.iadd, 1) := by decide +kernel
theorem dX10_tear_15 : decode cX10_tear 15 = .ok (.istore_n 1, 1) := by decide +kernel
theorem dX10_tear_16 : decode cX10_tear 16 = .ok (.aload_n 0, 1) := by decide +kernel
theorem dX10_tear_17 : decode cX10_tear 17 = .ok (.getfield 71, 3) := by decide +kernel
theorem dX10_tear_20 : decode cX10_tear 20 = .ok (.iconst 0, 1) := by decide +kernel
theorem dX10_tear_21 : decode cX10_tear 21 = .ok (.putfield 111, 3) := by decide +kernel
theorem dX10_tear_24 : decode cX10_tear 24 = .ok (.aload_n 0, 1) := by decide +kernel
theorem dX10_tear_25 : decode cX10_tear 25 = .ok (.getfield 78, 3) := by decide +kernel
theorem dX10_tear_28 : decode cX10_tear 28 = .ok (.iconst 0, 1) := by decide +kernel
theorem dX10_tear_29 : decode cX10_tear 29 = .ok (.putfield 114, 3) := by decide +kernel
theorem dX10_tear_32 : decode cX10_tear 32 = .ok (.iload_n 1, 1) := by decide +kernel
theorem dX10_tear_33 : decode cX10_tear 33 = .ok (.ireturn, 1) := by decide +kernel
theorem dX10_seed_0 : decode cX10_seed 0 = .ok (.iload_n 1, 1) := by decide +kernel
theorem dX10_seed_1 : decode cX10_seed 1 = .ok (.ifCond .ge 6, 3) := by decide +kernel
theorem dX10_seed_4 : decode cX10_seed 4 = .ok (.ldc 86, 2) := by decide +kernel
theorem dX10_seed_6 : decode cX10_seed 6 = .ok (.ireturn, 1) := by decide +kernel
theorem dX10_seed_7 : decode cX10_seed 7 = .ok (.aload_n 0, 1) := by decide +kernel
theorem dX10_seed_8 : decode cX10_seed 8 = .ok (.getfield 82, 3) := by decide +kernel
theorem dX10_seed_11 : decode cX10_seed 11 = .ok (.istore_n 2, 1) := by decide +kernel
theorem dX10_seed_12 : decode cX10_seed 12 = .ok (.aload_n 0, 1) := by decide +kernel
theorem dX10_seed_13 : decode cX10_seed 13 = .ok (.iload_n 1, 1) := by decide +kernel
theorem dX10_seed_14 : decode cX10_seed 14 = .ok (.putfield 82, 3) := by decide +kernel
theorem dX10_seed_17 : decode cX10_seed 17 = .ok (.iload_n 2, 1) := by decide +kernel
theorem dX10_seed_18 : decode cX10_seed 18 = .ok (.ireturn, 1) := by decide +kernel
theorem dX10_keep_0 : decode cX10_keep 0 = .ok (.iload_n 1, 1) := by decide +kernel
theorem dX10_keep_1 : decode cX10_keep 1 = .ok (.ifCond .lt 8, 3) := by decide +kernel
theorem dX10_keep_4 : decode cX10_keep 4 = .ok (.iload_n 1, 1) := by decide +kernel
theorem dX10_keep_5 : decode cX10_keep 5 = .ok (.iconst 2, 1) := by decide +kernel
theorem dX10_keep_6 : decode cX10_keep 6 = .ok (.if_icmp .lt 6, 3) := by decide +kernel
theorem dX10_keep_9 : decode cX10_keep 9 = .ok (.ldc 177, 2) := by decide +kernel
theorem dX10_keep_11 : decode cX10_keep 11 = .ok (.ireturn, 1) := by decide +kernel
theorem dX10_keep_12 : decode cX10_keep 12 = .ok (.aload_n 0, 1) := by decide +kernel
theorem dX10_keep_13 : decode cX10_keep 13 = .ok (.getfield 43, 3) := by decide +kernel
theorem dX10_keep_16 : decode cX10_keep 16 = .ok (.iload_n 1, 1) := by decide +kernel
theorem dX10_keep_17 : decode cX10_keep 17 = .ok (.aaload, 1) := by decide +kernel
theorem dX10_keep_18 : decode cX10_keep 18 = .ok (.iconst 1, 1) := by decide +kernel
theorem dX10_keep_19 : decode cX10_keep 19 = .ok (.putfield 115, 3) := by decide +kernel
theorem dX10_keep_22 : decode cX10_keep 22 = .ok (.aload_n 0, 1) := by decide +kernel
theorem dX10_keep_23 : decode cX10_keep 23 = .ok (.getfield 43, 3) := by decide +kernel
theorem dX10_keep_26 : decode cX10_keep 26 = .ok (.iload_n 1, 1) := by decide +kernel
theorem dX10_keep_27 : decode cX10_keep 27 = .ok (.aaload, 1) := by decide +kernel
theorem dX10_keep_28 : decode cX10_keep 28 = .ok (.aload_n 0, 1) := by decide +kernel
theorem dX10_keep_29 : decode cX10_keep 29 = .ok (.getfield 82, 3) := by decide +kernel
theorem dX10_keep_32 : decode cX10_keep 32 = .ok (.putfield 305, 3) := by decide +kernel
theorem dX10_keep_35 : decode cX10_keep 35 = .ok (.aload_n 0, 1) := by decide +kernel
theorem dX10_keep_36 : decode cX10_keep 36 = .ok (.getfield 43, 3) := by decide +kernel
theorem dX10_keep_39 : decode cX10_keep 39 = .ok (.iload_n 1, 1) := by decide +kernel
theorem dX10_keep_40 : decode cX10_keep 40 = .ok (.aaload, 1) := by decide +kernel
theorem dX10_keep_41 : decode cX10_keep 41 = .ok (.getfield 308, 3) := by decide +kernel
theorem dX10_keep_44 : decode cX10_keep 44 = .ok (.aload_n 0, 1) := by decide +kernel
theorem dX10_keep_45 : decode cX10_keep 45 = .ok (.getfield 29, 3) := by decide +kernel
theorem dX10_keep_48 : decode cX10_keep 48 = .ok (.invokevirtual 311, 3) := by decide +kernel
theorem dX10_keep_51 : decode cX10_keep 51 = .ok (.aload_n 0, 1) := by decide +kernel
theorem dX10_keep_52 : decode cX10_keep 52 = .ok (.getfield 36, 3) := by decide +kernel
theorem dX10_keep_55 : decode cX10_keep 55 = .ok (.invokevirtual 108, 3) := by decide +kernel
theorem dX10_keep_58 : decode cX10_keep 58 = .ok (.iconst 1, 1) := by decide +kernel
theorem dX10_keep_59 : decode cX10_keep 59 = .ok (.ireturn, 1) := by decide +kernel
theorem dX10_goBack_0 : decode cX10_goBack 0 = .ok (.iload_n 1, 1) := by decide +kernel
theorem dX10_goBack_1 : decode cX10_goBack 1 = .ok (.ifCond .lt 8, 3) := by decide +kernel
theorem dX10_goBack_4 : decode cX10_goBack 4 = .ok (.iload_n 1, 1) := by decide +kernel
theorem dX10_goBack_5 : decode cX10_goBack 5 = .ok (.iconst 2, 1) := by decide +kernel
theorem dX10_goBack_6 : decode cX10_goBack 6 = .ok (.if_icmp .lt 6, 3) := by decide +kernel
theorem dX10_goBack_9 : decode cX10_goBack 9 = .ok (.ldc 177, 2) := by decide +kernel
theorem dX10_goBack_11 : decode cX10_goBack 11 = .ok (.ireturn, 1) := by decide +kernel
theorem dX10_goBack_12 : decode cX10_goBack 12 = .ok (.aload_n 0, 1) := by decide +kernel
theorem dX10_goBack_13 : decode cX10_goBack 13 = .ok (.getfield 43, 3) := by decide +kernel
theorem dX10_goBack_16 : decode cX10_goBack 16 = .ok (.iload_n 1, 1) := by decide +kernel
theorem dX10_goBack_17 : decode cX10_goBack 17 = .ok (.aaload, 1) := by decide +kernel
theorem dX10_goBack_18 : decode cX10_goBack 18 = .ok (.getfield 115, 3) := by decide +kernel
theorem dX10_goBack_21 : decode cX10_goBack 21 = .ok (.ifCond .ne 6, 3) := by decide +kernel
theorem dX10_goBack_24 : decode cX10_goBack 24 = .ok (.ldc 227, 2) := by decide +kernel
theorem dX10_goBack_26 : decode cX10_goBack 26 = .ok (.ireturn, 1) := by decide +kernel
theorem dX10_goBack_27 : decode cX10_goBack 27 = .ok (.aload_n 0, 1) := by decide +kernel
theorem dX10_goBack_28 : decode cX10_goBack 28 = .ok (.aload_n 0, 1) := by decide +kernel
theorem dX10_goBack_29 : decode cX10_goBack 29 = .ok (.getfield 43, 3) := by decide +kernel
theorem dX10_goBack_32 : decode cX10_goBack 32 = .ok (.iload_n 1, 1) := by decide +kernel
theorem dX10_goBack_33 : decode cX10_goBack 33 = .ok (.aaload, 1) := by decide +kernel
theorem dX10_goBack_34 : decode cX10_goBack 34 = .ok (.getfield 305, 3) := by decide +kernel
theorem dX10_goBack_37 : decode cX10_goBack 37 = .ok (.putfield 82, 3) := by decide +kernel
theorem dX10_goBack_40 : decode cX10_goBack 40 = .ok (.aload_n 0, 1) := by decide +kernel
theorem dX10_goBack_41 : decode cX10_goBack 41 = .ok (.getfield 29, 3) := by decide +kernel
theorem dX10_goBack_44 : decode cX10_goBack 44 = .ok (.aload_n 0, 1) := by decide +kernel
theorem dX10_goBack_45 : decode cX10_goBack 45 = .ok (.getfield 43, 3) := by decide +kernel
theorem dX10_goBack_48 : decode cX10_goBack 48 = .ok (.iload_n 1, 1) := by decide +kernel
theorem dX10_goBack_49 : decode cX10_goBack 49 = .ok (.aaload, 1) := by decide +kernel
theorem dX10_goBack_50 : decode cX10_goBack 50 = .ok (.getfield 308, 3) := by decide +kernel
theorem dX10_goBack_53 : decode cX10_goBack 53 = .ok (.invokevirtual 311, 3) := by decide +kernel
theorem dX10_goBack_56 : decode cX10_goBack 56 = .ok (.aload_n 0, 1) := by decide +kernel
theorem dX10_goBack_57 : decode cX10_goBack 57 = .ok (.getfield 36, 3) := by decide +kernel
theorem dX10_goBack_60 : decode cX10_goBack 60 = .ok (.invokevirtual 108, 3) := by decide +kernel
theorem dX10_goBack_63 : decode cX10_goBack 63 = .ok (.iconst 1, 1) := by decide +kernel
theorem dX10_goBack_64 : decode cX10_goBack 64 = .ok (.ireturn, 1) := by decide +kernel
theorem dX10_offSet_0 : decode cX10_offSet 0 = .ok (.aload_n 0, 1) := by decide +kernel
theorem dX10_offSet_1 : decode cX10_offSet 1 = .ok (.getfield 23, 3) := by decide +kernel
theorem dX10_offSet_4 : decode cX10_offSet 4 = .ok (.invokevirtual 267, 3) := by decide +kernel
theorem dX10_offSet_7 : decode cX10_offSet 7 = .ok (.aload_n 0, 1) := by decide +kernel
theorem dX10_offSet_8 : decode cX10_offSet 8 = .ok (.getfield 29, 3) := by decide +kernel
theorem dX10_offSet_11 : decode cX10_offSet 11 = .ok (.invokevirtual 141, 3) := by decide +kernel
theorem dX10_offSet_14 : decode cX10_offSet 14 = .ok (.iconst (-1), 1) := by decide +kernel
theorem dX10_offSet_15 : decode cX10_offSet 15 = .ok (.ixor, 1) := by decide +kernel
theorem dX10_offSet_16 : decode cX10_offSet 16 = .ok (.iand, 1) := by decide +kernel
theorem dX10_offSet_17 : decode cX10_offSet 17 = .ok (.ireturn, 1) := by decide +kernel
theorem dX10_yearsRefused_0 : decode cX10_yearsRefused 0 = .ok (.iload_n 1, 1) := by decide +kernel
theorem dX10_yearsRefused_1 : decode cX10_yearsRefused 1 = .ok (.iconst 1, 1) := by decide +kernel
theorem dX10_yearsRefused_2 : decode cX10_yearsRefused 2 = .ok (.if_icmp .lt 9, 3) := by decide +kernel
theorem dX10_yearsRefused_5 : decode cX10_yearsRefused 5 = .ok (.iload_n 1, 1) := by decide +kernel
theorem dX10_yearsRefused_6 : decode cX10_yearsRefused 6 = .ok (.bipush 20, 2) := by decide +kernel
theorem dX10_yearsRefused_8 : decode cX10_yearsRefused 8 = .ok (.if_icmp .le 6, 3) := by decide +kernel
theorem dX10_yearsRefused_11 : decode cX10_yearsRefused 11 = .ok (.ldc 86, 2) := by decide +kernel
theorem dX10_yearsRefused_13 : decode cX10_yearsRefused 13 = .ok (.ireturn, 1) := by decide +kernel
theorem dX10_yearsRefused_14 : decode cX10_yearsRefused 14 = .ok (.aload_n 0, 1) := by decide +kernel
theorem dX10_yearsRefused_15 : decode cX10_yearsRefused 15 = .ok (.getfield 23, 3) := by decide +kernel
theorem dX10_yearsRefused_18 : decode cX10_yearsRefused 18 = .ok (.getfield 125, 3) := by decide +kernel
theorem dX10_yearsRefused_21 : decode cX10_yearsRefused 21 = .ok (.ifCond .ne 6, 3) := by decide +kernel
theorem dX10_yearsRefused_24 : decode cX10_yearsRefused 24 = .ok (.ldc 227, 2) := by decide +kernel
theorem dX10_yearsRefused_26 : decode cX10_yearsRefused 26 = .ok (.ireturn, 1) := by decide +kernel
theorem dX10_yearsRefused_27 : decode cX10_yearsRefused 27 = .ok (.aload_n 0, 1) := by decide +kernel
theorem dX10_yearsRefused_28 : decode cX10_yearsRefused 28 = .ok (.getfield 29, 3) := by decide +kernel
theorem dX10_yearsRefused_31 : decode cX10_yearsRefused 31 = .ok (.getfield 134, 3) := by decide +kernel
theorem dX10_yearsRefused_34 : decode cX10_yearsRefused 34 = .ok (.sipush 9000, 3) := by decide +kernel
theorem dX10_yearsRefused_37 : decode cX10_yearsRefused 37 = .ok (.if_icmp .le 8, 3) := by decide +kernel
theorem dX10_yearsRefused_40 : decode cX10_yearsRefused 40 = .ok (.ldc 90, 2) := by decide +kernel
theorem dX10_yearsRefused_42 : decode cX10_yearsRefused 42 = .ok (.goto 4, 3) := by decide +kernel
theorem dX10_yearsRefused_45 : decode cX10_yearsRefused 45 = .ok (.iconst 0, 1) := by decide +kernel
theorem dX10_yearsRefused_46 : decode cX10_yearsRefused 46 = .ok (.ireturn, 1) := by decide +kernel
theorem dX10_draw_0 : decode cX10_draw 0 = .ok (.aload_n 0, 1) := by decide +kernel
theorem dX10_draw_1 : decode cX10_draw 1 = .ok (.aload_n 0, 1) := by decide +kernel
theorem dX10_draw_2 : decode cX10_draw 2 = .ok (.getfield 82, 3) := by decide +kernel
theorem dX10_draw_5 : decode cX10_draw 5 = .ok (.i2l, 1) := by decide +kernel
theorem dX10_draw_6 : decode cX10_draw 6 = .ok (.ldc2_w 313, 3) := by decide +kernel
theorem dX10_draw_9 : decode cX10_draw 9 = .ok (.lmul, 1) := by decide +kernel
theorem dX10_draw_10 : decode cX10_draw 10 = .ok (.ldc2_w 315, 3) := by decide +kernel
theorem dX10_draw_13 : decode cX10_draw 13 = .ok (.ladd, 1) := by decide +kernel
theorem dX10_draw_14 : decode cX10_draw 14 = .ok (.ldc2_w 317, 3) := by decide +kernel
theorem dX10_draw_17 : decode cX10_draw 17 = .ok (.land, 1) := by decide +kernel
theorem dX10_draw_18 : decode cX10_draw 18 = .ok (.l2i, 1) := by decide +kernel
theorem dX10_draw_19 : decode cX10_draw 19 = .ok (.putfield 82, 3) := by decide +kernel
theorem dX10_draw_22 : decode cX10_draw 22 = .ok (.iload_n 1, 1) := by decide +kernel
theorem dX10_draw_23 : decode cX10_draw 23 = .ok (.ifCond .le 16, 3) := by decide +kernel
theorem dX10_draw_26 : decode cX10_draw 26 = .ok (.aload_n 0, 1) := by decide +kernel
theorem dX10_draw_27 : decode cX10_draw 27 = .ok (.getfield 82, 3) := by decide +kernel
theorem dX10_draw_30 : decode cX10_draw 30 = .ok (.ldc_w 319, 3) := by decide +kernel
theorem dX10_draw_33 : decode cX10_draw 33 = .ok (.idiv, 1) := by decide +kernel
theorem dX10_draw_34 : decode cX10_draw 34 = .ok (.iload_n 1, 1) := by decide +kernel
theorem dX10_draw_35 : decode cX10_draw 35 = .ok (.irem, 1) := by decide +kernel
theorem dX10_draw_36 : decode cX10_draw 36 = .ok (.goto 4, 3) := by decide +kernel
theorem dX10_draw_39 : decode cX10_draw 39 = .ok (.iconst 0, 1) := by decide +kernel
theorem dX10_draw_40 : decode cX10_draw 40 = .ok (.ireturn, 1) := by decide +kernel
theorem dX10_chance_0 : decode cX10_chance 0 = .ok (.aload_n 0, 1) := by decide +kernel
theorem dX10_chance_1 : decode cX10_chance 1 = .ok (.bipush 6, 2) := by decide +kernel
theorem dX10_chance_3 : decode cX10_chance 3 = .ok (.invokevirtual 320, 3) := by decide +kernel
theorem dX10_chance_6 : decode cX10_chance 6 = .ok (.istore_n 1, 1) := by decide +kernel
theorem dX10_chance_7 : decode cX10_chance 7 = .ok (.iload_n 1, 1) := by decide +kernel
theorem dX10_chance_8 : decode cX10_chance 8 = .ok (.ifCond .ne 19, 3) := by decide +kernel
theorem dX10_chance_11 : decode cX10_chance 11 = .ok (.aload_n 0, 1) := by decide +kernel
theorem dX10_chance_12 : decode cX10_chance 12 = .ok (.getfield 29, 3) := by decide +kernel
theorem dX10_chance_15 : decode cX10_chance 15 = .ok (.aload_n 0, 1) := by decide +kernel
theorem dX10_chance_16 : decode cX10_chance 16 = .ok (.bipush 10, 2) := by decide +kernel
theorem dX10_chance_18 : decode cX10_chance 18 = .ok (.invokevirtual 320, 3) := by decide +kernel
theorem dX10_chance_21 : decode cX10_chance 21 = .ok (.putfield 137, 3) := by decide +kernel
theorem dX10_chance_24 : decode cX10_chance 24 = .ok (.goto 96, 3) := by decide +kernel
theorem dX10_chance_27 : decode cX10_chance 27 = .ok (.iload_n 1, 1) := by decide +kernel
theorem dX10_chance_28 : decode cX10_chance 28 = .ok (.iconst 1, 1) := by decide +kernel
theorem dX10_chance_29 : decode cX10_chance 29 = .ok (.if_icmp .ne 20, 3) := by decide +kernel
theorem dX10_chance_32 : decode cX10_chance 32 = .ok (.aload_n 0, 1) := by decide +kernel
theorem dX10_chance_33 : decode cX10_chance 33 = .ok (.getfield 29, 3) := by decide +kernel
theorem dX10_chance_36 : decode cX10_chance 36 = .ok (.aload_n 0, 1) := by decide +kernel
theorem dX10_chance_37 : decode cX10_chance 37 = .ok (.getfield 29, 3) := by decide +kernel
theorem dX10_chance_40 : decode cX10_chance 40 = .ok (.invokevirtual 141, 3) := by decide +kernel
theorem dX10_chance_43 : decode cX10_chance 43 = .ok (.putfield 149, 3) := by decide +kernel
theorem dX10_chance_46 : decode cX10_chance 46 = .ok (.goto 74, 3) := by decide +kernel
theorem dX10_chance_49 : decode cX10_chance 49 = .ok (.iload_n 1, 1) := by decide +kernel
theorem dX10_chance_50 : decode cX10_chance 50 = .ok (.iconst 2, 1) := by decide +kernel
theorem dX10_chance_51 : decode cX10_chance 51 = .ok (.if_icmp .ne 35, 3) := by decide +kernel
theorem dX10_chance_54 : decode cX10_chance 54 = .ok (.aload_n 0, 1) := by decide +kernel
theorem dX10_chance_55 : decode cX10_chance 55 = .ok (.getfield 29, 3) := by decide +kernel
theorem dX10_chance_58 : decode cX10_chance 58 = .ok (.getfield 140, 3) := by decide +kernel
theorem dX10_chance_61 : decode cX10_chance 61 = .ok (.iconst 2, 1) := by decide +kernel
theorem dX10_chance_62 : decode cX10_chance 62 = .ok (.if_icmp .lt 24, 3) := by decide +kernel
theorem dX10_chance_65 : decode cX10_chance 65 = .ok (.aload_n 0, 1) := by decide +kernel
theorem dX10_chance_66 : decode cX10_chance 66 = .ok (.getfield 29, 3) := by decide +kernel
theorem dX10_chance_69 : decode cX10_chance 69 = .ok (.aload_n 0, 1) := by decide +kernel
theorem dX10_chance_70 : decode cX10_chance 70 = .ok (.aload_n 0, 1) := by decide +kernel
theorem dX10_chance_71 : decode cX10_chance 71 = .ok (.getfield 29, 3) := by decide +kernel
theorem dX10_chance_74 : decode cX10_chance 74 = .ok (.getfield 140, 3) := by decide +kernel
theorem dX10_chance_77 : decode cX10_chance 77 = .ok (.invokevirtual 320, 3) := by decide +kernel
theorem dX10_chance_80 : decode cX10_chance 80 = .ok (.invokevirtual 224, 3) := by decide +kernel
theorem dX10_chance_83 : decode cX10_chance 83 = .ok (.goto 37, 3) := by decide +kernel
theorem dX10_chance_86 : decode cX10_chance 86 = .ok (.iload_n 1, 1) := by decide +kernel
theorem dX10_chance_87 : decode cX10_chance 87 = .ok (.iconst 3, 1) := by decide +kernel
theorem dX10_chance_88 : decode cX10_chance 88 = .ok (.if_icmp .ne 32, 3) := by decide +kernel
theorem dX10_chance_91 : decode cX10_chance 91 = .ok (.aload_n 0, 1) := by decide +kernel
theorem dX10_chance_92 : decode cX10_chance 92 = .ok (.getfield 29, 3) := by decide +kernel
theorem dX10_chance_95 : decode cX10_chance 95 = .ok (.getfield 140, 3) := by decide +kernel
theorem dX10_chance_98 : decode cX10_chance 98 = .ok (.iconst 1, 1) := by decide +kernel
theorem dX10_chance_99 : decode cX10_chance 99 = .ok (.if_icmp .lt 21, 3) := by decide +kernel
theorem dX10_chance_102 : decode cX10_chance 102 = .ok (.aload_n 0, 1) := by decide +kernel
theorem dX10_chance_103 : decode cX10_chance 103 = .ok (.getfield 29, 3) := by decide +kernel
theorem dX10_chance_106 : decode cX10_chance 106 = .ok (.aload_n 0, 1) := by decide +kernel
theorem dX10_chance_107 : decode cX10_chance 107 = .ok (.aload_n 0, 1) := by decide +kernel
theorem dX10_chance_108 : decode cX10_chance 108 = .ok (.getfield 29, 3) := by decide +kernel
theorem dX10_chance_111 : decode cX10_chance 111 = .ok (.getfield 140, 3) := by decide +kernel
theorem dX10_chance_114 : decode cX10_chance 114 = .ok (.invokevirtual 320, 3) := by decide +kernel
theorem dX10_chance_117 : decode cX10_chance 117 = .ok (.invokevirtual 228, 3) := by decide +kernel
theorem dX10_chance_120 : decode cX10_chance 120 = .ok (.return_, 1) := by decide +kernel
theorem dX10_hasBit_0 : decode cX10_hasBit 0 = .ok (.iload_n 0, 1) := by decide +kernel
theorem dX10_hasBit_1 : decode cX10_hasBit 1 = .ok (.iload_n 1, 1) := by decide +kernel
theorem dX10_hasBit_2 : decode cX10_hasBit 2 = .ok (.ishr, 1) := by decide +kernel
theorem dX10_hasBit_3 : decode cX10_hasBit 3 = .ok (.iconst 1, 1) := by decide +kernel
theorem dX10_hasBit_4 : decode cX10_hasBit 4 = .ok (.iand, 1) := by decide +kernel
theorem dX10_hasBit_5 : decode cX10_hasBit 5 = .ok (.ifCond .eq 7, 3) := by decide +kernel
theorem dX10_hasBit_8 : decode cX10_hasBit 8 = .ok (.iconst 1, 1) := by decide +kernel
theorem dX10_hasBit_9 : decode cX10_hasBit 9 = .ok (.goto 4, 3) := by decide +kernel
theorem dX10_hasBit_12 : decode cX10_hasBit 12 = .ok (.iconst 0, 1) := by decide +kernel
theorem dX10_hasBit_13 : decode cX10_hasBit 13 = .ok (.ireturn, 1) := by decide +kernel
theorem dX11_init_0 : decode cX11_init 0 = .ok (.aload_n 0, 1) := by decide +kernel
theorem dX11_init_1 : decode cX11_init 1 = .ok (.invokespecial 1, 3) := by decide +kernel
theorem dX11_init_4 : decode cX11_init 4 = .ok (.aload_n 0, 1) := by decide +kernel
theorem dX11_init_5 : decode cX11_init 5 = .ok (.sipush 240, 3) := by decide +kernel
theorem dX11_init_8 : decode cX11_init 8 = .ok (.newarray .int, 2) := by decide +kernel
theorem dX11_init_10 : decode cX11_init 10 = .ok (.putfield 7, 3) := by decide +kernel
theorem dX11_init_13 : decode cX11_init 13 = .ok (.aload_n 0, 1) := by decide +kernel
theorem dX11_init_14 : decode cX11_init 14 = .ok (.bipush 53, 2) := by decide +kernel
theorem dX11_init_16 : decode cX11_init 16 = .ok (.newarray .int, 2) := by decide +kernel
theorem dX11_init_18 : decode cX11_init 18 = .ok (.putfield 13, 3) := by decide +kernel
theorem dX11_init_21 : decode cX11_init 21 = .ok (.aload_n 0, 1) := by decide +kernel
theorem dX11_init_22 : decode cX11_init 22 = .ok (.bipush 53, 2) := by decide +kernel
theorem dX11_init_24 : decode cX11_init 24 = .ok (.newarray .int, 2) := by decide +kernel
theorem dX11_init_26 : decode cX11_init 26 = .ok (.putfield 16, 3) := by decide +kernel
theorem dX11_init_29 : decode cX11_init 29 = .ok (.aload_n 0, 1) := by decide +kernel
theorem dX11_init_30 : decode cX11_init 30 = .ok (.bipush 25, 2) := by decide +kernel
theorem dX11_init_32 : decode cX11_init 32 = .ok (.newarray .int, 2) := by decide +kernel
theorem dX11_init_34 : decode cX11_init 34 = .ok (.putfield 19, 3) := by decide +kernel
theorem dX11_init_37 : decode cX11_init 37 = .ok (.aload_n 0, 1) := by decide +kernel
theorem dX11_init_38 : decode cX11_init 38 = .ok (.sipush 750, 3) := by decide +kernel
theorem dX11_init_41 : decode cX11_init 41 = .ok (.newarray .int, 2) := by decide +kernel
theorem dX11_init_43 : decode cX11_init 43 = .ok (.putfield 22, 3) := by decide +kernel
theorem dX11_init_46 : decode cX11_init 46 = .ok (.aload_n 0, 1) := by decide +kernel
theorem dX11_init_47 : decode cX11_init 47 = .ok (.bipush 52, 2) := by decide +kernel
theorem dX11_init_49 : decode cX11_init 49 = .ok (.newarray .int, 2) := by decide +kernel
theorem dX11_init_51 : decode cX11_init 51 = .ok (.putfield 25, 3) := by decide +kernel
theorem dX11_init_54 : decode cX11_init 54 = .ok (.aload_n 0, 1) := by decide +kernel
theorem dX11_init_55 : decode cX11_init 55 = .ok (.iconst 2, 1) := by decide +kernel
theorem dX11_init_56 : decode cX11_init 56 = .ok (.newarray .boolean, 2) := by decide +kernel
theorem dX11_init_58 : decode cX11_init 58 = .ok (.putfield 28, 3) := by decide +kernel
theorem dX11_init_61 : decode cX11_init 61 = .ok (.aload_n 0, 1) := by decide +kernel
theorem dX11_init_62 : decode cX11_init 62 = .ok (.bipush 18, 2) := by decide +kernel
theorem dX11_init_64 : decode cX11_init 64 = .ok (.newarray .int, 2) := by decide +kernel
theorem dX11_init_66 : decode cX11_init 66 = .ok (.putfield 32, 3) := by decide +kernel
theorem dX11_init_69 : decode cX11_init 69 = .ok (.aload_n 0, 1) := by decide +kernel
theorem dX11_init_70 : decode cX11_init 70 = .ok (.bipush 40, 2) := by decide +kernel
theorem dX11_init_72 : decode cX11_init 72 = .ok (.newarray .int, 2) := by decide +kernel
theorem dX11_init_74 : decode cX11_init 74 = .ok (.putfield 35, 3) := by decide +kernel
theorem dX11_init_77 : decode cX11_init 77 = .ok (.aload_n 0, 1) := by decide +kernel
theorem dX11_init_78 : decode cX11_init 78 = .ok (.iconst (-1), 1) := by decide +kernel
theorem dX11_init_79 : decode cX11_init 79 = .ok (.putfield 38, 3) := by decide +kernel
theorem dX11_init_82 : decode cX11_init 82 = .ok (.aload_n 0, 1) := by decide +kernel
theorem dX11_init_83 : decode cX11_init 83 = .ok (.bipush 8, 2) := by decide +kernel
theorem dX11_init_85 : decode cX11_init 85 = .ok (.newarray .int, 2) := by decide +kernel
theorem dX11_init_87 : decode cX11_init 87 = .ok (.putfield 42, 3) := by decide +kernel
theorem dX11_init_90 : decode cX11_init 90 = .ok (.aload_n 0, 1) := by decide +kernel
theorem dX11_init_91 : decode cX11_init 91 = .ok (.bipush 7, 2) := by decide +kernel
theorem dX11_init_93 : decode cX11_init 93 = .ok (.newarray .int, 2) := by decide +kernel
theorem dX11_init_95 : decode cX11_init 95 = .ok (.putfield 45, 3) := by decide +kernel
theorem dX11_init_98 : decode cX11_init 98 = .ok (.aload_n 0, 1) := by decide +kernel
theorem dX11_init_99 : decode cX11_init 99 = .ok (.sipush 315, 3) := by decide +kernel
theorem dX11_init_102 : decode cX11_init 102 = .ok (.newarray .long, 2) := by decide +kernel
theorem dX11_init_104 : decode cX11_init 104 = .ok (.putfield 48, 3) := by decide +kernel
theorem dX11_init_107 : decode cX11_init 107 = .ok (.aload_n 0, 1) := by decide +kernel
theorem dX11_init_108 : decode cX11_init 108 = .ok (.iconst (-1), 1) := by decide +kernel
theorem dX11_init_109 : decode cX11_init 109 = .ok (.putfield 52, 3) := by decide +kernel
theorem dX11_init_112 : decode cX11_init 112 = .ok (.aload_n 0, 1) := by decide +kernel
theorem dX11_init_113 : decode cX11_init 113 = .ok (.bipush 7, 2) := by decide +kernel
theorem dX11_init_115 : decode cX11_init 115 = .ok (.newarray .int, 2) := by decide +kernel
theorem dX11_init_117 : decode cX11_init 117 = .ok (.putfield 55, 3) := by decide +kernel
theorem dX11_init_120 : decode cX11_init 120 = .ok (.aload_n 0, 1) := by decide +kernel
theorem dX11_init_121 : decode cX11_init 121 = .ok (.bipush 7, 2) := by decide +kernel
theorem dX11_init_123 : decode cX11_init 123 = .ok (.newarray .int, 2) := by decide +kernel
theorem dX11_init_125 : decode cX11_init 125 = .ok (.putfield 58, 3) := by decide +kernel
theorem dX11_init_128 : decode cX11_init 128 = .ok (.aload_n 0, 1) := by decide +kernel
theorem dX11_init_129 : decode cX11_init 129 = .ok (.bipush 7, 2) := by decide +kernel
theorem dX11_init_131 : decode cX11_init 131 = .ok (.newarray .int, 2) := by decide +kernel
theorem dX11_init_133 : decode cX11_init 133 = .ok (.putfield 61, 3) := by decide +kernel
theorem dX11_init_136 : decode cX11_init 136 = .ok (.aload_n 0, 1) := by decide +kernel
theorem dX11_init_137 : decode cX11_init 137 = .ok (.bipush 64, 2) := by decide +kernel
theorem dX11_init_139 : decode cX11_init 139 = .ok (.newarray .int, 2) := by decide +kernel
theorem dX11_init_141 : decode cX11_init 141 = .ok (.putfield 64, 3) := by decide +kernel
theorem dX11_init_144 : decode cX11_init 144 = .ok (.return_, 1) := by decide +kernel
theorem dX11_in_0 : decode cX11_in 0 = .ok (.iload_n 0, 1) := by decide +kernel
theorem dX11_in_1 : decode cX11_in 1 = .ok (.iload_n 1, 1) := by decide +kernel
theorem dX11_in_2 : decode cX11_in 2 = .ok (.if_icmp .lt 12, 3) := by decide +kernel
theorem dX11_in_5 : decode cX11_in 5 = .ok (.iload_n 0, 1) := by decide +kernel
theorem dX11_in_6 : decode cX11_in 6 = .ok (.iload_n 2, 1) := by decide +kernel
theorem dX11_in_7 : decode cX11_in 7 = .ok (.if_icmp .gt 7, 3) := by decide +kernel
theorem dX11_in_10 : decode cX11_in 10 = .ok (.iconst 1, 1) := by decide +kernel
theorem dX11_in_11 : decode cX11_in 11 = .ok (.goto 4, 3) := by decide +kernel
theorem dX11_in_14 : decode cX11_in 14 = .ok (.iconst 0, 1) := by decide +kernel
theorem dX11_in_15 : decode cX11_in 15 = .ok (.ireturn, 1) := by decide +kernel
theorem dX11_has_0 : decode cX11_has 0 = .ok (.iload_n 0, 1) := by decide +kernel
theorem dX11_has_1 : decode cX11_has 1 = .ok (.iload_n 1, 1) := by decide +kernel
theorem dX11_has_2 : decode cX11_has 2 = .ok (.ishr, 1) := by decide +kernel
theorem dX11_has_3 : decode cX11_has 3 = .ok (.iconst 1, 1) := by decide +kernel
theorem dX11_has_4 : decode cX11_has 4 = .ok (.iand, 1) := by decide +kernel
theorem dX11_has_5 : decode cX11_has 5 = .ok (.iconst 1, 1) := by decide +kernel
theorem dX11_has_6 : decode cX11_has 6 = .ok (.if_icmp .ne 7, 3) := by decide +kernel
theorem dX11_has_9 : decode cX11_has 9 = .ok (.iconst 1, 1) := by decide +kernel
theorem dX11_has_10 : decode cX11_has 10 = .ok (.goto 4, 3) := by decide +kernel
theorem dX11_has_13 : decode cX11_has 13 = .ok (.iconst 0, 1) := by decide +kernel
theorem dX11_has_14 : decode cX11_has 14 = .ok (.ireturn, 1) := by decide +kernel
theorem dX11_ones_0 : decode cX11_ones 0 = .ok (.iconst 0, 1) := by decide +kernel
theorem dX11_ones_1 : decode cX11_ones 1 = .ok (.istore_n 1, 1) := by decide +kernel
theorem dX11_ones_2 : decode cX11_ones 2 = .ok (.iconst 0, 1) := by decide +kernel
theorem dX11_ones_3 : decode cX11_ones 3 = .ok (.istore_n 2, 1) := by decide +kernel
theorem dX11_ones_4 : decode cX11_ones 4 = .ok (.iload_n 2, 1) := by decide +kernel
theorem dX11_ones_5 : decode cX11_ones 5 = .ok (.bipush 7, 2) := by decide +kernel
theorem dX11_ones_7 : decode cX11_ones 7 = .ok (.if_icmp .ge 17, 3) := by decide +kernel
theorem dX11_ones_10 : decode cX11_ones 10 = .ok (.iload_n 1, 1) := by decide +kernel
theorem dX11_ones_11 : decode cX11_ones 11 = .ok (.iload_n 0, 1) := by decide +kernel
theorem dX11_ones_12 : decode cX11_ones 12 = .ok (.iload_n 2, 1) := by decide +kernel
theorem dX11_ones_13 : decode cX11_ones 13 = .ok (.ishr, 1) := by decide +kernel
theorem dX11_ones_14 : decode cX11_ones 14 = .ok (.iconst 1, 1) := by decide +kernel
theorem dX11_ones_15 : decode cX11_ones 15 = .ok (.iand, 1) := by decide +kernel
theorem dX11_ones_16 : decode cX11_ones 16 = .ok (.iadd, 1) := by decide +kernel
theorem dX11_ones_17 : decode cX11_ones 17 = .ok (.istore_n 1, 1) := by decide +kernel
theorem dX11_ones_18 : decode cX11_ones 18 = .ok (.iinc 2 1, 3) := by decide +kernel
theorem dX11_ones_21 : decode cX11_ones 21 = .ok (.goto (-17), 3) := by decide +kernel
theorem dX11_ones_24 : decode cX11_ones 24 = .ok (.iload_n 1, 1) := by decide +kernel
theorem dX11_ones_25 : decode cX11_ones 25 = .ok (.ireturn, 1) := by decide +kernel
theorem dX11_isFlag_0 : decode cX11_isFlag 0 = .ok (.iload_n 1, 1) := by decide +kernel
theorem dX11_isFlag_1 : decode cX11_isFlag 1 = .ok (.iconst 0, 1) := by decide +kernel
theorem dX11_isFlag_2 : decode cX11_isFlag 2 = .ok (.aload_n 0, 1) := by decide +kernel
theorem dX11_isFlag_3 : decode cX11_isFlag 3 = .ok (.getfield 13, 3) := by decide +kernel
theorem dX11_isFlag_6 : decode cX11_isFlag 6 = .ok (.iconst 1, 1) := by decide +kernel
theorem dX11_isFlag_7 : decode cX11_isFlag 7 = .ok (.iaload, 1) := by decide +kernel
theorem dX11_isFlag_8 : decode cX11_isFlag 8 = .ok (.iconst 1, 1) := by decide +kernel
theorem dX11_isFlag_9 : decode cX11_isFlag 9 = .ok (.isub, 1) := by decide +kernel
theorem dX11_isFlag_10 : decode cX11_isFlag 10 = .ok (.invokestatic 67, 3) := by decide +kernel
theorem dX11_isFlag_13 : decode cX11_isFlag 13 = .ok (.ireturn, 1) := by decide +kernel
theorem dX11_feed_0 : decode cX11_feed 0 = .ok (.iload_n 1, 1) := by decide +kernel
theorem dX11_feed_1 : decode cX11_feed 1 = .ok (.iconst 0, 1) := by decide +kernel
theorem dX11_feed_2 : decode cX11_feed 2 = .ok (.sipush 255, 3) := by decide +kernel
theorem dX11_feed_5 : decode cX11_feed 5 = .ok (.invokestatic 67, 3) := by decide +kernel
theorem dX11_feed_8 : decode cX11_feed 8 = .ok (.ifCond .ne 6, 3) := by decide +kernel
theorem dX11_feed_11 : decode cX11_feed 11 = .ok (.ldc 71, 2) := by decide +kernel
theorem dX11_feed_13 : decode cX11_feed 13 = .ok (.ireturn, 1) := by decide +kernel
theorem dX11_feed_14 : decode cX11_feed 14 = .ok (.aload_n 0, 1) := by decide +kernel
theorem dX11_feed_15 : decode cX11_feed 15 = .ok (.getfield 72, 3) := by decide +kernel
theorem dX11_feed_18 : decode cX11_feed 18 = .ok (.sipush 240, 3) := by decide +kernel
theorem dX11_feed_21 : decode cX11_feed 21 = .ok (.if_icmp .ne 6, 3) := by decide +kernel
theorem dX11_feed_24 : decode cX11_feed 24 = .ok (.ldc 75, 2) := by decide +kernel
theorem dX11_feed_26 : decode cX11_feed 26 = .ok (.ireturn, 1) := by decide +kernel
theorem dX11_feed_27 : decode cX11_feed 27 = .ok (.aload_n 0, 1) := by decide +kernel
theorem dX11_feed_28 : decode cX11_feed 28 = .ok (.getfield 7, 3) := by decide +kernel
theorem dX11_feed_31 : decode cX11_feed 31 = .ok (.aload_n 0, 1) := by decide +kernel
theorem dX11_feed_32 : decode cX11_feed 32 = .ok (.getfield 72, 3) := by decide +kernel
theorem dX11_feed_35 : decode cX11_feed 35 = .ok (.iload_n 1, 1) := by decide +kernel
theorem dX11_feed_36 : decode cX11_feed 36 = .ok (.iastore, 1) := by decide +kernel
theorem dX11_feed_37 : decode cX11_feed 37 = .ok (.aload_n 0, 1) := by decide +kernel
theorem dX11_feed_38 : decode cX11_feed 38 = .ok (.dup, 1) := by decide +kernel
theorem dX11_feed_39 : decode cX11_feed 39 = .ok (.getfield 72, 3) := by decide +kernel
theorem dX11_feed_42 : decode cX11_feed 42 = .ok (.iconst 1, 1) := by decide +kernel
theorem dX11_feed_43 : decode cX11_feed 43 = .ok (.iadd, 1) := by decide +kernel
theorem dX11_feed_44 : decode cX11_feed 44 = .ok (.putfield 72, 3) := by decide +kernel
theorem dX11_feed_47 : decode cX11_feed 47 = .ok (.aload_n 0, 1) := by decide +kernel
theorem dX11_feed_48 : decode cX11_feed 48 = .ok (.getfield 72, 3) := by decide +kernel
theorem dX11_feed_51 : decode cX11_feed 51 = .ok (.ireturn, 1) := by decide +kernel
theorem dX11_next0_0 : decode cX11_next0 0 = .ok (.aload_n 0, 1) := by decide +kernel
theorem dX11_next0_1 : decode cX11_next0 1 = .ok (.getfield 76, 3) := by decide +kernel
theorem dX11_next0_4 : decode cX11_next0 4 = .ok (.aload_n 0, 1) := by decide +kernel
theorem dX11_next0_5 : decode cX11_next0 5 = .ok (.getfield 72, 3) := by decide +kernel
theorem dX11_next0_8 : decode cX11_next0 8 = .ok (.if_icmp .ge 30, 3) := by decide +kernel
theorem dX11_next0_11 : decode cX11_next0 11 = .ok (.aload_n 0, 1) := by decide +kernel
theorem dX11_next0_12 : decode cX11_next0 12 = .ok (.getfield 7, 3) := by decide +kernel
theorem dX11_next0_15 : decode cX11_next0 15 = .ok (.aload_n 0, 1) := by decide +kernel
theorem dX11_next0_16 : decode cX11_next0 16 = .ok (.getfield 76, 3) := by decide +kernel
theorem dX11_next0_19 : decode cX11_next0 19 = .ok (.iaload, 1) := by decide +kernel
theorem dX11_next0_20 : decode cX11_next0 20 = .ok (.bipush 32, 2) := by decide +kernel
theorem dX11_next0_22 : decode cX11_next0 22 = .ok (.if_icmp .ne 16, 3) := by decide +kernel
theorem dX11_next0_25 : decode cX11_next0 25 = .ok (.aload_n 0, 1) := by decide +kernel
theorem dX11_next0_26 : decode cX11_next0 26 = .ok (.dup, 1) := by decide +kernel
theorem dX11_next0_27 : decode cX11_next0 27 = .ok (.getfield 76, 3) := by decide +kernel
theorem dX11_next0_30 : decode cX11_next0 30 = .ok (.iconst 1, 1) := by decide +kernel
theorem dX11_next0_31 : decode cX11_next0 31 = .ok (.iadd, 1) := by decide +kernel
theorem dX11_next0_32 : decode cX11_next0 32 = .ok (.putfield 76, 3) := by decide +kernel
theorem dX11_next0_35 : decode cX11_next0 35 = .ok (.goto (-35), 3) := by decide +kernel
theorem dX11_next0_38 : decode cX11_next0 38 = .ok (.aload_n 0, 1) := by decide +kernel
theorem dX11_next0_39 : decode cX11_next0 39 = .ok (.getfield 76, 3) := by decide +kernel
theorem dX11_next0_42 : decode cX11_next0 42 = .ok (.aload_n 0, 1) := by decide +kernel
theorem dX11_next0_43 : decode cX11_next0 43 = .ok (.getfield 72, 3) := by decide +kernel
theorem dX11_next0_46 : decode cX11_next0 46 = .ok (.if_icmp .ge 15, 3) := by decide +kernel
theorem dX11_next0_49 : decode cX11_next0 49 = .ok (.aload_n 0, 1) := by decide +kernel
theorem dX11_next0_50 : decode cX11_next0 50 = .ok (.getfield 7, 3) := by decide +kernel
theorem dX11_next0_53 : decode cX11_next0 53 = .ok (.aload_n 0, 1) := by decide +kernel
theorem dX11_next0_54 : decode cX11_next0 54 = .ok (.getfield 76, 3) := by decide +kernel
theorem dX11_next0_57 : decode cX11_next0 57 = .ok (.iaload, 1) := by decide +kernel
theorem dX11_next0_58 : decode cX11_next0 58 = .ok (.goto 4, 3) := by decide +kernel
theorem dX11_next0_61 : decode cX11_next0 61 = .ok (.iconst (-1), 1) := by decide +kernel
theorem dX11_next0_62 : decode cX11_next0 62 = .ok (.ireturn, 1) := by decide +kernel
theorem dX11_isFigure_0 : decode cX11_isFigure 0 = .ok (.iload_n 0, 1) := by decide +kernel
theorem dX11_isFigure_1 : decode cX11_isFigure 1 = .ok (.bipush 48, 2) := by decide +kernel
theorem dX11_isFigure_3 : decode cX11_isFigure 3 = .ok (.bipush 57, 2) := by decide +kernel
theorem dX11_isFigure_5 : decode cX11_isFigure 5 = .ok (.invokestatic 67, 3) := by decide +kernel
theorem dX11_isFigure_8 : decode cX11_isFigure 8 = .ok (.ireturn, 1) := by decide +kernel
theorem dX11_faulty_0 : decode cX11_faulty 0 = .ok (.aload_n 0, 1) := by decide +kernel
theorem dX11_faulty_1 : decode cX11_faulty 1 = .ok (.iload_n 1, 1) := by decide +kernel
theorem dX11_faulty_2 : decode cX11_faulty 2 = .ok (.putfield 79, 3) := by decide +kernel
theorem dX11_faulty_5 : decode cX11_faulty 5 = .ok (.iconst 0, 1) := by decide +kernel
theorem dX11_faulty_6 : decode cX11_faulty 6 = .ok (.ireturn, 1) := by decide +kernel
theorem dX11_number_0 : decode cX11_number 0 = .ok (.aload_n 0, 1) := by decide +kernel
theorem dX11_number_1 : decode cX11_number 1 = .ok (.invokevirtual 82, 3) := by decide +kernel
theorem dX11_number_4 : decode cX11_number 4 = .ok (.invokestatic 86, 3) := by decide +kernel
theorem dX11_number_7 : decode cX11_number 7 = .ok (.ifCond .ne 9, 3) := by decide +kernel
theorem dX11_number_10 : decode cX11_number 10 = .ok (.aload_n 0, 1) := by decide +kernel
theorem dX11_number_11 : decode cX11_number 11 = .ok (.iconst 1, 1) := by decide +kernel
theorem dX11_number_12 : decode cX11_number 12 = .ok (.invokevirtual 90, 3) := by decide +kernel
theorem dX11_number_15 : decode cX11_number 15 = .ok (.ireturn, 1) := by decide +kernel
theorem dX11_number_16 : decode cX11_number 16 = .ok (.aload_n 0, 1) := by decide +kernel
theorem dX11_number_17 : decode cX11_number 17 = .ok (.getfield 76, 3) := by decide +kernel
theorem dX11_number_20 : decode cX11_number 20 = .ok (.istore 4, 2) := by decide +kernel
theorem dX11_number_22 : decode cX11_number 22 = .ok (.iconst 0, 1) := by decide +kernel
theorem dX11_number_23 : decode cX11_number 23 = .ok (.istore 5, 2) := by decide +kernel
theorem dX11_number_25 : decode cX11_number 25 = .ok (.aload_n 0, 1) := by decide +kernel
theorem dX11_number_26 : decode cX11_number 26 = .ok (.getfield 76, 3) := by decide +kernel
theorem dX11_number_29 : decode cX11_number 29 = .ok (.aload_n 0, 1) := by decide +kernel
theorem dX11_number_30 : decode cX11_number 30 = .ok (.getfield 72, 3) := by decide +kernel
theorem dX11_number_33 : decode cX11_number 33 = .ok (.if_icmp .ge 68, 3) := by decide +kernel
theorem dX11_number_36 : decode cX11_number 36 = .ok (.aload_n 0, 1) := by decide +kernel
theorem dX11_number_37 : decode cX11_number 37 = .ok (.getfield 7, 3) := by decide +kernel
theorem dX11_number_40 : decode cX11_number 40 = .ok (.aload_n 0, 1) := by decide +kernel
theorem dX11_number_41 : decode cX11_number 41 = .ok (.getfield 76, 3) := by decide +kernel
theorem dX11_number_44 : decode cX11_number 44 = .ok (.iaload, 1) := by decide +kernel
theorem dX11_number_45 : decode cX11_number 45 = .ok (.invokestatic 86, 3) := by decide +kernel
theorem dX11_number_48 : decode cX11_number 48 = .ok (.ifCond .eq 53, 3) := by decide +kernel
theorem dX11_number_51 : decode cX11_number 51 = .ok (.aload_n 0, 1) := by decide +kernel
theorem dX11_number_52 : decode cX11_number 52 = .ok (.getfield 76, 3) := by decide +kernel
theorem dX11_number_55 : decode cX11_number 55 = .ok (.iload 4, 2) := by decide +kernel
theorem dX11_number_57 : decode cX11_number 57 = .ok (.isub, 1) := by decide +kernel
theorem dX11_number_58 : decode cX11_number 58 = .ok (.iconst 2, 1) := by decide +kernel
theorem dX11_number_59 : decode cX11_number 59 = .ok (.if_icmp .le 9, 3) := by decide +kernel
theorem dX11_number_62 : decode cX11_number 62 = .ok (.sipush 1000, 3) := by decide +kernel
theorem dX11_number_65 : decode cX11_number 65 = .ok (.goto 21, 3) := by decide +kernel
theorem dX11_number_68 : decode cX11_number 68 = .ok (.bipush 10, 2) := by decide +kernel
theorem dX11_number_70 : decode cX11_number 70 = .ok (.iload 5, 2) := by decide +kernel
theorem dX11_number_72 : decode cX11_number 72 = .ok (.imul, 1) := by decide +kernel
theorem dX11_number_73 : decode cX11_number 73 = .ok (.aload_n 0, 1) := by decide +kernel
theorem dX11_number_74 : decode cX11_number 74 = .ok (.getfield 7, 3) := by decide +kernel
theorem dX11_number_77 : decode cX11_number 77 = .ok (.aload_n 0, 1) := by decide +kernel
theorem dX11_number_78 : decode cX11_number 78 = .ok (.getfield 76, 3) := by decide +kernel
theorem dX11_number_81 : decode cX11_number 81 = .ok (.iaload, 1) := by decide +kernel
theorem dX11_number_82 : decode cX11_number 82 = .ok (.iadd, 1) := by decide +kernel
theorem dX11_number_83 : decode cX11_number 83 = .ok (.bipush 48, 2) := by decide +kernel
theorem dX11_number_85 : decode cX11_number 85 = .ok (.isub, 1) := by decide +kernel
theorem dX11_number_86 : decode cX11_number 86 = .ok (.istore 5, 2) := by decide +kernel
theorem dX11_number_88 : decode cX11_number 88 = .ok (.aload_n 0, 1) := by decide +kernel
theorem dX11_number_89 : decode cX11_number 89 = .ok (.dup, 1) := by decide +kernel
theorem dX11_number_90 : decode cX11_number 90 = .ok (.getfield 76, 3) := by decide +kernel
theorem dX11_number_93 : decode cX11_number 93 = .ok (.iconst 1, 1) := by decide +kernel
theorem dX11_number_94 : decode cX11_number 94 = .ok (.iadd, 1) := by decide +kernel
theorem dX11_number_95 : decode cX11_number 95 = .ok (.putfield 76, 3) := by decide +kernel
theorem dX11_number_98 : decode cX11_number 98 = .ok (.goto (-73), 3) := by decide +kernel
theorem dX11_number_101 : decode cX11_number 101 = .ok (.aload_n 0, 1) := by decide +kernel
theorem dX11_number_102 : decode cX11_number 102 = .ok (.getfield 76, 3) := by decide +kernel
theorem dX11_number_105 : decode cX11_number 105 = .ok (.iload 4, 2) := by decide +kernel
theorem dX11_number_107 : decode cX11_number 107 = .ok (.isub, 1) := by decide +kernel
theorem dX11_number_108 : decode cX11_number 108 = .ok (.iconst 3, 1) := by decide +kernel
theorem dX11_number_109 : decode cX11_number 109 = .ok (.if_icmp .gt 13, 3) := by decide +kernel
theorem dX11_number_112 : decode cX11_number 112 = .ok (.iload 5, 2) := by decide +kernel
theorem dX11_number_114 : decode cX11_number 114 = .ok (.iload_n 2, 1) := by decide +kernel
theorem dX11_number_115 : decode cX11_number 115 = .ok (.iload_n 3, 1) := by decide +kernel
theorem dX11_number_116 : decode cX11_number 116 = .ok (.invokestatic 67, 3) := by decide +kernel
theorem dX11_number_119 : decode cX11_number 119 = .ok (.ifCond .ne 15, 3) := by decide +kernel
theorem dX11_number_122 : decode cX11_number 122 = .ok (.aload_n 0, 1) := by decide +kernel
theorem dX11_number_123 : decode cX11_number 123 = .ok (.iload 4, 2) := by decide +kernel
theorem dX11_number_125 : decode cX11_number 125 = .ok (.putfield 76, 3) := by decide +kernel
theorem dX11_number_128 : decode cX11_number 128 = .ok (.aload_n 0, 1) := by decide +kernel
theorem dX11_number_129 : decode cX11_number 129 = .ok (.iconst 2, 1) := by decide +kernel
theorem dX11_number_130 : decode cX11_number 130 = .ok (.invokevirtual 90, 3) := by decide +kernel
theorem dX11_number_133 : decode cX11_number 133 = .ok (.ireturn, 1) := by decide +kernel
theorem dX11_number_134 : decode cX11_number 134 = .ok (.aload_n 0, 1) := by decide +kernel
theorem dX11_number_135 : decode cX11_number 135 = .ok (.getfield 16, 3) := by decide +kernel
theorem dX11_number_138 : decode cX11_number 138 = .ok (.iload_n 1, 1) := by decide +kernel
theorem dX11_number_139 : decode cX11_number 139 = .ok (.iload 5, 2) := by decide +kernel
theorem dX11_number_141 : decode cX11_number 141 = .ok (.iastore, 1) := by decide +kernel
theorem dX11_number_142 : decode cX11_number 142 = .ok (.iconst 1, 1) := by decide +kernel
theorem dX11_number_143 : decode cX11_number 143 = .ok (.ireturn, 1) := by decide +kernel
theorem dX11_ends_0 : decode cX11_ends 0 = .ok (.aload_n 0, 1) := by decide +kernel
theorem dX11_ends_1 : decode cX11_ends 1 = .ok (.invokevirtual 82, 3) := by decide +kernel
theorem dX11_ends_4 : decode cX11_ends 4 = .ok (.bipush 59, 2) := by decide +kernel
theorem dX11_ends_6 : decode cX11_ends 6 = .ok (.if_icmp .eq 9, 3) := by decide +kernel
theorem dX11_ends_9 : decode cX11_ends 9 = .ok (.aload_n 0, 1) := by decide +kernel
theorem dX11_ends_10 : decode cX11_ends 10 = .ok (.iconst 1, 1) := by decide +kernel
theorem dX11_ends_11 : decode cX11_ends 11 = .ok (.invokevirtual 90, 3) := by decide +kernel
theorem dX11_ends_14 : decode cX11_ends 14 = .ok (.ireturn, 1) := by decide +kernel
theorem dX11_ends_15 : decode cX11_ends 15 = .ok (.aload_n 0, 1) := by decide +kernel
theorem dX11_ends_16 : decode cX11_ends 16 = .ok (.dup, 1) := by decide +kernel
theorem dX11_ends_17 : decode cX11_ends 17 = .ok (.getfield 76, 3) := by decide +kernel
theorem dX11_ends_20 : decode cX11_ends 20 = .ok (.iconst 1, 1) := by decide +kernel
theorem dX11_ends_21 : decode cX11_ends 21 = .ok (.iadd, 1) := by decide +kernel
theorem dX11_ends_22 : decode cX11_ends 22 = .ok (.putfield 76, 3) := by decide +kernel
theorem dX11_ends_25 : decode cX11_ends 25 = .ok (.iconst 1, 1) := by decide +kernel
theorem dX11_ends_26 : decode cX11_ends 26 = .ok (.ireturn, 1) := by decide +kernel
theorem dX11_readsWord_0 : decode cX11_readsWord 0 = .ok (.aload_n 0, 1) := by decide +kernel
theorem dX11_readsWord_1 : decode cX11_readsWord 1 = .ok (.getfield 16, 3) := by decide +kernel
theorem dX11_readsWord_4 : decode cX11_readsWord 4 = .ok (.iconst 2, 1) := by decide +kernel
theorem dX11_readsWord_5 : decode cX11_readsWord 5 = .ok (.iaload, 1) := by decide +kernel
theorem dX11_readsWord_6 : decode cX11_readsWord 6 = .ok (.istore_n 1, 1) := by decide +kernel
theorem dX11_readsWord_7 : decode cX11_readsWord 7 = .ok (.iconst 0, 1) := by decide +kernel
theorem dX11_readsWord_8 : decode cX11_readsWord 8 = .ok (.istore_n 2, 1) := by decide +kernel
theorem dX11_readsWord_9 : decode cX11_readsWord 9 = .ok (.iload_n 2, 1) := by decide +kernel
theorem dX11_readsWord_10 : decode cX11_readsWord 10 = .ok (.iconst 4, 1) := by decide +kernel
theorem dX11_readsWord_11 : decode cX11_readsWord 11 = .ok (.if_icmp .ge 67, 3) := by decide +kernel
theorem dX11_readsWord_14 : decode cX11_readsWord 14 = .ok (.aload_n 0, 1) := by decide +kernel
theorem dX11_readsWord_15 : decode cX11_readsWord 15 = .ok (.bipush 19, 2) := by decide +kernel
theorem dX11_readsWord_17 : decode cX11_readsWord 17 = .ok (.iconst 4, 1) := by decide +kernel
theorem dX11_readsWord_18 : decode cX11_readsWord 18 = .ok (.iload_n 1, 1) := by decide +kernel
theorem dX11_readsWord_19 : decode cX11_readsWord 19 = .ok (.imul, 1) := by decide +kernel
theorem dX11_readsWord_20 : decode cX11_readsWord 20 = .ok (.iadd, 1) := by decide +kernel
theorem dX11_readsWord_21 : decode cX11_readsWord 21 = .ok (.iload_n 2, 1) := by decide +kernel
theorem dX11_readsWord_22 : decode cX11_readsWord 22 = .ok (.iadd, 1) := by decide +kernel
theorem dX11_readsWord_23 : decode cX11_readsWord 23 = .ok (.iconst 0, 1) := by decide +kernel
theorem dX11_readsWord_24 : decode cX11_readsWord 24 = .ok (.iconst 5, 1) := by decide +kernel
theorem dX11_readsWord_25 : decode cX11_readsWord 25 = .ok (.invokevirtual 93, 3) := by decide +kernel
theorem dX11_readsWord_28 : decode cX11_readsWord 28 = .ok (.ifCond .ne 5, 3) := by decide +kernel
theorem dX11_readsWord_31 : decode cX11_readsWord 31 = .ok (.iconst 0, 1) := by decide +kernel
theorem dX11_readsWord_32 : decode cX11_readsWord 32 = .ok (.ireturn, 1) := by decide +kernel
theorem dX11_readsWord_33 : decode cX11_readsWord 33 = .ok (.aload_n 0, 1) := by decide +kernel
theorem dX11_readsWord_34 : decode cX11_readsWord 34 = .ok (.invokevirtual 82, 3) := by decide +kernel
theorem dX11_readsWord_37 : decode cX11_readsWord 37 = .ok (.bipush 44, 2) := by decide +kernel
theorem dX11_readsWord_39 : decode cX11_readsWord 39 = .ok (.if_icmp .eq 18, 3) := by decide +kernel
theorem dX11_readsWord_42 : decode cX11_readsWord 42 = .ok (.aload_n 0, 1) := by decide +kernel
theorem dX11_readsWord_43 : decode cX11_readsWord 43 = .ok (.getfield 16, 3) := by decide +kernel
theorem dX11_readsWord_46 : decode cX11_readsWord 46 = .ok (.iconst 2, 1) := by decide +kernel
theorem dX11_readsWord_47 : decode cX11_readsWord 47 = .ok (.dup2, 1) := by decide +kernel
theorem dX11_readsWord_48 : decode cX11_readsWord 48 = .ok (.iaload, 1) := by decide +kernel
theorem dX11_readsWord_49 : decode cX11_readsWord 49 = .ok (.iconst 1, 1) := by decide +kernel
theorem dX11_readsWord_50 : decode cX11_readsWord 50 = .ok (.iadd, 1) := by decide +kernel
theorem dX11_readsWord_51 : decode cX11_readsWord 51 = .ok (.iastore, 1) := by decide +kernel
theorem dX11_readsWord_52 : decode cX11_readsWord 52 = .ok (.aload_n 0, 1) := by decide +kernel
theorem dX11_readsWord_53 : decode cX11_readsWord 53 = .ok (.invokevirtual 96, 3) := by decide +kernel
theorem dX11_readsWord_56 : decode cX11_readsWord 56 = .ok (.ireturn, 1) := by decide +kernel
theorem dX11_readsWord_57 : decode cX11_readsWord 57 = .ok (.iload_n 2, 1) := by decide +kernel
theorem dX11_readsWord_58 : decode cX11_readsWord 58 = .ok (.iconst 3, 1) := by decide +kernel
theorem dX11_readsWord_59 : decode cX11_readsWord 59 = .ok (.if_icmp .ge 13, 3) := by decide +kernel
theorem dX11_readsWord_62 : decode cX11_readsWord 62 = .ok (.aload_n 0, 1) := by decide +kernel
theorem dX11_readsWord_63 : decode cX11_readsWord 63 = .ok (.dup, 1) := by decide +kernel
theorem dX11_readsWord_64 : decode cX11_readsWord 64 = .ok (.getfield 76, 3) := by decide +kernel
theorem dX11_readsWord_67 : decode cX11_readsWord 67 = .ok (.iconst 1, 1) := by decide +kernel
theorem dX11_readsWord_68 : decode cX11_readsWord 68 = .ok (.iadd, 1) := by decide +kernel
theorem dX11_readsWord_69 : decode cX11_readsWord 69 = .ok (.putfield 76, 3) := by decide +kernel
theorem dX11_readsWord_72 : decode cX11_readsWord 72 = .ok (.iinc 2 1, 3) := by decide +kernel
theorem dX11_readsWord_75 : decode cX11_readsWord 75 = .ok (.goto (-66), 3) := by decide +kernel
theorem dX11_readsWord_78 : decode cX11_readsWord 78 = .ok (.aload_n 0, 1) := by decide +kernel
theorem dX11_readsWord_79 : decode cX11_readsWord 79 = .ok (.iconst 1, 1) := by decide +kernel
theorem dX11_readsWord_80 : decode cX11_readsWord 80 = .ok (.invokevirtual 90, 3) := by decide +kernel
theorem dX11_readsWord_83 : decode cX11_readsWord 83 = .ok (.ireturn, 1) := by decide +kernel
theorem dX11_readsClause_0 : decode cX11_readsClause 0 = .ok (.iload_n 1, 1) := by decide +kernel
theorem dX11_readsClause_1 : decode cX11_readsClause 1 = .ok (.bipush 121, 2) := by decide +kernel
theorem dX11_readsClause_3 : decode cX11_readsClause 3 = .ok (.if_icmp .ne 60, 3) := by decide +kernel
theorem dX11_readsClause_6 : decode cX11_readsClause 6 = .ok (.aload_n 0, 1) := by decide +kernel
theorem dX11_readsClause_7 : decode cX11_readsClause 7 = .ok (.getfield 16, 3) := by decide +kernel
theorem dX11_readsClause_10 : decode cX11_readsClause 10 = .ok (.iconst 0, 1) := by decide +kernel
theorem dX11_readsClause_11 : decode cX11_readsClause 11 = .ok (.iaload, 1) := by decide +kernel
theorem dX11_readsClause_12 : decode cX11_readsClause 12 = .ok (.iconst 1, 1) := by decide +kernel
theorem dX11_readsClause_13 : decode cX11_readsClause 13 = .ok (.if_icmp .ne 9, 3) := by decide +kernel
theorem dX11_readsClause_16 : decode cX11_readsClause 16 = .ok (.aload_n 0, 1) := by decide +kernel
theorem dX11_readsClause_17 : decode cX11_readsClause 17 = .ok (.iconst 3, 1) := by decide +kernel
theorem dX11_readsClause_18 : decode cX11_readsClause 18 = .ok (.invokevirtual 90, 3) := by decide +kernel
theorem dX11_readsClause_21 : decode cX11_readsClause 21 = .ok (.ireturn, 1) := by decide +kernel
theorem dX11_readsClause_22 : decode cX11_readsClause 22 = .ok (.aload_n 0, 1) := by decide +kernel
theorem dX11_readsClause_23 : decode cX11_readsClause 23 = .ok (.getfield 16, 3) := by decide +kernel
theorem dX11_readsClause_26 : decode cX11_readsClause 26 = .ok (.iconst 0, 1) := by decide +kernel
theorem dX11_readsClause_27 : decode cX11_readsClause 27 = .ok (.iconst 1, 1) := by decide +kernel
theorem dX11_readsClause_28 : decode cX11_readsClause 28 = .ok (.iastore, 1) := by decide +kernel
theorem dX11_readsClause_29 : decode cX11_readsClause 29 = .ok (.aload_n 0, 1) := by decide +kernel
theorem dX11_readsClause_30 : decode cX11_readsClause 30 = .ok (.dup, 1) := by decide +kernel
theorem dX11_readsClause_31 : decode cX11_readsClause 31 = .ok (.getfield 76, 3) := by decide +kernel
theorem dX11_readsClause_34 : decode cX11_readsClause 34 = .ok (.iconst 1, 1) := by decide +kernel
theorem dX11_readsClause_35 : decode cX11_readsClause 35 = .ok (.iadd, 1) := by decide +kernel
theorem dX11_readsClause_36 : decode cX11_readsClause 36 = .ok (.putfield 76, 3) := by decide +kernel
theorem dX11_readsClause_39 : decode cX11_readsClause 39 = .ok (.aload_n 0, 1) := by decide +kernel
theorem dX11_readsClause_40 : decode cX11_readsClause 40 = .ok (.iconst 4, 1) := by decide +kernel
theorem dX11_readsClause_41 : decode cX11_readsClause 41 = .ok (.iconst 0, 1) := by decide +kernel
theorem dX11_readsClause_42 : decode cX11_readsClause 42 = .ok (.bipush 9, 2) := by decide +kernel
theorem dX11_readsClause_44 : decode cX11_readsClause 44 = .ok (.invokevirtual 93, 3) := by decide +kernel
theorem dX11_readsClause_47 : decode cX11_readsClause 47 = .ok (.ifCond .eq 14, 3) := by decide +kernel
theorem dX11_readsClause_50 : decode cX11_readsClause 50 = .ok (.aload_n 0, 1) := by decide +kernel
theorem dX11_readsClause_51 : decode cX11_readsClause 51 = .ok (.invokevirtual 96, 3) := by decide +kernel
theorem dX11_readsClause_54 : decode cX11_readsClause 54 = .ok (.ifCond .eq 7, 3) := by decide +kernel
theorem dX11_readsClause_57 : decode cX11_readsClause 57 = .ok (.iconst 1, 1) := by decide +kernel
theorem dX11_readsClause_58 : decode cX11_readsClause 58 = .ok (.goto 4, 3) := by decide +kernel
theorem dX11_readsClause_61 : decode cX11_readsClause 61 = .ok (.iconst 0, 1) := by decide +kernel
theorem dX11_readsClause_62 : decode cX11_readsClause 62 = .ok (.ireturn, 1) := by decide +kernel
theorem dX11_readsClause_63 : decode cX11_readsClause 63 = .ok (.aload_n 0, 1) := by decide +kernel
theorem dX11_readsClause_64 : decode cX11_readsClause 64 = .ok (.getfield 16, 3) := by decide +kernel
theorem dX11_readsClause_67 : decode cX11_readsClause 67 = .ok (.iconst 0, 1) := by decide +kernel
theorem dX11_readsClause_68 : decode cX11_readsClause 68 = .ok (.iaload, 1) := by decide +kernel
theorem dX11_readsClause_69 : decode cX11_readsClause 69 = .ok (.ifCond .eq 21, 3) := by decide +kernel
theorem dX11_readsClause_72 : decode cX11_readsClause 72 = .ok (.iload_n 1, 1) := by decide +kernel
theorem dX11_readsClause_73 : decode cX11_readsClause 73 = .ok (.bipush 102, 2) := by decide +kernel
theorem dX11_readsClause_75 : decode cX11_readsClause 75 = .ok (.if_icmp .eq 21, 3) := by decide +kernel
theorem dX11_readsClause_78 : decode cX11_readsClause 78 = .ok (.iload_n 1, 1) := by decide +kernel
theorem dX11_readsClause_79 : decode cX11_readsClause 79 = .ok (.bipush 119, 2) := by decide +kernel
theorem dX11_readsClause_81 : decode cX11_readsClause 81 = .ok (.if_icmp .eq 15, 3) := by decide +kernel
theorem dX11_readsClause_84 : decode cX11_readsClause 84 = .ok (.iload_n 1, 1) := by decide +kernel
theorem dX11_readsClause_85 : decode cX11_readsClause 85 = .ok (.bipush 104, 2) := by decide +kernel
theorem dX11_readsClause_87 : decode cX11_readsClause 87 = .ok (.if_icmp .eq 9, 3) := by decide +kernel
theorem dX11_readsClause_90 : decode cX11_readsClause 90 = .ok (.aload_n 0, 1) := by decide +kernel
theorem dX11_readsClause_91 : decode cX11_readsClause 91 = .ok (.iconst 1, 1) := by decide +kernel
theorem dX11_readsClause_92 : decode cX11_readsClause 92 = .ok (.invokevirtual 90, 3) := by decide +kernel
theorem dX11_readsClause_95 : decode cX11_readsClause 95 = .ok (.ireturn, 1) := by decide +kernel
theorem dX11_readsClause_96 : decode cX11_readsClause 96 = .ok (.aload_n 0, 1) := by decide +kernel
theorem dX11_readsClause_97 : decode cX11_readsClause 97 = .ok (.getfield 16, 3) := by decide +kernel
theorem dX11_readsClause_100 : decode cX11_readsClause 100 = .ok (.iconst 1, 1) := by decide +kernel
theorem dX11_readsClause_101 : decode cX11_readsClause 101 = .ok (.iaload, 1) := by decide +kernel
theorem dX11_readsClause_102 : decode cX11_readsClause 102 = .ok (.istore_n 2, 1) := by decide +kernel
theorem dX11_readsClause_103 : decode cX11_readsClause 103 = .ok (.aload_n 0, 1) := by decide +kernel
theorem dX11_readsClause_104 : decode cX11_readsClause 104 = .ok (.getfield 16, 3) := by decide +kernel
theorem dX11_readsClause_107 : decode cX11_readsClause 107 = .ok (.iconst 3, 1) := by decide +kernel
theorem dX11_readsClause_108 : decode cX11_readsClause 108 = .ok (.iaload, 1) := by decide +kernel
theorem dX11_readsClause_109 : decode cX11_readsClause 109 = .ok (.istore_n 3, 1) := by decide +kernel
theorem dX11_readsClause_110 : decode cX11_readsClause 110 = .ok (.iload_n 1, 1) := by decide +kernel
theorem dX11_readsClause_111 : decode cX11_readsClause 111 = .ok (.bipush 102, 2) := by decide +kernel
theorem dX11_readsClause_113 : decode cX11_readsClause 113 = .ok (.if_icmp .ne 9, 3) := by decide +kernel
theorem dX11_readsClause_116 : decode cX11_readsClause 116 = .ok (.iload_n 2, 1) := by decide +kernel
theorem dX11_readsClause_117 : decode cX11_readsClause 117 = .ok (.bipush 7, 2) := by decide +kernel
theorem dX11_readsClause_119 : decode cX11_readsClause 119 = .ok (.if_icmp .eq 31, 3) := by decide +kernel
theorem dX11_readsClause_122 : decode cX11_readsClause 122 = .ok (.iload_n 1, 1) := by decide +kernel
theorem dX11_readsClause_123 : decode cX11_readsClause 123 = .ok (.bipush 119, 2) := by decide +kernel
theorem dX11_readsClause_125 : decode cX11_readsClause 125 = .ok (.if_icmp .ne 14, 3) := by decide +kernel
theorem dX11_readsClause_128 : decode cX11_readsClause 128 = .ok (.aload_n 0, 1) := by decide +kernel
theorem dX11_readsClause_129 : decode cX11_readsClause 129 = .ok (.getfield 16, 3) := by decide +kernel
theorem dX11_readsClause_132 : decode cX11_readsClause 132 = .ok (.iconst 2, 1) := by decide +kernel
theorem dX11_readsClause_133 : decode cX11_readsClause 133 = .ok (.iaload, 1) := by decide +kernel
theorem dX11_readsClause_134 : decode cX11_readsClause 134 = .ok (.bipush 6, 2) := by decide +kernel
theorem dX11_readsClause_136 : decode cX11_readsClause 136 = .ok (.if_icmp .eq 14, 3) := by decide +kernel
theorem dX11_readsClause_139 : decode cX11_readsClause 139 = .ok (.iload_n 1, 1) := by decide +kernel
theorem dX11_readsClause_140 : decode cX11_readsClause 140 = .ok (.bipush 104, 2) := by decide +kernel
theorem dX11_readsClause_142 : decode cX11_readsClause 142 = .ok (.if_icmp .ne 14, 3) := by decide +kernel
theorem dX11_readsClause_145 : decode cX11_readsClause 145 = .ok (.iload_n 3, 1) := by decide +kernel
theorem dX11_readsClause_146 : decode cX11_readsClause 146 = .ok (.iconst 5, 1) := by decide +kernel
theorem dX11_readsClause_147 : decode cX11_readsClause 147 = .ok (.if_icmp .ne 9, 3) := by decide +kernel
theorem dX11_readsClause_150 : decode cX11_readsClause 150 = .ok (.aload_n 0, 1) := by decide +kernel
theorem dX11_readsClause_151 : decode cX11_readsClause 151 = .ok (.iconst 3, 1) := by decide +kernel
theorem dX11_readsClause_152 : decode cX11_readsClause 152 = .ok (.invokevirtual 90, 3) := by decide +kernel
theorem dX11_readsClause_155 : decode cX11_readsClause 155 = .ok (.ireturn, 1) := by decide +kernel
theorem dX11_readsClause_156 : decode cX11_readsClause 156 = .ok (.aload_n 0, 1) := by decide +kernel
theorem dX11_readsClause_157 : decode cX11_readsClause 157 = .ok (.dup, 1) := by decide +kernel
theorem dX11_readsClause_158 : decode cX11_readsClause 158 = .ok (.getfield 76, 3) := by decide +kernel
theorem dX11_readsClause_161 : decode cX11_readsClause 161 = .ok (.iconst 1, 1) := by decide +kernel
theorem dX11_readsClause_162 : decode cX11_readsClause 162 = .ok (.iadd, 1) := by decide +kernel
theorem dX11_readsClause_163 : decode cX11_readsClause 163 = .ok (.putfield 76, 3) := by decide +kernel
theorem dX11_readsClause_166 : decode cX11_readsClause 166 = .ok (.iload_n 1, 1) := by decide +kernel
theorem dX11_readsClause_167 : decode cX11_readsClause 167 = .ok (.bipush 119, 2) := by decide +kernel
theorem dX11_readsClause_169 : decode cX11_readsClause 169 = .ok (.if_icmp .ne 8, 3) := by decide +kernel
theorem dX11_readsClause_172 : decode cX11_readsClause 172 = .ok (.aload_n 0, 1) := by decide +kernel
theorem dX11_readsClause_173 : decode cX11_readsClause 173 = .ok (.invokevirtual 100, 3) := by decide +kernel
theorem dX11_readsClause_176 : decode cX11_readsClause 176 = .ok (.ireturn, 1) := by decide +kernel
theorem dX11_readsClause_177 : decode cX11_readsClause 177 = .ok (.iload_n 1, 1) := by decide +kernel
theorem dX11_readsClause_178 : decode cX11_readsClause 178 = .ok (.bipush 102, 2) := by decide +kernel
theorem dX11_readsClause_180 : decode cX11_readsClause 180 = .ok (.if_icmp .ne 52, 3) := by decide +kernel
theorem dX11_readsClause_183 : decode cX11_readsClause 183 = .ok (.aload_n 0, 1) := by decide +kernel
theorem dX11_readsClause_184 : decode cX11_readsClause 184 = .ok (.getfield 16, 3) := by decide +kernel
theorem dX11_readsClause_187 : decode cX11_readsClause 187 = .ok (.iconst 1, 1) := by decide +kernel
theorem dX11_readsClause_188 : decode cX11_readsClause 188 = .ok (.dup2, 1) := by decide +kernel
theorem dX11_readsClause_189 : decode cX11_readsClause 189 = .ok (.iaload, 1) := by decide +kernel
theorem dX11_readsClause_190 : decode cX11_readsClause 190 = .ok (.iconst 1, 1) := by decide +kernel
theorem dX11_readsClause_191 : decode cX11_readsClause 191 = .ok (.iadd, 1) := by decide +kernel
theorem dX11_readsClause_192 : decode cX11_readsClause 192 = .ok (.iastore, 1) := by decide +kernel
theorem dX11_readsClause_193 : decode cX11_readsClause 193 = .ok (.aload_n 0, 1) := by decide +kernel
theorem dX11_readsClause_194 : decode cX11_readsClause 194 = .ok (.iconst 5, 1) := by decide +kernel
theorem dX11_readsClause_195 : decode cX11_readsClause 195 = .ok (.iload_n 2, 1) := by decide +kernel
theorem dX11_readsClause_196 : decode cX11_readsClause 196 = .ok (.iadd, 1) := by decide +kernel
theorem dX11_readsClause_197 : decode cX11_readsClause 197 = .ok (.iconst 0, 1) := by decide +kernel
theorem dX11_readsClause_198 : decode cX11_readsClause 198 = .ok (.iconst 5, 1) := by decide +kernel
theorem dX11_readsClause_199 : decode cX11_readsClause 199 = .ok (.invokevirtual 93, 3) := by decide +kernel
theorem dX11_readsClause_202 : decode cX11_readsClause 202 = .ok (.ifCond .eq 28, 3) := by decide +kernel
theorem dX11_readsClause_205 : decode cX11_readsClause 205 = .ok (.aload_n 0, 1) := by decide +kernel
theorem dX11_readsClause_206 : decode cX11_readsClause 206 = .ok (.bipush 12, 2) := by decide +kernel
theorem dX11_readsClause_208 : decode cX11_readsClause 208 = .ok (.iload_n 2, 1) := by decide +kernel
theorem dX11_readsClause_209 : decode cX11_readsClause 209 = .ok (.iadd, 1) := by decide +kernel
theorem dX11_readsClause_210 : decode cX11_readsClause 210 = .ok (.iconst 1, 1) := by decide +kernel
theorem dX11_readsClause_211 : decode cX11_readsClause 211 = .ok (.bipush 9, 2) := by decide +kernel
theorem dX11_readsClause_213 : decode cX11_readsClause 213 = .ok (.invokevirtual 93, 3) := by decide +kernel
theorem dX11_readsClause_216 : decode cX11_readsClause 216 = .ok (.ifCond .eq 14, 3) := by decide +kernel
theorem dX11_readsClause_219 : decode cX11_readsClause 219 = .ok (.aload_n 0, 1) := by decide +kernel
theorem dX11_readsClause_220 : decode cX11_readsClause 220 = .ok (.invokevirtual 96, 3) := by decide +kernel
theorem dX11_readsClause_223 : decode cX11_readsClause 223 = .ok (.ifCond .eq 7, 3) := by decide +kernel
theorem dX11_readsClause_226 : decode cX11_readsClause 226 = .ok (.iconst 1, 1) := by decide +kernel
theorem dX11_readsClause_227 : decode cX11_readsClause 227 = .ok (.goto 4, 3) := by decide +kernel
theorem dX11_readsClause_230 : decode cX11_readsClause 230 = .ok (.iconst 0, 1) := by decide +kernel
theorem dX11_readsClause_231 : decode cX11_readsClause 231 = .ok (.ireturn, 1) := by decide +kernel
theorem dX11_readsClause_232 : decode cX11_readsClause 232 = .ok (.aload_n 0, 1) := by decide +kernel
theorem dX11_readsClause_233 : decode cX11_readsClause 233 = .ok (.getfield 16, 3) := by decide +kernel
theorem dX11_readsClause_236 : decode cX11_readsClause 236 = .ok (.iconst 3, 1) := by decide +kernel
theorem dX11_readsClause_237 : decode cX11_readsClause 237 = .ok (.dup2, 1) := by decide +kernel
theorem dX11_readsClause_238 : decode cX11_readsClause 238 = .ok (.iaload, 1) := by decide +kernel
theorem dX11_readsClause_239 : decode cX11_readsClause 239 = .ok (.iconst 1, 1) := by decide +kernel
theorem dX11_readsClause_240 : decode cX11_readsClause 240 = .ok (.iadd, 1) := by decide +kernel
theorem dX11_readsClause_241 : decode cX11_readsClause 241 = .ok (.iastore, 1) := by decide +kernel
theorem dX11_readsClause_242 : decode cX11_readsClause 242 = .ok (.aload_n 0, 1) := by decide +kernel
theorem dX11_readsClause_243 : decode cX11_readsClause 243 = .ok (.bipush 43, 2) := by decide +kernel
theorem dX11_readsClause_245 : decode cX11_readsClause 245 = .ok (.iconst 2, 1) := by decide +kernel
theorem dX11_readsClause_246 : decode cX11_readsClause 246 = .ok (.iload_n 3, 1) := by decide +kernel
theorem dX11_readsClause_247 : decode cX11_readsClause 247 = .ok (.imul, 1) := by decide +kernel
theorem dX11_readsClause_248 : decode cX11_readsClause 248 = .ok (.iadd, 1) := by decide +kernel
theorem dX11_readsClause_249 : decode cX11_readsClause 249 = .ok (.iconst 0, 1) := by decide +kernel
theorem dX11_readsClause_250 : decode cX11_readsClause 250 = .ok (.bipush 6, 2) := by decide +kernel
theorem dX11_readsClause_252 : decode cX11_readsClause 252 = .ok (.invokevirtual 93, 3) := by decide +kernel
theorem dX11_readsClause_255 : decode cX11_readsClause 255 = .ok (.ifCond .eq 32, 3) := by decide +kernel
theorem dX11_readsClause_258 : decode cX11_readsClause 258 = .ok (.aload_n 0, 1) := by decide +kernel
theorem dX11_readsClause_259 : decode cX11_readsClause 259 = .ok (.bipush 43, 2) := by decide +kernel
theorem dX11_readsClause_261 : decode cX11_readsClause 261 = .ok (.iconst 2, 1) := by decide +kernel
theorem dX11_readsClause_262 : decode cX11_readsClause 262 = .ok (.iload_n 3, 1) := by decide +kernel
theorem dX11_readsClause_263 : decode cX11_readsClause 263 = .ok (.imul, 1) := by decide +kernel
theorem dX11_readsClause_264 : decode cX11_readsClause 264 = .ok (.iadd, 1) := by decide +kernel
theorem dX11_readsClause_265 : decode cX11_readsClause 265 = .ok (.iconst 1, 1) := by decide +kernel
theorem dX11_readsClause_266 : decode cX11_readsClause 266 = .ok (.iadd, 1) := by decide +kernel
theorem dX11_readsClause_267 : decode cX11_readsClause 267 = .ok (.iconst 0, 1) := by decide +kernel
theorem dX11_readsClause_268 : decode cX11_readsClause 268 = .ok (.bipush 6, 2) := by decide +kernel
theorem dX11_readsClause_270 : decode cX11_readsClause 270 = .ok (.invokevirtual 93, 3) := by decide +kernel
theorem dX11_readsClause_273 : decode cX11_readsClause 273 = .ok (.ifCond .eq 14, 3) := by decide +kernel
theorem dX11_readsClause_276 : decode cX11_readsClause 276 = .ok (.aload_n 0, 1) := by decide +kernel
theorem dX11_readsClause_277 : decode cX11_readsClause 277 = .ok (.invokevirtual 96, 3) := by decide +kernel
theorem dX11_readsClause_280 : decode cX11_readsClause 280 = .ok (.ifCond .eq 7, 3) := by decide +kernel
theorem dX11_readsClause_283 : decode cX11_readsClause 283 = .ok (.iconst 1, 1) := by decide +kernel
theorem dX11_readsClause_284 : decode cX11_readsClause 284 = .ok (.goto 4, 3) := by decide +kernel
theorem dX11_readsClause_287 : decode cX11_readsClause 287 = .ok (.iconst 0, 1) := by decide +kernel
theorem dX11_readsClause_288 : decode cX11_readsClause 288 = .ok (.ireturn, 1) := by decide +kernel
theorem dX11_reads_0 : decode cX11_reads 0 = .ok (.iconst 0, 1) := by decide +kernel
theorem dX11_reads_1 : decode cX11_reads 1 = .ok (.istore_n 1, 1) := by decide +kernel
theorem dX11_reads_2 : decode cX11_reads 2 = .ok (.iload_n 1, 1) := by decide +kernel
theorem dX11_reads_3 : decode cX11_reads 3 = .ok (.bipush 53, 2) := by decide +kernel
theorem dX11_reads_5 : decode cX11_reads 5 = .ok (.if_icmp .ge 32, 3) := by decide +kernel
theorem dX11_reads_8 : decode cX11_reads 8 = .ok (.aload_n 0, 1) := by decide +kernel
theorem dX11_reads_9 : decode cX11_reads 9 = .ok (.getfield 16, 3) := by decide +kernel
theorem dX11_reads_12 : decode cX11_reads 12 = .ok (.iload_n 1, 1) := by decide +kernel
theorem dX11_reads_13 : decode cX11_reads 13 = .ok (.iload_n 1, 1) := by decide +kernel
theorem dX11_reads_14 : decode cX11_reads 14 = .ok (.bipush 19, 2) := by decide +kernel
theorem dX11_reads_16 : decode cX11_reads 16 = .ok (.bipush 42, 2) := by decide +kernel
theorem dX11_reads_18 : decode cX11_reads 18 = .ok (.invokestatic 67, 3) := by decide +kernel
theorem dX11_reads_21 : decode cX11_reads 21 = .ok (.ifCond .eq 8, 3) := by decide +kernel
theorem dX11_reads_24 : decode cX11_reads 24 = .ok (.bipush 9, 2) := by decide +kernel
theorem dX11_reads_26 : decode cX11_reads 26 = .ok (.goto 4, 3) := by decide +kernel
theorem dX11_reads_29 : decode cX11_reads 29 = .ok (.iconst 0, 1) := by decide +kernel
theorem dX11_reads_30 : decode cX11_reads 30 = .ok (.iastore, 1) := by decide +kernel
theorem dX11_reads_31 : decode cX11_reads 31 = .ok (.iinc 1 1, 3) := by decide +kernel
theorem dX11_reads_34 : decode cX11_reads 34 = .ok (.goto (-32), 3) := by decide +kernel
theorem dX11_reads_37 : decode cX11_reads 37 = .ok (.aload_n 0, 1) := by decide +kernel
theorem dX11_reads_38 : decode cX11_reads 38 = .ok (.iconst 0, 1) := by decide +kernel
theorem dX11_reads_39 : decode cX11_reads 39 = .ok (.putfield 76, 3) := by decide +kernel
theorem dX11_reads_42 : decode cX11_reads 42 = .ok (.aload_n 0, 1) := by decide +kernel
theorem dX11_reads_43 : decode cX11_reads 43 = .ok (.invokevirtual 82, 3) := by decide +kernel
theorem dX11_reads_46 : decode cX11_reads 46 = .ok (.istore_n 1, 1) := by decide +kernel
theorem dX11_reads_47 : decode cX11_reads 47 = .ok (.iload_n 1, 1) := by decide +kernel
theorem dX11_reads_48 : decode cX11_reads 48 = .ok (.ifCond .lt 21, 3) := by decide +kernel
theorem dX11_reads_51 : decode cX11_reads 51 = .ok (.aload_n 0, 1) := by decide +kernel
theorem dX11_reads_52 : decode cX11_reads 52 = .ok (.iload_n 1, 1) := by decide +kernel
theorem dX11_reads_53 : decode cX11_reads 53 = .ok (.invokevirtual 103, 3) := by decide +kernel
theorem dX11_reads_56 : decode cX11_reads 56 = .ok (.ifCond .ne 5, 3) := by decide +kernel
theorem dX11_reads_59 : decode cX11_reads 59 = .ok (.iconst 0, 1) := by decide +kernel
theorem dX11_reads_60 : decode cX11_reads 60 = .ok (.ireturn, 1) := by decide +kernel
theorem dX11_reads_61 : decode cX11_reads 61 = .ok (.aload_n 0, 1) := by decide +kernel
theorem dX11_reads_62 : decode cX11_reads 62 = .ok (.invokevirtual 82, 3) := by decide +kernel
theorem dX11_reads_65 : decode cX11_reads 65 = .ok (.istore_n 1, 1) := by decide +kernel
theorem dX11_reads_66 : decode cX11_reads 66 = .ok (.goto (-19), 3) := by decide +kernel
theorem dX11_reads_69 : decode cX11_reads 69 = .ok (.iconst 1, 1) := by decide +kernel
theorem dX11_reads_70 : decode cX11_reads 70 = .ok (.ireturn, 1) := by decide +kernel
theorem dX11_cord_0 : decode cX11_cord 0 = .ok (.aload_n 0, 1) := by decide +kernel
theorem dX11_cord_1 : decode cX11_cord 1 = .ok (.invokevirtual 106, 3) := by decide +kernel
theorem dX11_cord_4 : decode cX11_cord 4 = .ok (.istore_n 1, 1) := by decide +kernel
theorem dX11_cord_5 : decode cX11_cord 5 = .ok (.aload_n 0, 1) := by decide +kernel
theorem dX11_cord_6 : decode cX11_cord 6 = .ok (.iconst 0, 1) := by decide +kernel
theorem dX11_cord_7 : decode cX11_cord 7 = .ok (.putfield 72, 3) := by decide +kernel
theorem dX11_cord_10 : decode cX11_cord 10 = .ok (.aload_n 0, 1) := by decide +kernel
theorem dX11_cord_11 : decode cX11_cord 11 = .ok (.iload_n 1, 1) := by decide +kernel
theorem dX11_cord_12 : decode cX11_cord 12 = .ok (.ifCond .eq 7, 3) := by decide +kernel
theorem dX11_cord_15 : decode cX11_cord 15 = .ok (.iconst (-1), 1) := by decide +kernel
theorem dX11_cord_16 : decode cX11_cord 16 = .ok (.goto 7, 3) := by decide +kernel
theorem dX11_cord_19 : decode cX11_cord 19 = .ok (.aload_n 0, 1) := by decide +kernel
theorem dX11_cord_20 : decode cX11_cord 20 = .ok (.getfield 76, 3) := by decide +kernel
theorem dX11_cord_23 : decode cX11_cord 23 = .ok (.putfield 38, 3) := by decide +kernel
theorem dX11_cord_26 : decode cX11_cord 26 = .ok (.iload_n 1, 1) := by decide +kernel
theorem dX11_cord_27 : decode cX11_cord 27 = .ok (.ifCond .ne 11, 3) := by decide +kernel
theorem dX11_cord_30 : decode cX11_cord 30 = .ok (.bipush (-10), 2) := by decide +kernel
theorem dX11_cord_32 : decode cX11_cord 32 = .ok (.aload_n 0, 1) := by decide +kernel
theorem dX11_cord_33 : decode cX11_cord 33 = .ok (.getfield 79, 3) := by decide +kernel
theorem dX11_cord_36 : decode cX11_cord 36 = .ok (.isub, 1) := by decide +kernel
theorem dX11_cord_37 : decode cX11_cord 37 = .ok (.ireturn, 1) := by decide +kernel
theorem dX11_cord_38 : decode cX11_cord 38 = .ok (.iconst 0, 1) := by decide +kernel
theorem dX11_cord_39 : decode cX11_cord 39 = .ok (.istore_n 2, 1) := by decide +kernel
theorem dX11_cord_40 : decode cX11_cord 40 = .ok (.iload_n 2, 1) := by decide +kernel
theorem dX11_cord_41 : decode cX11_cord 41 = .ok (.bipush 53, 2) := by decide +kernel
theorem dX11_cord_43 : decode cX11_cord 43 = .ok (.if_icmp .ge 21, 3) := by decide +kernel
theorem dX11_cord_46 : decode cX11_cord 46 = .ok (.aload_n 0, 1) := by decide +kernel
theorem dX11_cord_47 : decode cX11_cord 47 = .ok (.getfield 13, 3) := by decide +kernel
theorem dX11_cord_50 : decode cX11_cord 50 = .ok (.iload_n 2, 1) := by decide +kernel
theorem dX11_cord_51 : decode cX11_cord 51 = .ok (.aload_n 0, 1) := by decide +kernel
theorem dX11_cord_52 : decode cX11_cord 52 = .ok (.getfield 16, 3) := by decide +kernel
theorem dX11_cord_55 : decode cX11_cord 55 = .ok (.iload_n 2, 1) := by decide +kernel
theorem dX11_cord_56 : decode cX11_cord 56 = .ok (.iaload, 1) := by decide +kernel
theorem dX11_cord_57 : decode cX11_cord 57 = .ok (.iastore, 1) := by decide +kernel
theorem dX11_cord_58 : decode cX11_cord 58 = .ok (.iinc 2 1, 3) := by decide +kernel
theorem dX11_cord_61 : decode cX11_cord 61 = .ok (.goto (-21), 3) := by decide +kernel
theorem dX11_cord_64 : decode cX11_cord 64 = .ok (.iconst 0, 1) := by decide +kernel
theorem dX11_cord_65 : decode cX11_cord 65 = .ok (.istore_n 2, 1) := by decide +kernel
theorem dX11_cord_66 : decode cX11_cord 66 = .ok (.iload_n 2, 1) := by decide +kernel
theorem dX11_cord_67 : decode cX11_cord 67 = .ok (.bipush 25, 2) := by decide +kernel
theorem dX11_cord_69 : decode cX11_cord 69 = .ok (.if_icmp .ge 32, 3) := by decide +kernel
theorem dX11_cord_72 : decode cX11_cord 72 = .ok (.aload_n 0, 1) := by decide +kernel
theorem dX11_cord_73 : decode cX11_cord 73 = .ok (.getfield 19, 3) := by decide +kernel
theorem dX11_cord_76 : decode cX11_cord 76 = .ok (.iload_n 2, 1) := by decide +kernel
theorem dX11_cord_77 : decode cX11_cord 77 = .ok (.iload_n 2, 1) := by decide +kernel
theorem dX11_cord_78 : decode cX11_cord 78 = .ok (.iconst 4, 1) := by decide +kernel
theorem dX11_cord_79 : decode cX11_cord 79 = .ok (.bipush 10, 2) := by decide +kernel
theorem dX11_cord_81 : decode cX11_cord 81 = .ok (.invokestatic 67, 3) := by decide +kernel
theorem dX11_cord_84 : decode cX11_cord 84 = .ok (.ifCond .eq 9, 3) := by decide +kernel
theorem dX11_cord_87 : decode cX11_cord 87 = .ok (.iload_n 2, 1) := by decide +kernel
theorem dX11_cord_88 : decode cX11_cord 88 = .ok (.iconst 4, 1) := by decide +kernel
theorem dX11_cord_89 : decode cX11_cord 89 = .ok (.isub, 1) := by decide +kernel
theorem dX11_cord_90 : decode cX11_cord 90 = .ok (.goto 4, 3) := by decide +kernel
theorem dX11_cord_93 : decode cX11_cord 93 = .ok (.iconst 0, 1) := by decide +kernel
theorem dX11_cord_94 : decode cX11_cord 94 = .ok (.iastore, 1) := by decide +kernel
theorem dX11_cord_95 : decode cX11_cord 95 = .ok (.iinc 2 1, 3) := by decide +kernel
theorem dX11_cord_98 : decode cX11_cord 98 = .ok (.goto (-32), 3) := by decide +kernel
theorem dX11_cord_101 : decode cX11_cord 101 = .ok (.aload_n 0, 1) := by decide +kernel
theorem dX11_cord_102 : decode cX11_cord 102 = .ok (.getfield 19, 3) := by decide +kernel
theorem dX11_cord_105 : decode cX11_cord 105 = .ok (.iconst 1, 1) := by decide +kernel
theorem dX11_cord_106 : decode cX11_cord 106 = .ok (.aload_n 0, 1) := by decide +kernel
theorem dX11_cord_107 : decode cX11_cord 107 = .ok (.getfield 13, 3) := by decide +kernel
theorem dX11_cord_110 : decode cX11_cord 110 = .ok (.iconst 4, 1) := by decide +kernel
theorem dX11_cord_111 : decode cX11_cord 111 = .ok (.iaload, 1) := by decide +kernel
theorem dX11_cord_112 : decode cX11_cord 112 = .ok (.iastore, 1) := by decide +kernel
theorem dX11_cord_113 : decode cX11_cord 113 = .ok (.aload_n 0, 1) := by decide +kernel
theorem dX11_cord_114 : decode cX11_cord 114 = .ok (.getfield 19, 3) := by decide +kernel
theorem dX11_cord_117 : decode cX11_cord 117 = .ok (.iconst 2, 1) := by decide +kernel
theorem dX11_cord_118 : decode cX11_cord 118 = .ok (.aload_n 0, 1) := by decide +kernel
theorem dX11_cord_119 : decode cX11_cord 119 = .ok (.getfield 13, 3) := by decide +kernel
theorem dX11_cord_122 : decode cX11_cord 122 = .ok (.iconst 1, 1) := by decide +kernel
theorem dX11_cord_123 : decode cX11_cord 123 = .ok (.iaload, 1) := by decide +kernel
theorem dX11_cord_124 : decode cX11_cord 124 = .ok (.iastore, 1) := by decide +kernel
theorem dX11_cord_125 : decode cX11_cord 125 = .ok (.aload_n 0, 1) := by decide +kernel
theorem dX11_cord_126 : decode cX11_cord 126 = .ok (.iconst 0, 1) := by decide +kernel
theorem dX11_cord_127 : decode cX11_cord 127 = .ok (.putfield 109, 3) := by decide +kernel
theorem dX11_cord_130 : decode cX11_cord 130 = .ok (.aload_n 0, 1) := by decide +kernel
theorem dX11_cord_131 : decode cX11_cord 131 = .ok (.iconst 0, 1) := by decide +kernel
theorem dX11_cord_132 : decode cX11_cord 132 = .ok (.putfield 112, 3) := by decide +kernel
theorem dX11_cord_135 : decode cX11_cord 135 = .ok (.aload_n 0, 1) := by decide +kernel
theorem dX11_cord_136 : decode cX11_cord 136 = .ok (.iconst 0, 1) := by decide +kernel
theorem dX11_cord_137 : decode cX11_cord 137 = .ok (.putfield 115, 3) := by decide +kernel
theorem dX11_cord_140 : decode cX11_cord 140 = .ok (.aload_n 0, 1) := by decide +kernel
theorem dX11_cord_141 : decode cX11_cord 141 = .ok (.getfield 28, 3) := by decide +kernel
theorem dX11_cord_144 : decode cX11_cord 144 = .ok (.iconst 0, 1) := by decide +kernel
theorem dX11_cord_145 : decode cX11_cord 145 = .ok (.iconst 0, 1) := by decide +kernel
theorem dX11_cord_146 : decode cX11_cord 146 = .ok (.bastore, 1) := by decide +kernel
theorem dX11_cord_147 : decode cX11_cord 147 = .ok (.aload_n 0, 1) := by decide +kernel
theorem dX11_cord_148 : decode cX11_cord 148 = .ok (.getfield 28, 3) := by decide +kernel
theorem dX11_cord_151 : decode cX11_cord 151 = .ok (.iconst 1, 1) := by decide +kernel
theorem dX11_cord_152 : decode cX11_cord 152 = .ok (.iconst 0, 1) := by decide +kernel
theorem dX11_cord_153 : decode cX11_cord 153 = .ok (.bastore, 1) := by decide +kernel
theorem dX11_cord_154 : decode cX11_cord 154 = .ok (.aload_n 0, 1) := by decide +kernel
theorem dX11_cord_155 : decode cX11_cord 155 = .ok (.getfield 13, 3) := by decide +kernel
theorem dX11_cord_158 : decode cX11_cord 158 = .ok (.iconst 1, 1) := by decide +kernel
theorem dX11_cord_159 : decode cX11_cord 159 = .ok (.iaload, 1) := by decide +kernel
theorem dX11_cord_160 : decode cX11_cord 160 = .ok (.ireturn, 1) := by decide +kernel
theorem dX11_fault_0 : decode cX11_fault 0 = .ok (.aload_n 0, 1) := by decide +kernel
theorem dX11_fault_1 : decode cX11_fault 1 = .ok (.getfield 38, 3) := by decide +kernel
theorem dX11_fault_4 : decode cX11_fault 4 = .ok (.ireturn, 1) := by decide +kernel
theorem dX11_placeOf_0 : decode cX11_placeOf 0 = .ok (.iconst (-1), 1) := by decide +kernel
theorem dX11_placeOf_1 : decode cX11_placeOf 1 = .ok (.istore_n 2, 1) := by decide +kernel
theorem dX11_placeOf_2 : decode cX11_placeOf 2 = .ok (.iconst 0, 1) := by decide +kernel
theorem dX11_placeOf_3 : decode cX11_placeOf 3 = .ok (.istore_n 3, 1) := by decide +kernel
theorem dX11_placeOf_4 : decode cX11_placeOf 4 = .ok (.iload_n 3, 1) := by decide +kernel
theorem dX11_placeOf_5 : decode cX11_placeOf 5 = .ok (.aload_n 0, 1) := by decide +kernel
theorem dX11_placeOf_6 : decode cX11_placeOf 6 = .ok (.getfield 19, 3) := by decide +kernel
theorem dX11_placeOf_9 : decode cX11_placeOf 9 = .ok (.iconst 2, 1) := by decide +kernel
theorem dX11_placeOf_10 : decode cX11_placeOf 10 = .ok (.iaload, 1) := by decide +kernel
theorem dX11_placeOf_11 : decode cX11_placeOf 11 = .ok (.if_icmp .ge 27, 3) := by decide +kernel
theorem dX11_placeOf_14 : decode cX11_placeOf 14 = .ok (.aload_n 0, 1) := by decide +kernel
theorem dX11_placeOf_15 : decode cX11_placeOf 15 = .ok (.getfield 19, 3) := by decide +kernel
theorem dX11_placeOf_18 : decode cX11_placeOf 18 = .ok (.iconst 4, 1) := by decide +kernel
theorem dX11_placeOf_19 : decode cX11_placeOf 19 = .ok (.iload_n 3, 1) := by decide +kernel
theorem dX11_placeOf_20 : decode cX11_placeOf 20 = .ok (.iadd, 1) := by decide +kernel
theorem dX11_placeOf_21 : decode cX11_placeOf 21 = .ok (.iaload, 1) := by decide +kernel
theorem dX11_placeOf_22 : decode cX11_placeOf 22 = .ok (.iload_n 1, 1) := by decide +kernel
theorem dX11_placeOf_23 : decode cX11_placeOf 23 = .ok (.if_icmp .ne 7, 3) := by decide +kernel
theorem dX11_placeOf_26 : decode cX11_placeOf 26 = .ok (.iload_n 3, 1) := by decide +kernel
theorem dX11_placeOf_27 : decode cX11_placeOf 27 = .ok (.goto 4, 3) := by decide +kernel
theorem dX11_placeOf_30 : decode cX11_placeOf 30 = .ok (.iload_n 2, 1) := by decide +kernel
theorem dX11_placeOf_31 : decode cX11_placeOf 31 = .ok (.istore_n 2, 1) := by decide +kernel
theorem dX11_placeOf_32 : decode cX11_placeOf 32 = .ok (.iinc 3 1, 3) := by decide +kernel
theorem dX11_placeOf_35 : decode cX11_placeOf 35 = .ok (.goto (-31), 3) := by decide +kernel
theorem dX11_placeOf_38 : decode cX11_placeOf 38 = .ok (.iload_n 2, 1) := by decide +kernel
theorem dX11_placeOf_39 : decode cX11_placeOf 39 = .ok (.ireturn, 1) := by decide +kernel
theorem dX11_isOut_0 : decode cX11_isOut 0 = .ok (.aload_n 0, 1) := by decide +kernel
theorem dX11_isOut_1 : decode cX11_isOut 1 = .ok (.getfield 19, 3) := by decide +kernel
theorem dX11_isOut_4 : decode cX11_isOut 4 = .ok (.iconst 3, 1) := by decide +kernel
theorem dX11_isOut_5 : decode cX11_isOut 5 = .ok (.iaload, 1) := by decide +kernel
theorem dX11_isOut_6 : decode cX11_isOut 6 = .ok (.iload_n 1, 1) := by decide +kernel
theorem dX11_isOut_7 : decode cX11_isOut 7 = .ok (.invokestatic 118, 3) := by decide +kernel
theorem dX11_isOut_10 : decode cX11_isOut 10 = .ok (.istore_n 2, 1) := by decide +kernel
theorem dX11_isOut_11 : decode cX11_isOut 11 = .ok (.aload_n 0, 1) := by decide +kernel
theorem dX11_isOut_12 : decode cX11_isOut 12 = .ok (.getfield 13, 3) := by decide +kernel
theorem dX11_isOut_15 : decode cX11_isOut 15 = .ok (.iconst 5, 1) := by decide +kernel
theorem dX11_isOut_16 : decode cX11_isOut 16 = .ok (.iload_n 1, 1) := by decide +kernel
theorem dX11_isOut_17 : decode cX11_isOut 17 = .ok (.iadd, 1) := by decide +kernel
theorem dX11_isOut_18 : decode cX11_isOut 18 = .ok (.iaload, 1) := by decide +kernel
theorem dX11_isOut_19 : decode cX11_isOut 19 = .ok (.lookupswitch 68 #[(4, 40), (5, 25)], 25) := by decide +kernel
theorem dX11_isOut_44 : decode cX11_isOut 44 = .ok (.aload_n 0, 1) := by decide +kernel
theorem dX11_isOut_45 : decode cX11_isOut 45 = .ok (.getfield 19, 3) := by decide +kernel
theorem dX11_isOut_48 : decode cX11_isOut 48 = .ok (.iconst 1, 1) := by decide +kernel
theorem dX11_isOut_49 : decode cX11_isOut 49 = .ok (.iaload, 1) := by decide +kernel
theorem dX11_isOut_50 : decode cX11_isOut 50 = .ok (.ifCond .le 7, 3) := by decide +kernel
theorem dX11_isOut_53 : decode cX11_isOut 53 = .ok (.iconst 1, 1) := by decide +kernel
theorem dX11_isOut_54 : decode cX11_isOut 54 = .ok (.goto 4, 3) := by decide +kernel
theorem dX11_isOut_57 : decode cX11_isOut 57 = .ok (.iconst 0, 1) := by decide +kernel
theorem dX11_isOut_58 : decode cX11_isOut 58 = .ok (.ireturn, 1) := by decide +kernel
theorem dX11_isOut_59 : decode cX11_isOut 59 = .ok (.iload_n 2, 1) := by decide +kernel
theorem dX11_isOut_60 : decode cX11_isOut 60 = .ok (.ifCond .ne 25, 3) := by decide +kernel
theorem dX11_isOut_63 : decode cX11_isOut 63 = .ok (.aload_n 0, 1) := by decide +kernel
theorem dX11_isOut_64 : decode cX11_isOut 64 = .ok (.getfield 19, 3) := by decide +kernel
theorem dX11_isOut_67 : decode cX11_isOut 67 = .ok (.iconst 1, 1) := by decide +kernel
theorem dX11_isOut_68 : decode cX11_isOut 68 = .ok (.iaload, 1) := by decide +kernel
theorem dX11_isOut_69 : decode cX11_isOut 69 = .ok (.aload_n 0, 1) := by decide +kernel
theorem dX11_isOut_70 : decode cX11_isOut 70 = .ok (.getfield 13, 3) := by decide +kernel
theorem dX11_isOut_73 : decode cX11_isOut 73 = .ok (.bipush 12, 2) := by decide +kernel
theorem dX11_isOut_75 : decode cX11_isOut 75 = .ok (.iload_n 1, 1) := by decide +kernel
theorem dX11_isOut_76 : decode cX11_isOut 76 = .ok (.iadd, 1) := by decide +kernel
theorem dX11_isOut_77 : decode cX11_isOut 77 = .ok (.iaload, 1) := by decide +kernel
theorem dX11_isOut_78 : decode cX11_isOut 78 = .ok (.if_icmp .lt 7, 3) := by decide +kernel
theorem dX11_isOut_81 : decode cX11_isOut 81 = .ok (.iconst 1, 1) := by decide +kernel
theorem dX11_isOut_82 : decode cX11_isOut 82 = .ok (.goto 4, 3) := by decide +kernel
theorem dX11_isOut_85 : decode cX11_isOut 85 = .ok (.iconst 0, 1) := by decide +kernel
theorem dX11_isOut_86 : decode cX11_isOut 86 = .ok (.ireturn, 1) := by decide +kernel
theorem dX11_isOut_87 : decode cX11_isOut 87 = .ok (.aload_n 0, 1) := by decide +kernel
theorem dX11_isOut_88 : decode cX11_isOut 88 = .ok (.getfield 19, 3) := by decide +kernel
theorem dX11_isOut_91 : decode cX11_isOut 91 = .ok (.iconst 1, 1) := by decide +kernel
theorem dX11_isOut_92 : decode cX11_isOut 92 = .ok (.iaload, 1) := by decide +kernel
theorem dX11_isOut_93 : decode cX11_isOut 93 = .ok (.aload_n 0, 1) := by decide +kernel
theorem dX11_isOut_94 : decode cX11_isOut 94 = .ok (.getfield 13, 3) := by decide +kernel
theorem dX11_isOut_97 : decode cX11_isOut 97 = .ok (.bipush 12, 2) := by decide +kernel
theorem dX11_isOut_99 : decode cX11_isOut 99 = .ok (.iload_n 1, 1) := by decide +kernel
theorem dX11_isOut_100 : decode cX11_isOut 100 = .ok (.iadd, 1) := by decide +kernel
theorem dX11_isOut_101 : decode cX11_isOut 101 = .ok (.iaload, 1) := by decide +kernel
theorem dX11_isOut_102 : decode cX11_isOut 102 = .ok (.iload_n 2, 1) := by decide +kernel
theorem dX11_isOut_103 : decode cX11_isOut 103 = .ok (.ifCond .eq 7, 3) := by decide +kernel
theorem dX11_isOut_106 : decode cX11_isOut 106 = .ok (.iconst 2, 1) := by decide +kernel
theorem dX11_isOut_107 : decode cX11_isOut 107 = .ok (.goto 4, 3) := by decide +kernel
theorem dX11_isOut_110 : decode cX11_isOut 110 = .ok (.iconst 0, 1) := by decide +kernel
theorem dX11_isOut_111 : decode cX11_isOut 111 = .ok (.iadd, 1) := by decide +kernel
theorem dX11_isOut_112 : decode cX11_isOut 112 = .ok (.if_icmp .lt 7, 3) := by decide +kernel
theorem dX11_isOut_115 : decode cX11_isOut 115 = .ok (.iconst 1, 1) := by decide +kernel
theorem dX11_isOut_116 : decode cX11_isOut 116 = .ok (.goto 4, 3) := by decide +kernel
theorem dX11_isOut_119 : decode cX11_isOut 119 = .ok (.iconst 0, 1) := by decide +kernel
theorem dX11_isOut_120 : decode cX11_isOut 120 = .ok (.ireturn, 1) := by decide +kernel
theorem dX11_onIt_0 : decode cX11_onIt 0 = .ok (.iconst 0, 1) := by decide +kernel
theorem dX11_onIt_1 : decode cX11_onIt 1 = .ok (.istore_n 1, 1) := by decide +kernel
theorem dX11_onIt_2 : decode cX11_onIt 2 = .ok (.iconst 0, 1) := by decide +kernel
theorem dX11_onIt_3 : decode cX11_onIt 3 = .ok (.istore_n 2, 1) := by decide +kernel
theorem dX11_onIt_4 : decode cX11_onIt 4 = .ok (.iload_n 2, 1) := by decide +kernel
theorem dX11_onIt_5 : decode cX11_onIt 5 = .ok (.aload_n 0, 1) := by decide +kernel
theorem dX11_onIt_6 : decode cX11_onIt 6 = .ok (.getfield 19, 3) := by decide +kernel
theorem dX11_onIt_9 : decode cX11_onIt 9 = .ok (.iconst 2, 1) := by decide +kernel
theorem dX11_onIt_10 : decode cX11_onIt 10 = .ok (.iaload, 1) := by decide +kernel
theorem dX11_onIt_11 : decode cX11_onIt 11 = .ok (.if_icmp .ge 22, 3) := by decide +kernel
theorem dX11_onIt_14 : decode cX11_onIt 14 = .ok (.iload_n 1, 1) := by decide +kernel
theorem dX11_onIt_15 : decode cX11_onIt 15 = .ok (.iconst 1, 1) := by decide +kernel
theorem dX11_onIt_16 : decode cX11_onIt 16 = .ok (.aload_n 0, 1) := by decide +kernel
theorem dX11_onIt_17 : decode cX11_onIt 17 = .ok (.getfield 19, 3) := by decide +kernel
theorem dX11_onIt_20 : decode cX11_onIt 20 = .ok (.iconst 4, 1) := by decide +kernel
theorem dX11_onIt_21 : decode cX11_onIt 21 = .ok (.iload_n 2, 1) := by decide +kernel
theorem dX11_onIt_22 : decode cX11_onIt 22 = .ok (.iadd, 1) := by decide +kernel
theorem dX11_onIt_23 : decode cX11_onIt 23 = .ok (.iaload, 1) := by decide +kernel
theorem dX11_onIt_24 : decode cX11_onIt 24 = .ok (.ishl, 1) := by decide +kernel
theorem dX11_onIt_25 : decode cX11_onIt 25 = .ok (.ior, 1) := by decide +kernel
theorem dX11_onIt_26 : decode cX11_onIt 26 = .ok (.istore_n 1, 1) := by decide +kernel
theorem dX11_onIt_27 : decode cX11_onIt 27 = .ok (.iinc 2 1, 3) := by decide +kernel
theorem dX11_onIt_30 : decode cX11_onIt 30 = .ok (.goto (-26), 3) := by decide +kernel
theorem dX11_onIt_33 : decode cX11_onIt 33 = .ok (.iload_n 1, 1) := by decide +kernel
theorem dX11_onIt_34 : decode cX11_onIt 34 = .ok (.ireturn, 1) := by decide +kernel
theorem dX11_outs_0 : decode cX11_outs 0 = .ok (.iconst 0, 1) := by decide +kernel
theorem dX11_outs_1 : decode cX11_outs 1 = .ok (.istore_n 1, 1) := by decide +kernel
theorem dX11_outs_2 : decode cX11_outs 2 = .ok (.iconst 0, 1) := by decide +kernel
theorem dX11_outs_3 : decode cX11_outs 3 = .ok (.istore_n 2, 1) := by decide +kernel
theorem dX11_outs_4 : decode cX11_outs 4 = .ok (.iload_n 2, 1) := by decide +kernel
theorem dX11_outs_5 : decode cX11_outs 5 = .ok (.aload_n 0, 1) := by decide +kernel
theorem dX11_outs_6 : decode cX11_outs 6 = .ok (.getfield 19, 3) := by decide +kernel
theorem dX11_outs_9 : decode cX11_outs 9 = .ok (.iconst 2, 1) := by decide +kernel
theorem dX11_outs_10 : decode cX11_outs 10 = .ok (.iaload, 1) := by decide +kernel
theorem dX11_outs_11 : decode cX11_outs 11 = .ok (.if_icmp .ge 41, 3) := by decide +kernel
theorem dX11_outs_14 : decode cX11_outs 14 = .ok (.iload_n 1, 1) := by decide +kernel
theorem dX11_outs_15 : decode cX11_outs 15 = .ok (.aload_n 0, 1) := by decide +kernel
theorem dX11_outs_16 : decode cX11_outs 16 = .ok (.aload_n 0, 1) := by decide +kernel
theorem dX11_outs_17 : decode cX11_outs 17 = .ok (.getfield 19, 3) := by decide +kernel
theorem dX11_outs_20 : decode cX11_outs 20 = .ok (.iconst 4, 1) := by decide +kernel
theorem dX11_outs_21 : decode cX11_outs 21 = .ok (.iload_n 2, 1) := by decide +kernel
theorem dX11_outs_22 : decode cX11_outs 22 = .ok (.iadd, 1) := by decide +kernel
theorem dX11_outs_23 : decode cX11_outs 23 = .ok (.iaload, 1) := by decide +kernel
theorem dX11_outs_24 : decode cX11_outs 24 = .ok (.invokevirtual 122, 3) := by decide +kernel
theorem dX11_outs_27 : decode cX11_outs 27 = .ok (.ifCond .eq 16, 3) := by decide +kernel
theorem dX11_outs_30 : decode cX11_outs 30 = .ok (.iconst 1, 1) := by decide +kernel
theorem dX11_outs_31 : decode cX11_outs 31 = .ok (.aload_n 0, 1) := by decide +kernel
theorem dX11_outs_32 : decode cX11_outs 32 = .ok (.getfield 19, 3) := by decide +kernel
theorem dX11_outs_35 : decode cX11_outs 35 = .ok (.iconst 4, 1) := by decide +kernel
theorem dX11_outs_36 : decode cX11_outs 36 = .ok (.iload_n 2, 1) := by decide +kernel
theorem dX11_outs_37 : decode cX11_outs 37 = .ok (.iadd, 1) := by decide +kernel
theorem dX11_outs_38 : decode cX11_outs 38 = .ok (.iaload, 1) := by decide +kernel
theorem dX11_outs_39 : decode cX11_outs 39 = .ok (.ishl, 1) := by decide +kernel
theorem dX11_outs_40 : decode cX11_outs 40 = .ok (.goto 4, 3) := by decide +kernel
theorem dX11_outs_43 : decode cX11_outs 43 = .ok (.iconst 0, 1) := by decide +kernel
theorem dX11_outs_44 : decode cX11_outs 44 = .ok (.ior, 1) := by decide +kernel
theorem dX11_outs_45 : decode cX11_outs 45 = .ok (.istore_n 1, 1) := by decide +kernel
theorem dX11_outs_46 : decode cX11_outs 46 = .ok (.iinc 2 1, 3) := by decide +kernel
theorem dX11_outs_49 : decode cX11_outs 49 = .ok (.goto (-45), 3) := by decide +kernel
theorem dX11_outs_52 : decode cX11_outs 52 = .ok (.iload_n 1, 1) := by decide +kernel
theorem dX11_outs_53 : decode cX11_outs 53 = .ok (.ireturn, 1) := by decide +kernel
theorem dX11_crossed_0 : decode cX11_crossed 0 = .ok (.iconst 0, 1) := by decide +kernel
theorem dX11_crossed_1 : decode cX11_crossed 1 = .ok (.istore_n 1, 1) := by decide +kernel
theorem dX11_crossed_2 : decode cX11_crossed 2 = .ok (.iconst 0, 1) := by decide +kernel
theorem dX11_crossed_3 : decode cX11_crossed 3 = .ok (.istore_n 2, 1) := by decide +kernel
theorem dX11_crossed_4 : decode cX11_crossed 4 = .ok (.iload_n 2, 1) := by decide +kernel
theorem dX11_crossed_5 : decode cX11_crossed 5 = .ok (.aload_n 0, 1) := by decide +kernel
theorem dX11_crossed_6 : decode cX11_crossed 6 = .ok (.getfield 19, 3) := by decide +kernel
theorem dX11_crossed_9 : decode cX11_crossed 9 = .ok (.iconst 2, 1) := by decide +kernel
theorem dX11_crossed_10 : decode cX11_crossed 10 = .ok (.iaload, 1) := by decide +kernel
theorem dX11_crossed_11 : decode cX11_crossed 11 = .ok (.if_icmp .ge 56, 3) := by decide +kernel
theorem dX11_crossed_14 : decode cX11_crossed 14 = .ok (.iload_n 2, 1) := by decide +kernel
theorem dX11_crossed_15 : decode cX11_crossed 15 = .ok (.iconst 1, 1) := by decide +kernel
theorem dX11_crossed_16 : decode cX11_crossed 16 = .ok (.iadd, 1) := by decide +kernel
theorem dX11_crossed_17 : decode cX11_crossed 17 = .ok (.istore_n 3, 1) := by decide +kernel
theorem dX11_crossed_18 : decode cX11_crossed 18 = .ok (.iload_n 3, 1) := by decide +kernel
theorem dX11_crossed_19 : decode cX11_crossed 19 = .ok (.aload_n 0, 1) := by decide +kernel
theorem dX11_crossed_20 : decode cX11_crossed 20 = .ok (.getfield 19, 3) := by decide +kernel
theorem dX11_crossed_23 : decode cX11_crossed 23 = .ok (.iconst 2, 1) := by decide +kernel
theorem dX11_crossed_24 : decode cX11_crossed 24 = .ok (.iaload, 1) := by decide +kernel
theorem dX11_crossed_25 : decode cX11_crossed 25 = .ok (.if_icmp .ge 36, 3) := by decide +kernel
theorem dX11_crossed_28 : decode cX11_crossed 28 = .ok (.iload_n 1, 1) := by decide +kernel
theorem dX11_crossed_29 : decode cX11_crossed 29 = .ok (.aload_n 0, 1) := by decide +kernel
theorem dX11_crossed_30 : decode cX11_crossed 30 = .ok (.getfield 19, 3) := by decide +kernel
theorem dX11_crossed_33 : decode cX11_crossed 33 = .ok (.iconst 4, 1) := by decide +kernel
theorem dX11_crossed_34 : decode cX11_crossed 34 = .ok (.iload_n 2, 1) := by decide +kernel
theorem dX11_crossed_35 : decode cX11_crossed 35 = .ok (.iadd, 1) := by decide +kernel
theorem dX11_crossed_36 : decode cX11_crossed 36 = .ok (.iaload, 1) := by decide +kernel
theorem dX11_crossed_37 : decode cX11_crossed 37 = .ok (.aload_n 0, 1) := by decide +kernel
theorem dX11_crossed_38 : decode cX11_crossed 38 = .ok (.getfield 19, 3) := by decide +kernel
theorem dX11_crossed_41 : decode cX11_crossed 41 = .ok (.iconst 4, 1) := by decide +kernel
theorem dX11_crossed_42 : decode cX11_crossed 42 = .ok (.iload_n 3, 1) := by decide +kernel
theorem dX11_crossed_43 : decode cX11_crossed 43 = .ok (.iadd, 1) := by decide +kernel
theorem dX11_crossed_44 : decode cX11_crossed 44 = .ok (.iaload, 1) := by decide +kernel
theorem dX11_crossed_45 : decode cX11_crossed 45 = .ok (.if_icmp .le 7, 3) := by decide +kernel
theorem dX11_crossed_48 : decode cX11_crossed 48 = .ok (.iconst 1, 1) := by decide +kernel
theorem dX11_crossed_49 : decode cX11_crossed 49 = .ok (.goto 4, 3) := by decide +kernel
theorem dX11_crossed_52 : decode cX11_crossed 52 = .ok (.iconst 0, 1) := by decide +kernel
theorem dX11_crossed_53 : decode cX11_crossed 53 = .ok (.iadd, 1) := by decide +kernel
theorem dX11_crossed_54 : decode cX11_crossed 54 = .ok (.istore_n 1, 1) := by decide +kernel
theorem dX11_crossed_55 : decode cX11_crossed 55 = .ok (.iinc 3 1, 3) := by decide +kernel
theorem dX11_crossed_58 : decode cX11_crossed 58 = .ok (.goto (-40), 3) := by decide +kernel
theorem dX11_crossed_61 : decode cX11_crossed 61 = .ok (.iinc 2 1, 3) := by decide +kernel
theorem dX11_crossed_64 : decode cX11_crossed 64 = .ok (.goto (-60), 3) := by decide +kernel
theorem dX11_crossed_67 : decode cX11_crossed 67 = .ok (.iload_n 1, 1) := by decide +kernel
theorem dX11_crossed_68 : decode cX11_crossed 68 = .ok (.ireturn, 1) := by decide +kernel
theorem dX11_cutAt_0 : decode cX11_cutAt 0 = .ok (.iconst 0, 1) := by decide +kernel
theorem dX11_cutAt_1 : decode cX11_cutAt 1 = .ok (.istore_n 1, 1) := by decide +kernel
theorem dX11_cutAt_2 : decode cX11_cutAt 2 = .ok (.iconst 0, 1) := by decide +kernel
theorem dX11_cutAt_3 : decode cX11_cutAt 3 = .ok (.istore_n 2, 1) := by decide +kernel
theorem dX11_cutAt_4 : decode cX11_cutAt 4 = .ok (.aload_n 0, 1) := by decide +kernel
theorem dX11_cutAt_5 : decode cX11_cutAt 5 = .ok (.getfield 19, 3) := by decide +kernel
theorem dX11_cutAt_8 : decode cX11_cutAt 8 = .ok (.iconst 2, 1) := by decide +kernel
theorem dX11_cutAt_9 : decode cX11_cutAt 9 = .ok (.iaload, 1) := by decide +kernel
theorem dX11_cutAt_10 : decode cX11_cutAt 10 = .ok (.istore_n 3, 1) := by decide +kernel
theorem dX11_cutAt_11 : decode cX11_cutAt 11 = .ok (.iconst 1, 1) := by decide +kernel
theorem dX11_cutAt_12 : decode cX11_cutAt 12 = .ok (.istore 4, 2) := by decide +kernel
theorem dX11_cutAt_14 : decode cX11_cutAt 14 = .ok (.iload 4, 2) := by decide +kernel
theorem dX11_cutAt_16 : decode cX11_cutAt 16 = .ok (.iload_n 3, 1) := by decide +kernel
theorem dX11_cutAt_17 : decode cX11_cutAt 17 = .ok (.if_icmp .ge 64, 3) := by decide +kernel
theorem dX11_cutAt_20 : decode cX11_cutAt 20 = .ok (.aload_n 0, 1) := by decide +kernel
theorem dX11_cutAt_21 : decode cX11_cutAt 21 = .ok (.getfield 19, 3) := by decide +kernel
theorem dX11_cutAt_24 : decode cX11_cutAt 24 = .ok (.iconst 4, 1) := by decide +kernel
theorem dX11_cutAt_25 : decode cX11_cutAt 25 = .ok (.iload 4, 2) := by decide +kernel
theorem dX11_cutAt_27 : decode cX11_cutAt 27 = .ok (.iadd, 1) := by decide +kernel
theorem dX11_cutAt_28 : decode cX11_cutAt 28 = .ok (.iconst 1, 1) := by decide +kernel
theorem dX11_cutAt_29 : decode cX11_cutAt 29 = .ok (.isub, 1) := by decide +kernel
theorem dX11_cutAt_30 : decode cX11_cutAt 30 = .ok (.iaload, 1) := by decide +kernel
theorem dX11_cutAt_31 : decode cX11_cutAt 31 = .ok (.aload_n 0, 1) := by decide +kernel
theorem dX11_cutAt_32 : decode cX11_cutAt 32 = .ok (.getfield 19, 3) := by decide +kernel
theorem dX11_cutAt_35 : decode cX11_cutAt 35 = .ok (.iconst 4, 1) := by decide +kernel
theorem dX11_cutAt_36 : decode cX11_cutAt 36 = .ok (.iload 4, 2) := by decide +kernel
theorem dX11_cutAt_38 : decode cX11_cutAt 38 = .ok (.iadd, 1) := by decide +kernel
theorem dX11_cutAt_39 : decode cX11_cutAt 39 = .ok (.iaload, 1) := by decide +kernel
theorem dX11_cutAt_40 : decode cX11_cutAt 40 = .ok (.if_icmp .le 7, 3) := by decide +kernel
theorem dX11_cutAt_43 : decode cX11_cutAt 43 = .ok (.iconst 1, 1) := by decide +kernel
theorem dX11_cutAt_44 : decode cX11_cutAt 44 = .ok (.goto 4, 3) := by decide +kernel
theorem dX11_cutAt_47 : decode cX11_cutAt 47 = .ok (.iconst 0, 1) := by decide +kernel
theorem dX11_cutAt_48 : decode cX11_cutAt 48 = .ok (.istore 5, 2) := by decide +kernel
theorem dX11_cutAt_50 : decode cX11_cutAt 50 = .ok (.iload_n 1, 1) := by decide +kernel
theorem dX11_cutAt_51 : decode cX11_cutAt 51 = .ok (.iload 5, 2) := by decide +kernel
theorem dX11_cutAt_53 : decode cX11_cutAt 53 = .ok (.ifCond .eq 7, 3) := by decide +kernel
theorem dX11_cutAt_56 : decode cX11_cutAt 56 = .ok (.iconst 1, 1) := by decide +kernel
theorem dX11_cutAt_57 : decode cX11_cutAt 57 = .ok (.goto 4, 3) := by decide +kernel
theorem dX11_cutAt_60 : decode cX11_cutAt 60 = .ok (.iconst 0, 1) := by decide +kernel
theorem dX11_cutAt_61 : decode cX11_cutAt 61 = .ok (.iadd, 1) := by decide +kernel
theorem dX11_cutAt_62 : decode cX11_cutAt 62 = .ok (.istore_n 1, 1) := by decide +kernel
theorem dX11_cutAt_63 : decode cX11_cutAt 63 = .ok (.iload 5, 2) := by decide +kernel
theorem dX11_cutAt_65 : decode cX11_cutAt 65 = .ok (.ifCond .eq 8, 3) := by decide +kernel
theorem dX11_cutAt_68 : decode cX11_cutAt 68 = .ok (.iload 4, 2) := by decide +kernel
theorem dX11_cutAt_70 : decode cX11_cutAt 70 = .ok (.goto 4, 3) := by decide +kernel
theorem dX11_cutAt_73 : decode cX11_cutAt 73 = .ok (.iload_n 2, 1) := by decide +kernel
theorem dX11_cutAt_74 : decode cX11_cutAt 74 = .ok (.istore_n 2, 1) := by decide +kernel
theorem dX11_cutAt_75 : decode cX11_cutAt 75 = .ok (.iinc 4 1, 3) := by decide +kernel
theorem dX11_cutAt_78 : decode cX11_cutAt 78 = .ok (.goto (-64), 3) := by decide +kernel
theorem dX11_cutAt_81 : decode cX11_cutAt 81 = .ok (.iload_n 1, 1) := by decide +kernel
theorem dX11_cutAt_82 : decode cX11_cutAt 82 = .ok (.ifCond .ne 7, 3) := by decide +kernel
theorem dX11_cutAt_85 : decode cX11_cutAt 85 = .ok (.iconst 0, 1) := by decide +kernel
theorem dX11_cutAt_86 : decode cX11_cutAt 86 = .ok (.goto 32, 3) := by decide +kernel
theorem dX11_cutAt_89 : decode cX11_cutAt 89 = .ok (.iload_n 1, 1) := by decide +kernel
theorem dX11_cutAt_90 : decode cX11_cutAt 90 = .ok (.iconst 1, 1) := by decide +kernel
theorem dX11_cutAt_91 : decode cX11_cutAt 91 = .ok (.if_icmp .ne 26, 3) := by decide +kernel
theorem dX11_cutAt_94 : decode cX11_cutAt 94 = .ok (.aload_n 0, 1) := by decide +kernel
theorem dX11_cutAt_95 : decode cX11_cutAt 95 = .ok (.getfield 19, 3) := by decide +kernel
theorem dX11_cutAt_98 : decode cX11_cutAt 98 = .ok (.iconst 4, 1) := by decide +kernel
theorem dX11_cutAt_99 : decode cX11_cutAt 99 = .ok (.iload_n 3, 1) := by decide +kernel
theorem dX11_cutAt_100 : decode cX11_cutAt 100 = .ok (.iadd, 1) := by decide +kernel
theorem dX11_cutAt_101 : decode cX11_cutAt 101 = .ok (.iconst 1, 1) := by decide +kernel
theorem dX11_cutAt_102 : decode cX11_cutAt 102 = .ok (.isub, 1) := by decide +kernel
theorem dX11_cutAt_103 : decode cX11_cutAt 103 = .ok (.iaload, 1) := by decide +kernel
theorem dX11_cutAt_104 : decode cX11_cutAt 104 = .ok (.aload_n 0, 1) := by decide +kernel
theorem dX11_cutAt_105 : decode cX11_cutAt 105 = .ok (.getfield 19, 3) := by decide +kernel
theorem dX11_cutAt_108 : decode cX11_cutAt 108 = .ok (.iconst 4, 1) := by decide +kernel
theorem dX11_cutAt_109 : decode cX11_cutAt 109 = .ok (.iaload, 1) := by decide +kernel
theorem dX11_cutAt_110 : decode cX11_cutAt 110 = .ok (.if_icmp .ge 7, 3) := by decide +kernel
theorem dX11_cutAt_113 : decode cX11_cutAt 113 = .ok (.iload_n 2, 1) := by decide +kernel
theorem dX11_cutAt_114 : decode cX11_cutAt 114 = .ok (.goto 4, 3) := by decide +kernel
theorem dX11_cutAt_117 : decode cX11_cutAt 117 = .ok (.iconst (-1), 1) := by decide +kernel
theorem dX11_cutAt_118 : decode cX11_cutAt 118 = .ok (.ireturn, 1) := by decide +kernel
theorem dX11_longOf_0 : decode cX11_longOf 0 = .ok (.iconst 0, 1) := by decide +kernel
theorem dX11_longOf_1 : decode cX11_longOf 1 = .ok (.istore_n 2, 1) := by decide +kernel
theorem dX11_longOf_2 : decode cX11_longOf 2 = .ok (.iload_n 2, 1) := by decide +kernel
theorem dX11_longOf_3 : decode cX11_longOf 3 = .ok (.iconst 4, 1) := by decide +kernel
theorem dX11_longOf_4 : decode cX11_longOf 4 = .ok (.if_icmp .ge 27, 3) := by decide +kernel
theorem dX11_longOf_7 : decode cX11_longOf 7 = .ok (.aload_n 0, 1) := by decide +kernel
theorem dX11_longOf_8 : decode cX11_longOf 8 = .ok (.getfield 13, 3) := by decide +kernel
theorem dX11_longOf_11 : decode cX11_longOf 11 = .ok (.bipush 19, 2) := by decide +kernel
theorem dX11_longOf_13 : decode cX11_longOf 13 = .ok (.iconst 4, 1) := by decide +kernel
theorem dX11_longOf_14 : decode cX11_longOf 14 = .ok (.iload_n 1, 1) := by decide +kernel
theorem dX11_longOf_15 : decode cX11_longOf 15 = .ok (.imul, 1) := by decide +kernel
theorem dX11_longOf_16 : decode cX11_longOf 16 = .ok (.iadd, 1) := by decide +kernel
theorem dX11_longOf_17 : decode cX11_longOf 17 = .ok (.iload_n 2, 1) := by decide +kernel
theorem dX11_longOf_18 : decode cX11_longOf 18 = .ok (.iadd, 1) := by decide +kernel
theorem dX11_longOf_19 : decode cX11_longOf 19 = .ok (.iaload, 1) := by decide +kernel
theorem dX11_longOf_20 : decode cX11_longOf 20 = .ok (.bipush 9, 2) := by decide +kernel
theorem dX11_longOf_22 : decode cX11_longOf 22 = .ok (.if_icmp .ge 9, 3) := by decide +kernel
theorem dX11_longOf_25 : decode cX11_longOf 25 = .ok (.iinc 2 1, 3) := by decide +kernel
theorem dX11_longOf_28 : decode cX11_longOf 28 = .ok (.goto (-26), 3) := by decide +kernel
theorem dX11_longOf_31 : decode cX11_longOf 31 = .ok (.iload_n 2, 1) := by decide +kernel
theorem dX11_longOf_32 : decode cX11_longOf 32 = .ok (.ireturn, 1) := by decide +kernel
theorem dX11_fits_0 : decode cX11_fits 0 = .ok (.aload_n 0, 1) := by decide +kernel
theorem dX11_fits_1 : decode cX11_fits 1 = .ok (.iload_n 1, 1) := by decide +kernel
theorem dX11_fits_2 : decode cX11_fits 2 = .ok (.invokevirtual 125, 3) := by decide +kernel
theorem dX11_fits_5 : decode cX11_fits 5 = .ok (.istore_n 3, 1) := by decide +kernel
theorem dX11_fits_6 : decode cX11_fits 6 = .ok (.iload_n 2, 1) := by decide +kernel
theorem dX11_fits_7 : decode cX11_fits 7 = .ok (.iload_n 3, 1) := by decide +kernel
theorem dX11_fits_8 : decode cX11_fits 8 = .ok (.iadd, 1) := by decide +kernel
theorem dX11_fits_9 : decode cX11_fits 9 = .ok (.aload_n 0, 1) := by decide +kernel
theorem dX11_fits_10 : decode cX11_fits 10 = .ok (.getfield 19, 3) := by decide +kernel
theorem dX11_fits_13 : decode cX11_fits 13 = .ok (.iconst 2, 1) := by decide +kernel
theorem dX11_fits_14 : decode cX11_fits 14 = .ok (.iaload, 1) := by decide +kernel
theorem dX11_fits_15 : decode cX11_fits 15 = .ok (.if_icmp .gt 7, 3) := by decide +kernel
theorem dX11_fits_18 : decode cX11_fits 18 = .ok (.iconst 1, 1) := by decide +kernel
theorem dX11_fits_19 : decode cX11_fits 19 = .ok (.goto 4, 3) := by decide +kernel
theorem dX11_fits_22 : decode cX11_fits 22 = .ok (.iconst 0, 1) := by decide +kernel
theorem dX11_fits_23 : decode cX11_fits 23 = .ok (.istore 4, 2) := by decide +kernel
theorem dX11_fits_25 : decode cX11_fits 25 = .ok (.iconst 0, 1) := by decide +kernel
theorem dX11_fits_26 : decode cX11_fits 26 = .ok (.istore 5, 2) := by decide +kernel
theorem dX11_fits_28 : decode cX11_fits 28 = .ok (.iload 5, 2) := by decide +kernel
theorem dX11_fits_30 : decode cX11_fits 30 = .ok (.iload_n 3, 1) := by decide +kernel
theorem dX11_fits_31 : decode cX11_fits 31 = .ok (.if_icmp .ge 56, 3) := by decide +kernel
theorem dX11_fits_34 : decode cX11_fits 34 = .ok (.iload 4, 2) := by decide +kernel
theorem dX11_fits_36 : decode cX11_fits 36 = .ok (.ifCond .eq 51, 3) := by decide +kernel
theorem dX11_fits_39 : decode cX11_fits 39 = .ok (.aload_n 0, 1) := by decide +kernel
theorem dX11_fits_40 : decode cX11_fits 40 = .ok (.getfield 13, 3) := by decide +kernel
theorem dX11_fits_43 : decode cX11_fits 43 = .ok (.bipush 19, 2) := by decide +kernel
theorem dX11_fits_45 : decode cX11_fits 45 = .ok (.iconst 4, 1) := by decide +kernel
theorem dX11_fits_46 : decode cX11_fits 46 = .ok (.iload_n 1, 1) := by decide +kernel
theorem dX11_fits_47 : decode cX11_fits 47 = .ok (.imul, 1) := by decide +kernel
theorem dX11_fits_48 : decode cX11_fits 48 = .ok (.iadd, 1) := by decide +kernel
theorem dX11_fits_49 : decode cX11_fits 49 = .ok (.iload 5, 2) := by decide +kernel
theorem dX11_fits_51 : decode cX11_fits 51 = .ok (.iadd, 1) := by decide +kernel
theorem dX11_fits_52 : decode cX11_fits 52 = .ok (.iaload, 1) := by decide +kernel
theorem dX11_fits_53 : decode cX11_fits 53 = .ok (.aload_n 0, 1) := by decide +kernel
theorem dX11_fits_54 : decode cX11_fits 54 = .ok (.getfield 13, 3) := by decide +kernel
theorem dX11_fits_57 : decode cX11_fits 57 = .ok (.iconst 5, 1) := by decide +kernel
theorem dX11_fits_58 : decode cX11_fits 58 = .ok (.aload_n 0, 1) := by decide +kernel
theorem dX11_fits_59 : decode cX11_fits 59 = .ok (.getfield 19, 3) := by decide +kernel
theorem dX11_fits_62 : decode cX11_fits 62 = .ok (.iconst 4, 1) := by decide +kernel
theorem dX11_fits_63 : decode cX11_fits 63 = .ok (.iload_n 2, 1) := by decide +kernel
theorem dX11_fits_64 : decode cX11_fits 64 = .ok (.iadd, 1) := by decide +kernel
theorem dX11_fits_65 : decode cX11_fits 65 = .ok (.iload 5, 2) := by decide +kernel
theorem dX11_fits_67 : decode cX11_fits 67 = .ok (.iadd, 1) := by decide +kernel
theorem dX11_fits_68 : decode cX11_fits 68 = .ok (.iaload, 1) := by decide +kernel
theorem dX11_fits_69 : decode cX11_fits 69 = .ok (.iadd, 1) := by decide +kernel
theorem dX11_fits_70 : decode cX11_fits 70 = .ok (.iaload, 1) := by decide +kernel
theorem dX11_fits_71 : decode cX11_fits 71 = .ok (.if_icmp .ne 7, 3) := by decide +kernel
theorem dX11_fits_74 : decode cX11_fits 74 = .ok (.iconst 1, 1) := by decide +kernel
theorem dX11_fits_75 : decode cX11_fits 75 = .ok (.goto 4, 3) := by decide +kernel
theorem dX11_fits_78 : decode cX11_fits 78 = .ok (.iconst 0, 1) := by decide +kernel
theorem dX11_fits_79 : decode cX11_fits 79 = .ok (.istore 4, 2) := by decide +kernel
theorem dX11_fits_81 : decode cX11_fits 81 = .ok (.iinc 5 1, 3) := by decide +kernel
theorem dX11_fits_84 : decode cX11_fits 84 = .ok (.goto (-56), 3) := by decide +kernel
theorem dX11_fits_87 : decode cX11_fits 87 = .ok (.iload 4, 2) := by decide +kernel
theorem dX11_fits_89 : decode cX11_fits 89 = .ok (.ireturn, 1) := by decide +kernel
theorem dX11_readings_0 : decode cX11_readings 0 = .ok (.aload_n 0, 1) := by decide +kernel
theorem dX11_readings_1 : decode cX11_readings 1 = .ok (.getfield 42, 3) := by decide +kernel
theorem dX11_readings_4 : decode cX11_readings 4 = .ok (.aload_n 0, 1) := by decide +kernel
theorem dX11_readings_5 : decode cX11_readings 5 = .ok (.getfield 19, 3) := by decide +kernel
theorem dX11_readings_8 : decode cX11_readings 8 = .ok (.iconst 2, 1) := by decide +kernel
theorem dX11_readings_9 : decode cX11_readings 9 = .ok (.iaload, 1) := by decide +kernel
theorem dX11_readings_10 : decode cX11_readings 10 = .ok (.iconst 1, 1) := by decide +kernel
theorem dX11_readings_11 : decode cX11_readings 11 = .ok (.iastore, 1) := by decide +kernel
theorem dX11_readings_12 : decode cX11_readings 12 = .ok (.aload_n 0, 1) := by decide +kernel
theorem dX11_readings_13 : decode cX11_readings 13 = .ok (.getfield 19, 3) := by decide +kernel
theorem dX11_readings_16 : decode cX11_readings 16 = .ok (.iconst 2, 1) := by decide +kernel
theorem dX11_readings_17 : decode cX11_readings 17 = .ok (.iaload, 1) := by decide +kernel
theorem dX11_readings_18 : decode cX11_readings 18 = .ok (.iconst 1, 1) := by decide +kernel
theorem dX11_readings_19 : decode cX11_readings 19 = .ok (.isub, 1) := by decide +kernel
theorem dX11_readings_20 : decode cX11_readings 20 = .ok (.istore_n 1, 1) := by decide +kernel
theorem dX11_readings_21 : decode cX11_readings 21 = .ok (.iload_n 1, 1) := by decide +kernel
theorem dX11_readings_22 : decode cX11_readings 22 = .ok (.ifCond .lt 68, 3) := by decide +kernel
theorem dX11_readings_25 : decode cX11_readings 25 = .ok (.aload_n 0, 1) := by decide +kernel
theorem dX11_readings_26 : decode cX11_readings 26 = .ok (.getfield 42, 3) := by decide +kernel
theorem dX11_readings_29 : decode cX11_readings 29 = .ok (.iload_n 1, 1) := by decide +kernel
theorem dX11_readings_30 : decode cX11_readings 30 = .ok (.iconst 0, 1) := by decide +kernel
theorem dX11_readings_31 : decode cX11_readings 31 = .ok (.iastore, 1) := by decide +kernel
theorem dX11_readings_32 : decode cX11_readings 32 = .ok (.iconst 0, 1) := by decide +kernel
theorem dX11_readings_33 : decode cX11_readings 33 = .ok (.istore_n 2, 1) := by decide +kernel
theorem dX11_readings_34 : decode cX11_readings 34 = .ok (.iload_n 2, 1) := by decide +kernel
theorem dX11_readings_35 : decode cX11_readings 35 = .ok (.aload_n 0, 1) := by decide +kernel
theorem dX11_readings_36 : decode cX11_readings 36 = .ok (.getfield 13, 3) := by decide +kernel
theorem dX11_readings_39 : decode cX11_readings 39 = .ok (.iconst 2, 1) := by decide +kernel
theorem dX11_readings_40 : decode cX11_readings 40 = .ok (.iaload, 1) := by decide +kernel
theorem dX11_readings_41 : decode cX11_readings 41 = .ok (.if_icmp .ge 43, 3) := by decide +kernel
theorem dX11_readings_44 : decode cX11_readings 44 = .ok (.aload_n 0, 1) := by decide +kernel
theorem dX11_readings_45 : decode cX11_readings 45 = .ok (.getfield 42, 3) := by decide +kernel
theorem dX11_readings_48 : decode cX11_readings 48 = .ok (.iload_n 1, 1) := by decide +kernel
theorem dX11_readings_49 : decode cX11_readings 49 = .ok (.dup2, 1) := by decide +kernel
theorem dX11_readings_50 : decode cX11_readings 50 = .ok (.iaload, 1) := by decide +kernel
theorem dX11_readings_51 : decode cX11_readings 51 = .ok (.aload_n 0, 1) := by decide +kernel
theorem dX11_readings_52 : decode cX11_readings 52 = .ok (.iload_n 2, 1) := by decide +kernel
theorem dX11_readings_53 : decode cX11_readings 53 = .ok (.iload_n 1, 1) := by decide +kernel
theorem dX11_readings_54 : decode cX11_readings 54 = .ok (.invokevirtual 129, 3) := by decide +kernel
theorem dX11_readings_57 : decode cX11_readings 57 = .ok (.ifCond .eq 18, 3) := by decide +kernel
theorem dX11_readings_60 : decode cX11_readings 60 = .ok (.aload_n 0, 1) := by decide +kernel
theorem dX11_readings_61 : decode cX11_readings 61 = .ok (.getfield 42, 3) := by decide +kernel
theorem dX11_readings_64 : decode cX11_readings 64 = .ok (.iload_n 1, 1) := by decide +kernel
theorem dX11_readings_65 : decode cX11_readings 65 = .ok (.aload_n 0, 1) := by decide +kernel
theorem dX11_readings_66 : decode cX11_readings 66 = .ok (.iload_n 2, 1) := by decide +kernel
theorem dX11_readings_67 : decode cX11_readings 67 = .ok (.invokevirtual 125, 3) := by decide +kernel
theorem dX11_readings_70 : decode cX11_readings 70 = .ok (.iadd, 1) := by decide +kernel
theorem dX11_readings_71 : decode cX11_readings 71 = .ok (.iaload, 1) := by decide +kernel
theorem dX11_readings_72 : decode cX11_readings 72 = .ok (.goto 4, 3) := by decide +kernel
theorem dX11_readings_75 : decode cX11_readings 75 = .ok (.iconst 0, 1) := by decide +kernel
theorem dX11_readings_76 : decode cX11_readings 76 = .ok (.iadd, 1) := by decide +kernel
theorem dX11_readings_77 : decode cX11_readings 77 = .ok (.iastore, 1) := by decide +kernel
theorem dX11_readings_78 : decode cX11_readings 78 = .ok (.iinc 2 1, 3) := by decide +kernel
theorem dX11_readings_81 : decode cX11_readings 81 = .ok (.goto (-47), 3) := by decide +kernel
theorem dX11_readings_84 : decode cX11_readings 84 = .ok (.iinc 1 (-1), 3) := by decide +kernel
theorem dX11_readings_87 : decode cX11_readings 87 = .ok (.goto (-66), 3) := by decide +kernel
theorem dX11_readings_90 : decode cX11_readings 90 = .ok (.aload_n 0, 1) := by decide +kernel
theorem dX11_readings_91 : decode cX11_readings 91 = .ok (.getfield 42, 3) := by decide +kernel
theorem dX11_readings_94 : decode cX11_readings 94 = .ok (.iconst 0, 1) := by decide +kernel
theorem dX11_readings_95 : decode cX11_readings 95 = .ok (.iaload, 1) := by decide +kernel
theorem dX11_readings_96 : decode cX11_readings 96 = .ok (.ireturn, 1) := by decide +kernel
theorem dX11_firstOf_0 : decode cX11_firstOf 0 = .ok (.aload_n 0, 1) := by decide +kernel
theorem dX11_firstOf_1 : decode cX11_firstOf 1 = .ok (.invokevirtual 132, 3) := by decide +kernel
theorem dX11_firstOf_4 : decode cX11_firstOf 4 = .ok (.ifCond .ne 5, 3) := by decide +kernel
theorem dX11_firstOf_7 : decode cX11_firstOf 7 = .ok (.iconst (-1), 1) := by decide +kernel
theorem dX11_firstOf_8 : decode cX11_firstOf 8 = .ok (.ireturn, 1) := by decide +kernel
theorem dX11_firstOf_9 : decode cX11_firstOf 9 = .ok (.iconst 0, 1) := by decide +kernel
theorem dX11_firstOf_10 : decode cX11_firstOf 10 = .ok (.istore_n 1, 1) := by decide +kernel
theorem dX11_firstOf_11 : decode cX11_firstOf 11 = .ok (.iconst 0, 1) := by decide +kernel
theorem dX11_firstOf_12 : decode cX11_firstOf 12 = .ok (.istore_n 2, 1) := by decide +kernel
theorem dX11_firstOf_13 : decode cX11_firstOf 13 = .ok (.iload_n 2, 1) := by decide +kernel
theorem dX11_firstOf_14 : decode cX11_firstOf 14 = .ok (.aload_n 0, 1) := by decide +kernel
theorem dX11_firstOf_15 : decode cX11_firstOf 15 = .ok (.getfield 19, 3) := by decide +kernel
theorem dX11_firstOf_18 : decode cX11_firstOf 18 = .ok (.iconst 2, 1) := by decide +kernel
theorem dX11_firstOf_19 : decode cX11_firstOf 19 = .ok (.iaload, 1) := by decide +kernel
theorem dX11_firstOf_20 : decode cX11_firstOf 20 = .ok (.if_icmp .ge 55, 3) := by decide +kernel
theorem dX11_firstOf_23 : decode cX11_firstOf 23 = .ok (.iconst 0, 1) := by decide +kernel
theorem dX11_firstOf_24 : decode cX11_firstOf 24 = .ok (.istore_n 3, 1) := by decide +kernel
theorem dX11_firstOf_25 : decode cX11_firstOf 25 = .ok (.aload_n 0, 1) := by decide +kernel
theorem dX11_firstOf_26 : decode cX11_firstOf 26 = .ok (.iload_n 3, 1) := by decide +kernel
theorem dX11_firstOf_27 : decode cX11_firstOf 27 = .ok (.iload_n 2, 1) := by decide +kernel
theorem dX11_firstOf_28 : decode cX11_firstOf 28 = .ok (.invokevirtual 129, 3) := by decide +kernel
theorem dX11_firstOf_31 : decode cX11_firstOf 31 = .ok (.ifCond .eq 18, 3) := by decide +kernel
theorem dX11_firstOf_34 : decode cX11_firstOf 34 = .ok (.aload_n 0, 1) := by decide +kernel
theorem dX11_firstOf_35 : decode cX11_firstOf 35 = .ok (.getfield 42, 3) := by decide +kernel
theorem dX11_firstOf_38 : decode cX11_firstOf 38 = .ok (.iload_n 2, 1) := by decide +kernel
theorem dX11_firstOf_39 : decode cX11_firstOf 39 = .ok (.aload_n 0, 1) := by decide +kernel
theorem dX11_firstOf_40 : decode cX11_firstOf 40 = .ok (.iload_n 3, 1) := by decide +kernel
theorem dX11_firstOf_41 : decode cX11_firstOf 41 = .ok (.invokevirtual 125, 3) := by decide +kernel
theorem dX11_firstOf_44 : decode cX11_firstOf 44 = .ok (.iadd, 1) := by decide +kernel
theorem dX11_firstOf_45 : decode cX11_firstOf 45 = .ok (.iaload, 1) := by decide +kernel
theorem dX11_firstOf_46 : decode cX11_firstOf 46 = .ok (.ifCond .ne 9, 3) := by decide +kernel
theorem dX11_firstOf_49 : decode cX11_firstOf 49 = .ok (.iinc 3 1, 3) := by decide +kernel
theorem dX11_firstOf_52 : decode cX11_firstOf 52 = .ok (.goto (-27), 3) := by decide +kernel
theorem dX11_firstOf_55 : decode cX11_firstOf 55 = .ok (.bipush 10, 2) := by decide +kernel
theorem dX11_firstOf_57 : decode cX11_firstOf 57 = .ok (.iload_n 1, 1) := by decide +kernel
theorem dX11_firstOf_58 : decode cX11_firstOf 58 = .ok (.imul, 1) := by decide +kernel
theorem dX11_firstOf_59 : decode cX11_firstOf 59 = .ok (.iload_n 3, 1) := by decide +kernel
theorem dX11_firstOf_60 : decode cX11_firstOf 60 = .ok (.iadd, 1) := by decide +kernel
theorem dX11_firstOf_61 : decode cX11_firstOf 61 = .ok (.iconst 1, 1) := by decide +kernel
theorem dX11_firstOf_62 : decode cX11_firstOf 62 = .ok (.iadd, 1) := by decide +kernel
theorem dX11_firstOf_63 : decode cX11_firstOf 63 = .ok (.istore_n 1, 1) := by decide +kernel
theorem dX11_firstOf_64 : decode cX11_firstOf 64 = .ok (.iload_n 2, 1) := by decide +kernel
theorem dX11_firstOf_65 : decode cX11_firstOf 65 = .ok (.aload_n 0, 1) := by decide +kernel
theorem dX11_firstOf_66 : decode cX11_firstOf 66 = .ok (.iload_n 3, 1) := by decide +kernel
theorem dX11_firstOf_67 : decode cX11_firstOf 67 = .ok (.invokevirtual 125, 3) := by decide +kernel
theorem dX11_firstOf_70 : decode cX11_firstOf 70 = .ok (.iadd, 1) := by decide +kernel
theorem dX11_firstOf_71 : decode cX11_firstOf 71 = .ok (.istore_n 2, 1) := by decide +kernel
theorem dX11_firstOf_72 : decode cX11_firstOf 72 = .ok (.goto (-59), 3) := by decide +kernel
theorem dX11_firstOf_75 : decode cX11_firstOf 75 = .ok (.iload_n 1, 1) := by decide +kernel
theorem dX11_firstOf_76 : decode cX11_firstOf 76 = .ok (.ireturn, 1) := by decide +kernel
theorem dX11_begun_0 : decode cX11_begun 0 = .ok (.iconst 0, 1) := by decide +kernel
theorem dX11_begun_1 : decode cX11_begun 1 = .ok (.istore_n 1, 1) := by decide +kernel
theorem dX11_begun_2 : decode cX11_begun 2 = .ok (.iconst 0, 1) := by decide +kernel
theorem dX11_begun_3 : decode cX11_begun 3 = .ok (.istore_n 2, 1) := by decide +kernel
theorem dX11_begun_4 : decode cX11_begun 4 = .ok (.iload_n 2, 1) := by decide +kernel
theorem dX11_begun_5 : decode cX11_begun 5 = .ok (.aload_n 0, 1) := by decide +kernel
theorem dX11_begun_6 : decode cX11_begun 6 = .ok (.getfield 19, 3) := by decide +kernel
theorem dX11_begun_9 : decode cX11_begun 9 = .ok (.iconst 2, 1) := by decide +kernel
theorem dX11_begun_10 : decode cX11_begun 10 = .ok (.iaload, 1) := by decide +kernel
theorem dX11_begun_11 : decode cX11_begun 11 = .ok (.if_icmp .ge 46, 3) := by decide +kernel
theorem dX11_begun_14 : decode cX11_begun 14 = .ok (.iconst 0, 1) := by decide +kernel
theorem dX11_begun_15 : decode cX11_begun 15 = .ok (.istore_n 3, 1) := by decide +kernel
theorem dX11_begun_16 : decode cX11_begun 16 = .ok (.iload_n 3, 1) := by decide +kernel
theorem dX11_begun_17 : decode cX11_begun 17 = .ok (.aload_n 0, 1) := by decide +kernel
theorem dX11_begun_18 : decode cX11_begun 18 = .ok (.getfield 13, 3) := by decide +kernel
theorem dX11_begun_21 : decode cX11_begun 21 = .ok (.iconst 2, 1) := by decide +kernel
theorem dX11_begun_22 : decode cX11_begun 22 = .ok (.iaload, 1) := by decide +kernel
theorem dX11_begun_23 : decode cX11_begun 23 = .ok (.if_icmp .ge 28, 3) := by decide +kernel
theorem dX11_begun_26 : decode cX11_begun 26 = .ok (.iload_n 1, 1) := by decide +kernel
theorem dX11_begun_27 : decode cX11_begun 27 = .ok (.aload_n 0, 1) := by decide +kernel
theorem dX11_begun_28 : decode cX11_begun 28 = .ok (.iload_n 3, 1) := by decide +kernel
theorem dX11_begun_29 : decode cX11_begun 29 = .ok (.iload_n 2, 1) := by decide +kernel
theorem dX11_begun_30 : decode cX11_begun 30 = .ok (.invokevirtual 129, 3) := by decide +kernel
theorem dX11_begun_33 : decode cX11_begun 33 = .ok (.ifCond .eq 9, 3) := by decide +kernel
theorem dX11_begun_36 : decode cX11_begun 36 = .ok (.iconst 1, 1) := by decide +kernel
theorem dX11_begun_37 : decode cX11_begun 37 = .ok (.iload_n 2, 1) := by decide +kernel
theorem dX11_begun_38 : decode cX11_begun 38 = .ok (.ishl, 1) := by decide +kernel
theorem dX11_begun_39 : decode cX11_begun 39 = .ok (.goto 4, 3) := by decide +kernel
theorem dX11_begun_42 : decode cX11_begun 42 = .ok (.iconst 0, 1) := by decide +kernel
theorem dX11_begun_43 : decode cX11_begun 43 = .ok (.ior, 1) := by decide +kernel
theorem dX11_begun_44 : decode cX11_begun 44 = .ok (.istore_n 1, 1) := by decide +kernel
theorem dX11_begun_45 : decode cX11_begun 45 = .ok (.iinc 3 1, 3) := by decide +kernel
theorem dX11_begun_48 : decode cX11_begun 48 = .ok (.goto (-32), 3) := by decide +kernel
theorem dX11_begun_51 : decode cX11_begun 51 = .ok (.iinc 2 1, 3) := by decide +kernel
theorem dX11_begun_54 : decode cX11_begun 54 = .ok (.goto (-50), 3) := by decide +kernel
theorem dX11_begun_57 : decode cX11_begun 57 = .ok (.iload_n 1, 1) := by decide +kernel
theorem dX11_begun_58 : decode cX11_begun 58 = .ok (.ireturn, 1) := by decide +kernel
theorem dX11_told_0 : decode cX11_told 0 = .ok (.iload_n 1, 1) := by decide +kernel
theorem dX11_told_1 : decode cX11_told 1 = .ok (.tableswitch 208 0 19 #[95, 95, 95, 95, 102, 107, 114, 121, 128, 133, 138, 145, 168, 173, 178, 183, 188, 193, 198, 203], 95) := by decide +kernel
theorem dX11_told_96 : decode cX11_told 96 = .ok (.aload_n 0, 1) := by decide +kernel
theorem dX11_told_97 : decode cX11_told 97 = .ok (.getfield 13, 3) := by decide +kernel
theorem dX11_told_100 : decode cX11_told 100 = .ok (.iload_n 1, 1) := by decide +kernel
theorem dX11_told_101 : decode cX11_told 101 = .ok (.iaload, 1) := by decide +kernel
theorem dX11_told_102 : decode cX11_told 102 = .ok (.ireturn, 1) := by decide +kernel
theorem dX11_told_103 : decode cX11_told 103 = .ok (.aload_n 0, 1) := by decide +kernel
theorem dX11_told_104 : decode cX11_told 104 = .ok (.getfield 72, 3) := by decide +kernel
theorem dX11_told_107 : decode cX11_told 107 = .ok (.ireturn, 1) := by decide +kernel
theorem dX11_told_108 : decode cX11_told 108 = .ok (.aload_n 0, 1) := by decide +kernel
theorem dX11_told_109 : decode cX11_told 109 = .ok (.getfield 19, 3) := by decide +kernel
theorem dX11_told_112 : decode cX11_told 112 = .ok (.iconst 0, 1) := by decide +kernel
theorem dX11_told_113 : decode cX11_told 113 = .ok (.iaload, 1) := by decide +kernel
theorem dX11_told_114 : decode cX11_told 114 = .ok (.ireturn, 1) := by decide +kernel
theorem dX11_told_115 : decode cX11_told 115 = .ok (.aload_n 0, 1) := by decide +kernel
theorem dX11_told_116 : decode cX11_told 116 = .ok (.getfield 19, 3) := by decide +kernel
theorem dX11_told_119 : decode cX11_told 119 = .ok (.iconst 1, 1) := by decide +kernel
theorem dX11_told_120 : decode cX11_told 120 = .ok (.iaload, 1) := by decide +kernel
theorem dX11_told_121 : decode cX11_told 121 = .ok (.ireturn, 1) := by decide +kernel
theorem dX11_told_122 : decode cX11_told 122 = .ok (.aload_n 0, 1) := by decide +kernel
theorem dX11_told_123 : decode cX11_told 123 = .ok (.getfield 19, 3) := by decide +kernel
theorem dX11_told_126 : decode cX11_told 126 = .ok (.iconst 2, 1) := by decide +kernel
theorem dX11_told_127 : decode cX11_told 127 = .ok (.iaload, 1) := by decide +kernel
theorem dX11_told_128 : decode cX11_told 128 = .ok (.ireturn, 1) := by decide +kernel
theorem dX11_told_129 : decode cX11_told 129 = .ok (.aload_n 0, 1) := by decide +kernel
theorem dX11_told_130 : decode cX11_told 130 = .ok (.invokevirtual 135, 3) := by decide +kernel
theorem dX11_told_133 : decode cX11_told 133 = .ok (.ireturn, 1) := by decide +kernel
theorem dX11_told_134 : decode cX11_told 134 = .ok (.aload_n 0, 1) := by decide +kernel
theorem dX11_told_135 : decode cX11_told 135 = .ok (.invokevirtual 138, 3) := by decide +kernel
theorem dX11_told_138 : decode cX11_told 138 = .ok (.ireturn, 1) := by decide +kernel
theorem dX11_told_139 : decode cX11_told 139 = .ok (.aload_n 0, 1) := by decide +kernel
theorem dX11_told_140 : decode cX11_told 140 = .ok (.getfield 19, 3) := by decide +kernel
theorem dX11_told_143 : decode cX11_told 143 = .ok (.iconst 3, 1) := by decide +kernel
theorem dX11_told_144 : decode cX11_told 144 = .ok (.iaload, 1) := by decide +kernel
theorem dX11_told_145 : decode cX11_told 145 = .ok (.ireturn, 1) := by decide +kernel
theorem dX11_told_146 : decode cX11_told 146 = .ok (.aload_n 0, 1) := by decide +kernel
theorem dX11_told_147 : decode cX11_told 147 = .ok (.getfield 13, 3) := by decide +kernel
theorem dX11_told_150 : decode cX11_told 150 = .ok (.iconst 0, 1) := by decide +kernel
theorem dX11_told_151 : decode cX11_told 151 = .ok (.iaload, 1) := by decide +kernel
theorem dX11_told_152 : decode cX11_told 152 = .ok (.iconst 1, 1) := by decide +kernel
theorem dX11_told_153 : decode cX11_told 153 = .ok (.if_icmp .ne 14, 3) := by decide +kernel
theorem dX11_told_156 : decode cX11_told 156 = .ok (.aload_n 0, 1) := by decide +kernel
theorem dX11_told_157 : decode cX11_told 157 = .ok (.invokevirtual 141, 3) := by decide +kernel
theorem dX11_told_160 : decode cX11_told 160 = .ok (.ifCond .ne 7, 3) := by decide +kernel
theorem dX11_told_163 : decode cX11_told 163 = .ok (.iconst 1, 1) := by decide +kernel
theorem dX11_told_164 : decode cX11_told 164 = .ok (.goto 4, 3) := by decide +kernel
theorem dX11_told_167 : decode cX11_told 167 = .ok (.iconst 0, 1) := by decide +kernel
theorem dX11_told_168 : decode cX11_told 168 = .ok (.ireturn, 1) := by decide +kernel
theorem dX11_told_169 : decode cX11_told 169 = .ok (.aload_n 0, 1) := by decide +kernel
theorem dX11_told_170 : decode cX11_told 170 = .ok (.invokevirtual 141, 3) := by decide +kernel
theorem dX11_told_173 : decode cX11_told 173 = .ok (.ireturn, 1) := by decide +kernel
theorem dX11_told_174 : decode cX11_told 174 = .ok (.aload_n 0, 1) := by decide +kernel
theorem dX11_told_175 : decode cX11_told 175 = .ok (.invokevirtual 144, 3) := by decide +kernel
theorem dX11_told_178 : decode cX11_told 178 = .ok (.ireturn, 1) := by decide +kernel
theorem dX11_told_179 : decode cX11_told 179 = .ok (.aload_n 0, 1) := by decide +kernel
theorem dX11_told_180 : decode cX11_told 180 = .ok (.invokevirtual 132, 3) := by decide +kernel
theorem dX11_told_183 : decode cX11_told 183 = .ok (.ireturn, 1) := by decide +kernel
theorem dX11_told_184 : decode cX11_told 184 = .ok (.aload_n 0, 1) := by decide +kernel
theorem dX11_told_185 : decode cX11_told 185 = .ok (.invokevirtual 147, 3) := by decide +kernel
theorem dX11_told_188 : decode cX11_told 188 = .ok (.ireturn, 1) := by decide +kernel
theorem dX11_told_189 : decode cX11_told 189 = .ok (.aload_n 0, 1) := by decide +kernel
theorem dX11_told_190 : decode cX11_told 190 = .ok (.invokevirtual 150, 3) := by decide +kernel
theorem dX11_told_193 : decode cX11_told 193 = .ok (.ireturn, 1) := by decide +kernel
theorem dX11_told_194 : decode cX11_told 194 = .ok (.aload_n 0, 1) := by decide +kernel
theorem dX11_told_195 : decode cX11_told 195 = .ok (.getfield 112, 3) := by decide +kernel
theorem dX11_told_198 : decode cX11_told 198 = .ok (.ireturn, 1) := by decide +kernel
theorem dX11_told_199 : decode cX11_told 199 = .ok (.aload_n 0, 1) := by decide +kernel
theorem dX11_told_200 : decode cX11_told 200 = .ok (.getfield 115, 3) := by decide +kernel
theorem dX11_told_203 : decode cX11_told 203 = .ok (.ireturn, 1) := by decide +kernel
theorem dX11_told_204 : decode cX11_told 204 = .ok (.aload_n 0, 1) := by decide +kernel
theorem dX11_told_205 : decode cX11_told 205 = .ok (.getfield 109, 3) := by decide +kernel
theorem dX11_told_208 : decode cX11_told 208 = .ok (.ireturn, 1) := by decide +kernel
theorem dX11_told_209 : decode cX11_told 209 = .ok (.ldc 71, 2) := by decide +kernel
theorem dX11_told_211 : decode cX11_told 211 = .ok (.ireturn, 1) := by decide +kernel
theorem dX11_flag_0 : decode cX11_flag 0 = .ok (.aload_n 0, 1) := by decide +kernel
theorem dX11_flag_1 : decode cX11_flag 1 = .ok (.iload_n 1, 1) := by decide +kernel
theorem dX11_flag_2 : decode cX11_flag 2 = .ok (.invokevirtual 153, 3) := by decide +kernel
theorem dX11_flag_5 : decode cX11_flag 5 = .ok (.ifCond .ne 6, 3) := by decide +kernel
theorem dX11_flag_8 : decode cX11_flag 8 = .ok (.ldc 156, 2) := by decide +kernel
theorem dX11_flag_10 : decode cX11_flag 10 = .ok (.ireturn, 1) := by decide +kernel
theorem dX11_flag_11 : decode cX11_flag 11 = .ok (.iload_n 2, 1) := by decide +kernel
theorem dX11_flag_12 : decode cX11_flag 12 = .ok (.tableswitch 81 0 4 #[36, 45, 55, 61, 71], 36) := by decide +kernel
theorem dX11_flag_48 : decode cX11_flag 48 = .ok (.aload_n 0, 1) := by decide +kernel
theorem dX11_flag_49 : decode cX11_flag 49 = .ok (.getfield 13, 3) := by decide +kernel
theorem dX11_flag_52 : decode cX11_flag 52 = .ok (.iconst 5, 1) := by decide +kernel
theorem dX11_flag_53 : decode cX11_flag 53 = .ok (.iload_n 1, 1) := by decide +kernel
theorem dX11_flag_54 : decode cX11_flag 54 = .ok (.iadd, 1) := by decide +kernel
theorem dX11_flag_55 : decode cX11_flag 55 = .ok (.iaload, 1) := by decide +kernel
theorem dX11_flag_56 : decode cX11_flag 56 = .ok (.ireturn, 1) := by decide +kernel
theorem dX11_flag_57 : decode cX11_flag 57 = .ok (.aload_n 0, 1) := by decide +kernel
theorem dX11_flag_58 : decode cX11_flag 58 = .ok (.getfield 13, 3) := by decide +kernel
theorem dX11_flag_61 : decode cX11_flag 61 = .ok (.bipush 12, 2) := by decide +kernel
theorem dX11_flag_63 : decode cX11_flag 63 = .ok (.iload_n 1, 1) := by decide +kernel
theorem dX11_flag_64 : decode cX11_flag 64 = .ok (.iadd, 1) := by decide +kernel
theorem dX11_flag_65 : decode cX11_flag 65 = .ok (.iaload, 1) := by decide +kernel
theorem dX11_flag_66 : decode cX11_flag 66 = .ok (.ireturn, 1) := by decide +kernel
theorem dX11_flag_67 : decode cX11_flag 67 = .ok (.aload_n 0, 1) := by decide +kernel
theorem dX11_flag_68 : decode cX11_flag 68 = .ok (.iload_n 1, 1) := by decide +kernel
theorem dX11_flag_69 : decode cX11_flag 69 = .ok (.invokevirtual 157, 3) := by decide +kernel
theorem dX11_flag_72 : decode cX11_flag 72 = .ok (.ireturn, 1) := by decide +kernel
theorem dX11_flag_73 : decode cX11_flag 73 = .ok (.aload_n 0, 1) := by decide +kernel
theorem dX11_flag_74 : decode cX11_flag 74 = .ok (.getfield 19, 3) := by decide +kernel
theorem dX11_flag_77 : decode cX11_flag 77 = .ok (.bipush 11, 2) := by decide +kernel
theorem dX11_flag_79 : decode cX11_flag 79 = .ok (.iload_n 1, 1) := by decide +kernel
theorem dX11_flag_80 : decode cX11_flag 80 = .ok (.iadd, 1) := by decide +kernel
theorem dX11_flag_81 : decode cX11_flag 81 = .ok (.iaload, 1) := by decide +kernel
theorem dX11_flag_82 : decode cX11_flag 82 = .ok (.ireturn, 1) := by decide +kernel
theorem dX11_flag_83 : decode cX11_flag 83 = .ok (.aload_n 0, 1) := by decide +kernel
theorem dX11_flag_84 : decode cX11_flag 84 = .ok (.getfield 19, 3) := by decide +kernel
theorem dX11_flag_87 : decode cX11_flag 87 = .ok (.bipush 18, 2) := by decide +kernel
theorem dX11_flag_89 : decode cX11_flag 89 = .ok (.iload_n 1, 1) := by decide +kernel
theorem dX11_flag_90 : decode cX11_flag 90 = .ok (.iadd, 1) := by decide +kernel
theorem dX11_flag_91 : decode cX11_flag 91 = .ok (.iaload, 1) := by decide +kernel
theorem dX11_flag_92 : decode cX11_flag 92 = .ok (.ireturn, 1) := by decide +kernel
theorem dX11_flag_93 : decode cX11_flag 93 = .ok (.ldc 71, 2) := by decide +kernel
theorem dX11_flag_95 : decode cX11_flag 95 = .ok (.ireturn, 1) := by decide +kernel
theorem dX11_at_0 : decode cX11_at 0 = .ok (.iload_n 1, 1) := by decide +kernel
theorem dX11_at_1 : decode cX11_at 1 = .ok (.iconst 0, 1) := by decide +kernel
theorem dX11_at_2 : decode cX11_at 2 = .ok (.bipush 6, 2) := by decide +kernel
theorem dX11_at_4 : decode cX11_at 4 = .ok (.invokestatic 67, 3) := by decide +kernel
theorem dX11_at_7 : decode cX11_at 7 = .ok (.ifCond .ne 8, 3) := by decide +kernel
theorem dX11_at_10 : decode cX11_at 10 = .ok (.ldc 71, 2) := by decide +kernel
theorem dX11_at_12 : decode cX11_at 12 = .ok (.goto 25, 3) := by decide +kernel
theorem dX11_at_15 : decode cX11_at 15 = .ok (.iload_n 1, 1) := by decide +kernel
theorem dX11_at_16 : decode cX11_at 16 = .ok (.aload_n 0, 1) := by decide +kernel
theorem dX11_at_17 : decode cX11_at 17 = .ok (.getfield 19, 3) := by decide +kernel
theorem dX11_at_20 : decode cX11_at 20 = .ok (.iconst 2, 1) := by decide +kernel
theorem dX11_at_21 : decode cX11_at 21 = .ok (.iaload, 1) := by decide +kernel
theorem dX11_at_22 : decode cX11_at 22 = .ok (.if_icmp .ge 14, 3) := by decide +kernel
theorem dX11_at_25 : decode cX11_at 25 = .ok (.aload_n 0, 1) := by decide +kernel
theorem dX11_at_26 : decode cX11_at 26 = .ok (.getfield 19, 3) := by decide +kernel
theorem dX11_at_29 : decode cX11_at 29 = .ok (.iconst 4, 1) := by decide +kernel
theorem dX11_at_30 : decode cX11_at 30 = .ok (.iload_n 1, 1) := by decide +kernel
theorem dX11_at_31 : decode cX11_at 31 = .ok (.iadd, 1) := by decide +kernel
theorem dX11_at_32 : decode cX11_at 32 = .ok (.iaload, 1) := by decide +kernel
theorem dX11_at_33 : decode cX11_at 33 = .ok (.goto 4, 3) := by decide +kernel
theorem dX11_at_36 : decode cX11_at 36 = .ok (.iconst (-1), 1) := by decide +kernel
theorem dX11_at_37 : decode cX11_at 37 = .ok (.ireturn, 1) := by decide +kernel
theorem dX11_reached_0 : decode cX11_reached 0 = .ok (.aload_n 0, 1) := by decide +kernel
theorem dX11_reached_1 : decode cX11_reached 1 = .ok (.getfield 13, 3) := by decide +kernel
theorem dX11_reached_4 : decode cX11_reached 4 = .ok (.bipush 43, 2) := by decide +kernel
theorem dX11_reached_6 : decode cX11_reached 6 = .ok (.iconst 2, 1) := by decide +kernel
theorem dX11_reached_7 : decode cX11_reached 7 = .ok (.iload_n 1, 1) := by decide +kernel
theorem dX11_reached_8 : decode cX11_reached 8 = .ok (.imul, 1) := by decide +kernel
theorem dX11_reached_9 : decode cX11_reached 9 = .ok (.iadd, 1) := by decide +kernel
theorem dX11_reached_10 : decode cX11_reached 10 = .ok (.iaload, 1) := by decide +kernel
theorem dX11_reached_11 : decode cX11_reached 11 = .ok (.istore_n 2, 1) := by decide +kernel
theorem dX11_reached_12 : decode cX11_reached 12 = .ok (.aload_n 0, 1) := by decide +kernel
theorem dX11_reached_13 : decode cX11_reached 13 = .ok (.getfield 13, 3) := by decide +kernel
theorem dX11_reached_16 : decode cX11_reached 16 = .ok (.bipush 43, 2) := by decide +kernel
theorem dX11_reached_18 : decode cX11_reached 18 = .ok (.iconst 2, 1) := by decide +kernel
theorem dX11_reached_19 : decode cX11_reached 19 = .ok (.iload_n 1, 1) := by decide +kernel
theorem dX11_reached_20 : decode cX11_reached 20 = .ok (.imul, 1) := by decide +kernel
theorem dX11_reached_21 : decode cX11_reached 21 = .ok (.iadd, 1) := by decide +kernel
theorem dX11_reached_22 : decode cX11_reached 22 = .ok (.iconst 1, 1) := by decide +kernel
theorem dX11_reached_23 : decode cX11_reached 23 = .ok (.iadd, 1) := by decide +kernel
theorem dX11_reached_24 : decode cX11_reached 24 = .ok (.iaload, 1) := by decide +kernel
theorem dX11_reached_25 : decode cX11_reached 25 = .ok (.istore_n 3, 1) := by decide +kernel
theorem dX11_reached_26 : decode cX11_reached 26 = .ok (.iconst 0, 1) := by decide +kernel
theorem dX11_reached_27 : decode cX11_reached 27 = .ok (.istore 4, 2) := by decide +kernel
theorem dX11_reached_29 : decode cX11_reached 29 = .ok (.iconst 0, 1) := by decide +kernel
theorem dX11_reached_30 : decode cX11_reached 30 = .ok (.istore 5, 2) := by decide +kernel
theorem dX11_reached_32 : decode cX11_reached 32 = .ok (.iload 5, 2) := by decide +kernel
theorem dX11_reached_34 : decode cX11_reached 34 = .ok (.aload_n 0, 1) := by decide +kernel
theorem dX11_reached_35 : decode cX11_reached 35 = .ok (.getfield 19, 3) := by decide +kernel
theorem dX11_reached_38 : decode cX11_reached 38 = .ok (.iconst 2, 1) := by decide +kernel
theorem dX11_reached_39 : decode cX11_reached 39 = .ok (.iaload, 1) := by decide +kernel
theorem dX11_reached_40 : decode cX11_reached 40 = .ok (.if_icmp .ge 43, 3) := by decide +kernel
theorem dX11_reached_43 : decode cX11_reached 43 = .ok (.iload 4, 2) := by decide +kernel
theorem dX11_reached_45 : decode cX11_reached 45 = .ok (.iload 5, 2) := by decide +kernel
theorem dX11_reached_47 : decode cX11_reached 47 = .ok (.iload_n 2, 1) := by decide +kernel
theorem dX11_reached_48 : decode cX11_reached 48 = .ok (.iload_n 3, 1) := by decide +kernel
theorem dX11_reached_49 : decode cX11_reached 49 = .ok (.isub, 1) := by decide +kernel
theorem dX11_reached_50 : decode cX11_reached 50 = .ok (.iload_n 2, 1) := by decide +kernel
theorem dX11_reached_51 : decode cX11_reached 51 = .ok (.iload_n 3, 1) := by decide +kernel
theorem dX11_reached_52 : decode cX11_reached 52 = .ok (.iadd, 1) := by decide +kernel
theorem dX11_reached_53 : decode cX11_reached 53 = .ok (.invokestatic 67, 3) := by decide +kernel
theorem dX11_reached_56 : decode cX11_reached 56 = .ok (.ifCond .eq 17, 3) := by decide +kernel
theorem dX11_reached_59 : decode cX11_reached 59 = .ok (.iconst 1, 1) := by decide +kernel
theorem dX11_reached_60 : decode cX11_reached 60 = .ok (.aload_n 0, 1) := by decide +kernel
theorem dX11_reached_61 : decode cX11_reached 61 = .ok (.getfield 19, 3) := by decide +kernel
theorem dX11_reached_64 : decode cX11_reached 64 = .ok (.iconst 4, 1) := by decide +kernel
theorem dX11_reached_65 : decode cX11_reached 65 = .ok (.iload 5, 2) := by decide +kernel
theorem dX11_reached_67 : decode cX11_reached 67 = .ok (.iadd, 1) := by decide +kernel
theorem dX11_reached_68 : decode cX11_reached 68 = .ok (.iaload, 1) := by decide +kernel
theorem dX11_reached_69 : decode cX11_reached 69 = .ok (.ishl, 1) := by decide +kernel
theorem dX11_reached_70 : decode cX11_reached 70 = .ok (.goto 4, 3) := by decide +kernel
theorem dX11_reached_73 : decode cX11_reached 73 = .ok (.iconst 0, 1) := by decide +kernel
theorem dX11_reached_74 : decode cX11_reached 74 = .ok (.ior, 1) := by decide +kernel
theorem dX11_reached_75 : decode cX11_reached 75 = .ok (.istore 4, 2) := by decide +kernel
theorem dX11_reached_77 : decode cX11_reached 77 = .ok (.iinc 5 1, 3) := by decide +kernel
theorem dX11_reached_80 : decode cX11_reached 80 = .ok (.goto (-48), 3) := by decide +kernel
theorem dX11_reached_83 : decode cX11_reached 83 = .ok (.iload 4, 2) := by decide +kernel
theorem dX11_reached_85 : decode cX11_reached 85 = .ok (.ireturn, 1) := by decide +kernel
theorem dX11_hook_0 : decode cX11_hook 0 = .ok (.iload_n 1, 1) := by decide +kernel
theorem dX11_hook_1 : decode cX11_hook 1 = .ok (.iconst 0, 1) := by decide +kernel
theorem dX11_hook_2 : decode cX11_hook 2 = .ok (.aload_n 0, 1) := by decide +kernel
theorem dX11_hook_3 : decode cX11_hook 3 = .ok (.getfield 13, 3) := by decide +kernel
theorem dX11_hook_6 : decode cX11_hook 6 = .ok (.iconst 3, 1) := by decide +kernel
theorem dX11_hook_7 : decode cX11_hook 7 = .ok (.iaload, 1) := by decide +kernel
theorem dX11_hook_8 : decode cX11_hook 8 = .ok (.iconst 1, 1) := by decide +kernel
theorem dX11_hook_9 : decode cX11_hook 9 = .ok (.isub, 1) := by decide +kernel
theorem dX11_hook_10 : decode cX11_hook 10 = .ok (.invokestatic 67, 3) := by decide +kernel
theorem dX11_hook_13 : decode cX11_hook 13 = .ok (.ifCond .ne 6, 3) := by decide +kernel
theorem dX11_hook_16 : decode cX11_hook 16 = .ok (.ldc 156, 2) := by decide +kernel
theorem dX11_hook_18 : decode cX11_hook 18 = .ok (.ireturn, 1) := by decide +kernel
theorem dX11_hook_19 : decode cX11_hook 19 = .ok (.iload_n 2, 1) := by decide +kernel
theorem dX11_hook_20 : decode cX11_hook 20 = .ok (.iconst 2, 1) := by decide +kernel
theorem dX11_hook_21 : decode cX11_hook 21 = .ok (.if_icmp .ne 11, 3) := by decide +kernel
theorem dX11_hook_24 : decode cX11_hook 24 = .ok (.aload_n 0, 1) := by decide +kernel
theorem dX11_hook_25 : decode cX11_hook 25 = .ok (.iload_n 1, 1) := by decide +kernel
theorem dX11_hook_26 : decode cX11_hook 26 = .ok (.invokevirtual 160, 3) := by decide +kernel
theorem dX11_hook_29 : decode cX11_hook 29 = .ok (.goto 30, 3) := by decide +kernel
theorem dX11_hook_32 : decode cX11_hook 32 = .ok (.iload_n 2, 1) := by decide +kernel
theorem dX11_hook_33 : decode cX11_hook 33 = .ok (.ifCond .eq 8, 3) := by decide +kernel
theorem dX11_hook_36 : decode cX11_hook 36 = .ok (.iload_n 2, 1) := by decide +kernel
theorem dX11_hook_37 : decode cX11_hook 37 = .ok (.iconst 1, 1) := by decide +kernel
theorem dX11_hook_38 : decode cX11_hook 38 = .ok (.if_icmp .ne 19, 3) := by decide +kernel
theorem dX11_hook_41 : decode cX11_hook 41 = .ok (.aload_n 0, 1) := by decide +kernel
theorem dX11_hook_42 : decode cX11_hook 42 = .ok (.getfield 13, 3) := by decide +kernel
theorem dX11_hook_45 : decode cX11_hook 45 = .ok (.bipush 43, 2) := by decide +kernel
theorem dX11_hook_47 : decode cX11_hook 47 = .ok (.iconst 2, 1) := by decide +kernel
theorem dX11_hook_48 : decode cX11_hook 48 = .ok (.iload_n 1, 1) := by decide +kernel
theorem dX11_hook_49 : decode cX11_hook 49 = .ok (.imul, 1) := by decide +kernel
theorem dX11_hook_50 : decode cX11_hook 50 = .ok (.iadd, 1) := by decide +kernel
theorem dX11_hook_51 : decode cX11_hook 51 = .ok (.iload_n 2, 1) := by decide +kernel
theorem dX11_hook_52 : decode cX11_hook 52 = .ok (.iadd, 1) := by decide +kernel
theorem dX11_hook_53 : decode cX11_hook 53 = .ok (.iaload, 1) := by decide +kernel
theorem dX11_hook_54 : decode cX11_hook 54 = .ok (.goto 5, 3) := by decide +kernel
theorem dX11_hook_57 : decode cX11_hook 57 = .ok (.ldc 71, 2) := by decide +kernel
theorem dX11_hook_59 : decode cX11_hook 59 = .ok (.ireturn, 1) := by decide +kernel
theorem dX11_word_0 : decode cX11_word 0 = .ok (.iload_n 1, 1) := by decide +kernel
theorem dX11_word_1 : decode cX11_word 1 = .ok (.iconst 0, 1) := by decide +kernel
theorem dX11_word_2 : decode cX11_word 2 = .ok (.aload_n 0, 1) := by decide +kernel
theorem dX11_word_3 : decode cX11_word 3 = .ok (.getfield 13, 3) := by decide +kernel
theorem dX11_word_6 : decode cX11_word 6 = .ok (.iconst 2, 1) := by decide +kernel
theorem dX11_word_7 : decode cX11_word 7 = .ok (.iaload, 1) := by decide +kernel
theorem dX11_word_8 : decode cX11_word 8 = .ok (.iconst 1, 1) := by decide +kernel
theorem dX11_word_9 : decode cX11_word 9 = .ok (.isub, 1) := by decide +kernel
theorem dX11_word_10 : decode cX11_word 10 = .ok (.invokestatic 67, 3) := by decide +kernel
theorem dX11_word_13 : decode cX11_word 13 = .ok (.ifCond .ne 6, 3) := by decide +kernel
theorem dX11_word_16 : decode cX11_word 16 = .ok (.ldc 156, 2) := by decide +kernel
theorem dX11_word_18 : decode cX11_word 18 = .ok (.ireturn, 1) := by decide +kernel
theorem dX11_word_19 : decode cX11_word 19 = .ok (.iload_n 2, 1) := by decide +kernel
theorem dX11_word_20 : decode cX11_word 20 = .ok (.iconst 0, 1) := by decide +kernel
theorem dX11_word_21 : decode cX11_word 21 = .ok (.iconst 3, 1) := by decide +kernel
theorem dX11_word_22 : decode cX11_word 22 = .ok (.invokestatic 67, 3) := by decide +kernel
theorem dX11_word_25 : decode cX11_word 25 = .ok (.ifCond .ne 8, 3) := by decide +kernel
theorem dX11_word_28 : decode cX11_word 28 = .ok (.ldc 71, 2) := by decide +kernel
theorem dX11_word_30 : decode cX11_word 30 = .ok (.goto 29, 3) := by decide +kernel
theorem dX11_word_33 : decode cX11_word 33 = .ok (.iload_n 2, 1) := by decide +kernel
theorem dX11_word_34 : decode cX11_word 34 = .ok (.aload_n 0, 1) := by decide +kernel
theorem dX11_word_35 : decode cX11_word 35 = .ok (.iload_n 1, 1) := by decide +kernel
theorem dX11_word_36 : decode cX11_word 36 = .ok (.invokevirtual 125, 3) := by decide +kernel
theorem dX11_word_39 : decode cX11_word 39 = .ok (.if_icmp .ge 19, 3) := by decide +kernel
theorem dX11_word_42 : decode cX11_word 42 = .ok (.aload_n 0, 1) := by decide +kernel
theorem dX11_word_43 : decode cX11_word 43 = .ok (.getfield 13, 3) := by decide +kernel
theorem dX11_word_46 : decode cX11_word 46 = .ok (.bipush 19, 2) := by decide +kernel
theorem dX11_word_48 : decode cX11_word 48 = .ok (.iconst 4, 1) := by decide +kernel
theorem dX11_word_49 : decode cX11_word 49 = .ok (.iload_n 1, 1) := by decide +kernel
theorem dX11_word_50 : decode cX11_word 50 = .ok (.imul, 1) := by decide +kernel
theorem dX11_word_51 : decode cX11_word 51 = .ok (.iadd, 1) := by decide +kernel
theorem dX11_word_52 : decode cX11_word 52 = .ok (.iload_n 2, 1) := by decide +kernel
theorem dX11_word_53 : decode cX11_word 53 = .ok (.iadd, 1) := by decide +kernel
theorem dX11_word_54 : decode cX11_word 54 = .ok (.iaload, 1) := by decide +kernel
theorem dX11_word_55 : decode cX11_word 55 = .ok (.goto 4, 3) := by decide +kernel
theorem dX11_word_58 : decode cX11_word 58 = .ok (.iconst (-1), 1) := by decide +kernel
theorem dX11_word_59 : decode cX11_word 59 = .ok (.ireturn, 1) := by decide +kernel
theorem dX11_keeps_0 : decode cX11_keeps 0 = .ok (.aload_n 0, 1) := by decide +kernel
theorem dX11_keeps_1 : decode cX11_keeps 1 = .ok (.getfield 109, 3) := by decide +kernel
theorem dX11_keeps_4 : decode cX11_keeps 4 = .ok (.bipush 30, 2) := by decide +kernel
theorem dX11_keeps_6 : decode cX11_keeps 6 = .ok (.if_icmp .ne 43, 3) := by decide +kernel
theorem dX11_keeps_9 : decode cX11_keeps 9 = .ok (.iconst 0, 1) := by decide +kernel
theorem dX11_keeps_10 : decode cX11_keeps 10 = .ok (.istore_n 1, 1) := by decide +kernel
theorem dX11_keeps_11 : decode cX11_keeps 11 = .ok (.iload_n 1, 1) := by decide +kernel
theorem dX11_keeps_12 : decode cX11_keeps 12 = .ok (.sipush 725, 3) := by decide +kernel
theorem dX11_keeps_15 : decode cX11_keeps 15 = .ok (.if_icmp .ge 24, 3) := by decide +kernel
theorem dX11_keeps_18 : decode cX11_keeps 18 = .ok (.aload_n 0, 1) := by decide +kernel
theorem dX11_keeps_19 : decode cX11_keeps 19 = .ok (.getfield 22, 3) := by decide +kernel
theorem dX11_keeps_22 : decode cX11_keeps 22 = .ok (.iload_n 1, 1) := by decide +kernel
theorem dX11_keeps_23 : decode cX11_keeps 23 = .ok (.aload_n 0, 1) := by decide +kernel
theorem dX11_keeps_24 : decode cX11_keeps 24 = .ok (.getfield 22, 3) := by decide +kernel
theorem dX11_keeps_27 : decode cX11_keeps 27 = .ok (.iload_n 1, 1) := by decide +kernel
theorem dX11_keeps_28 : decode cX11_keeps 28 = .ok (.bipush 25, 2) := by decide +kernel
theorem dX11_keeps_30 : decode cX11_keeps 30 = .ok (.iadd, 1) := by decide +kernel
theorem dX11_keeps_31 : decode cX11_keeps 31 = .ok (.iaload, 1) := by decide +kernel
theorem dX11_keeps_32 : decode cX11_keeps 32 = .ok (.iastore, 1) := by decide +kernel
theorem dX11_keeps_33 : decode cX11_keeps 33 = .ok (.iinc 1 1, 3) := by decide +kernel
theorem dX11_keeps_36 : decode cX11_keeps 36 = .ok (.goto (-25), 3) := by decide +kernel
theorem dX11_keeps_39 : decode cX11_keeps 39 = .ok (.aload_n 0, 1) := by decide +kernel
theorem dX11_keeps_40 : decode cX11_keeps 40 = .ok (.dup, 1) := by decide +kernel
theorem dX11_keeps_41 : decode cX11_keeps 41 = .ok (.getfield 109, 3) := by decide +kernel
theorem dX11_keeps_44 : decode cX11_keeps 44 = .ok (.iconst 1, 1) := by decide +kernel
theorem dX11_keeps_45 : decode cX11_keeps 45 = .ok (.isub, 1) := by decide +kernel
theorem dX11_keeps_46 : decode cX11_keeps 46 = .ok (.putfield 109, 3) := by decide +kernel
theorem dX11_keeps_49 : decode cX11_keeps 49 = .ok (.iconst 0, 1) := by decide +kernel
theorem dX11_keeps_50 : decode cX11_keeps 50 = .ok (.istore_n 1, 1) := by decide +kernel
theorem dX11_keeps_51 : decode cX11_keeps 51 = .ok (.iload_n 1, 1) := by decide +kernel
theorem dX11_keeps_52 : decode cX11_keeps 52 = .ok (.bipush 25, 2) := by decide +kernel
theorem dX11_keeps_54 : decode cX11_keeps 54 = .ok (.if_icmp .ge 29, 3) := by decide +kernel
theorem dX11_keeps_57 : decode cX11_keeps 57 = .ok (.aload_n 0, 1) := by decide +kernel
theorem dX11_keeps_58 : decode cX11_keeps 58 = .ok (.getfield 22, 3) := by decide +kernel
theorem dX11_keeps_61 : decode cX11_keeps 61 = .ok (.bipush 25, 2) := by decide +kernel
theorem dX11_keeps_63 : decode cX11_keeps 63 = .ok (.aload_n 0, 1) := by decide +kernel
theorem dX11_keeps_64 : decode cX11_keeps 64 = .ok (.getfield 109, 3) := by decide +kernel
theorem dX11_keeps_67 : decode cX11_keeps 67 = .ok (.imul, 1) := by decide +kernel
theorem dX11_keeps_68 : decode cX11_keeps 68 = .ok (.iload_n 1, 1) := by decide +kernel
theorem dX11_keeps_69 : decode cX11_keeps 69 = .ok (.iadd, 1) := by decide +kernel
theorem dX11_keeps_70 : decode cX11_keeps 70 = .ok (.aload_n 0, 1) := by decide +kernel
theorem dX11_keeps_71 : decode cX11_keeps 71 = .ok (.getfield 19, 3) := by decide +kernel
theorem dX11_keeps_74 : decode cX11_keeps 74 = .ok (.iload_n 1, 1) := by decide +kernel
theorem dX11_keeps_75 : decode cX11_keeps 75 = .ok (.iaload, 1) := by decide +kernel
theorem dX11_keeps_76 : decode cX11_keeps 76 = .ok (.iastore, 1) := by decide +kernel
theorem dX11_keeps_77 : decode cX11_keeps 77 = .ok (.iinc 1 1, 3) := by decide +kernel
theorem dX11_keeps_80 : decode cX11_keeps 80 = .ok (.goto (-29), 3) := by decide +kernel
theorem dX11_keeps_83 : decode cX11_keeps 83 = .ok (.aload_n 0, 1) := by decide +kernel
theorem dX11_keeps_84 : decode cX11_keeps 84 = .ok (.dup, 1) := by decide +kernel
theorem dX11_keeps_85 : decode cX11_keeps 85 = .ok (.getfield 109, 3) := by decide +kernel
theorem dX11_keeps_88 : decode cX11_keeps 88 = .ok (.iconst 1, 1) := by decide +kernel
theorem dX11_keeps_89 : decode cX11_keeps 89 = .ok (.iadd, 1) := by decide +kernel
theorem dX11_keeps_90 : decode cX11_keeps 90 = .ok (.putfield 109, 3) := by decide +kernel
theorem dX11_keeps_93 : decode cX11_keeps 93 = .ok (.return_, 1) := by decide +kernel
theorem dX11_turn_0 : decode cX11_turn 0 = .ok (.iload_n 1, 1) := by decide +kernel
theorem dX11_turn_1 : decode cX11_turn 1 = .ok (.iconst 2, 1) := by decide +kernel
theorem dX11_turn_2 : decode cX11_turn 2 = .ok (.aload_n 0, 1) := by decide +kernel
theorem dX11_turn_3 : decode cX11_turn 3 = .ok (.getfield 19, 3) := by decide +kernel
theorem dX11_turn_6 : decode cX11_turn 6 = .ok (.iconst 2, 1) := by decide +kernel
theorem dX11_turn_7 : decode cX11_turn 7 = .ok (.iaload, 1) := by decide +kernel
theorem dX11_turn_8 : decode cX11_turn 8 = .ok (.invokestatic 67, 3) := by decide +kernel
theorem dX11_turn_11 : decode cX11_turn 11 = .ok (.ifCond .ne 6, 3) := by decide +kernel
theorem dX11_turn_14 : decode cX11_turn 14 = .ok (.ldc 71, 2) := by decide +kernel
theorem dX11_turn_16 : decode cX11_turn 16 = .ok (.ireturn, 1) := by decide +kernel
theorem dX11_turn_17 : decode cX11_turn 17 = .ok (.aload_n 0, 1) := by decide +kernel
theorem dX11_turn_18 : decode cX11_turn 18 = .ok (.invokevirtual 163, 3) := by decide +kernel
theorem dX11_turn_21 : decode cX11_turn 21 = .ok (.iconst 0, 1) := by decide +kernel
theorem dX11_turn_22 : decode cX11_turn 22 = .ok (.istore_n 2, 1) := by decide +kernel
theorem dX11_turn_23 : decode cX11_turn 23 = .ok (.iload_n 2, 1) := by decide +kernel
theorem dX11_turn_24 : decode cX11_turn 24 = .ok (.iload_n 1, 1) := by decide +kernel
theorem dX11_turn_25 : decode cX11_turn 25 = .ok (.if_icmp .ge 23, 3) := by decide +kernel
theorem dX11_turn_28 : decode cX11_turn 28 = .ok (.aload_n 0, 1) := by decide +kernel
theorem dX11_turn_29 : decode cX11_turn 29 = .ok (.getfield 45, 3) := by decide +kernel
theorem dX11_turn_32 : decode cX11_turn 32 = .ok (.iload_n 2, 1) := by decide +kernel
theorem dX11_turn_33 : decode cX11_turn 33 = .ok (.aload_n 0, 1) := by decide +kernel
theorem dX11_turn_34 : decode cX11_turn 34 = .ok (.getfield 19, 3) := by decide +kernel
theorem dX11_turn_37 : decode cX11_turn 37 = .ok (.iconst 4, 1) := by decide +kernel
theorem dX11_turn_38 : decode cX11_turn 38 = .ok (.iload_n 2, 1) := by decide +kernel
theorem dX11_turn_39 : decode cX11_turn 39 = .ok (.iadd, 1) := by decide +kernel
theorem dX11_turn_40 : decode cX11_turn 40 = .ok (.iaload, 1) := by decide +kernel
theorem dX11_turn_41 : decode cX11_turn 41 = .ok (.iastore, 1) := by decide +kernel
theorem dX11_turn_42 : decode cX11_turn 42 = .ok (.iinc 2 1, 3) := by decide +kernel
theorem dX11_turn_45 : decode cX11_turn 45 = .ok (.goto (-22), 3) := by decide +kernel
theorem dX11_turn_48 : decode cX11_turn 48 = .ok (.iconst 0, 1) := by decide +kernel
theorem dX11_turn_49 : decode cX11_turn 49 = .ok (.istore_n 2, 1) := by decide +kernel
theorem dX11_turn_50 : decode cX11_turn 50 = .ok (.iload_n 2, 1) := by decide +kernel
theorem dX11_turn_51 : decode cX11_turn 51 = .ok (.iload_n 1, 1) := by decide +kernel
theorem dX11_turn_52 : decode cX11_turn 52 = .ok (.if_icmp .ge 27, 3) := by decide +kernel
theorem dX11_turn_55 : decode cX11_turn 55 = .ok (.aload_n 0, 1) := by decide +kernel
theorem dX11_turn_56 : decode cX11_turn 56 = .ok (.getfield 19, 3) := by decide +kernel
theorem dX11_turn_59 : decode cX11_turn 59 = .ok (.iconst 4, 1) := by decide +kernel
theorem dX11_turn_60 : decode cX11_turn 60 = .ok (.iload_n 2, 1) := by decide +kernel
theorem dX11_turn_61 : decode cX11_turn 61 = .ok (.iadd, 1) := by decide +kernel
theorem dX11_turn_62 : decode cX11_turn 62 = .ok (.aload_n 0, 1) := by decide +kernel
theorem dX11_turn_63 : decode cX11_turn 63 = .ok (.getfield 45, 3) := by decide +kernel
theorem dX11_turn_66 : decode cX11_turn 66 = .ok (.iload_n 1, 1) := by decide +kernel
theorem dX11_turn_67 : decode cX11_turn 67 = .ok (.iconst 1, 1) := by decide +kernel
theorem dX11_turn_68 : decode cX11_turn 68 = .ok (.isub, 1) := by decide +kernel
theorem dX11_turn_69 : decode cX11_turn 69 = .ok (.iload_n 2, 1) := by decide +kernel
theorem dX11_turn_70 : decode cX11_turn 70 = .ok (.isub, 1) := by decide +kernel
theorem dX11_turn_71 : decode cX11_turn 71 = .ok (.iaload, 1) := by decide +kernel
theorem dX11_turn_72 : decode cX11_turn 72 = .ok (.iastore, 1) := by decide +kernel
theorem dX11_turn_73 : decode cX11_turn 73 = .ok (.iinc 2 1, 3) := by decide +kernel
theorem dX11_turn_76 : decode cX11_turn 76 = .ok (.goto (-26), 3) := by decide +kernel
theorem dX11_turn_79 : decode cX11_turn 79 = .ok (.aload_n 0, 1) := by decide +kernel
theorem dX11_turn_80 : decode cX11_turn 80 = .ok (.getfield 19, 3) := by decide +kernel
theorem dX11_turn_83 : decode cX11_turn 83 = .ok (.iconst 4, 1) := by decide +kernel
theorem dX11_turn_84 : decode cX11_turn 84 = .ok (.iaload, 1) := by decide +kernel
theorem dX11_turn_85 : decode cX11_turn 85 = .ok (.ireturn, 1) := by decide +kernel
theorem dX11_cuts_0 : decode cX11_cuts 0 = .ok (.aload_n 0, 1) := by decide +kernel
theorem dX11_cuts_1 : decode cX11_cuts 1 = .ok (.getfield 19, 3) := by decide +kernel
theorem dX11_cuts_4 : decode cX11_cuts 4 = .ok (.iconst 2, 1) := by decide +kernel
theorem dX11_cuts_5 : decode cX11_cuts 5 = .ok (.iaload, 1) := by decide +kernel
theorem dX11_cuts_6 : decode cX11_cuts 6 = .ok (.istore_n 2, 1) := by decide +kernel
theorem dX11_cuts_7 : decode cX11_cuts 7 = .ok (.iconst 0, 1) := by decide +kernel
theorem dX11_cuts_8 : decode cX11_cuts 8 = .ok (.istore_n 3, 1) := by decide +kernel
theorem dX11_cuts_9 : decode cX11_cuts 9 = .ok (.iload_n 3, 1) := by decide +kernel
theorem dX11_cuts_10 : decode cX11_cuts 10 = .ok (.iload_n 2, 1) := by decide +kernel
theorem dX11_cuts_11 : decode cX11_cuts 11 = .ok (.if_icmp .ge 27, 3) := by decide +kernel
theorem dX11_cuts_14 : decode cX11_cuts 14 = .ok (.aload_n 0, 1) := by decide +kernel
theorem dX11_cuts_15 : decode cX11_cuts 15 = .ok (.getfield 45, 3) := by decide +kernel
theorem dX11_cuts_18 : decode cX11_cuts 18 = .ok (.iload_n 3, 1) := by decide +kernel
theorem dX11_cuts_19 : decode cX11_cuts 19 = .ok (.aload_n 0, 1) := by decide +kernel
theorem dX11_cuts_20 : decode cX11_cuts 20 = .ok (.getfield 19, 3) := by decide +kernel
theorem dX11_cuts_23 : decode cX11_cuts 23 = .ok (.iconst 4, 1) := by decide +kernel
theorem dX11_cuts_24 : decode cX11_cuts 24 = .ok (.iload_n 3, 1) := by decide +kernel
theorem dX11_cuts_25 : decode cX11_cuts 25 = .ok (.iload_n 1, 1) := by decide +kernel
theorem dX11_cuts_26 : decode cX11_cuts 26 = .ok (.iadd, 1) := by decide +kernel
theorem dX11_cuts_27 : decode cX11_cuts 27 = .ok (.iload_n 2, 1) := by decide +kernel
theorem dX11_cuts_28 : decode cX11_cuts 28 = .ok (.irem, 1) := by decide +kernel
theorem dX11_cuts_29 : decode cX11_cuts 29 = .ok (.iadd, 1) := by decide +kernel
theorem dX11_cuts_30 : decode cX11_cuts 30 = .ok (.iaload, 1) := by decide +kernel
theorem dX11_cuts_31 : decode cX11_cuts 31 = .ok (.iastore, 1) := by decide +kernel
theorem dX11_cuts_32 : decode cX11_cuts 32 = .ok (.iinc 3 1, 3) := by decide +kernel
theorem dX11_cuts_35 : decode cX11_cuts 35 = .ok (.goto (-26), 3) := by decide +kernel
theorem dX11_cuts_38 : decode cX11_cuts 38 = .ok (.iconst 0, 1) := by decide +kernel
theorem dX11_cuts_39 : decode cX11_cuts 39 = .ok (.istore_n 3, 1) := by decide +kernel
theorem dX11_cuts_40 : decode cX11_cuts 40 = .ok (.iload_n 3, 1) := by decide +kernel
theorem dX11_cuts_41 : decode cX11_cuts 41 = .ok (.iload_n 2, 1) := by decide +kernel
theorem dX11_cuts_42 : decode cX11_cuts 42 = .ok (.if_icmp .ge 23, 3) := by decide +kernel
theorem dX11_cuts_45 : decode cX11_cuts 45 = .ok (.aload_n 0, 1) := by decide +kernel
theorem dX11_cuts_46 : decode cX11_cuts 46 = .ok (.getfield 19, 3) := by decide +kernel
theorem dX11_cuts_49 : decode cX11_cuts 49 = .ok (.iconst 4, 1) := by decide +kernel
theorem dX11_cuts_50 : decode cX11_cuts 50 = .ok (.iload_n 3, 1) := by decide +kernel
theorem dX11_cuts_51 : decode cX11_cuts 51 = .ok (.iadd, 1) := by decide +kernel
theorem dX11_cuts_52 : decode cX11_cuts 52 = .ok (.aload_n 0, 1) := by decide +kernel
theorem dX11_cuts_53 : decode cX11_cuts 53 = .ok (.getfield 45, 3) := by decide +kernel
theorem dX11_cuts_56 : decode cX11_cuts 56 = .ok (.iload_n 3, 1) := by decide +kernel
theorem dX11_cuts_57 : decode cX11_cuts 57 = .ok (.iaload, 1) := by decide +kernel
theorem dX11_cuts_58 : decode cX11_cuts 58 = .ok (.iastore, 1) := by decide +kernel
theorem dX11_cuts_59 : decode cX11_cuts 59 = .ok (.iinc 3 1, 3) := by decide +kernel
theorem dX11_cuts_62 : decode cX11_cuts 62 = .ok (.goto (-22), 3) := by decide +kernel
theorem dX11_cuts_65 : decode cX11_cuts 65 = .ok (.return_, 1) := by decide +kernel
theorem dX11_cut_0 : decode cX11_cut 0 = .ok (.iload_n 1, 1) := by decide +kernel
theorem dX11_cut_1 : decode cX11_cut 1 = .ok (.iconst 1, 1) := by decide +kernel
theorem dX11_cut_2 : decode cX11_cut 2 = .ok (.aload_n 0, 1) := by decide +kernel
theorem dX11_cut_3 : decode cX11_cut 3 = .ok (.getfield 19, 3) := by decide +kernel
theorem dX11_cut_6 : decode cX11_cut 6 = .ok (.iconst 2, 1) := by decide +kernel
theorem dX11_cut_7 : decode cX11_cut 7 = .ok (.iaload, 1) := by decide +kernel
theorem dX11_cut_8 : decode cX11_cut 8 = .ok (.iconst 1, 1) := by decide +kernel
theorem dX11_cut_9 : decode cX11_cut 9 = .ok (.isub, 1) := by decide +kernel
theorem dX11_cut_10 : decode cX11_cut 10 = .ok (.invokestatic 67, 3) := by decide +kernel
theorem dX11_cut_13 : decode cX11_cut 13 = .ok (.ifCond .ne 6, 3) := by decide +kernel
theorem dX11_cut_16 : decode cX11_cut 16 = .ok (.ldc 71, 2) := by decide +kernel
theorem dX11_cut_18 : decode cX11_cut 18 = .ok (.ireturn, 1) := by decide +kernel
theorem dX11_cut_19 : decode cX11_cut 19 = .ok (.aload_n 0, 1) := by decide +kernel
theorem dX11_cut_20 : decode cX11_cut 20 = .ok (.invokevirtual 163, 3) := by decide +kernel
theorem dX11_cut_23 : decode cX11_cut 23 = .ok (.aload_n 0, 1) := by decide +kernel
theorem dX11_cut_24 : decode cX11_cut 24 = .ok (.iload_n 1, 1) := by decide +kernel
theorem dX11_cut_25 : decode cX11_cut 25 = .ok (.invokevirtual 166, 3) := by decide +kernel
theorem dX11_cut_28 : decode cX11_cut 28 = .ok (.aload_n 0, 1) := by decide +kernel
theorem dX11_cut_29 : decode cX11_cut 29 = .ok (.getfield 19, 3) := by decide +kernel
theorem dX11_cut_32 : decode cX11_cut 32 = .ok (.iconst 4, 1) := by decide +kernel
theorem dX11_cut_33 : decode cX11_cut 33 = .ok (.iaload, 1) := by decide +kernel
theorem dX11_cut_34 : decode cX11_cut 34 = .ok (.ireturn, 1) := by decide +kernel
theorem dX11_eats_0 : decode cX11_eats 0 = .ok (.aload_n 0, 1) := by decide +kernel
theorem dX11_eats_1 : decode cX11_eats 1 = .ok (.getfield 19, 3) := by decide +kernel
theorem dX11_eats_4 : decode cX11_eats 4 = .ok (.iconst 3, 1) := by decide +kernel
theorem dX11_eats_5 : decode cX11_eats 5 = .ok (.dup2, 1) := by decide +kernel
theorem dX11_eats_6 : decode cX11_eats 6 = .ok (.iaload, 1) := by decide +kernel
theorem dX11_eats_7 : decode cX11_eats 7 = .ok (.iconst 1, 1) := by decide +kernel
theorem dX11_eats_8 : decode cX11_eats 8 = .ok (.aload_n 0, 1) := by decide +kernel
theorem dX11_eats_9 : decode cX11_eats 9 = .ok (.getfield 19, 3) := by decide +kernel
theorem dX11_eats_12 : decode cX11_eats 12 = .ok (.iconst 4, 1) := by decide +kernel
theorem dX11_eats_13 : decode cX11_eats 13 = .ok (.iload_n 1, 1) := by decide +kernel
theorem dX11_eats_14 : decode cX11_eats 14 = .ok (.iadd, 1) := by decide +kernel
theorem dX11_eats_15 : decode cX11_eats 15 = .ok (.iaload, 1) := by decide +kernel
theorem dX11_eats_16 : decode cX11_eats 16 = .ok (.ishl, 1) := by decide +kernel
theorem dX11_eats_17 : decode cX11_eats 17 = .ok (.iconst (-1), 1) := by decide +kernel
theorem dX11_eats_18 : decode cX11_eats 18 = .ok (.ixor, 1) := by decide +kernel
theorem dX11_eats_19 : decode cX11_eats 19 = .ok (.iand, 1) := by decide +kernel
theorem dX11_eats_20 : decode cX11_eats 20 = .ok (.iastore, 1) := by decide +kernel
theorem dX11_eats_21 : decode cX11_eats 21 = .ok (.iload_n 1, 1) := by decide +kernel
theorem dX11_eats_22 : decode cX11_eats 22 = .ok (.istore_n 2, 1) := by decide +kernel
theorem dX11_eats_23 : decode cX11_eats 23 = .ok (.iload_n 2, 1) := by decide +kernel
theorem dX11_eats_24 : decode cX11_eats 24 = .ok (.aload_n 0, 1) := by decide +kernel
theorem dX11_eats_25 : decode cX11_eats 25 = .ok (.getfield 19, 3) := by decide +kernel
theorem dX11_eats_28 : decode cX11_eats 28 = .ok (.iconst 2, 1) := by decide +kernel
theorem dX11_eats_29 : decode cX11_eats 29 = .ok (.iaload, 1) := by decide +kernel
theorem dX11_eats_30 : decode cX11_eats 30 = .ok (.iconst 1, 1) := by decide +kernel
theorem dX11_eats_31 : decode cX11_eats 31 = .ok (.isub, 1) := by decide +kernel
theorem dX11_eats_32 : decode cX11_eats 32 = .ok (.if_icmp .ge 27, 3) := by decide +kernel
theorem dX11_eats_35 : decode cX11_eats 35 = .ok (.aload_n 0, 1) := by decide +kernel
theorem dX11_eats_36 : decode cX11_eats 36 = .ok (.getfield 19, 3) := by decide +kernel
theorem dX11_eats_39 : decode cX11_eats 39 = .ok (.iconst 4, 1) := by decide +kernel
theorem dX11_eats_40 : decode cX11_eats 40 = .ok (.iload_n 2, 1) := by decide +kernel
theorem dX11_eats_41 : decode cX11_eats 41 = .ok (.iadd, 1) := by decide +kernel
theorem dX11_eats_42 : decode cX11_eats 42 = .ok (.aload_n 0, 1) := by decide +kernel
theorem dX11_eats_43 : decode cX11_eats 43 = .ok (.getfield 19, 3) := by decide +kernel
theorem dX11_eats_46 : decode cX11_eats 46 = .ok (.iconst 4, 1) := by decide +kernel
theorem dX11_eats_47 : decode cX11_eats 47 = .ok (.iload_n 2, 1) := by decide +kernel
theorem dX11_eats_48 : decode cX11_eats 48 = .ok (.iadd, 1) := by decide +kernel
theorem dX11_eats_49 : decode cX11_eats 49 = .ok (.iconst 1, 1) := by decide +kernel
theorem dX11_eats_50 : decode cX11_eats 50 = .ok (.iadd, 1) := by decide +kernel
theorem dX11_eats_51 : decode cX11_eats 51 = .ok (.iaload, 1) := by decide +kernel
theorem dX11_eats_52 : decode cX11_eats 52 = .ok (.iastore, 1) := by decide +kernel
theorem dX11_eats_53 : decode cX11_eats 53 = .ok (.iinc 2 1, 3) := by decide +kernel
theorem dX11_eats_56 : decode cX11_eats 56 = .ok (.goto (-33), 3) := by decide +kernel
theorem dX11_eats_59 : decode cX11_eats 59 = .ok (.aload_n 0, 1) := by decide +kernel
theorem dX11_eats_60 : decode cX11_eats 60 = .ok (.getfield 19, 3) := by decide +kernel
theorem dX11_eats_63 : decode cX11_eats 63 = .ok (.iconst 2, 1) := by decide +kernel
theorem dX11_eats_64 : decode cX11_eats 64 = .ok (.dup2, 1) := by decide +kernel
theorem dX11_eats_65 : decode cX11_eats 65 = .ok (.iaload, 1) := by decide +kernel
theorem dX11_eats_66 : decode cX11_eats 66 = .ok (.iconst 1, 1) := by decide +kernel
theorem dX11_eats_67 : decode cX11_eats 67 = .ok (.isub, 1) := by decide +kernel
theorem dX11_eats_68 : decode cX11_eats 68 = .ok (.iastore, 1) := by decide +kernel
theorem dX11_eats_69 : decode cX11_eats 69 = .ok (.return_, 1) := by decide +kernel
theorem dX11_eat_0 : decode cX11_eat 0 = .ok (.aload_n 0, 1) := by decide +kernel
theorem dX11_eat_1 : decode cX11_eat 1 = .ok (.iload_n 1, 1) := by decide +kernel
theorem dX11_eat_2 : decode cX11_eat 2 = .ok (.invokevirtual 153, 3) := by decide +kernel
theorem dX11_eat_5 : decode cX11_eat 5 = .ok (.ifCond .ne 6, 3) := by decide +kernel
theorem dX11_eat_8 : decode cX11_eat 8 = .ok (.ldc 156, 2) := by decide +kernel
theorem dX11_eat_10 : decode cX11_eat 10 = .ok (.ireturn, 1) := by decide +kernel
theorem dX11_eat_11 : decode cX11_eat 11 = .ok (.aload_n 0, 1) := by decide +kernel
theorem dX11_eat_12 : decode cX11_eat 12 = .ok (.iload_n 1, 1) := by decide +kernel
theorem dX11_eat_13 : decode cX11_eat 13 = .ok (.invokevirtual 157, 3) := by decide +kernel
theorem dX11_eat_16 : decode cX11_eat 16 = .ok (.istore_n 2, 1) := by decide +kernel
theorem dX11_eat_17 : decode cX11_eat 17 = .ok (.iload_n 2, 1) := by decide +kernel
theorem dX11_eat_18 : decode cX11_eat 18 = .ok (.iconst (-1), 1) := by decide +kernel
theorem dX11_eat_19 : decode cX11_eat 19 = .ok (.if_icmp .ne 6, 3) := by decide +kernel
theorem dX11_eat_22 : decode cX11_eat 22 = .ok (.ldc 170, 2) := by decide +kernel
theorem dX11_eat_24 : decode cX11_eat 24 = .ok (.ireturn, 1) := by decide +kernel
theorem dX11_eat_25 : decode cX11_eat 25 = .ok (.aload_n 0, 1) := by decide +kernel
theorem dX11_eat_26 : decode cX11_eat 26 = .ok (.invokevirtual 163, 3) := by decide +kernel
theorem dX11_eat_29 : decode cX11_eat 29 = .ok (.aload_n 0, 1) := by decide +kernel
theorem dX11_eat_30 : decode cX11_eat 30 = .ok (.iload_n 2, 1) := by decide +kernel
theorem dX11_eat_31 : decode cX11_eat 31 = .ok (.invokevirtual 171, 3) := by decide +kernel
theorem dX11_eat_34 : decode cX11_eat 34 = .ok (.iload_n 2, 1) := by decide +kernel
theorem dX11_eat_35 : decode cX11_eat 35 = .ok (.ireturn, 1) := by decide +kernel
theorem dX11_sew_0 : decode cX11_sew 0 = .ok (.aload_n 0, 1) := by decide +kernel
theorem dX11_sew_1 : decode cX11_sew 1 = .ok (.iload_n 1, 1) := by decide +kernel
theorem dX11_sew_2 : decode cX11_sew 2 = .ok (.invokevirtual 153, 3) := by decide +kernel
theorem dX11_sew_5 : decode cX11_sew 5 = .ok (.ifCond .ne 6, 3) := by decide +kernel
theorem dX11_sew_8 : decode cX11_sew 8 = .ok (.ldc 156, 2) := by decide +kernel
theorem dX11_sew_10 : decode cX11_sew 10 = .ok (.ireturn, 1) := by decide +kernel
theorem dX11_sew_11 : decode cX11_sew 11 = .ok (.iload_n 2, 1) := by decide +kernel
theorem dX11_sew_12 : decode cX11_sew 12 = .ok (.iconst 0, 1) := by decide +kernel
theorem dX11_sew_13 : decode cX11_sew 13 = .ok (.aload_n 0, 1) := by decide +kernel
theorem dX11_sew_14 : decode cX11_sew 14 = .ok (.getfield 19, 3) := by decide +kernel
theorem dX11_sew_17 : decode cX11_sew 17 = .ok (.iconst 2, 1) := by decide +kernel
theorem dX11_sew_18 : decode cX11_sew 18 = .ok (.iaload, 1) := by decide +kernel
theorem dX11_sew_19 : decode cX11_sew 19 = .ok (.invokestatic 67, 3) := by decide +kernel
theorem dX11_sew_22 : decode cX11_sew 22 = .ok (.ifCond .ne 6, 3) := by decide +kernel
theorem dX11_sew_25 : decode cX11_sew 25 = .ok (.ldc 71, 2) := by decide +kernel
theorem dX11_sew_27 : decode cX11_sew 27 = .ok (.ireturn, 1) := by decide +kernel
theorem dX11_sew_28 : decode cX11_sew 28 = .ok (.aload_n 0, 1) := by decide +kernel
theorem dX11_sew_29 : decode cX11_sew 29 = .ok (.iload_n 1, 1) := by decide +kernel
theorem dX11_sew_30 : decode cX11_sew 30 = .ok (.invokevirtual 157, 3) := by decide +kernel
theorem dX11_sew_33 : decode cX11_sew 33 = .ok (.iconst (-1), 1) := by decide +kernel
theorem dX11_sew_34 : decode cX11_sew 34 = .ok (.if_icmp .eq 6, 3) := by decide +kernel
theorem dX11_sew_37 : decode cX11_sew 37 = .ok (.ldc 170, 2) := by decide +kernel
theorem dX11_sew_39 : decode cX11_sew 39 = .ok (.ireturn, 1) := by decide +kernel
theorem dX11_sew_40 : decode cX11_sew 40 = .ok (.aload_n 0, 1) := by decide +kernel
theorem dX11_sew_41 : decode cX11_sew 41 = .ok (.invokevirtual 163, 3) := by decide +kernel
theorem dX11_sew_44 : decode cX11_sew 44 = .ok (.aload_n 0, 1) := by decide +kernel
theorem dX11_sew_45 : decode cX11_sew 45 = .ok (.getfield 19, 3) := by decide +kernel
theorem dX11_sew_48 : decode cX11_sew 48 = .ok (.iconst 2, 1) := by decide +kernel
theorem dX11_sew_49 : decode cX11_sew 49 = .ok (.iaload, 1) := by decide +kernel
theorem dX11_sew_50 : decode cX11_sew 50 = .ok (.istore_n 3, 1) := by decide +kernel
theorem dX11_sew_51 : decode cX11_sew 51 = .ok (.iload_n 3, 1) := by decide +kernel
theorem dX11_sew_52 : decode cX11_sew 52 = .ok (.iload_n 2, 1) := by decide +kernel
theorem dX11_sew_53 : decode cX11_sew 53 = .ok (.if_icmp .le 27, 3) := by decide +kernel
theorem dX11_sew_56 : decode cX11_sew 56 = .ok (.aload_n 0, 1) := by decide +kernel
theorem dX11_sew_57 : decode cX11_sew 57 = .ok (.getfield 19, 3) := by decide +kernel
theorem dX11_sew_60 : decode cX11_sew 60 = .ok (.iconst 4, 1) := by decide +kernel
theorem dX11_sew_61 : decode cX11_sew 61 = .ok (.iload_n 3, 1) := by decide +kernel
theorem dX11_sew_62 : decode cX11_sew 62 = .ok (.iadd, 1) := by decide +kernel
theorem dX11_sew_63 : decode cX11_sew 63 = .ok (.aload_n 0, 1) := by decide +kernel
theorem dX11_sew_64 : decode cX11_sew 64 = .ok (.getfield 19, 3) := by decide +kernel
theorem dX11_sew_67 : decode cX11_sew 67 = .ok (.iconst 4, 1) := by decide +kernel
theorem dX11_sew_68 : decode cX11_sew 68 = .ok (.iload_n 3, 1) := by decide +kernel
theorem dX11_sew_69 : decode cX11_sew 69 = .ok (.iadd, 1) := by decide +kernel
theorem dX11_sew_70 : decode cX11_sew 70 = .ok (.iconst 1, 1) := by decide +kernel
theorem dX11_sew_71 : decode cX11_sew 71 = .ok (.isub, 1) := by decide +kernel
theorem dX11_sew_72 : decode cX11_sew 72 = .ok (.iaload, 1) := by decide +kernel
theorem dX11_sew_73 : decode cX11_sew 73 = .ok (.iastore, 1) := by decide +kernel
theorem dX11_sew_74 : decode cX11_sew 74 = .ok (.iinc 3 (-1), 3) := by decide +kernel
theorem dX11_sew_77 : decode cX11_sew 77 = .ok (.goto (-26), 3) := by decide +kernel
theorem dX11_sew_80 : decode cX11_sew 80 = .ok (.aload_n 0, 1) := by decide +kernel
theorem dX11_sew_81 : decode cX11_sew 81 = .ok (.getfield 19, 3) := by decide +kernel
theorem dX11_sew_84 : decode cX11_sew 84 = .ok (.iconst 4, 1) := by decide +kernel
theorem dX11_sew_85 : decode cX11_sew 85 = .ok (.iload_n 2, 1) := by decide +kernel
theorem dX11_sew_86 : decode cX11_sew 86 = .ok (.iadd, 1) := by decide +kernel
theorem dX11_sew_87 : decode cX11_sew 87 = .ok (.iload_n 1, 1) := by decide +kernel
theorem dX11_sew_88 : decode cX11_sew 88 = .ok (.iastore, 1) := by decide +kernel
theorem dX11_sew_89 : decode cX11_sew 89 = .ok (.aload_n 0, 1) := by decide +kernel
theorem dX11_sew_90 : decode cX11_sew 90 = .ok (.getfield 19, 3) := by decide +kernel
theorem dX11_sew_93 : decode cX11_sew 93 = .ok (.iconst 2, 1) := by decide +kernel
theorem dX11_sew_94 : decode cX11_sew 94 = .ok (.dup2, 1) := by decide +kernel
theorem dX11_sew_95 : decode cX11_sew 95 = .ok (.iaload, 1) := by decide +kernel
theorem dX11_sew_96 : decode cX11_sew 96 = .ok (.iconst 1, 1) := by decide +kernel
theorem dX11_sew_97 : decode cX11_sew 97 = .ok (.iadd, 1) := by decide +kernel
theorem dX11_sew_98 : decode cX11_sew 98 = .ok (.iastore, 1) := by decide +kernel
theorem dX11_sew_99 : decode cX11_sew 99 = .ok (.aload_n 0, 1) := by decide +kernel
theorem dX11_sew_100 : decode cX11_sew 100 = .ok (.getfield 19, 3) := by decide +kernel
theorem dX11_sew_103 : decode cX11_sew 103 = .ok (.bipush 11, 2) := by decide +kernel
theorem dX11_sew_105 : decode cX11_sew 105 = .ok (.iload_n 1, 1) := by decide +kernel
theorem dX11_sew_106 : decode cX11_sew 106 = .ok (.iadd, 1) := by decide +kernel
theorem dX11_sew_107 : decode cX11_sew 107 = .ok (.iconst 0, 1) := by decide +kernel
theorem dX11_sew_108 : decode cX11_sew 108 = .ok (.iastore, 1) := by decide +kernel
theorem dX11_sew_109 : decode cX11_sew 109 = .ok (.aload_n 0, 1) := by decide +kernel
theorem dX11_sew_110 : decode cX11_sew 110 = .ok (.getfield 19, 3) := by decide +kernel
theorem dX11_sew_113 : decode cX11_sew 113 = .ok (.bipush 18, 2) := by decide +kernel
theorem dX11_sew_115 : decode cX11_sew 115 = .ok (.iload_n 1, 1) := by decide +kernel
theorem dX11_sew_116 : decode cX11_sew 116 = .ok (.iadd, 1) := by decide +kernel
theorem dX11_sew_117 : decode cX11_sew 117 = .ok (.dup2, 1) := by decide +kernel
theorem dX11_sew_118 : decode cX11_sew 118 = .ok (.iaload, 1) := by decide +kernel
theorem dX11_sew_119 : decode cX11_sew 119 = .ok (.iconst 1, 1) := by decide +kernel
theorem dX11_sew_120 : decode cX11_sew 120 = .ok (.iadd, 1) := by decide +kernel
theorem dX11_sew_121 : decode cX11_sew 121 = .ok (.iastore, 1) := by decide +kernel
theorem dX11_sew_122 : decode cX11_sew 122 = .ok (.aload_n 0, 1) := by decide +kernel
theorem dX11_sew_123 : decode cX11_sew 123 = .ok (.getfield 19, 3) := by decide +kernel
end
section
theorem dX11_sew_126 : decode cX11_sew 126 = .ok (.iconst 2, 1) := by decide +kernel
theorem dX11_sew_127 : decode cX11_sew 127 = .ok (.iaload, 1) := by decide +kernel
theorem dX11_sew_128 : decode cX11_sew 128 = .ok (.ireturn, 1) := by decide +kernel
theorem dX11_rain_0 : decode cX11_rain 0 = .ok (.aload_n 0, 1) := by decide +kernel
theorem dX11_rain_1 : decode cX11_rain 1 = .ok (.getfield 13, 3) := by decide +kernel
theorem dX11_rain_4 : decode cX11_rain 4 = .ok (.iconst 0, 1) := by decide +kernel
theorem dX11_rain_5 : decode cX11_rain 5 = .ok (.iaload, 1) := by decide +kernel
theorem dX11_rain_6 : decode cX11_rain 6 = .ok (.ifCond .ne 6, 3) := by decide +kernel
theorem dX11_rain_9 : decode cX11_rain 9 = .ok (.ldc 170, 2) := by decide +kernel
theorem dX11_rain_11 : decode cX11_rain 11 = .ok (.ireturn, 1) := by decide +kernel
theorem dX11_rain_12 : decode cX11_rain 12 = .ok (.aload_n 0, 1) := by decide +kernel
theorem dX11_rain_13 : decode cX11_rain 13 = .ok (.invokevirtual 163, 3) := by decide +kernel
theorem dX11_rain_16 : decode cX11_rain 16 = .ok (.aload_n 0, 1) := by decide +kernel
theorem dX11_rain_17 : decode cX11_rain 17 = .ok (.getfield 19, 3) := by decide +kernel
theorem dX11_rain_20 : decode cX11_rain 20 = .ok (.iconst 3, 1) := by decide +kernel
theorem dX11_rain_21 : decode cX11_rain 21 = .ok (.iaload, 1) := by decide +kernel
theorem dX11_rain_22 : decode cX11_rain 22 = .ok (.invokestatic 174, 3) := by decide +kernel
theorem dX11_rain_25 : decode cX11_rain 25 = .ok (.istore_n 2, 1) := by decide +kernel
theorem dX11_rain_26 : decode cX11_rain 26 = .ok (.aload_n 0, 1) := by decide +kernel
theorem dX11_rain_27 : decode cX11_rain 27 = .ok (.getfield 19, 3) := by decide +kernel
theorem dX11_rain_30 : decode cX11_rain 30 = .ok (.iconst 3, 1) := by decide +kernel
theorem dX11_rain_31 : decode cX11_rain 31 = .ok (.iload_n 1, 1) := by decide +kernel
theorem dX11_rain_32 : decode cX11_rain 32 = .ok (.ifCond .eq 10, 3) := by decide +kernel
theorem dX11_rain_35 : decode cX11_rain 35 = .ok (.aload_n 0, 1) := by decide +kernel
theorem dX11_rain_36 : decode cX11_rain 36 = .ok (.invokevirtual 135, 3) := by decide +kernel
theorem dX11_rain_39 : decode cX11_rain 39 = .ok (.goto 4, 3) := by decide +kernel
theorem dX11_rain_42 : decode cX11_rain 42 = .ok (.iconst 0, 1) := by decide +kernel
theorem dX11_rain_43 : decode cX11_rain 43 = .ok (.iastore, 1) := by decide +kernel
theorem dX11_rain_44 : decode cX11_rain 44 = .ok (.iload_n 2, 1) := by decide +kernel
theorem dX11_rain_45 : decode cX11_rain 45 = .ok (.ireturn, 1) := by decide +kernel
theorem dX11_wind_0 : decode cX11_wind 0 = .ok (.iload_n 1, 1) := by decide +kernel
theorem dX11_wind_1 : decode cX11_wind 1 = .ok (.iconst 0, 1) := by decide +kernel
theorem dX11_wind_2 : decode cX11_wind 2 = .ok (.bipush 9, 2) := by decide +kernel
theorem dX11_wind_4 : decode cX11_wind 4 = .ok (.invokestatic 67, 3) := by decide +kernel
theorem dX11_wind_7 : decode cX11_wind 7 = .ok (.ifCond .ne 6, 3) := by decide +kernel
theorem dX11_wind_10 : decode cX11_wind 10 = .ok (.ldc 71, 2) := by decide +kernel
theorem dX11_wind_12 : decode cX11_wind 12 = .ok (.ireturn, 1) := by decide +kernel
theorem dX11_wind_13 : decode cX11_wind 13 = .ok (.aload_n 0, 1) := by decide +kernel
theorem dX11_wind_14 : decode cX11_wind 14 = .ok (.getfield 13, 3) := by decide +kernel
theorem dX11_wind_17 : decode cX11_wind 17 = .ok (.iconst 0, 1) := by decide +kernel
theorem dX11_wind_18 : decode cX11_wind 18 = .ok (.iaload, 1) := by decide +kernel
theorem dX11_wind_19 : decode cX11_wind 19 = .ok (.ifCond .ne 6, 3) := by decide +kernel
theorem dX11_wind_22 : decode cX11_wind 22 = .ok (.ldc 170, 2) := by decide +kernel
theorem dX11_wind_24 : decode cX11_wind 24 = .ok (.ireturn, 1) := by decide +kernel
theorem dX11_wind_25 : decode cX11_wind 25 = .ok (.aload_n 0, 1) := by decide +kernel
theorem dX11_wind_26 : decode cX11_wind 26 = .ok (.invokevirtual 163, 3) := by decide +kernel
theorem dX11_wind_29 : decode cX11_wind 29 = .ok (.aload_n 0, 1) := by decide +kernel
theorem dX11_wind_30 : decode cX11_wind 30 = .ok (.getfield 19, 3) := by decide +kernel
theorem dX11_wind_33 : decode cX11_wind 33 = .ok (.iconst 1, 1) := by decide +kernel
theorem dX11_wind_34 : decode cX11_wind 34 = .ok (.iaload, 1) := by decide +kernel
theorem dX11_wind_35 : decode cX11_wind 35 = .ok (.istore_n 2, 1) := by decide +kernel
theorem dX11_wind_36 : decode cX11_wind 36 = .ok (.aload_n 0, 1) := by decide +kernel
theorem dX11_wind_37 : decode cX11_wind 37 = .ok (.getfield 19, 3) := by decide +kernel
theorem dX11_wind_40 : decode cX11_wind 40 = .ok (.iconst 1, 1) := by decide +kernel
theorem dX11_wind_41 : decode cX11_wind 41 = .ok (.iload_n 1, 1) := by decide +kernel
theorem dX11_wind_42 : decode cX11_wind 42 = .ok (.iastore, 1) := by decide +kernel
theorem dX11_wind_43 : decode cX11_wind 43 = .ok (.iload_n 2, 1) := by decide +kernel
theorem dX11_wind_44 : decode cX11_wind 44 = .ok (.ireturn, 1) := by decide +kernel
theorem dX11_passes_0 : decode cX11_passes 0 = .ok (.aload_n 0, 1) := by decide +kernel
theorem dX11_passes_1 : decode cX11_passes 1 = .ok (.invokevirtual 138, 3) := by decide +kernel
theorem dX11_passes_4 : decode cX11_passes 4 = .ok (.istore_n 1, 1) := by decide +kernel
theorem dX11_passes_5 : decode cX11_passes 5 = .ok (.iconst 0, 1) := by decide +kernel
theorem dX11_passes_6 : decode cX11_passes 6 = .ok (.istore_n 2, 1) := by decide +kernel
theorem dX11_passes_7 : decode cX11_passes 7 = .ok (.iload_n 2, 1) := by decide +kernel
theorem dX11_passes_8 : decode cX11_passes 8 = .ok (.aload_n 0, 1) := by decide +kernel
theorem dX11_passes_9 : decode cX11_passes 9 = .ok (.getfield 13, 3) := by decide +kernel
theorem dX11_passes_12 : decode cX11_passes 12 = .ok (.iconst 1, 1) := by decide +kernel
theorem dX11_passes_13 : decode cX11_passes 13 = .ok (.iaload, 1) := by decide +kernel
theorem dX11_passes_14 : decode cX11_passes 14 = .ok (.if_icmp .ge 75, 3) := by decide +kernel
theorem dX11_passes_17 : decode cX11_passes 17 = .ok (.aload_n 0, 1) := by decide +kernel
theorem dX11_passes_18 : decode cX11_passes 18 = .ok (.iload_n 2, 1) := by decide +kernel
theorem dX11_passes_19 : decode cX11_passes 19 = .ok (.invokevirtual 157, 3) := by decide +kernel
theorem dX11_passes_22 : decode cX11_passes 22 = .ok (.iconst (-1), 1) := by decide +kernel
theorem dX11_passes_23 : decode cX11_passes 23 = .ok (.if_icmp .eq 60, 3) := by decide +kernel
theorem dX11_passes_26 : decode cX11_passes 26 = .ok (.aload_n 0, 1) := by decide +kernel
theorem dX11_passes_27 : decode cX11_passes 27 = .ok (.getfield 19, 3) := by decide +kernel
theorem dX11_passes_30 : decode cX11_passes 30 = .ok (.bipush 11, 2) := by decide +kernel
theorem dX11_passes_32 : decode cX11_passes 32 = .ok (.iload_n 2, 1) := by decide +kernel
theorem dX11_passes_33 : decode cX11_passes 33 = .ok (.iadd, 1) := by decide +kernel
theorem dX11_passes_34 : decode cX11_passes 34 = .ok (.iaload, 1) := by decide +kernel
theorem dX11_passes_35 : decode cX11_passes 35 = .ok (.iload_n 1, 1) := by decide +kernel
theorem dX11_passes_36 : decode cX11_passes 36 = .ok (.iload_n 2, 1) := by decide +kernel
theorem dX11_passes_37 : decode cX11_passes 37 = .ok (.invokestatic 118, 3) := by decide +kernel
theorem dX11_passes_40 : decode cX11_passes 40 = .ok (.ifCond .eq 19, 3) := by decide +kernel
theorem dX11_passes_43 : decode cX11_passes 43 = .ok (.aload_n 0, 1) := by decide +kernel
theorem dX11_passes_44 : decode cX11_passes 44 = .ok (.getfield 13, 3) := by decide +kernel
theorem dX11_passes_47 : decode cX11_passes 47 = .ok (.iconst 5, 1) := by decide +kernel
theorem dX11_passes_48 : decode cX11_passes 48 = .ok (.iload_n 2, 1) := by decide +kernel
theorem dX11_passes_49 : decode cX11_passes 49 = .ok (.iadd, 1) := by decide +kernel
theorem dX11_passes_50 : decode cX11_passes 50 = .ok (.iaload, 1) := by decide +kernel
theorem dX11_passes_51 : decode cX11_passes 51 = .ok (.iconst 3, 1) := by decide +kernel
theorem dX11_passes_52 : decode cX11_passes 52 = .ok (.if_icmp .eq 7, 3) := by decide +kernel
theorem dX11_passes_55 : decode cX11_passes 55 = .ok (.iconst 2, 1) := by decide +kernel
theorem dX11_passes_56 : decode cX11_passes 56 = .ok (.goto 4, 3) := by decide +kernel
theorem dX11_passes_59 : decode cX11_passes 59 = .ok (.iconst 1, 1) := by decide +kernel
theorem dX11_passes_60 : decode cX11_passes 60 = .ok (.iadd, 1) := by decide +kernel
theorem dX11_passes_61 : decode cX11_passes 61 = .ok (.istore_n 3, 1) := by decide +kernel
theorem dX11_passes_62 : decode cX11_passes 62 = .ok (.aload_n 0, 1) := by decide +kernel
theorem dX11_passes_63 : decode cX11_passes 63 = .ok (.getfield 19, 3) := by decide +kernel
theorem dX11_passes_66 : decode cX11_passes 66 = .ok (.bipush 11, 2) := by decide +kernel
theorem dX11_passes_68 : decode cX11_passes 68 = .ok (.iload_n 2, 1) := by decide +kernel
theorem dX11_passes_69 : decode cX11_passes 69 = .ok (.iadd, 1) := by decide +kernel
theorem dX11_passes_70 : decode cX11_passes 70 = .ok (.iload_n 3, 1) := by decide +kernel
theorem dX11_passes_71 : decode cX11_passes 71 = .ok (.bipush 99, 2) := by decide +kernel
theorem dX11_passes_73 : decode cX11_passes 73 = .ok (.if_icmp .le 8, 3) := by decide +kernel
theorem dX11_passes_76 : decode cX11_passes 76 = .ok (.bipush 99, 2) := by decide +kernel
theorem dX11_passes_78 : decode cX11_passes 78 = .ok (.goto 4, 3) := by decide +kernel
theorem dX11_passes_81 : decode cX11_passes 81 = .ok (.iload_n 3, 1) := by decide +kernel
theorem dX11_passes_82 : decode cX11_passes 82 = .ok (.iastore, 1) := by decide +kernel
theorem dX11_passes_83 : decode cX11_passes 83 = .ok (.iinc 2 1, 3) := by decide +kernel
theorem dX11_passes_86 : decode cX11_passes 86 = .ok (.goto (-79), 3) := by decide +kernel
theorem dX11_passes_89 : decode cX11_passes 89 = .ok (.iconst 0, 1) := by decide +kernel
theorem dX11_passes_90 : decode cX11_passes 90 = .ok (.istore_n 2, 1) := by decide +kernel
theorem dX11_passes_91 : decode cX11_passes 91 = .ok (.iload_n 2, 1) := by decide +kernel
theorem dX11_passes_92 : decode cX11_passes 92 = .ok (.aload_n 0, 1) := by decide +kernel
theorem dX11_passes_93 : decode cX11_passes 93 = .ok (.getfield 13, 3) := by decide +kernel
theorem dX11_passes_96 : decode cX11_passes 96 = .ok (.iconst 1, 1) := by decide +kernel
theorem dX11_passes_97 : decode cX11_passes 97 = .ok (.iaload, 1) := by decide +kernel
theorem dX11_passes_98 : decode cX11_passes 98 = .ok (.if_icmp .ge 53, 3) := by decide +kernel
theorem dX11_passes_101 : decode cX11_passes 101 = .ok (.aload_n 0, 1) := by decide +kernel
theorem dX11_passes_102 : decode cX11_passes 102 = .ok (.iload_n 2, 1) := by decide +kernel
theorem dX11_passes_103 : decode cX11_passes 103 = .ok (.invokevirtual 157, 3) := by decide +kernel
theorem dX11_passes_106 : decode cX11_passes 106 = .ok (.iconst (-1), 1) := by decide +kernel
theorem dX11_passes_107 : decode cX11_passes 107 = .ok (.if_icmp .eq 38, 3) := by decide +kernel
theorem dX11_passes_110 : decode cX11_passes 110 = .ok (.aload_n 0, 1) := by decide +kernel
theorem dX11_passes_111 : decode cX11_passes 111 = .ok (.getfield 13, 3) := by decide +kernel
theorem dX11_passes_114 : decode cX11_passes 114 = .ok (.iconst 5, 1) := by decide +kernel
theorem dX11_passes_115 : decode cX11_passes 115 = .ok (.iload_n 2, 1) := by decide +kernel
theorem dX11_passes_116 : decode cX11_passes 116 = .ok (.iadd, 1) := by decide +kernel
theorem dX11_passes_117 : decode cX11_passes 117 = .ok (.iaload, 1) := by decide +kernel
theorem dX11_passes_118 : decode cX11_passes 118 = .ok (.iconst 2, 1) := by decide +kernel
theorem dX11_passes_119 : decode cX11_passes 119 = .ok (.if_icmp .ne 26, 3) := by decide +kernel
theorem dX11_passes_122 : decode cX11_passes 122 = .ok (.aload_n 0, 1) := by decide +kernel
theorem dX11_passes_123 : decode cX11_passes 123 = .ok (.getfield 19, 3) := by decide +kernel
theorem dX11_passes_126 : decode cX11_passes 126 = .ok (.bipush 11, 2) := by decide +kernel
theorem dX11_passes_128 : decode cX11_passes 128 = .ok (.iload_n 2, 1) := by decide +kernel
theorem dX11_passes_129 : decode cX11_passes 129 = .ok (.iadd, 1) := by decide +kernel
theorem dX11_passes_130 : decode cX11_passes 130 = .ok (.iaload, 1) := by decide +kernel
theorem dX11_passes_131 : decode cX11_passes 131 = .ok (.bipush 40, 2) := by decide +kernel
theorem dX11_passes_133 : decode cX11_passes 133 = .ok (.if_icmp .lt 12, 3) := by decide +kernel
theorem dX11_passes_136 : decode cX11_passes 136 = .ok (.aload_n 0, 1) := by decide +kernel
theorem dX11_passes_137 : decode cX11_passes 137 = .ok (.aload_n 0, 1) := by decide +kernel
theorem dX11_passes_138 : decode cX11_passes 138 = .ok (.iload_n 2, 1) := by decide +kernel
theorem dX11_passes_139 : decode cX11_passes 139 = .ok (.invokevirtual 157, 3) := by decide +kernel
theorem dX11_passes_142 : decode cX11_passes 142 = .ok (.invokevirtual 171, 3) := by decide +kernel
theorem dX11_passes_145 : decode cX11_passes 145 = .ok (.iinc 2 1, 3) := by decide +kernel
theorem dX11_passes_148 : decode cX11_passes 148 = .ok (.goto (-57), 3) := by decide +kernel
theorem dX11_passes_151 : decode cX11_passes 151 = .ok (.aload_n 0, 1) := by decide +kernel
theorem dX11_passes_152 : decode cX11_passes 152 = .ok (.getfield 19, 3) := by decide +kernel
theorem dX11_passes_155 : decode cX11_passes 155 = .ok (.iconst 3, 1) := by decide +kernel
theorem dX11_passes_156 : decode cX11_passes 156 = .ok (.iconst 0, 1) := by decide +kernel
theorem dX11_passes_157 : decode cX11_passes 157 = .ok (.iastore, 1) := by decide +kernel
theorem dX11_passes_158 : decode cX11_passes 158 = .ok (.aload_n 0, 1) := by decide +kernel
theorem dX11_passes_159 : decode cX11_passes 159 = .ok (.getfield 19, 3) := by decide +kernel
theorem dX11_passes_162 : decode cX11_passes 162 = .ok (.iconst 0, 1) := by decide +kernel
theorem dX11_passes_163 : decode cX11_passes 163 = .ok (.dup2, 1) := by decide +kernel
theorem dX11_passes_164 : decode cX11_passes 164 = .ok (.iaload, 1) := by decide +kernel
theorem dX11_passes_165 : decode cX11_passes 165 = .ok (.iconst 1, 1) := by decide +kernel
theorem dX11_passes_166 : decode cX11_passes 166 = .ok (.iadd, 1) := by decide +kernel
theorem dX11_passes_167 : decode cX11_passes 167 = .ok (.iastore, 1) := by decide +kernel
theorem dX11_passes_168 : decode cX11_passes 168 = .ok (.return_, 1) := by decide +kernel
theorem dX11_year_0 : decode cX11_year 0 = .ok (.iload_n 1, 1) := by decide +kernel
theorem dX11_year_1 : decode cX11_year 1 = .ok (.iconst 1, 1) := by decide +kernel
theorem dX11_year_2 : decode cX11_year 2 = .ok (.bipush 20, 2) := by decide +kernel
theorem dX11_year_4 : decode cX11_year 4 = .ok (.invokestatic 67, 3) := by decide +kernel
theorem dX11_year_7 : decode cX11_year 7 = .ok (.ifCond .ne 6, 3) := by decide +kernel
theorem dX11_year_10 : decode cX11_year 10 = .ok (.ldc 71, 2) := by decide +kernel
theorem dX11_year_12 : decode cX11_year 12 = .ok (.ireturn, 1) := by decide +kernel
theorem dX11_year_13 : decode cX11_year 13 = .ok (.aload_n 0, 1) := by decide +kernel
theorem dX11_year_14 : decode cX11_year 14 = .ok (.getfield 13, 3) := by decide +kernel
theorem dX11_year_17 : decode cX11_year 17 = .ok (.iconst 0, 1) := by decide +kernel
theorem dX11_year_18 : decode cX11_year 18 = .ok (.iaload, 1) := by decide +kernel
theorem dX11_year_19 : decode cX11_year 19 = .ok (.ifCond .ne 6, 3) := by decide +kernel
theorem dX11_year_22 : decode cX11_year 22 = .ok (.ldc 170, 2) := by decide +kernel
theorem dX11_year_24 : decode cX11_year 24 = .ok (.ireturn, 1) := by decide +kernel
theorem dX11_year_25 : decode cX11_year 25 = .ok (.aload_n 0, 1) := by decide +kernel
theorem dX11_year_26 : decode cX11_year 26 = .ok (.getfield 19, 3) := by decide +kernel
theorem dX11_year_29 : decode cX11_year 29 = .ok (.iconst 0, 1) := by decide +kernel
theorem dX11_year_30 : decode cX11_year 30 = .ok (.iaload, 1) := by decide +kernel
theorem dX11_year_31 : decode cX11_year 31 = .ok (.sipush 9000, 3) := by decide +kernel
theorem dX11_year_34 : decode cX11_year 34 = .ok (.if_icmp .le 6, 3) := by decide +kernel
theorem dX11_year_37 : decode cX11_year 37 = .ok (.ldc 75, 2) := by decide +kernel
theorem dX11_year_39 : decode cX11_year 39 = .ok (.ireturn, 1) := by decide +kernel
theorem dX11_year_40 : decode cX11_year 40 = .ok (.iconst 0, 1) := by decide +kernel
theorem dX11_year_41 : decode cX11_year 41 = .ok (.istore_n 2, 1) := by decide +kernel
theorem dX11_year_42 : decode cX11_year 42 = .ok (.iload_n 2, 1) := by decide +kernel
theorem dX11_year_43 : decode cX11_year 43 = .ok (.iload_n 1, 1) := by decide +kernel
theorem dX11_year_44 : decode cX11_year 44 = .ok (.if_icmp .ge 17, 3) := by decide +kernel
theorem dX11_year_47 : decode cX11_year 47 = .ok (.aload_n 0, 1) := by decide +kernel
theorem dX11_year_48 : decode cX11_year 48 = .ok (.invokevirtual 163, 3) := by decide +kernel
theorem dX11_year_51 : decode cX11_year 51 = .ok (.aload_n 0, 1) := by decide +kernel
theorem dX11_year_52 : decode cX11_year 52 = .ok (.invokevirtual 177, 3) := by decide +kernel
theorem dX11_year_55 : decode cX11_year 55 = .ok (.iinc 2 1, 3) := by decide +kernel
theorem dX11_year_58 : decode cX11_year 58 = .ok (.goto (-16), 3) := by decide +kernel
theorem dX11_year_61 : decode cX11_year 61 = .ok (.aload_n 0, 1) := by decide +kernel
theorem dX11_year_62 : decode cX11_year 62 = .ok (.getfield 19, 3) := by decide +kernel
theorem dX11_year_65 : decode cX11_year 65 = .ok (.iconst 2, 1) := by decide +kernel
theorem dX11_year_66 : decode cX11_year 66 = .ok (.iaload, 1) := by decide +kernel
theorem dX11_year_67 : decode cX11_year 67 = .ok (.ireturn, 1) := by decide +kernel
theorem dX11_draws_0 : decode cX11_draws 0 = .ok (.aload_n 0, 1) := by decide +kernel
theorem dX11_draws_1 : decode cX11_draws 1 = .ok (.aload_n 0, 1) := by decide +kernel
theorem dX11_draws_2 : decode cX11_draws 2 = .ok (.getfield 180, 3) := by decide +kernel
theorem dX11_draws_5 : decode cX11_draws 5 = .ok (.ldc 183, 2) := by decide +kernel
theorem dX11_draws_7 : decode cX11_draws 7 = .ok (.imul, 1) := by decide +kernel
theorem dX11_draws_8 : decode cX11_draws 8 = .ok (.sipush 12345, 3) := by decide +kernel
theorem dX11_draws_11 : decode cX11_draws 11 = .ok (.iadd, 1) := by decide +kernel
theorem dX11_draws_12 : decode cX11_draws 12 = .ok (.ldc 184, 2) := by decide +kernel
theorem dX11_draws_14 : decode cX11_draws 14 = .ok (.iand, 1) := by decide +kernel
theorem dX11_draws_15 : decode cX11_draws 15 = .ok (.putfield 180, 3) := by decide +kernel
theorem dX11_draws_18 : decode cX11_draws 18 = .ok (.aload_n 0, 1) := by decide +kernel
theorem dX11_draws_19 : decode cX11_draws 19 = .ok (.getfield 180, 3) := by decide +kernel
theorem dX11_draws_22 : decode cX11_draws 22 = .ok (.ldc 185, 2) := by decide +kernel
theorem dX11_draws_24 : decode cX11_draws 24 = .ok (.idiv, 1) := by decide +kernel
theorem dX11_draws_25 : decode cX11_draws 25 = .ok (.iload_n 1, 1) := by decide +kernel
theorem dX11_draws_26 : decode cX11_draws 26 = .ok (.irem, 1) := by decide +kernel
theorem dX11_draws_27 : decode cX11_draws 27 = .ok (.ireturn, 1) := by decide +kernel
theorem dX11_drift_0 : decode cX11_drift 0 = .ok (.iload_n 1, 1) := by decide +kernel
theorem dX11_drift_1 : decode cX11_drift 1 = .ok (.iconst 1, 1) := by decide +kernel
theorem dX11_drift_2 : decode cX11_drift 2 = .ok (.bipush 20, 2) := by decide +kernel
theorem dX11_drift_4 : decode cX11_drift 4 = .ok (.invokestatic 67, 3) := by decide +kernel
theorem dX11_drift_7 : decode cX11_drift 7 = .ok (.ifCond .ne 6, 3) := by decide +kernel
theorem dX11_drift_10 : decode cX11_drift 10 = .ok (.ldc 71, 2) := by decide +kernel
theorem dX11_drift_12 : decode cX11_drift 12 = .ok (.ireturn, 1) := by decide +kernel
theorem dX11_drift_13 : decode cX11_drift 13 = .ok (.aload_n 0, 1) := by decide +kernel
theorem dX11_drift_14 : decode cX11_drift 14 = .ok (.getfield 13, 3) := by decide +kernel
theorem dX11_drift_17 : decode cX11_drift 17 = .ok (.iconst 0, 1) := by decide +kernel
theorem dX11_drift_18 : decode cX11_drift 18 = .ok (.iaload, 1) := by decide +kernel
theorem dX11_drift_19 : decode cX11_drift 19 = .ok (.ifCond .ne 6, 3) := by decide +kernel
theorem dX11_drift_22 : decode cX11_drift 22 = .ok (.ldc 170, 2) := by decide +kernel
theorem dX11_drift_24 : decode cX11_drift 24 = .ok (.ireturn, 1) := by decide +kernel
theorem dX11_drift_25 : decode cX11_drift 25 = .ok (.aload_n 0, 1) := by decide +kernel
theorem dX11_drift_26 : decode cX11_drift 26 = .ok (.getfield 19, 3) := by decide +kernel
theorem dX11_drift_29 : decode cX11_drift 29 = .ok (.iconst 0, 1) := by decide +kernel
theorem dX11_drift_30 : decode cX11_drift 30 = .ok (.iaload, 1) := by decide +kernel
theorem dX11_drift_31 : decode cX11_drift 31 = .ok (.sipush 9000, 3) := by decide +kernel
theorem dX11_drift_34 : decode cX11_drift 34 = .ok (.if_icmp .le 6, 3) := by decide +kernel
theorem dX11_drift_37 : decode cX11_drift 37 = .ok (.ldc 75, 2) := by decide +kernel
theorem dX11_drift_39 : decode cX11_drift 39 = .ok (.ireturn, 1) := by decide +kernel
theorem dX11_drift_40 : decode cX11_drift 40 = .ok (.iconst 0, 1) := by decide +kernel
theorem dX11_drift_41 : decode cX11_drift 41 = .ok (.istore_n 2, 1) := by decide +kernel
theorem dX11_drift_42 : decode cX11_drift 42 = .ok (.iload_n 2, 1) := by decide +kernel
theorem dX11_drift_43 : decode cX11_drift 43 = .ok (.iload_n 1, 1) := by decide +kernel
theorem dX11_drift_44 : decode cX11_drift 44 = .ok (.if_icmp .ge 121, 3) := by decide +kernel
theorem dX11_drift_47 : decode cX11_drift 47 = .ok (.aload_n 0, 1) := by decide +kernel
theorem dX11_drift_48 : decode cX11_drift 48 = .ok (.invokevirtual 163, 3) := by decide +kernel
theorem dX11_drift_51 : decode cX11_drift 51 = .ok (.aload_n 0, 1) := by decide +kernel
theorem dX11_drift_52 : decode cX11_drift 52 = .ok (.bipush 6, 2) := by decide +kernel
theorem dX11_drift_54 : decode cX11_drift 54 = .ok (.invokevirtual 186, 3) := by decide +kernel
theorem dX11_drift_57 : decode cX11_drift 57 = .ok (.istore_n 3, 1) := by decide +kernel
theorem dX11_drift_58 : decode cX11_drift 58 = .ok (.iload_n 3, 1) := by decide +kernel
theorem dX11_drift_59 : decode cX11_drift 59 = .ok (.ifCond .ne 18, 3) := by decide +kernel
theorem dX11_drift_62 : decode cX11_drift 62 = .ok (.aload_n 0, 1) := by decide +kernel
theorem dX11_drift_63 : decode cX11_drift 63 = .ok (.getfield 19, 3) := by decide +kernel
theorem dX11_drift_66 : decode cX11_drift 66 = .ok (.iconst 1, 1) := by decide +kernel
theorem dX11_drift_67 : decode cX11_drift 67 = .ok (.aload_n 0, 1) := by decide +kernel
theorem dX11_drift_68 : decode cX11_drift 68 = .ok (.bipush 10, 2) := by decide +kernel
theorem dX11_drift_70 : decode cX11_drift 70 = .ok (.invokevirtual 186, 3) := by decide +kernel
theorem dX11_drift_73 : decode cX11_drift 73 = .ok (.iastore, 1) := by decide +kernel
theorem dX11_drift_74 : decode cX11_drift 74 = .ok (.goto 81, 3) := by decide +kernel
theorem dX11_drift_77 : decode cX11_drift 77 = .ok (.iload_n 3, 1) := by decide +kernel
theorem dX11_drift_78 : decode cX11_drift 78 = .ok (.iconst 1, 1) := by decide +kernel
theorem dX11_drift_79 : decode cX11_drift 79 = .ok (.if_icmp .ne 16, 3) := by decide +kernel
theorem dX11_drift_82 : decode cX11_drift 82 = .ok (.aload_n 0, 1) := by decide +kernel
theorem dX11_drift_83 : decode cX11_drift 83 = .ok (.getfield 19, 3) := by decide +kernel
theorem dX11_drift_86 : decode cX11_drift 86 = .ok (.iconst 3, 1) := by decide +kernel
theorem dX11_drift_87 : decode cX11_drift 87 = .ok (.aload_n 0, 1) := by decide +kernel
theorem dX11_drift_88 : decode cX11_drift 88 = .ok (.invokevirtual 135, 3) := by decide +kernel
theorem dX11_drift_91 : decode cX11_drift 91 = .ok (.iastore, 1) := by decide +kernel
theorem dX11_drift_92 : decode cX11_drift 92 = .ok (.goto 63, 3) := by decide +kernel
theorem dX11_drift_95 : decode cX11_drift 95 = .ok (.iload_n 3, 1) := by decide +kernel
theorem dX11_drift_96 : decode cX11_drift 96 = .ok (.iconst 2, 1) := by decide +kernel
theorem dX11_drift_97 : decode cX11_drift 97 = .ok (.if_icmp .ne 30, 3) := by decide +kernel
theorem dX11_drift_100 : decode cX11_drift 100 = .ok (.aload_n 0, 1) := by decide +kernel
theorem dX11_drift_101 : decode cX11_drift 101 = .ok (.getfield 19, 3) := by decide +kernel
theorem dX11_drift_104 : decode cX11_drift 104 = .ok (.iconst 2, 1) := by decide +kernel
theorem dX11_drift_105 : decode cX11_drift 105 = .ok (.iaload, 1) := by decide +kernel
theorem dX11_drift_106 : decode cX11_drift 106 = .ok (.iconst 1, 1) := by decide +kernel
theorem dX11_drift_107 : decode cX11_drift 107 = .ok (.if_icmp .le 20, 3) := by decide +kernel
theorem dX11_drift_110 : decode cX11_drift 110 = .ok (.aload_n 0, 1) := by decide +kernel
theorem dX11_drift_111 : decode cX11_drift 111 = .ok (.aload_n 0, 1) := by decide +kernel
theorem dX11_drift_112 : decode cX11_drift 112 = .ok (.aload_n 0, 1) := by decide +kernel
theorem dX11_drift_113 : decode cX11_drift 113 = .ok (.getfield 19, 3) := by decide +kernel
theorem dX11_drift_116 : decode cX11_drift 116 = .ok (.iconst 2, 1) := by decide +kernel
theorem dX11_drift_117 : decode cX11_drift 117 = .ok (.iaload, 1) := by decide +kernel
theorem dX11_drift_118 : decode cX11_drift 118 = .ok (.invokevirtual 186, 3) := by decide +kernel
theorem dX11_drift_121 : decode cX11_drift 121 = .ok (.invokevirtual 166, 3) := by decide +kernel
theorem dX11_drift_124 : decode cX11_drift 124 = .ok (.goto 31, 3) := by decide +kernel
theorem dX11_drift_127 : decode cX11_drift 127 = .ok (.iload_n 3, 1) := by decide +kernel
theorem dX11_drift_128 : decode cX11_drift 128 = .ok (.iconst 3, 1) := by decide +kernel
theorem dX11_drift_129 : decode cX11_drift 129 = .ok (.if_icmp .ne 26, 3) := by decide +kernel
theorem dX11_drift_132 : decode cX11_drift 132 = .ok (.aload_n 0, 1) := by decide +kernel
theorem dX11_drift_133 : decode cX11_drift 133 = .ok (.getfield 19, 3) := by decide +kernel
theorem dX11_drift_136 : decode cX11_drift 136 = .ok (.iconst 2, 1) := by decide +kernel
theorem dX11_drift_137 : decode cX11_drift 137 = .ok (.iaload, 1) := by decide +kernel
theorem dX11_drift_138 : decode cX11_drift 138 = .ok (.ifCond .le 17, 3) := by decide +kernel
theorem dX11_drift_141 : decode cX11_drift 141 = .ok (.aload_n 0, 1) := by decide +kernel
theorem dX11_drift_142 : decode cX11_drift 142 = .ok (.aload_n 0, 1) := by decide +kernel
theorem dX11_drift_143 : decode cX11_drift 143 = .ok (.aload_n 0, 1) := by decide +kernel
theorem dX11_drift_144 : decode cX11_drift 144 = .ok (.getfield 19, 3) := by decide +kernel
theorem dX11_drift_147 : decode cX11_drift 147 = .ok (.iconst 2, 1) := by decide +kernel
theorem dX11_drift_148 : decode cX11_drift 148 = .ok (.iaload, 1) := by decide +kernel
theorem dX11_drift_149 : decode cX11_drift 149 = .ok (.invokevirtual 186, 3) := by decide +kernel
theorem dX11_drift_152 : decode cX11_drift 152 = .ok (.invokevirtual 171, 3) := by decide +kernel
theorem dX11_drift_155 : decode cX11_drift 155 = .ok (.aload_n 0, 1) := by decide +kernel
theorem dX11_drift_156 : decode cX11_drift 156 = .ok (.invokevirtual 177, 3) := by decide +kernel
theorem dX11_drift_159 : decode cX11_drift 159 = .ok (.iinc 2 1, 3) := by decide +kernel
theorem dX11_drift_162 : decode cX11_drift 162 = .ok (.goto (-120), 3) := by decide +kernel
theorem dX11_drift_165 : decode cX11_drift 165 = .ok (.aload_n 0, 1) := by decide +kernel
theorem dX11_drift_166 : decode cX11_drift 166 = .ok (.getfield 19, 3) := by decide +kernel
theorem dX11_drift_169 : decode cX11_drift 169 = .ok (.iconst 2, 1) := by decide +kernel
theorem dX11_drift_170 : decode cX11_drift 170 = .ok (.iaload, 1) := by decide +kernel
theorem dX11_drift_171 : decode cX11_drift 171 = .ok (.ireturn, 1) := by decide +kernel
theorem dX11_undo_0 : decode cX11_undo 0 = .ok (.iload_n 1, 1) := by decide +kernel
theorem dX11_undo_1 : decode cX11_undo 1 = .ok (.iconst 1, 1) := by decide +kernel
theorem dX11_undo_2 : decode cX11_undo 2 = .ok (.bipush 30, 2) := by decide +kernel
theorem dX11_undo_4 : decode cX11_undo 4 = .ok (.invokestatic 67, 3) := by decide +kernel
theorem dX11_undo_7 : decode cX11_undo 7 = .ok (.ifCond .ne 6, 3) := by decide +kernel
theorem dX11_undo_10 : decode cX11_undo 10 = .ok (.ldc 71, 2) := by decide +kernel
theorem dX11_undo_12 : decode cX11_undo 12 = .ok (.ireturn, 1) := by decide +kernel
theorem dX11_undo_13 : decode cX11_undo 13 = .ok (.aload_n 0, 1) := by decide +kernel
theorem dX11_undo_14 : decode cX11_undo 14 = .ok (.getfield 109, 3) := by decide +kernel
theorem dX11_undo_17 : decode cX11_undo 17 = .ok (.iload_n 1, 1) := by decide +kernel
theorem dX11_undo_18 : decode cX11_undo 18 = .ok (.if_icmp .ge 6, 3) := by decide +kernel
theorem dX11_undo_21 : decode cX11_undo 21 = .ok (.ldc 170, 2) := by decide +kernel
theorem dX11_undo_23 : decode cX11_undo 23 = .ok (.ireturn, 1) := by decide +kernel
theorem dX11_undo_24 : decode cX11_undo 24 = .ok (.aload_n 0, 1) := by decide +kernel
theorem dX11_undo_25 : decode cX11_undo 25 = .ok (.dup, 1) := by decide +kernel
theorem dX11_undo_26 : decode cX11_undo 26 = .ok (.getfield 109, 3) := by decide +kernel
theorem dX11_undo_29 : decode cX11_undo 29 = .ok (.iload_n 1, 1) := by decide +kernel
theorem dX11_undo_30 : decode cX11_undo 30 = .ok (.isub, 1) := by decide +kernel
theorem dX11_undo_31 : decode cX11_undo 31 = .ok (.putfield 109, 3) := by decide +kernel
theorem dX11_undo_34 : decode cX11_undo 34 = .ok (.iconst 0, 1) := by decide +kernel
theorem dX11_undo_35 : decode cX11_undo 35 = .ok (.istore_n 2, 1) := by decide +kernel
theorem dX11_undo_36 : decode cX11_undo 36 = .ok (.iload_n 2, 1) := by decide +kernel
theorem dX11_undo_37 : decode cX11_undo 37 = .ok (.bipush 25, 2) := by decide +kernel
theorem dX11_undo_39 : decode cX11_undo 39 = .ok (.if_icmp .ge 29, 3) := by decide +kernel
theorem dX11_undo_42 : decode cX11_undo 42 = .ok (.aload_n 0, 1) := by decide +kernel
theorem dX11_undo_43 : decode cX11_undo 43 = .ok (.getfield 19, 3) := by decide +kernel
theorem dX11_undo_46 : decode cX11_undo 46 = .ok (.iload_n 2, 1) := by decide +kernel
theorem dX11_undo_47 : decode cX11_undo 47 = .ok (.aload_n 0, 1) := by decide +kernel
theorem dX11_undo_48 : decode cX11_undo 48 = .ok (.getfield 22, 3) := by decide +kernel
theorem dX11_undo_51 : decode cX11_undo 51 = .ok (.bipush 25, 2) := by decide +kernel
theorem dX11_undo_53 : decode cX11_undo 53 = .ok (.aload_n 0, 1) := by decide +kernel
theorem dX11_undo_54 : decode cX11_undo 54 = .ok (.getfield 109, 3) := by decide +kernel
theorem dX11_undo_57 : decode cX11_undo 57 = .ok (.imul, 1) := by decide +kernel
theorem dX11_undo_58 : decode cX11_undo 58 = .ok (.iload_n 2, 1) := by decide +kernel
theorem dX11_undo_59 : decode cX11_undo 59 = .ok (.iadd, 1) := by decide +kernel
theorem dX11_undo_60 : decode cX11_undo 60 = .ok (.iaload, 1) := by decide +kernel
theorem dX11_undo_61 : decode cX11_undo 61 = .ok (.iastore, 1) := by decide +kernel
theorem dX11_undo_62 : decode cX11_undo 62 = .ok (.iinc 2 1, 3) := by decide +kernel
theorem dX11_undo_65 : decode cX11_undo 65 = .ok (.goto (-29), 3) := by decide +kernel
theorem dX11_undo_68 : decode cX11_undo 68 = .ok (.aload_n 0, 1) := by decide +kernel
theorem dX11_undo_69 : decode cX11_undo 69 = .ok (.getfield 19, 3) := by decide +kernel
theorem dX11_undo_72 : decode cX11_undo 72 = .ok (.iconst 0, 1) := by decide +kernel
theorem dX11_undo_73 : decode cX11_undo 73 = .ok (.iaload, 1) := by decide +kernel
theorem dX11_undo_74 : decode cX11_undo 74 = .ok (.ireturn, 1) := by decide +kernel
theorem dX11_farAt_0 : decode cX11_farAt 0 = .ok (.aload_n 0, 1) := by decide +kernel
theorem dX11_farAt_1 : decode cX11_farAt 1 = .ok (.getfield 48, 3) := by decide +kernel
theorem dX11_farAt_4 : decode cX11_farAt 4 = .ok (.iload_n 1, 1) := by decide +kernel
theorem dX11_farAt_5 : decode cX11_farAt 5 = .ok (.bipush 16, 2) := by decide +kernel
theorem dX11_farAt_7 : decode cX11_farAt 7 = .ok (.idiv, 1) := by decide +kernel
theorem dX11_farAt_8 : decode cX11_farAt 8 = .ok (.laload, 1) := by decide +kernel
theorem dX11_farAt_9 : decode cX11_farAt 9 = .ok (.iconst 4, 1) := by decide +kernel
theorem dX11_farAt_10 : decode cX11_farAt 10 = .ok (.iload_n 1, 1) := by decide +kernel
theorem dX11_farAt_11 : decode cX11_farAt 11 = .ok (.bipush 16, 2) := by decide +kernel
theorem dX11_farAt_13 : decode cX11_farAt 13 = .ok (.irem, 1) := by decide +kernel
theorem dX11_farAt_14 : decode cX11_farAt 14 = .ok (.imul, 1) := by decide +kernel
theorem dX11_farAt_15 : decode cX11_farAt 15 = .ok (.lshr, 1) := by decide +kernel
theorem dX11_farAt_16 : decode cX11_farAt 16 = .ok (.ldc2_w 189, 3) := by decide +kernel
theorem dX11_farAt_19 : decode cX11_farAt 19 = .ok (.land, 1) := by decide +kernel
theorem dX11_farAt_20 : decode cX11_farAt 20 = .ok (.l2i, 1) := by decide +kernel
theorem dX11_farAt_21 : decode cX11_farAt 21 = .ok (.ireturn, 1) := by decide +kernel
theorem dX11_isFar_0 : decode cX11_isFar 0 = .ok (.ldc2_w 189, 3) := by decide +kernel
theorem dX11_isFar_3 : decode cX11_isFar 3 = .ok (.iconst 4, 1) := by decide +kernel
theorem dX11_isFar_4 : decode cX11_isFar 4 = .ok (.iload_n 1, 1) := by decide +kernel
theorem dX11_isFar_5 : decode cX11_isFar 5 = .ok (.bipush 16, 2) := by decide +kernel
theorem dX11_isFar_7 : decode cX11_isFar 7 = .ok (.irem, 1) := by decide +kernel
theorem dX11_isFar_8 : decode cX11_isFar 8 = .ok (.imul, 1) := by decide +kernel
theorem dX11_isFar_9 : decode cX11_isFar 9 = .ok (.lshl, 1) := by decide +kernel
theorem dX11_isFar_10 : decode cX11_isFar 10 = .ok (.lstore_n 3, 1) := by decide +kernel
theorem dX11_isFar_11 : decode cX11_isFar 11 = .ok (.aload_n 0, 1) := by decide +kernel
theorem dX11_isFar_12 : decode cX11_isFar 12 = .ok (.getfield 48, 3) := by decide +kernel
theorem dX11_isFar_15 : decode cX11_isFar 15 = .ok (.iload_n 1, 1) := by decide +kernel
theorem dX11_isFar_16 : decode cX11_isFar 16 = .ok (.bipush 16, 2) := by decide +kernel
theorem dX11_isFar_18 : decode cX11_isFar 18 = .ok (.idiv, 1) := by decide +kernel
theorem dX11_isFar_19 : decode cX11_isFar 19 = .ok (.aload_n 0, 1) := by decide +kernel
theorem dX11_isFar_20 : decode cX11_isFar 20 = .ok (.getfield 48, 3) := by decide +kernel
theorem dX11_isFar_23 : decode cX11_isFar 23 = .ok (.iload_n 1, 1) := by decide +kernel
theorem dX11_isFar_24 : decode cX11_isFar 24 = .ok (.bipush 16, 2) := by decide +kernel
theorem dX11_isFar_26 : decode cX11_isFar 26 = .ok (.idiv, 1) := by decide +kernel
theorem dX11_isFar_27 : decode cX11_isFar 27 = .ok (.laload, 1) := by decide +kernel
theorem dX11_isFar_28 : decode cX11_isFar 28 = .ok (.lload_n 3, 1) := by decide +kernel
theorem dX11_isFar_29 : decode cX11_isFar 29 = .ok (.ldc2_w 191, 3) := by decide +kernel
theorem dX11_isFar_32 : decode cX11_isFar 32 = .ok (.lxor, 1) := by decide +kernel
theorem dX11_isFar_33 : decode cX11_isFar 33 = .ok (.land, 1) := by decide +kernel
theorem dX11_isFar_34 : decode cX11_isFar 34 = .ok (.iload_n 2, 1) := by decide +kernel
theorem dX11_isFar_35 : decode cX11_isFar 35 = .ok (.i2l, 1) := by decide +kernel
theorem dX11_isFar_36 : decode cX11_isFar 36 = .ok (.iconst 4, 1) := by decide +kernel
theorem dX11_isFar_37 : decode cX11_isFar 37 = .ok (.iload_n 1, 1) := by decide +kernel
theorem dX11_isFar_38 : decode cX11_isFar 38 = .ok (.bipush 16, 2) := by decide +kernel
theorem dX11_isFar_40 : decode cX11_isFar 40 = .ok (.irem, 1) := by decide +kernel
theorem dX11_isFar_41 : decode cX11_isFar 41 = .ok (.imul, 1) := by decide +kernel
theorem dX11_isFar_42 : decode cX11_isFar 42 = .ok (.lshl, 1) := by decide +kernel
theorem dX11_isFar_43 : decode cX11_isFar 43 = .ok (.lor, 1) := by decide +kernel
theorem dX11_isFar_44 : decode cX11_isFar 44 = .ok (.lastore, 1) := by decide +kernel
theorem dX11_isFar_45 : decode cX11_isFar 45 = .ok (.return_, 1) := by decide +kernel
theorem dX11_numberOf_0 : decode cX11_numberOf 0 = .ok (.iconst 0, 1) := by decide +kernel
theorem dX11_numberOf_1 : decode cX11_numberOf 1 = .ok (.istore_n 2, 1) := by decide +kernel
theorem dX11_numberOf_2 : decode cX11_numberOf 2 = .ok (.iconst 0, 1) := by decide +kernel
theorem dX11_numberOf_3 : decode cX11_numberOf 3 = .ok (.istore_n 3, 1) := by decide +kernel
theorem dX11_numberOf_4 : decode cX11_numberOf 4 = .ok (.iload_n 3, 1) := by decide +kernel
theorem dX11_numberOf_5 : decode cX11_numberOf 5 = .ok (.iload_n 1, 1) := by decide +kernel
theorem dX11_numberOf_6 : decode cX11_numberOf 6 = .ok (.if_icmp .ge 58, 3) := by decide +kernel
theorem dX11_numberOf_9 : decode cX11_numberOf 9 = .ok (.iconst 0, 1) := by decide +kernel
theorem dX11_numberOf_10 : decode cX11_numberOf 10 = .ok (.istore 4, 2) := by decide +kernel
theorem dX11_numberOf_12 : decode cX11_numberOf 12 = .ok (.iload_n 3, 1) := by decide +kernel
theorem dX11_numberOf_13 : decode cX11_numberOf 13 = .ok (.iconst 1, 1) := by decide +kernel
theorem dX11_numberOf_14 : decode cX11_numberOf 14 = .ok (.iadd, 1) := by decide +kernel
theorem dX11_numberOf_15 : decode cX11_numberOf 15 = .ok (.istore 5, 2) := by decide +kernel
theorem dX11_numberOf_17 : decode cX11_numberOf 17 = .ok (.iload 5, 2) := by decide +kernel
theorem dX11_numberOf_19 : decode cX11_numberOf 19 = .ok (.iload_n 1, 1) := by decide +kernel
theorem dX11_numberOf_20 : decode cX11_numberOf 20 = .ok (.if_icmp .ge 29, 3) := by decide +kernel
theorem dX11_numberOf_23 : decode cX11_numberOf 23 = .ok (.iload 4, 2) := by decide +kernel
theorem dX11_numberOf_25 : decode cX11_numberOf 25 = .ok (.aload_n 0, 1) := by decide +kernel
theorem dX11_numberOf_26 : decode cX11_numberOf 26 = .ok (.iload 5, 2) := by decide +kernel
theorem dX11_numberOf_28 : decode cX11_numberOf 28 = .ok (.iaload, 1) := by decide +kernel
theorem dX11_numberOf_29 : decode cX11_numberOf 29 = .ok (.aload_n 0, 1) := by decide +kernel
theorem dX11_numberOf_30 : decode cX11_numberOf 30 = .ok (.iload_n 3, 1) := by decide +kernel
theorem dX11_numberOf_31 : decode cX11_numberOf 31 = .ok (.iaload, 1) := by decide +kernel
theorem dX11_numberOf_32 : decode cX11_numberOf 32 = .ok (.if_icmp .ge 7, 3) := by decide +kernel
theorem dX11_numberOf_35 : decode cX11_numberOf 35 = .ok (.iconst 1, 1) := by decide +kernel
theorem dX11_numberOf_36 : decode cX11_numberOf 36 = .ok (.goto 4, 3) := by decide +kernel
theorem dX11_numberOf_39 : decode cX11_numberOf 39 = .ok (.iconst 0, 1) := by decide +kernel
theorem dX11_numberOf_40 : decode cX11_numberOf 40 = .ok (.iadd, 1) := by decide +kernel
theorem dX11_numberOf_41 : decode cX11_numberOf 41 = .ok (.istore 4, 2) := by decide +kernel
theorem dX11_numberOf_43 : decode cX11_numberOf 43 = .ok (.iinc 5 1, 3) := by decide +kernel
theorem dX11_numberOf_46 : decode cX11_numberOf 46 = .ok (.goto (-29), 3) := by decide +kernel
theorem dX11_numberOf_49 : decode cX11_numberOf 49 = .ok (.iload_n 2, 1) := by decide +kernel
theorem dX11_numberOf_50 : decode cX11_numberOf 50 = .ok (.iload_n 1, 1) := by decide +kernel
theorem dX11_numberOf_51 : decode cX11_numberOf 51 = .ok (.iload_n 3, 1) := by decide +kernel
theorem dX11_numberOf_52 : decode cX11_numberOf 52 = .ok (.isub, 1) := by decide +kernel
theorem dX11_numberOf_53 : decode cX11_numberOf 53 = .ok (.imul, 1) := by decide +kernel
theorem dX11_numberOf_54 : decode cX11_numberOf 54 = .ok (.iload 4, 2) := by decide +kernel
theorem dX11_numberOf_56 : decode cX11_numberOf 56 = .ok (.iadd, 1) := by decide +kernel
theorem dX11_numberOf_57 : decode cX11_numberOf 57 = .ok (.istore_n 2, 1) := by decide +kernel
theorem dX11_numberOf_58 : decode cX11_numberOf 58 = .ok (.iinc 3 1, 3) := by decide +kernel
theorem dX11_numberOf_61 : decode cX11_numberOf 61 = .ok (.goto (-57), 3) := by decide +kernel
theorem dX11_numberOf_64 : decode cX11_numberOf 64 = .ok (.iload_n 2, 1) := by decide +kernel
theorem dX11_numberOf_65 : decode cX11_numberOf 65 = .ok (.ireturn, 1) := by decide +kernel
theorem dX11_orderOf_0 : decode cX11_orderOf 0 = .ok (.iload_n 1, 1) := by decide +kernel
theorem dX11_orderOf_1 : decode cX11_orderOf 1 = .ok (.istore 4, 2) := by decide +kernel
theorem dX11_orderOf_3 : decode cX11_orderOf 3 = .ok (.iload_n 2, 1) := by decide +kernel
theorem dX11_orderOf_4 : decode cX11_orderOf 4 = .ok (.iconst 1, 1) := by decide +kernel
theorem dX11_orderOf_5 : decode cX11_orderOf 5 = .ok (.isub, 1) := by decide +kernel
theorem dX11_orderOf_6 : decode cX11_orderOf 6 = .ok (.istore 5, 2) := by decide +kernel
theorem dX11_orderOf_8 : decode cX11_orderOf 8 = .ok (.iload 5, 2) := by decide +kernel
theorem dX11_orderOf_10 : decode cX11_orderOf 10 = .ok (.ifCond .lt 32, 3) := by decide +kernel
theorem dX11_orderOf_13 : decode cX11_orderOf 13 = .ok (.aload_n 0, 1) := by decide +kernel
theorem dX11_orderOf_14 : decode cX11_orderOf 14 = .ok (.getfield 55, 3) := by decide +kernel
theorem dX11_orderOf_17 : decode cX11_orderOf 17 = .ok (.iload 5, 2) := by decide +kernel
theorem dX11_orderOf_19 : decode cX11_orderOf 19 = .ok (.iload 4, 2) := by decide +kernel
theorem dX11_orderOf_21 : decode cX11_orderOf 21 = .ok (.iload_n 2, 1) := by decide +kernel
theorem dX11_orderOf_22 : decode cX11_orderOf 22 = .ok (.iload 5, 2) := by decide +kernel
theorem dX11_orderOf_24 : decode cX11_orderOf 24 = .ok (.isub, 1) := by decide +kernel
theorem dX11_orderOf_25 : decode cX11_orderOf 25 = .ok (.irem, 1) := by decide +kernel
theorem dX11_orderOf_26 : decode cX11_orderOf 26 = .ok (.iastore, 1) := by decide +kernel
theorem dX11_orderOf_27 : decode cX11_orderOf 27 = .ok (.iload 4, 2) := by decide +kernel
theorem dX11_orderOf_29 : decode cX11_orderOf 29 = .ok (.iload_n 2, 1) := by decide +kernel
theorem dX11_orderOf_30 : decode cX11_orderOf 30 = .ok (.iload 5, 2) := by decide +kernel
theorem dX11_orderOf_32 : decode cX11_orderOf 32 = .ok (.isub, 1) := by decide +kernel
theorem dX11_orderOf_33 : decode cX11_orderOf 33 = .ok (.idiv, 1) := by decide +kernel
theorem dX11_orderOf_34 : decode cX11_orderOf 34 = .ok (.istore 4, 2) := by decide +kernel
theorem dX11_orderOf_36 : decode cX11_orderOf 36 = .ok (.iinc 5 (-1), 3) := by decide +kernel
theorem dX11_orderOf_39 : decode cX11_orderOf 39 = .ok (.goto (-31), 3) := by decide +kernel
theorem dX11_orderOf_42 : decode cX11_orderOf 42 = .ok (.iconst 0, 1) := by decide +kernel
theorem dX11_orderOf_43 : decode cX11_orderOf 43 = .ok (.istore 5, 2) := by decide +kernel
theorem dX11_orderOf_45 : decode cX11_orderOf 45 = .ok (.iconst 0, 1) := by decide +kernel
theorem dX11_orderOf_46 : decode cX11_orderOf 46 = .ok (.istore 6, 2) := by decide +kernel
theorem dX11_orderOf_48 : decode cX11_orderOf 48 = .ok (.iload 6, 2) := by decide +kernel
theorem dX11_orderOf_50 : decode cX11_orderOf 50 = .ok (.iload_n 2, 1) := by decide +kernel
theorem dX11_orderOf_51 : decode cX11_orderOf 51 = .ok (.if_icmp .ge 66, 3) := by decide +kernel
theorem dX11_orderOf_54 : decode cX11_orderOf 54 = .ok (.iconst (-1), 1) := by decide +kernel
theorem dX11_orderOf_55 : decode cX11_orderOf 55 = .ok (.istore 7, 2) := by decide +kernel
theorem dX11_orderOf_57 : decode cX11_orderOf 57 = .ok (.aload_n 0, 1) := by decide +kernel
theorem dX11_orderOf_58 : decode cX11_orderOf 58 = .ok (.getfield 55, 3) := by decide +kernel
theorem dX11_orderOf_61 : decode cX11_orderOf 61 = .ok (.iload 6, 2) := by decide +kernel
theorem dX11_orderOf_63 : decode cX11_orderOf 63 = .ok (.iaload, 1) := by decide +kernel
theorem dX11_orderOf_64 : decode cX11_orderOf 64 = .ok (.istore 8, 2) := by decide +kernel
theorem dX11_orderOf_66 : decode cX11_orderOf 66 = .ok (.iload 8, 2) := by decide +kernel
theorem dX11_orderOf_68 : decode cX11_orderOf 68 = .ok (.ifCond .lt 28, 3) := by decide +kernel
theorem dX11_orderOf_71 : decode cX11_orderOf 71 = .ok (.iinc 7 1, 3) := by decide +kernel
theorem dX11_orderOf_74 : decode cX11_orderOf 74 = .ok (.iload 5, 2) := by decide +kernel
theorem dX11_orderOf_76 : decode cX11_orderOf 76 = .ok (.iload 7, 2) := by decide +kernel
theorem dX11_orderOf_78 : decode cX11_orderOf 78 = .ok (.invokestatic 118, 3) := by decide +kernel
theorem dX11_orderOf_81 : decode cX11_orderOf 81 = .ok (.ifCond .eq 9, 3) := by decide +kernel
theorem dX11_orderOf_84 : decode cX11_orderOf 84 = .ok (.iinc 7 1, 3) := by decide +kernel
theorem dX11_orderOf_87 : decode cX11_orderOf 87 = .ok (.goto (-13), 3) := by decide +kernel
theorem dX11_orderOf_90 : decode cX11_orderOf 90 = .ok (.iinc 8 (-1), 3) := by decide +kernel
theorem dX11_orderOf_93 : decode cX11_orderOf 93 = .ok (.goto (-27), 3) := by decide +kernel
theorem dX11_orderOf_96 : decode cX11_orderOf 96 = .ok (.aload_n 3, 1) := by decide +kernel
theorem dX11_orderOf_97 : decode cX11_orderOf 97 = .ok (.iload 6, 2) := by decide +kernel
theorem dX11_orderOf_99 : decode cX11_orderOf 99 = .ok (.iload 7, 2) := by decide +kernel
theorem dX11_orderOf_101 : decode cX11_orderOf 101 = .ok (.iastore, 1) := by decide +kernel
theorem dX11_orderOf_102 : decode cX11_orderOf 102 = .ok (.iload 5, 2) := by decide +kernel
theorem dX11_orderOf_104 : decode cX11_orderOf 104 = .ok (.iconst 1, 1) := by decide +kernel
theorem dX11_orderOf_105 : decode cX11_orderOf 105 = .ok (.iload 7, 2) := by decide +kernel
theorem dX11_orderOf_107 : decode cX11_orderOf 107 = .ok (.ishl, 1) := by decide +kernel
theorem dX11_orderOf_108 : decode cX11_orderOf 108 = .ok (.ior, 1) := by decide +kernel
theorem dX11_orderOf_109 : decode cX11_orderOf 109 = .ok (.istore 5, 2) := by decide +kernel
theorem dX11_orderOf_111 : decode cX11_orderOf 111 = .ok (.iinc 6 1, 3) := by decide +kernel
theorem dX11_orderOf_114 : decode cX11_orderOf 114 = .ok (.goto (-66), 3) := by decide +kernel
theorem dX11_orderOf_117 : decode cX11_orderOf 117 = .ok (.return_, 1) := by decide +kernel
theorem dX11_turns_0 : decode cX11_turns 0 = .ok (.iconst 0, 1) := by decide +kernel
theorem dX11_turns_1 : decode cX11_turns 1 = .ok (.istore 4, 2) := by decide +kernel
theorem dX11_turns_3 : decode cX11_turns 3 = .ok (.iload 4, 2) := by decide +kernel
theorem dX11_turns_5 : decode cX11_turns 5 = .ok (.iload_n 2, 1) := by decide +kernel
theorem dX11_turns_6 : decode cX11_turns 6 = .ok (.if_icmp .ge 34, 3) := by decide +kernel
theorem dX11_turns_9 : decode cX11_turns 9 = .ok (.aload_n 1, 1) := by decide +kernel
theorem dX11_turns_10 : decode cX11_turns 10 = .ok (.iload 4, 2) := by decide +kernel
theorem dX11_turns_12 : decode cX11_turns 12 = .ok (.iload 4, 2) := by decide +kernel
theorem dX11_turns_14 : decode cX11_turns 14 = .ok (.iload_n 3, 1) := by decide +kernel
theorem dX11_turns_15 : decode cX11_turns 15 = .ok (.if_icmp .ge 14, 3) := by decide +kernel
theorem dX11_turns_18 : decode cX11_turns 18 = .ok (.aload_n 0, 1) := by decide +kernel
theorem dX11_turns_19 : decode cX11_turns 19 = .ok (.iload_n 3, 1) := by decide +kernel
theorem dX11_turns_20 : decode cX11_turns 20 = .ok (.iconst 1, 1) := by decide +kernel
theorem dX11_turns_21 : decode cX11_turns 21 = .ok (.isub, 1) := by decide +kernel
theorem dX11_turns_22 : decode cX11_turns 22 = .ok (.iload 4, 2) := by decide +kernel
theorem dX11_turns_24 : decode cX11_turns 24 = .ok (.isub, 1) := by decide +kernel
theorem dX11_turns_25 : decode cX11_turns 25 = .ok (.iaload, 1) := by decide +kernel
theorem dX11_turns_26 : decode cX11_turns 26 = .ok (.goto 7, 3) := by decide +kernel
theorem dX11_turns_29 : decode cX11_turns 29 = .ok (.aload_n 0, 1) := by decide +kernel
theorem dX11_turns_30 : decode cX11_turns 30 = .ok (.iload 4, 2) := by decide +kernel
theorem dX11_turns_32 : decode cX11_turns 32 = .ok (.iaload, 1) := by decide +kernel
theorem dX11_turns_33 : decode cX11_turns 33 = .ok (.iastore, 1) := by decide +kernel
theorem dX11_turns_34 : decode cX11_turns 34 = .ok (.iinc 4 1, 3) := by decide +kernel
theorem dX11_turns_37 : decode cX11_turns 37 = .ok (.goto (-34), 3) := by decide +kernel
theorem dX11_turns_40 : decode cX11_turns 40 = .ok (.return_, 1) := by decide +kernel
theorem dX11_measures_0 : decode cX11_measures 0 = .ok (.aload_n 0, 1) := by decide +kernel
theorem dX11_measures_1 : decode cX11_measures 1 = .ok (.getfield 52, 3) := by decide +kernel
theorem dX11_measures_4 : decode cX11_measures 4 = .ok (.iload_n 1, 1) := by decide +kernel
theorem dX11_measures_5 : decode cX11_measures 5 = .ok (.if_icmp .ne 4, 3) := by decide +kernel
theorem dX11_measures_8 : decode cX11_measures 8 = .ok (.return_, 1) := by decide +kernel
theorem dX11_measures_9 : decode cX11_measures 9 = .ok (.iconst 1, 1) := by decide +kernel
theorem dX11_measures_10 : decode cX11_measures 10 = .ok (.istore_n 2, 1) := by decide +kernel
theorem dX11_measures_11 : decode cX11_measures 11 = .ok (.iconst 2, 1) := by decide +kernel
theorem dX11_measures_12 : decode cX11_measures 12 = .ok (.istore_n 3, 1) := by decide +kernel
theorem dX11_measures_13 : decode cX11_measures 13 = .ok (.iload_n 3, 1) := by decide +kernel
theorem dX11_measures_14 : decode cX11_measures 14 = .ok (.iload_n 1, 1) := by decide +kernel
theorem dX11_measures_15 : decode cX11_measures 15 = .ok (.if_icmp .gt 13, 3) := by decide +kernel
theorem dX11_measures_18 : decode cX11_measures 18 = .ok (.iload_n 2, 1) := by decide +kernel
theorem dX11_measures_19 : decode cX11_measures 19 = .ok (.iload_n 3, 1) := by decide +kernel
theorem dX11_measures_20 : decode cX11_measures 20 = .ok (.imul, 1) := by decide +kernel
theorem dX11_measures_21 : decode cX11_measures 21 = .ok (.istore_n 2, 1) := by decide +kernel
theorem dX11_measures_22 : decode cX11_measures 22 = .ok (.iinc 3 1, 3) := by decide +kernel
theorem dX11_measures_25 : decode cX11_measures 25 = .ok (.goto (-12), 3) := by decide +kernel
theorem dX11_measures_28 : decode cX11_measures 28 = .ok (.iconst 0, 1) := by decide +kernel
theorem dX11_measures_29 : decode cX11_measures 29 = .ok (.istore_n 3, 1) := by decide +kernel
theorem dX11_measures_30 : decode cX11_measures 30 = .ok (.iload_n 3, 1) := by decide +kernel
theorem dX11_measures_31 : decode cX11_measures 31 = .ok (.aload_n 0, 1) := by decide +kernel
theorem dX11_measures_32 : decode cX11_measures 32 = .ok (.getfield 48, 3) := by decide +kernel
theorem dX11_measures_35 : decode cX11_measures 35 = .ok (.arraylength, 1) := by decide +kernel
theorem dX11_measures_36 : decode cX11_measures 36 = .ok (.if_icmp .ge 18, 3) := by decide +kernel
theorem dX11_measures_39 : decode cX11_measures 39 = .ok (.aload_n 0, 1) := by decide +kernel
theorem dX11_measures_40 : decode cX11_measures 40 = .ok (.getfield 48, 3) := by decide +kernel
theorem dX11_measures_43 : decode cX11_measures 43 = .ok (.iload_n 3, 1) := by decide +kernel
theorem dX11_measures_44 : decode cX11_measures 44 = .ok (.ldc2_w 191, 3) := by decide +kernel
theorem dX11_measures_47 : decode cX11_measures 47 = .ok (.lastore, 1) := by decide +kernel
theorem dX11_measures_48 : decode cX11_measures 48 = .ok (.iinc 3 1, 3) := by decide +kernel
theorem dX11_measures_51 : decode cX11_measures 51 = .ok (.goto (-21), 3) := by decide +kernel
theorem dX11_measures_54 : decode cX11_measures 54 = .ok (.aload_n 0, 1) := by decide +kernel
theorem dX11_measures_55 : decode cX11_measures 55 = .ok (.iconst 0, 1) := by decide +kernel
theorem dX11_measures_56 : decode cX11_measures 56 = .ok (.iconst 0, 1) := by decide +kernel
theorem dX11_measures_57 : decode cX11_measures 57 = .ok (.invokevirtual 193, 3) := by decide +kernel
theorem dX11_measures_60 : decode cX11_measures 60 = .ok (.iconst 1, 1) := by decide +kernel
theorem dX11_measures_61 : decode cX11_measures 61 = .ok (.istore_n 3, 1) := by decide +kernel
theorem dX11_measures_62 : decode cX11_measures 62 = .ok (.iconst 0, 1) := by decide +kernel
theorem dX11_measures_63 : decode cX11_measures 63 = .ok (.istore 4, 2) := by decide +kernel
theorem dX11_measures_65 : decode cX11_measures 65 = .ok (.iload_n 3, 1) := by decide +kernel
theorem dX11_measures_66 : decode cX11_measures 66 = .ok (.ifCond .eq 110, 3) := by decide +kernel
theorem dX11_measures_69 : decode cX11_measures 69 = .ok (.iconst 0, 1) := by decide +kernel
theorem dX11_measures_70 : decode cX11_measures 70 = .ok (.istore_n 3, 1) := by decide +kernel
theorem dX11_measures_71 : decode cX11_measures 71 = .ok (.iconst 0, 1) := by decide +kernel
theorem dX11_measures_72 : decode cX11_measures 72 = .ok (.istore 5, 2) := by decide +kernel
theorem dX11_measures_74 : decode cX11_measures 74 = .ok (.iload 5, 2) := by decide +kernel
theorem dX11_measures_76 : decode cX11_measures 76 = .ok (.iload_n 2, 1) := by decide +kernel
theorem dX11_measures_77 : decode cX11_measures 77 = .ok (.if_icmp .ge 93, 3) := by decide +kernel
theorem dX11_measures_80 : decode cX11_measures 80 = .ok (.aload_n 0, 1) := by decide +kernel
theorem dX11_measures_81 : decode cX11_measures 81 = .ok (.iload 5, 2) := by decide +kernel
theorem dX11_measures_83 : decode cX11_measures 83 = .ok (.invokevirtual 197, 3) := by decide +kernel
theorem dX11_measures_86 : decode cX11_measures 86 = .ok (.iload 4, 2) := by decide +kernel
theorem dX11_measures_88 : decode cX11_measures 88 = .ok (.if_icmp .ne 76, 3) := by decide +kernel
theorem dX11_measures_91 : decode cX11_measures 91 = .ok (.aload_n 0, 1) := by decide +kernel
theorem dX11_measures_92 : decode cX11_measures 92 = .ok (.iload 5, 2) := by decide +kernel
theorem dX11_measures_94 : decode cX11_measures 94 = .ok (.iload_n 1, 1) := by decide +kernel
theorem dX11_measures_95 : decode cX11_measures 95 = .ok (.aload_n 0, 1) := by decide +kernel
theorem dX11_measures_96 : decode cX11_measures 96 = .ok (.getfield 58, 3) := by decide +kernel
theorem dX11_measures_99 : decode cX11_measures 99 = .ok (.invokevirtual 200, 3) := by decide +kernel
theorem dX11_measures_102 : decode cX11_measures 102 = .ok (.iconst 2, 1) := by decide +kernel
theorem dX11_measures_103 : decode cX11_measures 103 = .ok (.istore 6, 2) := by decide +kernel
theorem dX11_measures_105 : decode cX11_measures 105 = .ok (.iload 6, 2) := by decide +kernel
theorem dX11_measures_107 : decode cX11_measures 107 = .ok (.iload_n 1, 1) := by decide +kernel
theorem dX11_measures_108 : decode cX11_measures 108 = .ok (.if_icmp .gt 56, 3) := by decide +kernel
theorem dX11_measures_111 : decode cX11_measures 111 = .ok (.aload_n 0, 1) := by decide +kernel
theorem dX11_measures_112 : decode cX11_measures 112 = .ok (.getfield 58, 3) := by decide +kernel
theorem dX11_measures_115 : decode cX11_measures 115 = .ok (.aload_n 0, 1) := by decide +kernel
theorem dX11_measures_116 : decode cX11_measures 116 = .ok (.getfield 61, 3) := by decide +kernel
theorem dX11_measures_119 : decode cX11_measures 119 = .ok (.iload_n 1, 1) := by decide +kernel
theorem dX11_measures_120 : decode cX11_measures 120 = .ok (.iload 6, 2) := by decide +kernel
theorem dX11_measures_122 : decode cX11_measures 122 = .ok (.invokestatic 204, 3) := by decide +kernel
theorem dX11_measures_125 : decode cX11_measures 125 = .ok (.aload_n 0, 1) := by decide +kernel
theorem dX11_measures_126 : decode cX11_measures 126 = .ok (.getfield 61, 3) := by decide +kernel
theorem dX11_measures_129 : decode cX11_measures 129 = .ok (.iload_n 1, 1) := by decide +kernel
theorem dX11_measures_130 : decode cX11_measures 130 = .ok (.invokestatic 208, 3) := by decide +kernel
theorem dX11_measures_133 : decode cX11_measures 133 = .ok (.istore 7, 2) := by decide +kernel
theorem dX11_measures_135 : decode cX11_measures 135 = .ok (.aload_n 0, 1) := by decide +kernel
theorem dX11_measures_136 : decode cX11_measures 136 = .ok (.iload 7, 2) := by decide +kernel
theorem dX11_measures_138 : decode cX11_measures 138 = .ok (.invokevirtual 197, 3) := by decide +kernel
theorem dX11_measures_141 : decode cX11_measures 141 = .ok (.bipush 15, 2) := by decide +kernel
theorem dX11_measures_143 : decode cX11_measures 143 = .ok (.if_icmp .ne 15, 3) := by decide +kernel
theorem dX11_measures_146 : decode cX11_measures 146 = .ok (.aload_n 0, 1) := by decide +kernel
theorem dX11_measures_147 : decode cX11_measures 147 = .ok (.iload 7, 2) := by decide +kernel
theorem dX11_measures_149 : decode cX11_measures 149 = .ok (.iload 4, 2) := by decide +kernel
theorem dX11_measures_151 : decode cX11_measures 151 = .ok (.iconst 1, 1) := by decide +kernel
theorem dX11_measures_152 : decode cX11_measures 152 = .ok (.iadd, 1) := by decide +kernel
theorem dX11_measures_153 : decode cX11_measures 153 = .ok (.invokevirtual 193, 3) := by decide +kernel
theorem dX11_measures_156 : decode cX11_measures 156 = .ok (.iconst 1, 1) := by decide +kernel
theorem dX11_measures_157 : decode cX11_measures 157 = .ok (.istore_n 3, 1) := by decide +kernel
theorem dX11_measures_158 : decode cX11_measures 158 = .ok (.iinc 6 1, 3) := by decide +kernel
theorem dX11_measures_161 : decode cX11_measures 161 = .ok (.goto (-56), 3) := by decide +kernel
theorem dX11_measures_164 : decode cX11_measures 164 = .ok (.iinc 5 1, 3) := by decide +kernel
theorem dX11_measures_167 : decode cX11_measures 167 = .ok (.goto (-93), 3) := by decide +kernel
theorem dX11_measures_170 : decode cX11_measures 170 = .ok (.iinc 4 1, 3) := by decide +kernel
theorem dX11_measures_173 : decode cX11_measures 173 = .ok (.goto (-108), 3) := by decide +kernel
theorem dX11_measures_176 : decode cX11_measures 176 = .ok (.aload_n 0, 1) := by decide +kernel
theorem dX11_measures_177 : decode cX11_measures 177 = .ok (.iload_n 1, 1) := by decide +kernel
theorem dX11_measures_178 : decode cX11_measures 178 = .ok (.putfield 52, 3) := by decide +kernel
theorem dX11_measures_181 : decode cX11_measures 181 = .ok (.return_, 1) := by decide +kernel
theorem dX11_turnings_0 : decode cX11_turnings 0 = .ok (.iload_n 1, 1) := by decide +kernel
theorem dX11_turnings_1 : decode cX11_turnings 1 = .ok (.iconst 0, 1) := by decide +kernel
theorem dX11_turnings_2 : decode cX11_turnings 2 = .ok (.iconst 1, 1) := by decide +kernel
theorem dX11_turnings_3 : decode cX11_turnings 3 = .ok (.invokestatic 67, 3) := by decide +kernel
theorem dX11_turnings_6 : decode cX11_turnings 6 = .ok (.ifCond .ne 6, 3) := by decide +kernel
theorem dX11_turnings_9 : decode cX11_turnings 9 = .ok (.ldc 71, 2) := by decide +kernel
theorem dX11_turnings_11 : decode cX11_turnings 11 = .ok (.ireturn, 1) := by decide +kernel
theorem dX11_turnings_12 : decode cX11_turnings 12 = .ok (.aload_n 0, 1) := by decide +kernel
theorem dX11_turnings_13 : decode cX11_turnings 13 = .ok (.getfield 19, 3) := by decide +kernel
theorem dX11_turnings_16 : decode cX11_turnings 16 = .ok (.iconst 2, 1) := by decide +kernel
theorem dX11_turnings_17 : decode cX11_turnings 17 = .ok (.iaload, 1) := by decide +kernel
theorem dX11_turnings_18 : decode cX11_turnings 18 = .ok (.istore_n 2, 1) := by decide +kernel
theorem dX11_turnings_19 : decode cX11_turnings 19 = .ok (.aload_n 0, 1) := by decide +kernel
theorem dX11_turnings_20 : decode cX11_turnings 20 = .ok (.iload_n 2, 1) := by decide +kernel
theorem dX11_turnings_21 : decode cX11_turnings 21 = .ok (.invokevirtual 212, 3) := by decide +kernel
theorem dX11_turnings_24 : decode cX11_turnings 24 = .ok (.iconst 0, 1) := by decide +kernel
theorem dX11_turnings_25 : decode cX11_turnings 25 = .ok (.istore_n 3, 1) := by decide +kernel
theorem dX11_turnings_26 : decode cX11_turnings 26 = .ok (.iload_n 3, 1) := by decide +kernel
theorem dX11_turnings_27 : decode cX11_turnings 27 = .ok (.iload_n 2, 1) := by decide +kernel
theorem dX11_turnings_28 : decode cX11_turnings 28 = .ok (.if_icmp .ge 23, 3) := by decide +kernel
theorem dX11_turnings_31 : decode cX11_turnings 31 = .ok (.aload_n 0, 1) := by decide +kernel
theorem dX11_turnings_32 : decode cX11_turnings 32 = .ok (.getfield 58, 3) := by decide +kernel
theorem dX11_turnings_35 : decode cX11_turnings 35 = .ok (.iload_n 3, 1) := by decide +kernel
theorem dX11_turnings_36 : decode cX11_turnings 36 = .ok (.aload_n 0, 1) := by decide +kernel
theorem dX11_turnings_37 : decode cX11_turnings 37 = .ok (.getfield 19, 3) := by decide +kernel
theorem dX11_turnings_40 : decode cX11_turnings 40 = .ok (.iconst 4, 1) := by decide +kernel
theorem dX11_turnings_41 : decode cX11_turnings 41 = .ok (.iload_n 3, 1) := by decide +kernel
theorem dX11_turnings_42 : decode cX11_turnings 42 = .ok (.iadd, 1) := by decide +kernel
theorem dX11_turnings_43 : decode cX11_turnings 43 = .ok (.iaload, 1) := by decide +kernel
theorem dX11_turnings_44 : decode cX11_turnings 44 = .ok (.iastore, 1) := by decide +kernel
theorem dX11_turnings_45 : decode cX11_turnings 45 = .ok (.iinc 3 1, 3) := by decide +kernel
theorem dX11_turnings_48 : decode cX11_turnings 48 = .ok (.goto (-22), 3) := by decide +kernel
theorem dX11_turnings_51 : decode cX11_turnings 51 = .ok (.aload_n 0, 1) := by decide +kernel
theorem dX11_turnings_52 : decode cX11_turnings 52 = .ok (.aload_n 0, 1) := by decide +kernel
theorem dX11_turnings_53 : decode cX11_turnings 53 = .ok (.getfield 58, 3) := by decide +kernel
theorem dX11_turnings_56 : decode cX11_turnings 56 = .ok (.iload_n 2, 1) := by decide +kernel
theorem dX11_turnings_57 : decode cX11_turnings 57 = .ok (.invokestatic 208, 3) := by decide +kernel
theorem dX11_turnings_60 : decode cX11_turnings 60 = .ok (.invokevirtual 197, 3) := by decide +kernel
theorem dX11_turnings_63 : decode cX11_turnings 63 = .ok (.istore_n 3, 1) := by decide +kernel
theorem dX11_turnings_64 : decode cX11_turnings 64 = .ok (.iload_n 1, 1) := by decide +kernel
theorem dX11_turnings_65 : decode cX11_turnings 65 = .ok (.ifCond .ne 5, 3) := by decide +kernel
theorem dX11_turnings_68 : decode cX11_turnings 68 = .ok (.iload_n 3, 1) := by decide +kernel
theorem dX11_turnings_69 : decode cX11_turnings 69 = .ok (.ireturn, 1) := by decide +kernel
theorem dX11_turnings_70 : decode cX11_turnings 70 = .ok (.iconst (-1), 1) := by decide +kernel
theorem dX11_turnings_71 : decode cX11_turnings 71 = .ok (.istore 4, 2) := by decide +kernel
theorem dX11_turnings_73 : decode cX11_turnings 73 = .ok (.iload_n 2, 1) := by decide +kernel
theorem dX11_turnings_74 : decode cX11_turnings 74 = .ok (.istore 5, 2) := by decide +kernel
theorem dX11_turnings_76 : decode cX11_turnings 76 = .ok (.iload 5, 2) := by decide +kernel
theorem dX11_turnings_78 : decode cX11_turnings 78 = .ok (.iconst 1, 1) := by decide +kernel
theorem dX11_turnings_79 : decode cX11_turnings 79 = .ok (.if_icmp .le 54, 3) := by decide +kernel
theorem dX11_turnings_82 : decode cX11_turnings 82 = .ok (.iload_n 3, 1) := by decide +kernel
theorem dX11_turnings_83 : decode cX11_turnings 83 = .ok (.ifCond .le 50, 3) := by decide +kernel
theorem dX11_turnings_86 : decode cX11_turnings 86 = .ok (.aload_n 0, 1) := by decide +kernel
theorem dX11_turnings_87 : decode cX11_turnings 87 = .ok (.getfield 58, 3) := by decide +kernel
theorem dX11_turnings_90 : decode cX11_turnings 90 = .ok (.aload_n 0, 1) := by decide +kernel
theorem dX11_turnings_91 : decode cX11_turnings 91 = .ok (.getfield 61, 3) := by decide +kernel
theorem dX11_turnings_94 : decode cX11_turnings 94 = .ok (.iload_n 2, 1) := by decide +kernel
theorem dX11_turnings_95 : decode cX11_turnings 95 = .ok (.iload 5, 2) := by decide +kernel
theorem dX11_turnings_97 : decode cX11_turnings 97 = .ok (.invokestatic 204, 3) := by decide +kernel
theorem dX11_turnings_100 : decode cX11_turnings 100 = .ok (.aload_n 0, 1) := by decide +kernel
theorem dX11_turnings_101 : decode cX11_turnings 101 = .ok (.aload_n 0, 1) := by decide +kernel
theorem dX11_turnings_102 : decode cX11_turnings 102 = .ok (.getfield 61, 3) := by decide +kernel
theorem dX11_turnings_105 : decode cX11_turnings 105 = .ok (.iload_n 2, 1) := by decide +kernel
theorem dX11_turnings_106 : decode cX11_turnings 106 = .ok (.invokestatic 208, 3) := by decide +kernel
theorem dX11_turnings_109 : decode cX11_turnings 109 = .ok (.invokevirtual 197, 3) := by decide +kernel
theorem dX11_turnings_112 : decode cX11_turnings 112 = .ok (.iload_n 3, 1) := by decide +kernel
theorem dX11_turnings_113 : decode cX11_turnings 113 = .ok (.iconst 1, 1) := by decide +kernel
theorem dX11_turnings_114 : decode cX11_turnings 114 = .ok (.isub, 1) := by decide +kernel
theorem dX11_turnings_115 : decode cX11_turnings 115 = .ok (.if_icmp .ne 8, 3) := by decide +kernel
theorem dX11_turnings_118 : decode cX11_turnings 118 = .ok (.iload 5, 2) := by decide +kernel
theorem dX11_turnings_120 : decode cX11_turnings 120 = .ok (.goto 5, 3) := by decide +kernel
theorem dX11_turnings_123 : decode cX11_turnings 123 = .ok (.iload 4, 2) := by decide +kernel
theorem dX11_turnings_125 : decode cX11_turnings 125 = .ok (.istore 4, 2) := by decide +kernel
theorem dX11_turnings_127 : decode cX11_turnings 127 = .ok (.iinc 5 (-1), 3) := by decide +kernel
theorem dX11_turnings_130 : decode cX11_turnings 130 = .ok (.goto (-54), 3) := by decide +kernel
theorem dX11_turnings_133 : decode cX11_turnings 133 = .ok (.iload 4, 2) := by decide +kernel
theorem dX11_turnings_135 : decode cX11_turnings 135 = .ok (.ireturn, 1) := by decide +kernel
theorem dX11_loose_0 : decode cX11_loose 0 = .ok (.iload_n 1, 1) := by decide +kernel
theorem dX11_loose_1 : decode cX11_loose 1 = .ok (.iconst 0, 1) := by decide +kernel
theorem dX11_loose_2 : decode cX11_loose 2 = .ok (.iconst 1, 1) := by decide +kernel
theorem dX11_loose_3 : decode cX11_loose 3 = .ok (.invokestatic 67, 3) := by decide +kernel
theorem dX11_loose_6 : decode cX11_loose 6 = .ok (.ifCond .ne 6, 3) := by decide +kernel
theorem dX11_loose_9 : decode cX11_loose 9 = .ok (.ldc 71, 2) := by decide +kernel
theorem dX11_loose_11 : decode cX11_loose 11 = .ok (.ireturn, 1) := by decide +kernel
theorem dX11_loose_12 : decode cX11_loose 12 = .ok (.iconst (-1), 1) := by decide +kernel
theorem dX11_loose_13 : decode cX11_loose 13 = .ok (.istore_n 2, 1) := by decide +kernel
theorem dX11_loose_14 : decode cX11_loose 14 = .ok (.iconst 0, 1) := by decide +kernel
theorem dX11_loose_15 : decode cX11_loose 15 = .ok (.istore_n 3, 1) := by decide +kernel
theorem dX11_loose_16 : decode cX11_loose 16 = .ok (.iload_n 3, 1) := by decide +kernel
theorem dX11_loose_17 : decode cX11_loose 17 = .ok (.iconst 1, 1) := by decide +kernel
theorem dX11_loose_18 : decode cX11_loose 18 = .ok (.aload_n 0, 1) := by decide +kernel
theorem dX11_loose_19 : decode cX11_loose 19 = .ok (.getfield 13, 3) := by decide +kernel
theorem dX11_loose_22 : decode cX11_loose 22 = .ok (.iconst 1, 1) := by decide +kernel
theorem dX11_loose_23 : decode cX11_loose 23 = .ok (.iaload, 1) := by decide +kernel
theorem dX11_loose_24 : decode cX11_loose 24 = .ok (.ishl, 1) := by decide +kernel
theorem dX11_loose_25 : decode cX11_loose 25 = .ok (.if_icmp .ge 133, 3) := by decide +kernel
theorem dX11_loose_28 : decode cX11_loose 28 = .ok (.iconst (-1), 1) := by decide +kernel
theorem dX11_loose_29 : decode cX11_loose 29 = .ok (.istore 4, 2) := by decide +kernel
theorem dX11_loose_31 : decode cX11_loose 31 = .ok (.iload_n 3, 1) := by decide +kernel
theorem dX11_loose_32 : decode cX11_loose 32 = .ok (.aload_n 0, 1) := by decide +kernel
theorem dX11_loose_33 : decode cX11_loose 33 = .ok (.invokevirtual 135, 3) := by decide +kernel
theorem dX11_loose_36 : decode cX11_loose 36 = .ok (.iconst (-1), 1) := by decide +kernel
theorem dX11_loose_37 : decode cX11_loose 37 = .ok (.ixor, 1) := by decide +kernel
theorem dX11_loose_38 : decode cX11_loose 38 = .ok (.iand, 1) := by decide +kernel
theorem dX11_loose_39 : decode cX11_loose 39 = .ok (.ifCond .ne 7, 3) := by decide +kernel
theorem dX11_loose_42 : decode cX11_loose 42 = .ok (.iconst 1, 1) := by decide +kernel
theorem dX11_loose_43 : decode cX11_loose 43 = .ok (.goto 4, 3) := by decide +kernel
theorem dX11_loose_46 : decode cX11_loose 46 = .ok (.iconst 0, 1) := by decide +kernel
theorem dX11_loose_47 : decode cX11_loose 47 = .ok (.istore 5, 2) := by decide +kernel
theorem dX11_loose_49 : decode cX11_loose 49 = .ok (.iconst 0, 1) := by decide +kernel
theorem dX11_loose_50 : decode cX11_loose 50 = .ok (.istore 6, 2) := by decide +kernel
theorem dX11_loose_52 : decode cX11_loose 52 = .ok (.iload 6, 2) := by decide +kernel
theorem dX11_loose_54 : decode cX11_loose 54 = .ok (.aload_n 0, 1) := by decide +kernel
theorem dX11_loose_55 : decode cX11_loose 55 = .ok (.getfield 19, 3) := by decide +kernel
theorem dX11_loose_58 : decode cX11_loose 58 = .ok (.iconst 2, 1) := by decide +kernel
theorem dX11_loose_59 : decode cX11_loose 59 = .ok (.iaload, 1) := by decide +kernel
theorem dX11_loose_60 : decode cX11_loose 60 = .ok (.if_icmp .ge 66, 3) := by decide +kernel
theorem dX11_loose_63 : decode cX11_loose 63 = .ok (.aload_n 0, 1) := by decide +kernel
theorem dX11_loose_64 : decode cX11_loose 64 = .ok (.getfield 19, 3) := by decide +kernel
theorem dX11_loose_67 : decode cX11_loose 67 = .ok (.iconst 4, 1) := by decide +kernel
theorem dX11_loose_68 : decode cX11_loose 68 = .ok (.iload 6, 2) := by decide +kernel
theorem dX11_loose_70 : decode cX11_loose 70 = .ok (.iadd, 1) := by decide +kernel
theorem dX11_loose_71 : decode cX11_loose 71 = .ok (.iaload, 1) := by decide +kernel
theorem dX11_loose_72 : decode cX11_loose 72 = .ok (.istore 7, 2) := by decide +kernel
theorem dX11_loose_74 : decode cX11_loose 74 = .ok (.iload 5, 2) := by decide +kernel
theorem dX11_loose_76 : decode cX11_loose 76 = .ok (.ifCond .eq 23, 3) := by decide +kernel
theorem dX11_loose_79 : decode cX11_loose 79 = .ok (.iload_n 3, 1) := by decide +kernel
theorem dX11_loose_80 : decode cX11_loose 80 = .ok (.iload 7, 2) := by decide +kernel
theorem dX11_loose_82 : decode cX11_loose 82 = .ok (.invokestatic 118, 3) := by decide +kernel
theorem dX11_loose_85 : decode cX11_loose 85 = .ok (.ifCond .ne 10, 3) := by decide +kernel
theorem dX11_loose_88 : decode cX11_loose 88 = .ok (.iload 7, 2) := by decide +kernel
theorem dX11_loose_90 : decode cX11_loose 90 = .ok (.iload 4, 2) := by decide +kernel
theorem dX11_loose_92 : decode cX11_loose 92 = .ok (.if_icmp .le 7, 3) := by decide +kernel
theorem dX11_loose_95 : decode cX11_loose 95 = .ok (.iconst 1, 1) := by decide +kernel
theorem dX11_loose_96 : decode cX11_loose 96 = .ok (.goto 4, 3) := by decide +kernel
theorem dX11_loose_99 : decode cX11_loose 99 = .ok (.iconst 0, 1) := by decide +kernel
theorem dX11_loose_100 : decode cX11_loose 100 = .ok (.istore 5, 2) := by decide +kernel
theorem dX11_loose_102 : decode cX11_loose 102 = .ok (.iload_n 3, 1) := by decide +kernel
theorem dX11_loose_103 : decode cX11_loose 103 = .ok (.iload 7, 2) := by decide +kernel
theorem dX11_loose_105 : decode cX11_loose 105 = .ok (.invokestatic 118, 3) := by decide +kernel
theorem dX11_loose_108 : decode cX11_loose 108 = .ok (.ifCond .eq 8, 3) := by decide +kernel
theorem dX11_loose_111 : decode cX11_loose 111 = .ok (.iload 4, 2) := by decide +kernel
theorem dX11_loose_113 : decode cX11_loose 113 = .ok (.goto 5, 3) := by decide +kernel
theorem dX11_loose_116 : decode cX11_loose 116 = .ok (.iload 7, 2) := by decide +kernel
theorem dX11_loose_118 : decode cX11_loose 118 = .ok (.istore 4, 2) := by decide +kernel
theorem dX11_loose_120 : decode cX11_loose 120 = .ok (.iinc 6 1, 3) := by decide +kernel
theorem dX11_loose_123 : decode cX11_loose 123 = .ok (.goto (-71), 3) := by decide +kernel
theorem dX11_loose_126 : decode cX11_loose 126 = .ok (.iload 5, 2) := by decide +kernel
theorem dX11_loose_128 : decode cX11_loose 128 = .ok (.ifCond .eq 22, 3) := by decide +kernel
theorem dX11_loose_131 : decode cX11_loose 131 = .ok (.iload_n 2, 1) := by decide +kernel
theorem dX11_loose_132 : decode cX11_loose 132 = .ok (.ifCond .lt 14, 3) := by decide +kernel
theorem dX11_loose_135 : decode cX11_loose 135 = .ok (.iload_n 3, 1) := by decide +kernel
theorem dX11_loose_136 : decode cX11_loose 136 = .ok (.invokestatic 174, 3) := by decide +kernel
theorem dX11_loose_139 : decode cX11_loose 139 = .ok (.iload_n 2, 1) := by decide +kernel
theorem dX11_loose_140 : decode cX11_loose 140 = .ok (.invokestatic 174, 3) := by decide +kernel
theorem dX11_loose_143 : decode cX11_loose 143 = .ok (.if_icmp .ge 7, 3) := by decide +kernel
theorem dX11_loose_146 : decode cX11_loose 146 = .ok (.iload_n 3, 1) := by decide +kernel
theorem dX11_loose_147 : decode cX11_loose 147 = .ok (.goto 4, 3) := by decide +kernel
theorem dX11_loose_150 : decode cX11_loose 150 = .ok (.iload_n 2, 1) := by decide +kernel
theorem dX11_loose_151 : decode cX11_loose 151 = .ok (.istore_n 2, 1) := by decide +kernel
theorem dX11_loose_152 : decode cX11_loose 152 = .ok (.iinc 3 1, 3) := by decide +kernel
theorem dX11_loose_155 : decode cX11_loose 155 = .ok (.goto (-139), 3) := by decide +kernel
theorem dX11_loose_158 : decode cX11_loose 158 = .ok (.iload_n 1, 1) := by decide +kernel
theorem dX11_loose_159 : decode cX11_loose 159 = .ok (.ifCond .ne 10, 3) := by decide +kernel
theorem dX11_loose_162 : decode cX11_loose 162 = .ok (.iload_n 2, 1) := by decide +kernel
theorem dX11_loose_163 : decode cX11_loose 163 = .ok (.invokestatic 174, 3) := by decide +kernel
theorem dX11_loose_166 : decode cX11_loose 166 = .ok (.goto 4, 3) := by decide +kernel
theorem dX11_loose_169 : decode cX11_loose 169 = .ok (.iload_n 2, 1) := by decide +kernel
theorem dX11_loose_170 : decode cX11_loose 170 = .ok (.ireturn, 1) := by decide +kernel
theorem dX11_feltAt_0 : decode cX11_feltAt 0 = .ok (.iload_n 1, 1) := by decide +kernel
theorem dX11_feltAt_1 : decode cX11_feltAt 1 = .ok (.istore_n 3, 1) := by decide +kernel
theorem dX11_feltAt_2 : decode cX11_feltAt 2 = .ok (.iconst 0, 1) := by decide +kernel
theorem dX11_feltAt_3 : decode cX11_feltAt 3 = .ok (.istore 4, 2) := by decide +kernel
theorem dX11_feltAt_5 : decode cX11_feltAt 5 = .ok (.iload 4, 2) := by decide +kernel
theorem dX11_feltAt_7 : decode cX11_feltAt 7 = .ok (.aload_n 0, 1) := by decide +kernel
theorem dX11_feltAt_8 : decode cX11_feltAt 8 = .ok (.getfield 19, 3) := by decide +kernel
theorem dX11_feltAt_11 : decode cX11_feltAt 11 = .ok (.iconst 2, 1) := by decide +kernel
theorem dX11_feltAt_12 : decode cX11_feltAt 12 = .ok (.iaload, 1) := by decide +kernel
theorem dX11_feltAt_13 : decode cX11_feltAt 13 = .ok (.if_icmp .ge 68, 3) := by decide +kernel
theorem dX11_feltAt_16 : decode cX11_feltAt 16 = .ok (.iload 4, 2) := by decide +kernel
theorem dX11_feltAt_18 : decode cX11_feltAt 18 = .ok (.iload_n 2, 1) := by decide +kernel
theorem dX11_feltAt_19 : decode cX11_feltAt 19 = .ok (.if_icmp .ge 62, 3) := by decide +kernel
theorem dX11_feltAt_22 : decode cX11_feltAt 22 = .ok (.aload_n 0, 1) := by decide +kernel
theorem dX11_feltAt_23 : decode cX11_feltAt 23 = .ok (.getfield 19, 3) := by decide +kernel
theorem dX11_feltAt_26 : decode cX11_feltAt 26 = .ok (.iconst 4, 1) := by decide +kernel
theorem dX11_feltAt_27 : decode cX11_feltAt 27 = .ok (.iload 4, 2) := by decide +kernel
theorem dX11_feltAt_29 : decode cX11_feltAt 29 = .ok (.iadd, 1) := by decide +kernel
theorem dX11_feltAt_30 : decode cX11_feltAt 30 = .ok (.iaload, 1) := by decide +kernel
theorem dX11_feltAt_31 : decode cX11_feltAt 31 = .ok (.istore 5, 2) := by decide +kernel
theorem dX11_feltAt_33 : decode cX11_feltAt 33 = .ok (.iload_n 3, 1) := by decide +kernel
theorem dX11_feltAt_34 : decode cX11_feltAt 34 = .ok (.aload_n 0, 1) := by decide +kernel
theorem dX11_feltAt_35 : decode cX11_feltAt 35 = .ok (.getfield 19, 3) := by decide +kernel
theorem dX11_feltAt_38 : decode cX11_feltAt 38 = .ok (.iconst 3, 1) := by decide +kernel
theorem dX11_feltAt_39 : decode cX11_feltAt 39 = .ok (.iaload, 1) := by decide +kernel
theorem dX11_feltAt_40 : decode cX11_feltAt 40 = .ok (.iload 5, 2) := by decide +kernel
theorem dX11_feltAt_42 : decode cX11_feltAt 42 = .ok (.invokestatic 118, 3) := by decide +kernel
theorem dX11_feltAt_45 : decode cX11_feltAt 45 = .ok (.ifCond .eq 18, 3) := by decide +kernel
theorem dX11_feltAt_48 : decode cX11_feltAt 48 = .ok (.iconst 2, 1) := by decide +kernel
theorem dX11_feltAt_49 : decode cX11_feltAt 49 = .ok (.aload_n 0, 1) := by decide +kernel
theorem dX11_feltAt_50 : decode cX11_feltAt 50 = .ok (.getfield 13, 3) := by decide +kernel
theorem dX11_feltAt_53 : decode cX11_feltAt 53 = .ok (.bipush 12, 2) := by decide +kernel
theorem dX11_feltAt_55 : decode cX11_feltAt 55 = .ok (.iload 5, 2) := by decide +kernel
theorem dX11_feltAt_57 : decode cX11_feltAt 57 = .ok (.iadd, 1) := by decide +kernel
theorem dX11_feltAt_58 : decode cX11_feltAt 58 = .ok (.iaload, 1) := by decide +kernel
theorem dX11_feltAt_59 : decode cX11_feltAt 59 = .ok (.imul, 1) := by decide +kernel
theorem dX11_feltAt_60 : decode cX11_feltAt 60 = .ok (.goto 13, 3) := by decide +kernel
theorem dX11_feltAt_63 : decode cX11_feltAt 63 = .ok (.aload_n 0, 1) := by decide +kernel
theorem dX11_feltAt_64 : decode cX11_feltAt 64 = .ok (.getfield 13, 3) := by decide +kernel
theorem dX11_feltAt_67 : decode cX11_feltAt 67 = .ok (.bipush 12, 2) := by decide +kernel
theorem dX11_feltAt_69 : decode cX11_feltAt 69 = .ok (.iload 5, 2) := by decide +kernel
theorem dX11_feltAt_71 : decode cX11_feltAt 71 = .ok (.iadd, 1) := by decide +kernel
theorem dX11_feltAt_72 : decode cX11_feltAt 72 = .ok (.iaload, 1) := by decide +kernel
theorem dX11_feltAt_73 : decode cX11_feltAt 73 = .ok (.isub, 1) := by decide +kernel
theorem dX11_feltAt_74 : decode cX11_feltAt 74 = .ok (.istore_n 3, 1) := by decide +kernel
theorem dX11_feltAt_75 : decode cX11_feltAt 75 = .ok (.iinc 4 1, 3) := by decide +kernel
theorem dX11_feltAt_78 : decode cX11_feltAt 78 = .ok (.goto (-73), 3) := by decide +kernel
theorem dX11_feltAt_81 : decode cX11_feltAt 81 = .ok (.iload_n 3, 1) := by decide +kernel
theorem dX11_feltAt_82 : decode cX11_feltAt 82 = .ok (.ifCond .ge 7, 3) := by decide +kernel
theorem dX11_feltAt_85 : decode cX11_feltAt 85 = .ok (.iconst 0, 1) := by decide +kernel
theorem dX11_feltAt_86 : decode cX11_feltAt 86 = .ok (.goto 4, 3) := by decide +kernel
theorem dX11_feltAt_89 : decode cX11_feltAt 89 = .ok (.iload_n 3, 1) := by decide +kernel
theorem dX11_feltAt_90 : decode cX11_feltAt 90 = .ok (.ireturn, 1) := by decide +kernel
theorem dX11_felt_0 : decode cX11_felt 0 = .ok (.iload_n 1, 1) := by decide +kernel
theorem dX11_felt_1 : decode cX11_felt 1 = .ok (.iconst 0, 1) := by decide +kernel
theorem dX11_felt_2 : decode cX11_felt 2 = .ok (.bipush 99, 2) := by decide +kernel
theorem dX11_felt_4 : decode cX11_felt 4 = .ok (.invokestatic 67, 3) := by decide +kernel
theorem dX11_felt_7 : decode cX11_felt 7 = .ok (.ifCond .eq 22, 3) := by decide +kernel
theorem dX11_felt_10 : decode cX11_felt 10 = .ok (.iload_n 2, 1) := by decide +kernel
theorem dX11_felt_11 : decode cX11_felt 11 = .ok (.iconst 0, 1) := by decide +kernel
theorem dX11_felt_12 : decode cX11_felt 12 = .ok (.bipush 7, 2) := by decide +kernel
theorem dX11_felt_14 : decode cX11_felt 14 = .ok (.invokestatic 67, 3) := by decide +kernel
theorem dX11_felt_17 : decode cX11_felt 17 = .ok (.ifCond .eq 12, 3) := by decide +kernel
theorem dX11_felt_20 : decode cX11_felt 20 = .ok (.aload_n 0, 1) := by decide +kernel
theorem dX11_felt_21 : decode cX11_felt 21 = .ok (.iload_n 1, 1) := by decide +kernel
theorem dX11_felt_22 : decode cX11_felt 22 = .ok (.iload_n 2, 1) := by decide +kernel
theorem dX11_felt_23 : decode cX11_felt 23 = .ok (.invokevirtual 215, 3) := by decide +kernel
theorem dX11_felt_26 : decode cX11_felt 26 = .ok (.goto 5, 3) := by decide +kernel
theorem dX11_felt_29 : decode cX11_felt 29 = .ok (.ldc 71, 2) := by decide +kernel
theorem dX11_felt_31 : decode cX11_felt 31 = .ok (.ireturn, 1) := by decide +kernel
theorem dX11_farthest_0 : decode cX11_farthest 0 = .ok (.iload_n 1, 1) := by decide +kernel
theorem dX11_farthest_1 : decode cX11_farthest 1 = .ok (.iconst 0, 1) := by decide +kernel
theorem dX11_farthest_2 : decode cX11_farthest 2 = .ok (.bipush 99, 2) := by decide +kernel
theorem dX11_farthest_4 : decode cX11_farthest 4 = .ok (.invokestatic 67, 3) := by decide +kernel
theorem dX11_farthest_7 : decode cX11_farthest 7 = .ok (.ifCond .ne 6, 3) := by decide +kernel
theorem dX11_farthest_10 : decode cX11_farthest 10 = .ok (.ldc 71, 2) := by decide +kernel
theorem dX11_farthest_12 : decode cX11_farthest 12 = .ok (.ireturn, 1) := by decide +kernel
theorem dX11_farthest_13 : decode cX11_farthest 13 = .ok (.iconst (-1), 1) := by decide +kernel
theorem dX11_farthest_14 : decode cX11_farthest 14 = .ok (.istore_n 2, 1) := by decide +kernel
theorem dX11_farthest_15 : decode cX11_farthest 15 = .ok (.iconst 0, 1) := by decide +kernel
theorem dX11_farthest_16 : decode cX11_farthest 16 = .ok (.istore_n 3, 1) := by decide +kernel
theorem dX11_farthest_17 : decode cX11_farthest 17 = .ok (.iload_n 3, 1) := by decide +kernel
theorem dX11_farthest_18 : decode cX11_farthest 18 = .ok (.aload_n 0, 1) := by decide +kernel
theorem dX11_farthest_19 : decode cX11_farthest 19 = .ok (.getfield 19, 3) := by decide +kernel
theorem dX11_farthest_22 : decode cX11_farthest 22 = .ok (.iconst 2, 1) := by decide +kernel
theorem dX11_farthest_23 : decode cX11_farthest 23 = .ok (.iaload, 1) := by decide +kernel
theorem dX11_farthest_24 : decode cX11_farthest 24 = .ok (.if_icmp .ge 24, 3) := by decide +kernel
theorem dX11_farthest_27 : decode cX11_farthest 27 = .ok (.aload_n 0, 1) := by decide +kernel
theorem dX11_farthest_28 : decode cX11_farthest 28 = .ok (.iload_n 1, 1) := by decide +kernel
theorem dX11_farthest_29 : decode cX11_farthest 29 = .ok (.iload_n 3, 1) := by decide +kernel
theorem dX11_farthest_30 : decode cX11_farthest 30 = .ok (.invokevirtual 215, 3) := by decide +kernel
theorem dX11_farthest_33 : decode cX11_farthest 33 = .ok (.ifCond .le 7, 3) := by decide +kernel
theorem dX11_farthest_36 : decode cX11_farthest 36 = .ok (.iload_n 3, 1) := by decide +kernel
theorem dX11_farthest_37 : decode cX11_farthest 37 = .ok (.goto 4, 3) := by decide +kernel
theorem dX11_farthest_40 : decode cX11_farthest 40 = .ok (.iload_n 2, 1) := by decide +kernel
theorem dX11_farthest_41 : decode cX11_farthest 41 = .ok (.istore_n 2, 1) := by decide +kernel
theorem dX11_farthest_42 : decode cX11_farthest 42 = .ok (.iinc 3 1, 3) := by decide +kernel
theorem dX11_farthest_45 : decode cX11_farthest 45 = .ok (.goto (-28), 3) := by decide +kernel
theorem dX11_farthest_48 : decode cX11_farthest 48 = .ok (.iload_n 2, 1) := by decide +kernel
theorem dX11_farthest_49 : decode cX11_farthest 49 = .ok (.ireturn, 1) := by decide +kernel
theorem dX11_hooked_0 : decode cX11_hooked 0 = .ok (.iload_n 1, 1) := by decide +kernel
theorem dX11_hooked_1 : decode cX11_hooked 1 = .ok (.iconst 0, 1) := by decide +kernel
theorem dX11_hooked_2 : decode cX11_hooked 2 = .ok (.iconst 1, 1) := by decide +kernel
theorem dX11_hooked_3 : decode cX11_hooked 3 = .ok (.aload_n 0, 1) := by decide +kernel
theorem dX11_hooked_4 : decode cX11_hooked 4 = .ok (.getfield 13, 3) := by decide +kernel
theorem dX11_hooked_7 : decode cX11_hooked 7 = .ok (.iconst 1, 1) := by decide +kernel
theorem dX11_hooked_8 : decode cX11_hooked 8 = .ok (.iaload, 1) := by decide +kernel
theorem dX11_hooked_9 : decode cX11_hooked 9 = .ok (.ishl, 1) := by decide +kernel
theorem dX11_hooked_10 : decode cX11_hooked 10 = .ok (.iconst 1, 1) := by decide +kernel
theorem dX11_hooked_11 : decode cX11_hooked 11 = .ok (.isub, 1) := by decide +kernel
theorem dX11_hooked_12 : decode cX11_hooked 12 = .ok (.invokestatic 67, 3) := by decide +kernel
theorem dX11_hooked_15 : decode cX11_hooked 15 = .ok (.ifCond .ne 6, 3) := by decide +kernel
theorem dX11_hooked_18 : decode cX11_hooked 18 = .ok (.ldc 156, 2) := by decide +kernel
theorem dX11_hooked_20 : decode cX11_hooked 20 = .ok (.ireturn, 1) := by decide +kernel
theorem dX11_hooked_21 : decode cX11_hooked 21 = .ok (.iconst (-1), 1) := by decide +kernel
theorem dX11_hooked_22 : decode cX11_hooked 22 = .ok (.istore_n 2, 1) := by decide +kernel
theorem dX11_hooked_23 : decode cX11_hooked 23 = .ok (.iconst 0, 1) := by decide +kernel
theorem dX11_hooked_24 : decode cX11_hooked 24 = .ok (.istore_n 3, 1) := by decide +kernel
theorem dX11_hooked_25 : decode cX11_hooked 25 = .ok (.iload_n 3, 1) := by decide +kernel
theorem dX11_hooked_26 : decode cX11_hooked 26 = .ok (.iconst 1, 1) := by decide +kernel
theorem dX11_hooked_27 : decode cX11_hooked 27 = .ok (.aload_n 0, 1) := by decide +kernel
theorem dX11_hooked_28 : decode cX11_hooked 28 = .ok (.getfield 13, 3) := by decide +kernel
theorem dX11_hooked_31 : decode cX11_hooked 31 = .ok (.iconst 3, 1) := by decide +kernel
theorem dX11_hooked_32 : decode cX11_hooked 32 = .ok (.iaload, 1) := by decide +kernel
theorem dX11_hooked_33 : decode cX11_hooked 33 = .ok (.ishl, 1) := by decide +kernel
theorem dX11_hooked_34 : decode cX11_hooked 34 = .ok (.if_icmp .ge 99, 3) := by decide +kernel
theorem dX11_hooked_37 : decode cX11_hooked 37 = .ok (.iconst 0, 1) := by decide +kernel
theorem dX11_hooked_38 : decode cX11_hooked 38 = .ok (.istore 4, 2) := by decide +kernel
theorem dX11_hooked_40 : decode cX11_hooked 40 = .ok (.iconst 0, 1) := by decide +kernel
theorem dX11_hooked_41 : decode cX11_hooked 41 = .ok (.istore 5, 2) := by decide +kernel
theorem dX11_hooked_43 : decode cX11_hooked 43 = .ok (.iload 5, 2) := by decide +kernel
theorem dX11_hooked_45 : decode cX11_hooked 45 = .ok (.aload_n 0, 1) := by decide +kernel
theorem dX11_hooked_46 : decode cX11_hooked 46 = .ok (.getfield 13, 3) := by decide +kernel
theorem dX11_hooked_49 : decode cX11_hooked 49 = .ok (.iconst 3, 1) := by decide +kernel
theorem dX11_hooked_50 : decode cX11_hooked 50 = .ok (.iaload, 1) := by decide +kernel
theorem dX11_hooked_51 : decode cX11_hooked 51 = .ok (.if_icmp .ge 33, 3) := by decide +kernel
theorem dX11_hooked_54 : decode cX11_hooked 54 = .ok (.iload 4, 2) := by decide +kernel
theorem dX11_hooked_56 : decode cX11_hooked 56 = .ok (.iload_n 3, 1) := by decide +kernel
theorem dX11_hooked_57 : decode cX11_hooked 57 = .ok (.iload 5, 2) := by decide +kernel
theorem dX11_hooked_59 : decode cX11_hooked 59 = .ok (.invokestatic 118, 3) := by decide +kernel
theorem dX11_hooked_62 : decode cX11_hooked 62 = .ok (.ifCond .eq 12, 3) := by decide +kernel
theorem dX11_hooked_65 : decode cX11_hooked 65 = .ok (.aload_n 0, 1) := by decide +kernel
theorem dX11_hooked_66 : decode cX11_hooked 66 = .ok (.iload 5, 2) := by decide +kernel
theorem dX11_hooked_68 : decode cX11_hooked 68 = .ok (.invokevirtual 160, 3) := by decide +kernel
theorem dX11_hooked_71 : decode cX11_hooked 71 = .ok (.goto 4, 3) := by decide +kernel
theorem dX11_hooked_74 : decode cX11_hooked 74 = .ok (.iconst 0, 1) := by decide +kernel
theorem dX11_hooked_75 : decode cX11_hooked 75 = .ok (.ior, 1) := by decide +kernel
theorem dX11_hooked_76 : decode cX11_hooked 76 = .ok (.istore 4, 2) := by decide +kernel
theorem dX11_hooked_78 : decode cX11_hooked 78 = .ok (.iinc 5 1, 3) := by decide +kernel
theorem dX11_hooked_81 : decode cX11_hooked 81 = .ok (.goto (-38), 3) := by decide +kernel
theorem dX11_hooked_84 : decode cX11_hooked 84 = .ok (.iload_n 1, 1) := by decide +kernel
theorem dX11_hooked_85 : decode cX11_hooked 85 = .ok (.iload 4, 2) := by decide +kernel
theorem dX11_hooked_87 : decode cX11_hooked 87 = .ok (.iconst (-1), 1) := by decide +kernel
theorem dX11_hooked_88 : decode cX11_hooked 88 = .ok (.ixor, 1) := by decide +kernel
theorem dX11_hooked_89 : decode cX11_hooked 89 = .ok (.iand, 1) := by decide +kernel
theorem dX11_hooked_90 : decode cX11_hooked 90 = .ok (.ifCond .ne 7, 3) := by decide +kernel
theorem dX11_hooked_93 : decode cX11_hooked 93 = .ok (.iconst 1, 1) := by decide +kernel
theorem dX11_hooked_94 : decode cX11_hooked 94 = .ok (.goto 4, 3) := by decide +kernel
theorem dX11_hooked_97 : decode cX11_hooked 97 = .ok (.iconst 0, 1) := by decide +kernel
theorem dX11_hooked_98 : decode cX11_hooked 98 = .ok (.istore 5, 2) := by decide +kernel
theorem dX11_hooked_100 : decode cX11_hooked 100 = .ok (.iload 5, 2) := by decide +kernel
theorem dX11_hooked_102 : decode cX11_hooked 102 = .ok (.ifCond .eq 23, 3) := by decide +kernel
theorem dX11_hooked_105 : decode cX11_hooked 105 = .ok (.iload_n 2, 1) := by decide +kernel
theorem dX11_hooked_106 : decode cX11_hooked 106 = .ok (.iconst (-1), 1) := by decide +kernel
theorem dX11_hooked_107 : decode cX11_hooked 107 = .ok (.if_icmp .eq 14, 3) := by decide +kernel
theorem dX11_hooked_110 : decode cX11_hooked 110 = .ok (.iload_n 3, 1) := by decide +kernel
theorem dX11_hooked_111 : decode cX11_hooked 111 = .ok (.invokestatic 174, 3) := by decide +kernel
theorem dX11_hooked_114 : decode cX11_hooked 114 = .ok (.iload_n 2, 1) := by decide +kernel
theorem dX11_hooked_115 : decode cX11_hooked 115 = .ok (.invokestatic 174, 3) := by decide +kernel
theorem dX11_hooked_118 : decode cX11_hooked 118 = .ok (.if_icmp .ge 7, 3) := by decide +kernel
theorem dX11_hooked_121 : decode cX11_hooked 121 = .ok (.iload_n 3, 1) := by decide +kernel
theorem dX11_hooked_122 : decode cX11_hooked 122 = .ok (.goto 4, 3) := by decide +kernel
theorem dX11_hooked_125 : decode cX11_hooked 125 = .ok (.iload_n 2, 1) := by decide +kernel
theorem dX11_hooked_126 : decode cX11_hooked 126 = .ok (.istore_n 2, 1) := by decide +kernel
theorem dX11_hooked_127 : decode cX11_hooked 127 = .ok (.iinc 3 1, 3) := by decide +kernel
theorem dX11_hooked_130 : decode cX11_hooked 130 = .ok (.goto (-105), 3) := by decide +kernel
theorem dX11_hooked_133 : decode cX11_hooked 133 = .ok (.iload_n 2, 1) := by decide +kernel
theorem dX11_hooked_134 : decode cX11_hooked 134 = .ok (.ireturn, 1) := by decide +kernel
theorem dX11_gap_0 : decode cX11_gap 0 = .ok (.iload_n 1, 1) := by decide +kernel
theorem dX11_gap_1 : decode cX11_gap 1 = .ok (.iconst 0, 1) := by decide +kernel
theorem dX11_gap_2 : decode cX11_gap 2 = .ok (.aload_n 0, 1) := by decide +kernel
theorem dX11_gap_3 : decode cX11_gap 3 = .ok (.getfield 19, 3) := by decide +kernel
theorem dX11_gap_6 : decode cX11_gap 6 = .ok (.iconst 2, 1) := by decide +kernel
theorem dX11_gap_7 : decode cX11_gap 7 = .ok (.iaload, 1) := by decide +kernel
theorem dX11_gap_8 : decode cX11_gap 8 = .ok (.invokestatic 67, 3) := by decide +kernel
theorem dX11_gap_11 : decode cX11_gap 11 = .ok (.ifCond .ne 6, 3) := by decide +kernel
theorem dX11_gap_14 : decode cX11_gap 14 = .ok (.ldc 71, 2) := by decide +kernel
theorem dX11_gap_16 : decode cX11_gap 16 = .ok (.ireturn, 1) := by decide +kernel
theorem dX11_gap_17 : decode cX11_gap 17 = .ok (.iconst 0, 1) := by decide +kernel
theorem dX11_gap_18 : decode cX11_gap 18 = .ok (.istore_n 2, 1) := by decide +kernel
theorem dX11_gap_19 : decode cX11_gap 19 = .ok (.aload_n 0, 1) := by decide +kernel
theorem dX11_gap_20 : decode cX11_gap 20 = .ok (.invokevirtual 135, 3) := by decide +kernel
theorem dX11_gap_23 : decode cX11_gap 23 = .ok (.istore_n 3, 1) := by decide +kernel
theorem dX11_gap_24 : decode cX11_gap 24 = .ok (.iconst 0, 1) := by decide +kernel
theorem dX11_gap_25 : decode cX11_gap 25 = .ok (.istore 4, 2) := by decide +kernel
theorem dX11_gap_27 : decode cX11_gap 27 = .ok (.iload 4, 2) := by decide +kernel
theorem dX11_gap_29 : decode cX11_gap 29 = .ok (.aload_n 0, 1) := by decide +kernel
theorem dX11_gap_30 : decode cX11_gap 30 = .ok (.getfield 13, 3) := by decide +kernel
theorem dX11_gap_33 : decode cX11_gap 33 = .ok (.iconst 1, 1) := by decide +kernel
theorem dX11_gap_34 : decode cX11_gap 34 = .ok (.iaload, 1) := by decide +kernel
theorem dX11_gap_35 : decode cX11_gap 35 = .ok (.if_icmp .ge 83, 3) := by decide +kernel
theorem dX11_gap_38 : decode cX11_gap 38 = .ok (.iload_n 3, 1) := by decide +kernel
theorem dX11_gap_39 : decode cX11_gap 39 = .ok (.iload 4, 2) := by decide +kernel
theorem dX11_gap_41 : decode cX11_gap 41 = .ok (.invokestatic 118, 3) := by decide +kernel
theorem dX11_gap_44 : decode cX11_gap 44 = .ok (.ifCond .ne 49, 3) := by decide +kernel
theorem dX11_gap_47 : decode cX11_gap 47 = .ok (.iload_n 1, 1) := by decide +kernel
theorem dX11_gap_48 : decode cX11_gap 48 = .ok (.ifCond .eq 18, 3) := by decide +kernel
theorem dX11_gap_51 : decode cX11_gap 51 = .ok (.aload_n 0, 1) := by decide +kernel
theorem dX11_gap_52 : decode cX11_gap 52 = .ok (.getfield 19, 3) := by decide +kernel
theorem dX11_gap_55 : decode cX11_gap 55 = .ok (.iconst 4, 1) := by decide +kernel
theorem dX11_gap_56 : decode cX11_gap 56 = .ok (.iload_n 1, 1) := by decide +kernel
theorem dX11_gap_57 : decode cX11_gap 57 = .ok (.iadd, 1) := by decide +kernel
theorem dX11_gap_58 : decode cX11_gap 58 = .ok (.iconst 1, 1) := by decide +kernel
theorem dX11_gap_59 : decode cX11_gap 59 = .ok (.isub, 1) := by decide +kernel
theorem dX11_gap_60 : decode cX11_gap 60 = .ok (.iaload, 1) := by decide +kernel
theorem dX11_gap_61 : decode cX11_gap 61 = .ok (.iload 4, 2) := by decide +kernel
theorem dX11_gap_63 : decode cX11_gap 63 = .ok (.if_icmp .ge 30, 3) := by decide +kernel
theorem dX11_gap_66 : decode cX11_gap 66 = .ok (.iload_n 1, 1) := by decide +kernel
theorem dX11_gap_67 : decode cX11_gap 67 = .ok (.aload_n 0, 1) := by decide +kernel
theorem dX11_gap_68 : decode cX11_gap 68 = .ok (.getfield 19, 3) := by decide +kernel
theorem dX11_gap_71 : decode cX11_gap 71 = .ok (.iconst 2, 1) := by decide +kernel
theorem dX11_gap_72 : decode cX11_gap 72 = .ok (.iaload, 1) := by decide +kernel
theorem dX11_gap_73 : decode cX11_gap 73 = .ok (.if_icmp .eq 16, 3) := by decide +kernel
theorem dX11_gap_76 : decode cX11_gap 76 = .ok (.iload 4, 2) := by decide +kernel
theorem dX11_gap_78 : decode cX11_gap 78 = .ok (.aload_n 0, 1) := by decide +kernel
theorem dX11_gap_79 : decode cX11_gap 79 = .ok (.getfield 19, 3) := by decide +kernel
theorem dX11_gap_82 : decode cX11_gap 82 = .ok (.iconst 4, 1) := by decide +kernel
theorem dX11_gap_83 : decode cX11_gap 83 = .ok (.iload_n 1, 1) := by decide +kernel
theorem dX11_gap_84 : decode cX11_gap 84 = .ok (.iadd, 1) := by decide +kernel
theorem dX11_gap_85 : decode cX11_gap 85 = .ok (.iaload, 1) := by decide +kernel
theorem dX11_gap_86 : decode cX11_gap 86 = .ok (.if_icmp .ge 7, 3) := by decide +kernel
theorem dX11_gap_89 : decode cX11_gap 89 = .ok (.iconst 1, 1) := by decide +kernel
theorem dX11_gap_90 : decode cX11_gap 90 = .ok (.goto 4, 3) := by decide +kernel
theorem dX11_gap_93 : decode cX11_gap 93 = .ok (.iconst 0, 1) := by decide +kernel
theorem dX11_gap_94 : decode cX11_gap 94 = .ok (.istore 5, 2) := by decide +kernel
theorem dX11_gap_96 : decode cX11_gap 96 = .ok (.iload_n 2, 1) := by decide +kernel
theorem dX11_gap_97 : decode cX11_gap 97 = .ok (.iload 5, 2) := by decide +kernel
theorem dX11_gap_99 : decode cX11_gap 99 = .ok (.ifCond .eq 10, 3) := by decide +kernel
theorem dX11_gap_102 : decode cX11_gap 102 = .ok (.iconst 1, 1) := by decide +kernel
theorem dX11_gap_103 : decode cX11_gap 103 = .ok (.iload 4, 2) := by decide +kernel
theorem dX11_gap_105 : decode cX11_gap 105 = .ok (.ishl, 1) := by decide +kernel
theorem dX11_gap_106 : decode cX11_gap 106 = .ok (.goto 4, 3) := by decide +kernel
theorem dX11_gap_109 : decode cX11_gap 109 = .ok (.iconst 0, 1) := by decide +kernel
theorem dX11_gap_110 : decode cX11_gap 110 = .ok (.ior, 1) := by decide +kernel
theorem dX11_gap_111 : decode cX11_gap 111 = .ok (.istore_n 2, 1) := by decide +kernel
theorem dX11_gap_112 : decode cX11_gap 112 = .ok (.iinc 4 1, 3) := by decide +kernel
theorem dX11_gap_115 : decode cX11_gap 115 = .ok (.goto (-88), 3) := by decide +kernel
theorem dX11_gap_118 : decode cX11_gap 118 = .ok (.iload_n 2, 1) := by decide +kernel
theorem dX11_gap_119 : decode cX11_gap 119 = .ok (.ireturn, 1) := by decide +kernel
theorem dX11_heavyAt_0 : decode cX11_heavyAt 0 = .ok (.aload_n 0, 1) := by decide +kernel
theorem dX11_heavyAt_1 : decode cX11_heavyAt 1 = .ok (.getfield 13, 3) := by decide +kernel
theorem dX11_heavyAt_4 : decode cX11_heavyAt 4 = .ok (.bipush 12, 2) := by decide +kernel
theorem dX11_heavyAt_6 : decode cX11_heavyAt 6 = .ok (.aload_n 0, 1) := by decide +kernel
theorem dX11_heavyAt_7 : decode cX11_heavyAt 7 = .ok (.getfield 19, 3) := by decide +kernel
theorem dX11_heavyAt_10 : decode cX11_heavyAt 10 = .ok (.iconst 4, 1) := by decide +kernel
theorem dX11_heavyAt_11 : decode cX11_heavyAt 11 = .ok (.iload_n 1, 1) := by decide +kernel
theorem dX11_heavyAt_12 : decode cX11_heavyAt 12 = .ok (.iadd, 1) := by decide +kernel
theorem dX11_heavyAt_13 : decode cX11_heavyAt 13 = .ok (.iaload, 1) := by decide +kernel
theorem dX11_heavyAt_14 : decode cX11_heavyAt 14 = .ok (.iadd, 1) := by decide +kernel
theorem dX11_heavyAt_15 : decode cX11_heavyAt 15 = .ok (.iaload, 1) := by decide +kernel
theorem dX11_heavyAt_16 : decode cX11_heavyAt 16 = .ok (.ireturn, 1) := by decide +kernel
theorem dX11_moreOf_0 : decode cX11_moreOf 0 = .ok (.iload_n 1, 1) := by decide +kernel
theorem dX11_moreOf_1 : decode cX11_moreOf 1 = .ok (.iload_n 2, 1) := by decide +kernel
theorem dX11_moreOf_2 : decode cX11_moreOf 2 = .ok (.if_icmp .le 7, 3) := by decide +kernel
theorem dX11_moreOf_5 : decode cX11_moreOf 5 = .ok (.iconst 0, 1) := by decide +kernel
theorem dX11_moreOf_6 : decode cX11_moreOf 6 = .ok (.goto 14, 3) := by decide +kernel
theorem dX11_moreOf_9 : decode cX11_moreOf 9 = .ok (.aload_n 0, 1) := by decide +kernel
theorem dX11_moreOf_10 : decode cX11_moreOf 10 = .ok (.getfield 64, 3) := by decide +kernel
theorem dX11_moreOf_13 : decode cX11_moreOf 13 = .ok (.bipush 8, 2) := by decide +kernel
theorem dX11_moreOf_15 : decode cX11_moreOf 15 = .ok (.iload_n 1, 1) := by decide +kernel
theorem dX11_moreOf_16 : decode cX11_moreOf 16 = .ok (.imul, 1) := by decide +kernel
theorem dX11_moreOf_17 : decode cX11_moreOf 17 = .ok (.iload_n 2, 1) := by decide +kernel
theorem dX11_moreOf_18 : decode cX11_moreOf 18 = .ok (.iadd, 1) := by decide +kernel
theorem dX11_moreOf_19 : decode cX11_moreOf 19 = .ok (.iaload, 1) := by decide +kernel
theorem dX11_moreOf_20 : decode cX11_moreOf 20 = .ok (.ireturn, 1) := by decide +kernel
theorem dX11_ends__0 : decode cX11_ends_ 0 = .ok (.iload_n 1, 1) := by decide +kernel
theorem dX11_ends__1 : decode cX11_ends_ 1 = .ok (.iconst 0, 1) := by decide +kernel
theorem dX11_ends__2 : decode cX11_ends_ 2 = .ok (.iconst 1, 1) := by decide +kernel
theorem dX11_ends__3 : decode cX11_ends_ 3 = .ok (.invokestatic 67, 3) := by decide +kernel
theorem dX11_ends__6 : decode cX11_ends_ 6 = .ok (.ifCond .ne 6, 3) := by decide +kernel
theorem dX11_ends__9 : decode cX11_ends_ 9 = .ok (.ldc 71, 2) := by decide +kernel
theorem dX11_ends__11 : decode cX11_ends_ 11 = .ok (.ireturn, 1) := by decide +kernel
theorem dX11_ends__12 : decode cX11_ends_ 12 = .ok (.aload_n 0, 1) := by decide +kernel
theorem dX11_ends__13 : decode cX11_ends_ 13 = .ok (.getfield 19, 3) := by decide +kernel
theorem dX11_ends__16 : decode cX11_ends_ 16 = .ok (.iconst 2, 1) := by decide +kernel
theorem dX11_ends__17 : decode cX11_ends_ 17 = .ok (.iaload, 1) := by decide +kernel
theorem dX11_ends__18 : decode cX11_ends_ 18 = .ok (.istore_n 2, 1) := by decide +kernel
theorem dX11_ends__19 : decode cX11_ends_ 19 = .ok (.iconst 1, 1) := by decide +kernel
theorem dX11_ends__20 : decode cX11_ends_ 20 = .ok (.istore_n 3, 1) := by decide +kernel
theorem dX11_ends__21 : decode cX11_ends_ 21 = .ok (.iload_n 3, 1) := by decide +kernel
theorem dX11_ends__22 : decode cX11_ends_ 22 = .ok (.iload_n 2, 1) := by decide +kernel
theorem dX11_ends__23 : decode cX11_ends_ 23 = .ok (.if_icmp .gt 99, 3) := by decide +kernel
theorem dX11_ends__26 : decode cX11_ends_ 26 = .ok (.iconst 0, 1) := by decide +kernel
theorem dX11_ends__27 : decode cX11_ends_ 27 = .ok (.istore 4, 2) := by decide +kernel
theorem dX11_ends__29 : decode cX11_ends_ 29 = .ok (.iload 4, 2) := by decide +kernel
theorem dX11_ends__31 : decode cX11_ends_ 31 = .ok (.iload_n 3, 1) := by decide +kernel
theorem dX11_ends__32 : decode cX11_ends_ 32 = .ok (.iadd, 1) := by decide +kernel
theorem dX11_ends__33 : decode cX11_ends_ 33 = .ok (.iload_n 2, 1) := by decide +kernel
theorem dX11_ends__34 : decode cX11_ends_ 34 = .ok (.if_icmp .gt 82, 3) := by decide +kernel
theorem dX11_ends__37 : decode cX11_ends_ 37 = .ok (.iload 4, 2) := by decide +kernel
theorem dX11_ends__39 : decode cX11_ends_ 39 = .ok (.iload_n 3, 1) := by decide +kernel
theorem dX11_ends__40 : decode cX11_ends_ 40 = .ok (.iadd, 1) := by decide +kernel
theorem dX11_ends__41 : decode cX11_ends_ 41 = .ok (.iconst 1, 1) := by decide +kernel
theorem dX11_ends__42 : decode cX11_ends_ 42 = .ok (.isub, 1) := by decide +kernel
theorem dX11_ends__43 : decode cX11_ends_ 43 = .ok (.istore 5, 2) := by decide +kernel
theorem dX11_ends__45 : decode cX11_ends_ 45 = .ok (.aload_n 0, 1) := by decide +kernel
theorem dX11_ends__46 : decode cX11_ends_ 46 = .ok (.iload 4, 2) := by decide +kernel
theorem dX11_ends__48 : decode cX11_ends_ 48 = .ok (.invokevirtual 219, 3) := by decide +kernel
theorem dX11_ends__51 : decode cX11_ends_ 51 = .ok (.aload_n 0, 1) := by decide +kernel
theorem dX11_ends__52 : decode cX11_ends_ 52 = .ok (.iload 4, 2) := by decide +kernel
theorem dX11_ends__54 : decode cX11_ends_ 54 = .ok (.iconst 1, 1) := by decide +kernel
theorem dX11_ends__55 : decode cX11_ends_ 55 = .ok (.iadd, 1) := by decide +kernel
theorem dX11_ends__56 : decode cX11_ends_ 56 = .ok (.iload 5, 2) := by decide +kernel
theorem dX11_ends__58 : decode cX11_ends_ 58 = .ok (.invokevirtual 222, 3) := by decide +kernel
theorem dX11_ends__61 : decode cX11_ends_ 61 = .ok (.isub, 1) := by decide +kernel
theorem dX11_ends__62 : decode cX11_ends_ 62 = .ok (.istore 6, 2) := by decide +kernel
theorem dX11_ends__64 : decode cX11_ends_ 64 = .ok (.aload_n 0, 1) := by decide +kernel
theorem dX11_ends__65 : decode cX11_ends_ 65 = .ok (.iload 5, 2) := by decide +kernel
theorem dX11_ends__67 : decode cX11_ends_ 67 = .ok (.invokevirtual 219, 3) := by decide +kernel
theorem dX11_ends__70 : decode cX11_ends_ 70 = .ok (.aload_n 0, 1) := by decide +kernel
theorem dX11_ends__71 : decode cX11_ends_ 71 = .ok (.iload 4, 2) := by decide +kernel
theorem dX11_ends__73 : decode cX11_ends_ 73 = .ok (.iload 5, 2) := by decide +kernel
theorem dX11_ends__75 : decode cX11_ends_ 75 = .ok (.iconst 1, 1) := by decide +kernel
theorem dX11_ends__76 : decode cX11_ends_ 76 = .ok (.isub, 1) := by decide +kernel
theorem dX11_ends__77 : decode cX11_ends_ 77 = .ok (.invokevirtual 222, 3) := by decide +kernel
theorem dX11_ends__80 : decode cX11_ends_ 80 = .ok (.isub, 1) := by decide +kernel
theorem dX11_ends__81 : decode cX11_ends_ 81 = .ok (.istore 7, 2) := by decide +kernel
theorem dX11_ends__83 : decode cX11_ends_ 83 = .ok (.aload_n 0, 1) := by decide +kernel
theorem dX11_ends__84 : decode cX11_ends_ 84 = .ok (.getfield 64, 3) := by decide +kernel
theorem dX11_ends__87 : decode cX11_ends_ 87 = .ok (.bipush 8, 2) := by decide +kernel
theorem dX11_ends__89 : decode cX11_ends_ 89 = .ok (.iload 4, 2) := by decide +kernel
theorem dX11_ends__91 : decode cX11_ends_ 91 = .ok (.imul, 1) := by decide +kernel
theorem dX11_ends__92 : decode cX11_ends_ 92 = .ok (.iload 5, 2) := by decide +kernel
theorem dX11_ends__94 : decode cX11_ends_ 94 = .ok (.iadd, 1) := by decide +kernel
theorem dX11_ends__95 : decode cX11_ends_ 95 = .ok (.iload 6, 2) := by decide +kernel
theorem dX11_ends__97 : decode cX11_ends_ 97 = .ok (.iload 7, 2) := by decide +kernel
theorem dX11_ends__99 : decode cX11_ends_ 99 = .ok (.if_icmp .ge 8, 3) := by decide +kernel
theorem dX11_ends__102 : decode cX11_ends_ 102 = .ok (.iload 7, 2) := by decide +kernel
theorem dX11_ends__104 : decode cX11_ends_ 104 = .ok (.goto 5, 3) := by decide +kernel
theorem dX11_ends__107 : decode cX11_ends_ 107 = .ok (.iload 6, 2) := by decide +kernel
theorem dX11_ends__109 : decode cX11_ends_ 109 = .ok (.iastore, 1) := by decide +kernel
theorem dX11_ends__110 : decode cX11_ends_ 110 = .ok (.iinc 4 1, 3) := by decide +kernel
theorem dX11_ends__113 : decode cX11_ends_ 113 = .ok (.goto (-84), 3) := by decide +kernel
theorem dX11_ends__116 : decode cX11_ends_ 116 = .ok (.iinc 3 1, 3) := by decide +kernel
theorem dX11_ends__119 : decode cX11_ends_ 119 = .ok (.goto (-98), 3) := by decide +kernel
theorem dX11_ends__122 : decode cX11_ends_ 122 = .ok (.iload_n 1, 1) := by decide +kernel
theorem dX11_ends__123 : decode cX11_ends_ 123 = .ok (.ifCond .ne 24, 3) := by decide +kernel
theorem dX11_ends__126 : decode cX11_ends_ 126 = .ok (.sipush 1000, 3) := by decide +kernel
theorem dX11_ends__129 : decode cX11_ends_ 129 = .ok (.iload_n 2, 1) := by decide +kernel
theorem dX11_ends__130 : decode cX11_ends_ 130 = .ok (.ifCond .ne 7, 3) := by decide +kernel
theorem dX11_ends__133 : decode cX11_ends_ 133 = .ok (.iconst 0, 1) := by decide +kernel
theorem dX11_ends__134 : decode cX11_ends_ 134 = .ok (.goto 11, 3) := by decide +kernel
theorem dX11_ends__137 : decode cX11_ends_ 137 = .ok (.aload_n 0, 1) := by decide +kernel
theorem dX11_ends__138 : decode cX11_ends_ 138 = .ok (.getfield 64, 3) := by decide +kernel
theorem dX11_ends__141 : decode cX11_ends_ 141 = .ok (.iload_n 2, 1) := by decide +kernel
theorem dX11_ends__142 : decode cX11_ends_ 142 = .ok (.iconst 1, 1) := by decide +kernel
theorem dX11_ends__143 : decode cX11_ends_ 143 = .ok (.isub, 1) := by decide +kernel
theorem dX11_ends__144 : decode cX11_ends_ 144 = .ok (.iaload, 1) := by decide +kernel
theorem dX11_ends__145 : decode cX11_ends_ 145 = .ok (.iadd, 1) := by decide +kernel
theorem dX11_ends__146 : decode cX11_ends_ 146 = .ok (.ireturn, 1) := by decide +kernel
theorem dX11_ends__147 : decode cX11_ends_ 147 = .ok (.iload_n 2, 1) := by decide +kernel
theorem dX11_ends__148 : decode cX11_ends_ 148 = .ok (.ifCond .ne 7, 3) := by decide +kernel
theorem dX11_ends__151 : decode cX11_ends_ 151 = .ok (.iconst (-1), 1) := by decide +kernel
theorem dX11_ends__152 : decode cX11_ends_ 152 = .ok (.goto 33, 3) := by decide +kernel
theorem dX11_ends__155 : decode cX11_ends_ 155 = .ok (.aload_n 0, 1) := by decide +kernel
theorem dX11_ends__156 : decode cX11_ends_ 156 = .ok (.iconst 0, 1) := by decide +kernel
theorem dX11_ends__157 : decode cX11_ends_ 157 = .ok (.invokevirtual 219, 3) := by decide +kernel
theorem dX11_ends__160 : decode cX11_ends_ 160 = .ok (.aload_n 0, 1) := by decide +kernel
theorem dX11_ends__161 : decode cX11_ends_ 161 = .ok (.iconst 1, 1) := by decide +kernel
theorem dX11_ends__162 : decode cX11_ends_ 162 = .ok (.iload_n 2, 1) := by decide +kernel
theorem dX11_ends__163 : decode cX11_ends_ 163 = .ok (.iconst 1, 1) := by decide +kernel
theorem dX11_ends__164 : decode cX11_ends_ 164 = .ok (.isub, 1) := by decide +kernel
theorem dX11_ends__165 : decode cX11_ends_ 165 = .ok (.invokevirtual 222, 3) := by decide +kernel
theorem dX11_ends__168 : decode cX11_ends_ 168 = .ok (.isub, 1) := by decide +kernel
theorem dX11_ends__169 : decode cX11_ends_ 169 = .ok (.aload_n 0, 1) := by decide +kernel
theorem dX11_ends__170 : decode cX11_ends_ 170 = .ok (.getfield 64, 3) := by decide +kernel
theorem dX11_ends__173 : decode cX11_ends_ 173 = .ok (.iload_n 2, 1) := by decide +kernel
theorem dX11_ends__174 : decode cX11_ends_ 174 = .ok (.iconst 1, 1) := by decide +kernel
theorem dX11_ends__175 : decode cX11_ends_ 175 = .ok (.isub, 1) := by decide +kernel
theorem dX11_ends__176 : decode cX11_ends_ 176 = .ok (.iaload, 1) := by decide +kernel
theorem dX11_ends__177 : decode cX11_ends_ 177 = .ok (.if_icmp .ne 7, 3) := by decide +kernel
theorem dX11_ends__180 : decode cX11_ends_ 180 = .ok (.iconst 0, 1) := by decide +kernel
theorem dX11_ends__181 : decode cX11_ends_ 181 = .ok (.goto 4, 3) := by decide +kernel
theorem dX11_ends__184 : decode cX11_ends_ 184 = .ok (.iconst 1, 1) := by decide +kernel
theorem dX11_ends__185 : decode cX11_ends_ 185 = .ok (.ireturn, 1) := by decide +kernel
theorem dX11_calm_0 : decode cX11_calm 0 = .ok (.iload_n 1, 1) := by decide +kernel
theorem dX11_calm_1 : decode cX11_calm 1 = .ok (.iconst 0, 1) := by decide +kernel
theorem dX11_calm_2 : decode cX11_calm 2 = .ok (.bipush 60, 2) := by decide +kernel
theorem dX11_calm_4 : decode cX11_calm 4 = .ok (.invokestatic 67, 3) := by decide +kernel
theorem dX11_calm_7 : decode cX11_calm 7 = .ok (.ifCond .eq 13, 3) := by decide +kernel
theorem dX11_calm_10 : decode cX11_calm 10 = .ok (.iload_n 2, 1) := by decide +kernel
theorem dX11_calm_11 : decode cX11_calm 11 = .ok (.iconst 0, 1) := by decide +kernel
theorem dX11_calm_12 : decode cX11_calm 12 = .ok (.bipush 100, 2) := by decide +kernel
theorem dX11_calm_14 : decode cX11_calm 14 = .ok (.invokestatic 67, 3) := by decide +kernel
theorem dX11_calm_17 : decode cX11_calm 17 = .ok (.ifCond .ne 6, 3) := by decide +kernel
theorem dX11_calm_20 : decode cX11_calm 20 = .ok (.ldc 71, 2) := by decide +kernel
theorem dX11_calm_22 : decode cX11_calm 22 = .ok (.ireturn, 1) := by decide +kernel
theorem dX11_calm_23 : decode cX11_calm 23 = .ok (.ldc2_w 225, 3) := by decide +kernel
theorem dX11_calm_26 : decode cX11_calm 26 = .ok (.lstore_n 3, 1) := by decide +kernel
theorem dX11_calm_27 : decode cX11_calm 27 = .ok (.iconst 0, 1) := by decide +kernel
theorem dX11_calm_28 : decode cX11_calm 28 = .ok (.istore 5, 2) := by decide +kernel
theorem dX11_calm_30 : decode cX11_calm 30 = .ok (.iload 5, 2) := by decide +kernel
theorem dX11_calm_32 : decode cX11_calm 32 = .ok (.iload_n 1, 1) := by decide +kernel
theorem dX11_calm_33 : decode cX11_calm 33 = .ok (.if_icmp .ge 18, 3) := by decide +kernel
theorem dX11_calm_36 : decode cX11_calm 36 = .ok (.lload_n 3, 1) := by decide +kernel
theorem dX11_calm_37 : decode cX11_calm 37 = .ok (.iload_n 2, 1) := by decide +kernel
theorem dX11_calm_38 : decode cX11_calm 38 = .ok (.i2l, 1) := by decide +kernel
theorem dX11_calm_39 : decode cX11_calm 39 = .ok (.lmul, 1) := by decide +kernel
theorem dX11_calm_40 : decode cX11_calm 40 = .ok (.ldc2_w 227, 3) := by decide +kernel
theorem dX11_calm_43 : decode cX11_calm 43 = .ok (.ldiv, 1) := by decide +kernel
theorem dX11_calm_44 : decode cX11_calm 44 = .ok (.lstore_n 3, 1) := by decide +kernel
theorem dX11_calm_45 : decode cX11_calm 45 = .ok (.iinc 5 1, 3) := by decide +kernel
theorem dX11_calm_48 : decode cX11_calm 48 = .ok (.goto (-18), 3) := by decide +kernel
theorem dX11_calm_51 : decode cX11_calm 51 = .ok (.lload_n 3, 1) := by decide +kernel
theorem dX11_calm_52 : decode cX11_calm 52 = .ok (.l2i, 1) := by decide +kernel
theorem dX11_calm_53 : decode cX11_calm 53 = .ok (.ireturn, 1) := by decide +kernel
theorem dX11_old_0 : decode cX11_old 0 = .ok (.iload_n 1, 1) := by decide +kernel
theorem dX11_old_1 : decode cX11_old 1 = .ok (.iconst 0, 1) := by decide +kernel
theorem dX11_old_2 : decode cX11_old 2 = .ok (.iconst 1, 1) := by decide +kernel
theorem dX11_old_3 : decode cX11_old 3 = .ok (.invokestatic 67, 3) := by decide +kernel
theorem dX11_old_6 : decode cX11_old 6 = .ok (.ifCond .eq 29, 3) := by decide +kernel
theorem dX11_old_9 : decode cX11_old 9 = .ok (.iload_n 2, 1) := by decide +kernel
theorem dX11_old_10 : decode cX11_old 10 = .ok (.iload_n 1, 1) := by decide +kernel
theorem dX11_old_11 : decode cX11_old 11 = .ok (.ifCond .ne 7, 3) := by decide +kernel
theorem dX11_old_14 : decode cX11_old 14 = .ok (.iconst 0, 1) := by decide +kernel
theorem dX11_old_15 : decode cX11_old 15 = .ok (.goto 4, 3) := by decide +kernel
theorem dX11_old_18 : decode cX11_old 18 = .ok (.iconst 1, 1) := by decide +kernel
theorem dX11_old_19 : decode cX11_old 19 = .ok (.iload_n 1, 1) := by decide +kernel
theorem dX11_old_20 : decode cX11_old 20 = .ok (.ifCond .ne 7, 3) := by decide +kernel
theorem dX11_old_23 : decode cX11_old 23 = .ok (.iconst 5, 1) := by decide +kernel
theorem dX11_old_24 : decode cX11_old 24 = .ok (.goto 5, 3) := by decide +kernel
theorem dX11_old_27 : decode cX11_old 27 = .ok (.bipush 9, 2) := by decide +kernel
theorem dX11_old_29 : decode cX11_old 29 = .ok (.invokestatic 67, 3) := by decide +kernel
theorem dX11_old_32 : decode cX11_old 32 = .ok (.ifCond .ne 6, 3) := by decide +kernel
theorem dX11_old_35 : decode cX11_old 35 = .ok (.ldc 71, 2) := by decide +kernel
theorem dX11_old_37 : decode cX11_old 37 = .ok (.ireturn, 1) := by decide +kernel
theorem dX11_old_38 : decode cX11_old 38 = .ok (.aload_n 0, 1) := by decide +kernel
theorem dX11_old_39 : decode cX11_old 39 = .ok (.getfield 112, 3) := by decide +kernel
theorem dX11_old_42 : decode cX11_old 42 = .ok (.bipush 6, 2) := by decide +kernel
theorem dX11_old_44 : decode cX11_old 44 = .ok (.if_icmp .ne 6, 3) := by decide +kernel
theorem dX11_old_47 : decode cX11_old 47 = .ok (.ldc 75, 2) := by decide +kernel
theorem dX11_old_49 : decode cX11_old 49 = .ok (.ireturn, 1) := by decide +kernel
theorem dX11_old_50 : decode cX11_old 50 = .ok (.aload_n 0, 1) := by decide +kernel
theorem dX11_old_51 : decode cX11_old 51 = .ok (.getfield 32, 3) := by decide +kernel
theorem dX11_old_54 : decode cX11_old 54 = .ok (.iconst 3, 1) := by decide +kernel
theorem dX11_old_55 : decode cX11_old 55 = .ok (.aload_n 0, 1) := by decide +kernel
theorem dX11_old_56 : decode cX11_old 56 = .ok (.getfield 112, 3) := by decide +kernel
theorem dX11_old_59 : decode cX11_old 59 = .ok (.imul, 1) := by decide +kernel
theorem dX11_old_60 : decode cX11_old 60 = .ok (.iload_n 1, 1) := by decide +kernel
theorem dX11_old_61 : decode cX11_old 61 = .ok (.iastore, 1) := by decide +kernel
theorem dX11_old_62 : decode cX11_old 62 = .ok (.aload_n 0, 1) := by decide +kernel
theorem dX11_old_63 : decode cX11_old 63 = .ok (.getfield 32, 3) := by decide +kernel
theorem dX11_old_66 : decode cX11_old 66 = .ok (.iconst 3, 1) := by decide +kernel
theorem dX11_old_67 : decode cX11_old 67 = .ok (.aload_n 0, 1) := by decide +kernel
theorem dX11_old_68 : decode cX11_old 68 = .ok (.getfield 112, 3) := by decide +kernel
theorem dX11_old_71 : decode cX11_old 71 = .ok (.imul, 1) := by decide +kernel
theorem dX11_old_72 : decode cX11_old 72 = .ok (.iconst 1, 1) := by decide +kernel
theorem dX11_old_73 : decode cX11_old 73 = .ok (.iadd, 1) := by decide +kernel
theorem dX11_old_74 : decode cX11_old 74 = .ok (.iload_n 2, 1) := by decide +kernel
theorem dX11_old_75 : decode cX11_old 75 = .ok (.iastore, 1) := by decide +kernel
theorem dX11_old_76 : decode cX11_old 76 = .ok (.aload_n 0, 1) := by decide +kernel
theorem dX11_old_77 : decode cX11_old 77 = .ok (.getfield 32, 3) := by decide +kernel
theorem dX11_old_80 : decode cX11_old 80 = .ok (.iconst 3, 1) := by decide +kernel
theorem dX11_old_81 : decode cX11_old 81 = .ok (.aload_n 0, 1) := by decide +kernel
theorem dX11_old_82 : decode cX11_old 82 = .ok (.getfield 112, 3) := by decide +kernel
theorem dX11_old_85 : decode cX11_old 85 = .ok (.imul, 1) := by decide +kernel
theorem dX11_old_86 : decode cX11_old 86 = .ok (.iconst 2, 1) := by decide +kernel
theorem dX11_old_87 : decode cX11_old 87 = .ok (.iadd, 1) := by decide +kernel
theorem dX11_old_88 : decode cX11_old 88 = .ok (.iload_n 3, 1) := by decide +kernel
theorem dX11_old_89 : decode cX11_old 89 = .ok (.ifCond .eq 7, 3) := by decide +kernel
theorem dX11_old_92 : decode cX11_old 92 = .ok (.iconst 1, 1) := by decide +kernel
theorem dX11_old_93 : decode cX11_old 93 = .ok (.goto 4, 3) := by decide +kernel
theorem dX11_old_96 : decode cX11_old 96 = .ok (.iconst 0, 1) := by decide +kernel
theorem dX11_old_97 : decode cX11_old 97 = .ok (.iastore, 1) := by decide +kernel
theorem dX11_old_98 : decode cX11_old 98 = .ok (.aload_n 0, 1) := by decide +kernel
theorem dX11_old_99 : decode cX11_old 99 = .ok (.dup, 1) := by decide +kernel
theorem dX11_old_100 : decode cX11_old 100 = .ok (.getfield 112, 3) := by decide +kernel
theorem dX11_old_103 : decode cX11_old 103 = .ok (.iconst 1, 1) := by decide +kernel
theorem dX11_old_104 : decode cX11_old 104 = .ok (.iadd, 1) := by decide +kernel
theorem dX11_old_105 : decode cX11_old 105 = .ok (.putfield 112, 3) := by decide +kernel
theorem dX11_old_108 : decode cX11_old 108 = .ok (.aload_n 0, 1) := by decide +kernel
theorem dX11_old_109 : decode cX11_old 109 = .ok (.getfield 112, 3) := by decide +kernel
theorem dX11_old_112 : decode cX11_old 112 = .ok (.ireturn, 1) := by decide +kernel
theorem dX11_isSo_0 : decode cX11_isSo 0 = .ok (.aload_n 0, 1) := by decide +kernel
theorem dX11_isSo_1 : decode cX11_isSo 1 = .ok (.getfield 13, 3) := by decide +kernel
theorem dX11_isSo_4 : decode cX11_isSo 4 = .ok (.iload_n 2, 1) := by decide +kernel
theorem dX11_isSo_5 : decode cX11_isSo 5 = .ok (.ifCond .ne 7, 3) := by decide +kernel
theorem dX11_isSo_8 : decode cX11_isSo 8 = .ok (.iconst 5, 1) := by decide +kernel
theorem dX11_isSo_9 : decode cX11_isSo 9 = .ok (.goto 5, 3) := by decide +kernel
theorem dX11_isSo_12 : decode cX11_isSo 12 = .ok (.bipush 12, 2) := by decide +kernel
theorem dX11_isSo_14 : decode cX11_isSo 14 = .ok (.iload_n 1, 1) := by decide +kernel
theorem dX11_isSo_15 : decode cX11_isSo 15 = .ok (.iadd, 1) := by decide +kernel
theorem dX11_isSo_16 : decode cX11_isSo 16 = .ok (.iaload, 1) := by decide +kernel
theorem dX11_isSo_17 : decode cX11_isSo 17 = .ok (.iload_n 3, 1) := by decide +kernel
theorem dX11_isSo_18 : decode cX11_isSo 18 = .ok (.if_icmp .ne 7, 3) := by decide +kernel
theorem dX11_isSo_21 : decode cX11_isSo 21 = .ok (.iconst 1, 1) := by decide +kernel
theorem dX11_isSo_22 : decode cX11_isSo 22 = .ok (.goto 4, 3) := by decide +kernel
theorem dX11_isSo_25 : decode cX11_isSo 25 = .ok (.iconst 0, 1) := by decide +kernel
theorem dX11_isSo_26 : decode cX11_isSo 26 = .ok (.ireturn, 1) := by decide +kernel
theorem dX11_could_0 : decode cX11_could 0 = .ok (.iconst 0, 1) := by decide +kernel
theorem dX11_could_1 : decode cX11_could 1 = .ok (.istore_n 1, 1) := by decide +kernel
theorem dX11_could_2 : decode cX11_could 2 = .ok (.iconst 0, 1) := by decide +kernel
theorem dX11_could_3 : decode cX11_could 3 = .ok (.istore_n 2, 1) := by decide +kernel
theorem dX11_could_4 : decode cX11_could 4 = .ok (.iload_n 2, 1) := by decide +kernel
theorem dX11_could_5 : decode cX11_could 5 = .ok (.aload_n 0, 1) := by decide +kernel
theorem dX11_could_6 : decode cX11_could 6 = .ok (.getfield 13, 3) := by decide +kernel
theorem dX11_could_9 : decode cX11_could 9 = .ok (.iconst 1, 1) := by decide +kernel
theorem dX11_could_10 : decode cX11_could 10 = .ok (.iaload, 1) := by decide +kernel
theorem dX11_could_11 : decode cX11_could 11 = .ok (.if_icmp .ge 114, 3) := by decide +kernel
theorem dX11_could_14 : decode cX11_could 14 = .ok (.aload_n 0, 1) := by decide +kernel
theorem dX11_could_15 : decode cX11_could 15 = .ok (.iload_n 2, 1) := by decide +kernel
theorem dX11_could_16 : decode cX11_could 16 = .ok (.invokevirtual 157, 3) := by decide +kernel
theorem dX11_could_19 : decode cX11_could 19 = .ok (.iconst (-1), 1) := by decide +kernel
theorem dX11_could_20 : decode cX11_could 20 = .ok (.if_icmp .ne 7, 3) := by decide +kernel
theorem dX11_could_23 : decode cX11_could 23 = .ok (.iconst 1, 1) := by decide +kernel
theorem dX11_could_24 : decode cX11_could 24 = .ok (.goto 4, 3) := by decide +kernel
theorem dX11_could_27 : decode cX11_could 27 = .ok (.iconst 0, 1) := by decide +kernel
theorem dX11_could_28 : decode cX11_could 28 = .ok (.istore_n 3, 1) := by decide +kernel
theorem dX11_could_29 : decode cX11_could 29 = .ok (.iconst 0, 1) := by decide +kernel
theorem dX11_could_30 : decode cX11_could 30 = .ok (.istore 4, 2) := by decide +kernel
theorem dX11_could_32 : decode cX11_could 32 = .ok (.iload 4, 2) := by decide +kernel
theorem dX11_could_34 : decode cX11_could 34 = .ok (.aload_n 0, 1) := by decide +kernel
theorem dX11_could_35 : decode cX11_could 35 = .ok (.getfield 112, 3) := by decide +kernel
theorem dX11_could_38 : decode cX11_could 38 = .ok (.if_icmp .ge 67, 3) := by decide +kernel
theorem dX11_could_41 : decode cX11_could 41 = .ok (.iload_n 3, 1) := by decide +kernel
theorem dX11_could_42 : decode cX11_could 42 = .ok (.ifCond .eq 55, 3) := by decide +kernel
theorem dX11_could_45 : decode cX11_could 45 = .ok (.aload_n 0, 1) := by decide +kernel
theorem dX11_could_46 : decode cX11_could 46 = .ok (.iload_n 2, 1) := by decide +kernel
theorem dX11_could_47 : decode cX11_could 47 = .ok (.aload_n 0, 1) := by decide +kernel
theorem dX11_could_48 : decode cX11_could 48 = .ok (.getfield 32, 3) := by decide +kernel
theorem dX11_could_51 : decode cX11_could 51 = .ok (.iconst 3, 1) := by decide +kernel
theorem dX11_could_52 : decode cX11_could 52 = .ok (.iload 4, 2) := by decide +kernel
theorem dX11_could_54 : decode cX11_could 54 = .ok (.imul, 1) := by decide +kernel
theorem dX11_could_55 : decode cX11_could 55 = .ok (.iaload, 1) := by decide +kernel
theorem dX11_could_56 : decode cX11_could 56 = .ok (.aload_n 0, 1) := by decide +kernel
theorem dX11_could_57 : decode cX11_could 57 = .ok (.getfield 32, 3) := by decide +kernel
theorem dX11_could_60 : decode cX11_could 60 = .ok (.iconst 3, 1) := by decide +kernel
theorem dX11_could_61 : decode cX11_could 61 = .ok (.iload 4, 2) := by decide +kernel
theorem dX11_could_63 : decode cX11_could 63 = .ok (.imul, 1) := by decide +kernel
theorem dX11_could_64 : decode cX11_could 64 = .ok (.iconst 1, 1) := by decide +kernel
theorem dX11_could_65 : decode cX11_could 65 = .ok (.iadd, 1) := by decide +kernel
theorem dX11_could_66 : decode cX11_could 66 = .ok (.iaload, 1) := by decide +kernel
theorem dX11_could_67 : decode cX11_could 67 = .ok (.invokevirtual 229, 3) := by decide +kernel
theorem dX11_could_70 : decode cX11_could 70 = .ok (.aload_n 0, 1) := by decide +kernel
theorem dX11_could_71 : decode cX11_could 71 = .ok (.getfield 32, 3) := by decide +kernel
theorem dX11_could_74 : decode cX11_could 74 = .ok (.iconst 3, 1) := by decide +kernel
theorem dX11_could_75 : decode cX11_could 75 = .ok (.iload 4, 2) := by decide +kernel
theorem dX11_could_77 : decode cX11_could 77 = .ok (.imul, 1) := by decide +kernel
theorem dX11_could_78 : decode cX11_could 78 = .ok (.iconst 2, 1) := by decide +kernel
theorem dX11_could_79 : decode cX11_could 79 = .ok (.iadd, 1) := by decide +kernel
theorem dX11_could_80 : decode cX11_could 80 = .ok (.iaload, 1) := by decide +kernel
theorem dX11_could_81 : decode cX11_could 81 = .ok (.iconst 1, 1) := by decide +kernel
theorem dX11_could_82 : decode cX11_could 82 = .ok (.if_icmp .ne 7, 3) := by decide +kernel
theorem dX11_could_85 : decode cX11_could 85 = .ok (.iconst 1, 1) := by decide +kernel
theorem dX11_could_86 : decode cX11_could 86 = .ok (.goto 4, 3) := by decide +kernel
theorem dX11_could_89 : decode cX11_could 89 = .ok (.iconst 0, 1) := by decide +kernel
theorem dX11_could_90 : decode cX11_could 90 = .ok (.if_icmp .ne 7, 3) := by decide +kernel
theorem dX11_could_93 : decode cX11_could 93 = .ok (.iconst 1, 1) := by decide +kernel
theorem dX11_could_94 : decode cX11_could 94 = .ok (.goto 4, 3) := by decide +kernel
theorem dX11_could_97 : decode cX11_could 97 = .ok (.iconst 0, 1) := by decide +kernel
theorem dX11_could_98 : decode cX11_could 98 = .ok (.istore_n 3, 1) := by decide +kernel
theorem dX11_could_99 : decode cX11_could 99 = .ok (.iinc 4 1, 3) := by decide +kernel
theorem dX11_could_102 : decode cX11_could 102 = .ok (.goto (-70), 3) := by decide +kernel
theorem dX11_could_105 : decode cX11_could 105 = .ok (.iload_n 1, 1) := by decide +kernel
theorem dX11_could_106 : decode cX11_could 106 = .ok (.iload_n 3, 1) := by decide +kernel
theorem dX11_could_107 : decode cX11_could 107 = .ok (.ifCond .eq 9, 3) := by decide +kernel
theorem dX11_could_110 : decode cX11_could 110 = .ok (.iconst 1, 1) := by decide +kernel
theorem dX11_could_111 : decode cX11_could 111 = .ok (.iload_n 2, 1) := by decide +kernel
theorem dX11_could_112 : decode cX11_could 112 = .ok (.ishl, 1) := by decide +kernel
theorem dX11_could_113 : decode cX11_could 113 = .ok (.goto 4, 3) := by decide +kernel
theorem dX11_could_116 : decode cX11_could 116 = .ok (.iconst 0, 1) := by decide +kernel
theorem dX11_could_117 : decode cX11_could 117 = .ok (.ior, 1) := by decide +kernel
theorem dX11_could_118 : decode cX11_could 118 = .ok (.istore_n 1, 1) := by decide +kernel
theorem dX11_could_119 : decode cX11_could 119 = .ok (.iinc 2 1, 3) := by decide +kernel
theorem dX11_could_122 : decode cX11_could 122 = .ok (.goto (-118), 3) := by decide +kernel
theorem dX11_could_125 : decode cX11_could 125 = .ok (.iload_n 1, 1) := by decide +kernel
theorem dX11_could_126 : decode cX11_could 126 = .ok (.ireturn, 1) := by decide +kernel
theorem dX11_couldBe_0 : decode cX11_couldBe 0 = .ok (.aload_n 0, 1) := by decide +kernel
theorem dX11_couldBe_1 : decode cX11_couldBe 1 = .ok (.invokevirtual 232, 3) := by decide +kernel
theorem dX11_couldBe_4 : decode cX11_couldBe 4 = .ok (.ireturn, 1) := by decide +kernel
theorem dX11_next_0 : decode cX11_next 0 = .ok (.aload_n 0, 1) := by decide +kernel
theorem dX11_next_1 : decode cX11_next 1 = .ok (.invokevirtual 232, 3) := by decide +kernel
theorem dX11_next_4 : decode cX11_next 4 = .ok (.istore_n 1, 1) := by decide +kernel
theorem dX11_next_5 : decode cX11_next 5 = .ok (.iload_n 1, 1) := by decide +kernel
theorem dX11_next_6 : decode cX11_next 6 = .ok (.invokestatic 174, 3) := by decide +kernel
theorem dX11_next_9 : decode cX11_next 9 = .ok (.istore_n 2, 1) := by decide +kernel
theorem dX11_next_10 : decode cX11_next 10 = .ok (.iconst (-1), 1) := by decide +kernel
theorem dX11_next_11 : decode cX11_next 11 = .ok (.istore_n 3, 1) := by decide +kernel
theorem dX11_next_12 : decode cX11_next 12 = .ok (.iload_n 2, 1) := by decide +kernel
theorem dX11_next_13 : decode cX11_next 13 = .ok (.istore 4, 2) := by decide +kernel
theorem dX11_next_15 : decode cX11_next 15 = .ok (.iconst 0, 1) := by decide +kernel
theorem dX11_next_16 : decode cX11_next 16 = .ok (.istore 5, 2) := by decide +kernel
theorem dX11_next_18 : decode cX11_next 18 = .ok (.iload 5, 2) := by decide +kernel
theorem dX11_next_20 : decode cX11_next 20 = .ok (.bipush 20, 2) := by decide +kernel
theorem dX11_next_22 : decode cX11_next 22 = .ok (.if_icmp .ge 131, 3) := by decide +kernel
theorem dX11_next_25 : decode cX11_next 25 = .ok (.iload 5, 2) := by decide +kernel
theorem dX11_next_27 : decode cX11_next 27 = .ok (.bipush 10, 2) := by decide +kernel
theorem dX11_next_29 : decode cX11_next 29 = .ok (.if_icmp .ge 7, 3) := by decide +kernel
theorem dX11_next_32 : decode cX11_next 32 = .ok (.iconst 0, 1) := by decide +kernel
theorem dX11_next_33 : decode cX11_next 33 = .ok (.goto 4, 3) := by decide +kernel
theorem dX11_next_36 : decode cX11_next 36 = .ok (.iconst 1, 1) := by decide +kernel
theorem dX11_next_37 : decode cX11_next 37 = .ok (.istore 6, 2) := by decide +kernel
theorem dX11_next_39 : decode cX11_next 39 = .ok (.iconst 0, 1) := by decide +kernel
theorem dX11_next_40 : decode cX11_next 40 = .ok (.istore 7, 2) := by decide +kernel
theorem dX11_next_42 : decode cX11_next 42 = .ok (.iconst 0, 1) := by decide +kernel
theorem dX11_next_43 : decode cX11_next 43 = .ok (.istore 8, 2) := by decide +kernel
theorem dX11_next_45 : decode cX11_next 45 = .ok (.iload 8, 2) := by decide +kernel
theorem dX11_next_47 : decode cX11_next 47 = .ok (.aload_n 0, 1) := by decide +kernel
theorem dX11_next_48 : decode cX11_next 48 = .ok (.getfield 13, 3) := by decide +kernel
theorem dX11_next_51 : decode cX11_next 51 = .ok (.iconst 1, 1) := by decide +kernel
theorem dX11_next_52 : decode cX11_next 52 = .ok (.iaload, 1) := by decide +kernel
theorem dX11_next_53 : decode cX11_next 53 = .ok (.if_icmp .ge 44, 3) := by decide +kernel
theorem dX11_next_56 : decode cX11_next 56 = .ok (.iload 7, 2) := by decide +kernel
theorem dX11_next_58 : decode cX11_next 58 = .ok (.iload_n 1, 1) := by decide +kernel
theorem dX11_next_59 : decode cX11_next 59 = .ok (.iload 8, 2) := by decide +kernel
theorem dX11_next_61 : decode cX11_next 61 = .ok (.invokestatic 118, 3) := by decide +kernel
theorem dX11_next_64 : decode cX11_next 64 = .ok (.ifCond .eq 23, 3) := by decide +kernel
theorem dX11_next_67 : decode cX11_next 67 = .ok (.aload_n 0, 1) := by decide +kernel
theorem dX11_next_68 : decode cX11_next 68 = .ok (.iload 8, 2) := by decide +kernel
theorem dX11_next_70 : decode cX11_next 70 = .ok (.iload 6, 2) := by decide +kernel
theorem dX11_next_72 : decode cX11_next 72 = .ok (.iload 5, 2) := by decide +kernel
theorem dX11_next_74 : decode cX11_next 74 = .ok (.bipush 10, 2) := by decide +kernel
theorem dX11_next_76 : decode cX11_next 76 = .ok (.irem, 1) := by decide +kernel
theorem dX11_next_77 : decode cX11_next 77 = .ok (.invokevirtual 229, 3) := by decide +kernel
theorem dX11_next_80 : decode cX11_next 80 = .ok (.ifCond .eq 7, 3) := by decide +kernel
theorem dX11_next_83 : decode cX11_next 83 = .ok (.iconst 1, 1) := by decide +kernel
theorem dX11_next_84 : decode cX11_next 84 = .ok (.goto 4, 3) := by decide +kernel
theorem dX11_next_87 : decode cX11_next 87 = .ok (.iconst 0, 1) := by decide +kernel
theorem dX11_next_88 : decode cX11_next 88 = .ok (.iadd, 1) := by decide +kernel
theorem dX11_next_89 : decode cX11_next 89 = .ok (.istore 7, 2) := by decide +kernel
theorem dX11_next_91 : decode cX11_next 91 = .ok (.iinc 8 1, 3) := by decide +kernel
theorem dX11_next_94 : decode cX11_next 94 = .ok (.goto (-49), 3) := by decide +kernel
theorem dX11_next_97 : decode cX11_next 97 = .ok (.iload 7, 2) := by decide +kernel
theorem dX11_next_99 : decode cX11_next 99 = .ok (.iload_n 2, 1) := by decide +kernel
theorem dX11_next_100 : decode cX11_next 100 = .ok (.iload 7, 2) := by decide +kernel
theorem dX11_next_102 : decode cX11_next 102 = .ok (.isub, 1) := by decide +kernel
theorem dX11_next_103 : decode cX11_next 103 = .ok (.if_icmp .le 8, 3) := by decide +kernel
theorem dX11_next_106 : decode cX11_next 106 = .ok (.iload 7, 2) := by decide +kernel
theorem dX11_next_108 : decode cX11_next 108 = .ok (.goto 7, 3) := by decide +kernel
theorem dX11_next_111 : decode cX11_next 111 = .ok (.iload_n 2, 1) := by decide +kernel
theorem dX11_next_112 : decode cX11_next 112 = .ok (.iload 7, 2) := by decide +kernel
theorem dX11_next_114 : decode cX11_next 114 = .ok (.isub, 1) := by decide +kernel
theorem dX11_next_115 : decode cX11_next 115 = .ok (.istore 8, 2) := by decide +kernel
theorem dX11_next_117 : decode cX11_next 117 = .ok (.iload 8, 2) := by decide +kernel
theorem dX11_next_119 : decode cX11_next 119 = .ok (.iload 4, 2) := by decide +kernel
theorem dX11_next_121 : decode cX11_next 121 = .ok (.if_icmp .ge 8, 3) := by decide +kernel
theorem dX11_next_124 : decode cX11_next 124 = .ok (.iload 5, 2) := by decide +kernel
theorem dX11_next_126 : decode cX11_next 126 = .ok (.goto 4, 3) := by decide +kernel
theorem dX11_next_129 : decode cX11_next 129 = .ok (.iload_n 3, 1) := by decide +kernel
theorem dX11_next_130 : decode cX11_next 130 = .ok (.istore_n 3, 1) := by decide +kernel
theorem dX11_next_131 : decode cX11_next 131 = .ok (.iload 8, 2) := by decide +kernel
theorem dX11_next_133 : decode cX11_next 133 = .ok (.iload 4, 2) := by decide +kernel
theorem dX11_next_135 : decode cX11_next 135 = .ok (.if_icmp .ge 8, 3) := by decide +kernel
theorem dX11_next_138 : decode cX11_next 138 = .ok (.iload 8, 2) := by decide +kernel
theorem dX11_next_140 : decode cX11_next 140 = .ok (.goto 5, 3) := by decide +kernel
theorem dX11_next_143 : decode cX11_next 143 = .ok (.iload 4, 2) := by decide +kernel
theorem dX11_next_145 : decode cX11_next 145 = .ok (.istore 4, 2) := by decide +kernel
theorem dX11_next_147 : decode cX11_next 147 = .ok (.iinc 5 1, 3) := by decide +kernel
theorem dX11_next_150 : decode cX11_next 150 = .ok (.goto (-132), 3) := by decide +kernel
theorem dX11_next_153 : decode cX11_next 153 = .ok (.iload_n 3, 1) := by decide +kernel
theorem dX11_next_154 : decode cX11_next 154 = .ok (.ireturn, 1) := by decide +kernel
theorem dX11_write_0 : decode cX11_write 0 = .ok (.iload_n 2, 1) := by decide +kernel
theorem dX11_write_1 : decode cX11_write 1 = .ok (.iconst (-1), 1) := by decide +kernel
theorem dX11_write_2 : decode cX11_write 2 = .ok (.if_icmp .eq 14, 3) := by decide +kernel
theorem dX11_write_5 : decode cX11_write 5 = .ok (.aload_n 0, 1) := by decide +kernel
theorem dX11_write_6 : decode cX11_write 6 = .ok (.iload_n 2, 1) := by decide +kernel
theorem dX11_write_7 : decode cX11_write 7 = .ok (.invokevirtual 153, 3) := by decide +kernel
theorem dX11_write_10 : decode cX11_write 10 = .ok (.ifCond .ne 6, 3) := by decide +kernel
theorem dX11_write_13 : decode cX11_write 13 = .ok (.ldc 156, 2) := by decide +kernel
theorem dX11_write_15 : decode cX11_write 15 = .ok (.ireturn, 1) := by decide +kernel
theorem dX11_write_16 : decode cX11_write 16 = .ok (.iload_n 1, 1) := by decide +kernel
theorem dX11_write_17 : decode cX11_write 17 = .ok (.iconst 0, 1) := by decide +kernel
theorem dX11_write_18 : decode cX11_write 18 = .ok (.bipush 6, 2) := by decide +kernel
theorem dX11_write_20 : decode cX11_write 20 = .ok (.invokestatic 67, 3) := by decide +kernel
theorem dX11_write_23 : decode cX11_write 23 = .ok (.ifCond .ne 6, 3) := by decide +kernel
theorem dX11_write_26 : decode cX11_write 26 = .ok (.ldc 71, 2) := by decide +kernel
theorem dX11_write_28 : decode cX11_write 28 = .ok (.ireturn, 1) := by decide +kernel
theorem dX11_write_29 : decode cX11_write 29 = .ok (.aload_n 0, 1) := by decide +kernel
theorem dX11_write_30 : decode cX11_write 30 = .ok (.getfield 115, 3) := by decide +kernel
theorem dX11_write_33 : decode cX11_write 33 = .ok (.bipush 20, 2) := by decide +kernel
theorem dX11_write_35 : decode cX11_write 35 = .ok (.if_icmp .ne 6, 3) := by decide +kernel
theorem dX11_write_38 : decode cX11_write 38 = .ok (.ldc 75, 2) := by decide +kernel
theorem dX11_write_40 : decode cX11_write 40 = .ok (.ireturn, 1) := by decide +kernel
theorem dX11_write_41 : decode cX11_write 41 = .ok (.aload_n 0, 1) := by decide +kernel
theorem dX11_write_42 : decode cX11_write 42 = .ok (.getfield 35, 3) := by decide +kernel
theorem dX11_write_45 : decode cX11_write 45 = .ok (.iconst 2, 1) := by decide +kernel
theorem dX11_write_46 : decode cX11_write 46 = .ok (.aload_n 0, 1) := by decide +kernel
theorem dX11_write_47 : decode cX11_write 47 = .ok (.getfield 115, 3) := by decide +kernel
theorem dX11_write_50 : decode cX11_write 50 = .ok (.imul, 1) := by decide +kernel
theorem dX11_write_51 : decode cX11_write 51 = .ok (.iload_n 1, 1) := by decide +kernel
theorem dX11_write_52 : decode cX11_write 52 = .ok (.iastore, 1) := by decide +kernel
theorem dX11_write_53 : decode cX11_write 53 = .ok (.aload_n 0, 1) := by decide +kernel
theorem dX11_write_54 : decode cX11_write 54 = .ok (.getfield 35, 3) := by decide +kernel
theorem dX11_write_57 : decode cX11_write 57 = .ok (.iconst 2, 1) := by decide +kernel
theorem dX11_write_58 : decode cX11_write 58 = .ok (.aload_n 0, 1) := by decide +kernel
theorem dX11_write_59 : decode cX11_write 59 = .ok (.getfield 115, 3) := by decide +kernel
theorem dX11_write_62 : decode cX11_write 62 = .ok (.imul, 1) := by decide +kernel
theorem dX11_write_63 : decode cX11_write 63 = .ok (.iconst 1, 1) := by decide +kernel
theorem dX11_write_64 : decode cX11_write 64 = .ok (.iadd, 1) := by decide +kernel
theorem dX11_write_65 : decode cX11_write 65 = .ok (.iload_n 2, 1) := by decide +kernel
theorem dX11_write_66 : decode cX11_write 66 = .ok (.iastore, 1) := by decide +kernel
theorem dX11_write_67 : decode cX11_write 67 = .ok (.aload_n 0, 1) := by decide +kernel
theorem dX11_write_68 : decode cX11_write 68 = .ok (.dup, 1) := by decide +kernel
theorem dX11_write_69 : decode cX11_write 69 = .ok (.getfield 115, 3) := by decide +kernel
theorem dX11_write_72 : decode cX11_write 72 = .ok (.iconst 1, 1) := by decide +kernel
theorem dX11_write_73 : decode cX11_write 73 = .ok (.iadd, 1) := by decide +kernel
theorem dX11_write_74 : decode cX11_write 74 = .ok (.putfield 115, 3) := by decide +kernel
theorem dX11_write_77 : decode cX11_write 77 = .ok (.aload_n 0, 1) := by decide +kernel
theorem dX11_write_78 : decode cX11_write 78 = .ok (.getfield 115, 3) := by decide +kernel
theorem dX11_write_81 : decode cX11_write 81 = .ok (.ireturn, 1) := by decide +kernel
theorem dX11_judge_0 : decode cX11_judge 0 = .ok (.iconst 0, 1) := by decide +kernel
theorem dX11_judge_1 : decode cX11_judge 1 = .ok (.istore_n 1, 1) := by decide +kernel
theorem dX11_judge_2 : decode cX11_judge 2 = .ok (.iload_n 1, 1) := by decide +kernel
theorem dX11_judge_3 : decode cX11_judge 3 = .ok (.aload_n 0, 1) := by decide +kernel
theorem dX11_judge_4 : decode cX11_judge 4 = .ok (.getfield 115, 3) := by decide +kernel
theorem dX11_judge_7 : decode cX11_judge 7 = .ok (.if_icmp .ge 57, 3) := by decide +kernel
theorem dX11_judge_10 : decode cX11_judge 10 = .ok (.aload_n 0, 1) := by decide +kernel
theorem dX11_judge_11 : decode cX11_judge 11 = .ok (.getfield 35, 3) := by decide +kernel
theorem dX11_judge_14 : decode cX11_judge 14 = .ok (.iconst 2, 1) := by decide +kernel
theorem dX11_judge_15 : decode cX11_judge 15 = .ok (.iload_n 1, 1) := by decide +kernel
theorem dX11_judge_16 : decode cX11_judge 16 = .ok (.imul, 1) := by decide +kernel
theorem dX11_judge_17 : decode cX11_judge 17 = .ok (.iaload, 1) := by decide +kernel
theorem dX11_judge_18 : decode cX11_judge 18 = .ok (.istore_n 2, 1) := by decide +kernel
theorem dX11_judge_19 : decode cX11_judge 19 = .ok (.iload_n 2, 1) := by decide +kernel
theorem dX11_judge_20 : decode cX11_judge 20 = .ok (.aload_n 0, 1) := by decide +kernel
theorem dX11_judge_21 : decode cX11_judge 21 = .ok (.getfield 19, 3) := by decide +kernel
theorem dX11_judge_24 : decode cX11_judge 24 = .ok (.iconst 2, 1) := by decide +kernel
theorem dX11_judge_25 : decode cX11_judge 25 = .ok (.iaload, 1) := by decide +kernel
theorem dX11_judge_26 : decode cX11_judge 26 = .ok (.if_icmp .ge 14, 3) := by decide +kernel
theorem dX11_judge_29 : decode cX11_judge 29 = .ok (.aload_n 0, 1) := by decide +kernel
theorem dX11_judge_30 : decode cX11_judge 30 = .ok (.getfield 19, 3) := by decide +kernel
theorem dX11_judge_33 : decode cX11_judge 33 = .ok (.iconst 4, 1) := by decide +kernel
theorem dX11_judge_34 : decode cX11_judge 34 = .ok (.iload_n 2, 1) := by decide +kernel
theorem dX11_judge_35 : decode cX11_judge 35 = .ok (.iadd, 1) := by decide +kernel
theorem dX11_judge_36 : decode cX11_judge 36 = .ok (.iaload, 1) := by decide +kernel
theorem dX11_judge_37 : decode cX11_judge 37 = .ok (.goto 4, 3) := by decide +kernel
theorem dX11_judge_40 : decode cX11_judge 40 = .ok (.iconst (-1), 1) := by decide +kernel
theorem dX11_judge_41 : decode cX11_judge 41 = .ok (.istore_n 3, 1) := by decide +kernel
theorem dX11_judge_42 : decode cX11_judge 42 = .ok (.iload_n 3, 1) := by decide +kernel
theorem dX11_judge_43 : decode cX11_judge 43 = .ok (.aload_n 0, 1) := by decide +kernel
theorem dX11_judge_44 : decode cX11_judge 44 = .ok (.getfield 35, 3) := by decide +kernel
theorem dX11_judge_47 : decode cX11_judge 47 = .ok (.iconst 2, 1) := by decide +kernel
theorem dX11_judge_48 : decode cX11_judge 48 = .ok (.iload_n 1, 1) := by decide +kernel
theorem dX11_judge_49 : decode cX11_judge 49 = .ok (.imul, 1) := by decide +kernel
theorem dX11_judge_50 : decode cX11_judge 50 = .ok (.iconst 1, 1) := by decide +kernel
theorem dX11_judge_51 : decode cX11_judge 51 = .ok (.iadd, 1) := by decide +kernel
theorem dX11_judge_52 : decode cX11_judge 52 = .ok (.iaload, 1) := by decide +kernel
theorem dX11_judge_53 : decode cX11_judge 53 = .ok (.if_icmp .eq 5, 3) := by decide +kernel
theorem dX11_judge_56 : decode cX11_judge 56 = .ok (.iload_n 1, 1) := by decide +kernel
theorem dX11_judge_57 : decode cX11_judge 57 = .ok (.ireturn, 1) := by decide +kernel
theorem dX11_judge_58 : decode cX11_judge 58 = .ok (.iinc 1 1, 3) := by decide +kernel
theorem dX11_judge_61 : decode cX11_judge 61 = .ok (.goto (-59), 3) := by decide +kernel
theorem dX11_judge_64 : decode cX11_judge 64 = .ok (.iconst (-1), 1) := by decide +kernel
theorem dX11_judge_65 : decode cX11_judge 65 = .ok (.ireturn, 1) := by decide +kernel
theorem dX11_tear_0 : decode cX11_tear 0 = .ok (.aload_n 0, 1) := by decide +kernel
theorem dX11_tear_1 : decode cX11_tear 1 = .ok (.getfield 112, 3) := by decide +kernel
theorem dX11_tear_4 : decode cX11_tear 4 = .ok (.aload_n 0, 1) := by decide +kernel
theorem dX11_tear_5 : decode cX11_tear 5 = .ok (.getfield 115, 3) := by decide +kernel
theorem dX11_tear_8 : decode cX11_tear 8 = .ok (.iadd, 1) := by decide +kernel
theorem dX11_tear_9 : decode cX11_tear 9 = .ok (.istore_n 1, 1) := by decide +kernel
theorem dX11_tear_10 : decode cX11_tear 10 = .ok (.aload_n 0, 1) := by decide +kernel
theorem dX11_tear_11 : decode cX11_tear 11 = .ok (.iconst 0, 1) := by decide +kernel
theorem dX11_tear_12 : decode cX11_tear 12 = .ok (.putfield 112, 3) := by decide +kernel
theorem dX11_tear_15 : decode cX11_tear 15 = .ok (.aload_n 0, 1) := by decide +kernel
theorem dX11_tear_16 : decode cX11_tear 16 = .ok (.iconst 0, 1) := by decide +kernel
theorem dX11_tear_17 : decode cX11_tear 17 = .ok (.putfield 115, 3) := by decide +kernel
theorem dX11_tear_20 : decode cX11_tear 20 = .ok (.iload_n 1, 1) := by decide +kernel
theorem dX11_tear_21 : decode cX11_tear 21 = .ok (.ireturn, 1) := by decide +kernel
theorem dX11_seed_0 : decode cX11_seed 0 = .ok (.iload_n 1, 1) := by decide +kernel
theorem dX11_seed_1 : decode cX11_seed 1 = .ok (.ifCond .ge 6, 3) := by decide +kernel
theorem dX11_seed_4 : decode cX11_seed 4 = .ok (.ldc 71, 2) := by decide +kernel
theorem dX11_seed_6 : decode cX11_seed 6 = .ok (.ireturn, 1) := by decide +kernel
theorem dX11_seed_7 : decode cX11_seed 7 = .ok (.aload_n 0, 1) := by decide +kernel
theorem dX11_seed_8 : decode cX11_seed 8 = .ok (.getfield 180, 3) := by decide +kernel
theorem dX11_seed_11 : decode cX11_seed 11 = .ok (.istore_n 2, 1) := by decide +kernel
theorem dX11_seed_12 : decode cX11_seed 12 = .ok (.aload_n 0, 1) := by decide +kernel
theorem dX11_seed_13 : decode cX11_seed 13 = .ok (.iload_n 1, 1) := by decide +kernel
theorem dX11_seed_14 : decode cX11_seed 14 = .ok (.putfield 180, 3) := by decide +kernel
theorem dX11_seed_17 : decode cX11_seed 17 = .ok (.iload_n 2, 1) := by decide +kernel
theorem dX11_seed_18 : decode cX11_seed 18 = .ok (.ireturn, 1) := by decide +kernel
theorem dX11_keep_0 : decode cX11_keep 0 = .ok (.iload_n 1, 1) := by decide +kernel
theorem dX11_keep_1 : decode cX11_keep 1 = .ok (.iconst 0, 1) := by decide +kernel
theorem dX11_keep_2 : decode cX11_keep 2 = .ok (.iconst 1, 1) := by decide +kernel
theorem dX11_keep_3 : decode cX11_keep 3 = .ok (.invokestatic 67, 3) := by decide +kernel
theorem dX11_keep_6 : decode cX11_keep 6 = .ok (.ifCond .ne 6, 3) := by decide +kernel
theorem dX11_keep_9 : decode cX11_keep 9 = .ok (.ldc 156, 2) := by decide +kernel
theorem dX11_keep_11 : decode cX11_keep 11 = .ok (.ireturn, 1) := by decide +kernel
theorem dX11_keep_12 : decode cX11_keep 12 = .ok (.iconst 0, 1) := by decide +kernel
theorem dX11_keep_13 : decode cX11_keep 13 = .ok (.istore_n 2, 1) := by decide +kernel
theorem dX11_keep_14 : decode cX11_keep 14 = .ok (.iload_n 2, 1) := by decide +kernel
theorem dX11_keep_15 : decode cX11_keep 15 = .ok (.bipush 25, 2) := by decide +kernel
theorem dX11_keep_17 : decode cX11_keep 17 = .ok (.if_icmp .ge 26, 3) := by decide +kernel
theorem dX11_keep_20 : decode cX11_keep 20 = .ok (.aload_n 0, 1) := by decide +kernel
theorem dX11_keep_21 : decode cX11_keep 21 = .ok (.getfield 25, 3) := by decide +kernel
theorem dX11_keep_24 : decode cX11_keep 24 = .ok (.bipush 26, 2) := by decide +kernel
theorem dX11_keep_26 : decode cX11_keep 26 = .ok (.iload_n 1, 1) := by decide +kernel
theorem dX11_keep_27 : decode cX11_keep 27 = .ok (.imul, 1) := by decide +kernel
theorem dX11_keep_28 : decode cX11_keep 28 = .ok (.iload_n 2, 1) := by decide +kernel
theorem dX11_keep_29 : decode cX11_keep 29 = .ok (.iadd, 1) := by decide +kernel
theorem dX11_keep_30 : decode cX11_keep 30 = .ok (.aload_n 0, 1) := by decide +kernel
theorem dX11_keep_31 : decode cX11_keep 31 = .ok (.getfield 19, 3) := by decide +kernel
theorem dX11_keep_34 : decode cX11_keep 34 = .ok (.iload_n 2, 1) := by decide +kernel
theorem dX11_keep_35 : decode cX11_keep 35 = .ok (.iaload, 1) := by decide +kernel
theorem dX11_keep_36 : decode cX11_keep 36 = .ok (.iastore, 1) := by decide +kernel
theorem dX11_keep_37 : decode cX11_keep 37 = .ok (.iinc 2 1, 3) := by decide +kernel
theorem dX11_keep_40 : decode cX11_keep 40 = .ok (.goto (-26), 3) := by decide +kernel
theorem dX11_keep_43 : decode cX11_keep 43 = .ok (.aload_n 0, 1) := by decide +kernel
theorem dX11_keep_44 : decode cX11_keep 44 = .ok (.getfield 25, 3) := by decide +kernel
theorem dX11_keep_47 : decode cX11_keep 47 = .ok (.bipush 26, 2) := by decide +kernel
theorem dX11_keep_49 : decode cX11_keep 49 = .ok (.iload_n 1, 1) := by decide +kernel
theorem dX11_keep_50 : decode cX11_keep 50 = .ok (.imul, 1) := by decide +kernel
theorem dX11_keep_51 : decode cX11_keep 51 = .ok (.bipush 25, 2) := by decide +kernel
theorem dX11_keep_53 : decode cX11_keep 53 = .ok (.iadd, 1) := by decide +kernel
theorem dX11_keep_54 : decode cX11_keep 54 = .ok (.aload_n 0, 1) := by decide +kernel
theorem dX11_keep_55 : decode cX11_keep 55 = .ok (.getfield 180, 3) := by decide +kernel
theorem dX11_keep_58 : decode cX11_keep 58 = .ok (.iastore, 1) := by decide +kernel
theorem dX11_keep_59 : decode cX11_keep 59 = .ok (.aload_n 0, 1) := by decide +kernel
theorem dX11_keep_60 : decode cX11_keep 60 = .ok (.getfield 28, 3) := by decide +kernel
theorem dX11_keep_63 : decode cX11_keep 63 = .ok (.iload_n 1, 1) := by decide +kernel
theorem dX11_keep_64 : decode cX11_keep 64 = .ok (.iconst 1, 1) := by decide +kernel
theorem dX11_keep_65 : decode cX11_keep 65 = .ok (.bastore, 1) := by decide +kernel
theorem dX11_keep_66 : decode cX11_keep 66 = .ok (.aload_n 0, 1) := by decide +kernel
theorem dX11_keep_67 : decode cX11_keep 67 = .ok (.iconst 0, 1) := by decide +kernel
theorem dX11_keep_68 : decode cX11_keep 68 = .ok (.putfield 109, 3) := by decide +kernel
theorem dX11_keep_71 : decode cX11_keep 71 = .ok (.iconst 1, 1) := by decide +kernel
theorem dX11_keep_72 : decode cX11_keep 72 = .ok (.ireturn, 1) := by decide +kernel
theorem dX11_goBack_0 : decode cX11_goBack 0 = .ok (.iload_n 1, 1) := by decide +kernel
theorem dX11_goBack_1 : decode cX11_goBack 1 = .ok (.iconst 0, 1) := by decide +kernel
theorem dX11_goBack_2 : decode cX11_goBack 2 = .ok (.iconst 1, 1) := by decide +kernel
theorem dX11_goBack_3 : decode cX11_goBack 3 = .ok (.invokestatic 67, 3) := by decide +kernel
theorem dX11_goBack_6 : decode cX11_goBack 6 = .ok (.ifCond .ne 6, 3) := by decide +kernel
theorem dX11_goBack_9 : decode cX11_goBack 9 = .ok (.ldc 156, 2) := by decide +kernel
theorem dX11_goBack_11 : decode cX11_goBack 11 = .ok (.ireturn, 1) := by decide +kernel
theorem dX11_goBack_12 : decode cX11_goBack 12 = .ok (.aload_n 0, 1) := by decide +kernel
theorem dX11_goBack_13 : decode cX11_goBack 13 = .ok (.getfield 28, 3) := by decide +kernel
theorem dX11_goBack_16 : decode cX11_goBack 16 = .ok (.iload_n 1, 1) := by decide +kernel
theorem dX11_goBack_17 : decode cX11_goBack 17 = .ok (.baload, 1) := by decide +kernel
theorem dX11_goBack_18 : decode cX11_goBack 18 = .ok (.ifCond .ne 6, 3) := by decide +kernel
theorem dX11_goBack_21 : decode cX11_goBack 21 = .ok (.ldc 170, 2) := by decide +kernel
theorem dX11_goBack_23 : decode cX11_goBack 23 = .ok (.ireturn, 1) := by decide +kernel
theorem dX11_goBack_24 : decode cX11_goBack 24 = .ok (.iconst 0, 1) := by decide +kernel
theorem dX11_goBack_25 : decode cX11_goBack 25 = .ok (.istore_n 2, 1) := by decide +kernel
theorem dX11_goBack_26 : decode cX11_goBack 26 = .ok (.iload_n 2, 1) := by decide +kernel
theorem dX11_goBack_27 : decode cX11_goBack 27 = .ok (.bipush 25, 2) := by decide +kernel
theorem dX11_goBack_29 : decode cX11_goBack 29 = .ok (.if_icmp .ge 26, 3) := by decide +kernel
theorem dX11_goBack_32 : decode cX11_goBack 32 = .ok (.aload_n 0, 1) := by decide +kernel
theorem dX11_goBack_33 : decode cX11_goBack 33 = .ok (.getfield 19, 3) := by decide +kernel
theorem dX11_goBack_36 : decode cX11_goBack 36 = .ok (.iload_n 2, 1) := by decide +kernel
theorem dX11_goBack_37 : decode cX11_goBack 37 = .ok (.aload_n 0, 1) := by decide +kernel
theorem dX11_goBack_38 : decode cX11_goBack 38 = .ok (.getfield 25, 3) := by decide +kernel
theorem dX11_goBack_41 : decode cX11_goBack 41 = .ok (.bipush 26, 2) := by decide +kernel
theorem dX11_goBack_43 : decode cX11_goBack 43 = .ok (.iload_n 1, 1) := by decide +kernel
theorem dX11_goBack_44 : decode cX11_goBack 44 = .ok (.imul, 1) := by decide +kernel
theorem dX11_goBack_45 : decode cX11_goBack 45 = .ok (.iload_n 2, 1) := by decide +kernel
theorem dX11_goBack_46 : decode cX11_goBack 46 = .ok (.iadd, 1) := by decide +kernel
theorem dX11_goBack_47 : decode cX11_goBack 47 = .ok (.iaload, 1) := by decide +kernel
theorem dX11_goBack_48 : decode cX11_goBack 48 = .ok (.iastore, 1) := by decide +kernel
theorem dX11_goBack_49 : decode cX11_goBack 49 = .ok (.iinc 2 1, 3) := by decide +kernel
theorem dX11_goBack_52 : decode cX11_goBack 52 = .ok (.goto (-26), 3) := by decide +kernel
theorem dX11_goBack_55 : decode cX11_goBack 55 = .ok (.aload_n 0, 1) := by decide +kernel
theorem dX11_goBack_56 : decode cX11_goBack 56 = .ok (.aload_n 0, 1) := by decide +kernel
theorem dX11_goBack_57 : decode cX11_goBack 57 = .ok (.getfield 25, 3) := by decide +kernel
theorem dX11_goBack_60 : decode cX11_goBack 60 = .ok (.bipush 26, 2) := by decide +kernel
theorem dX11_goBack_62 : decode cX11_goBack 62 = .ok (.iload_n 1, 1) := by decide +kernel
theorem dX11_goBack_63 : decode cX11_goBack 63 = .ok (.imul, 1) := by decide +kernel
theorem dX11_goBack_64 : decode cX11_goBack 64 = .ok (.bipush 25, 2) := by decide +kernel
theorem dX11_goBack_66 : decode cX11_goBack 66 = .ok (.iadd, 1) := by decide +kernel
theorem dX11_goBack_67 : decode cX11_goBack 67 = .ok (.iaload, 1) := by decide +kernel
theorem dX11_goBack_68 : decode cX11_goBack 68 = .ok (.putfield 180, 3) := by decide +kernel
theorem dX11_goBack_71 : decode cX11_goBack 71 = .ok (.aload_n 0, 1) := by decide +kernel
theorem dX11_goBack_72 : decode cX11_goBack 72 = .ok (.iconst 0, 1) := by decide +kernel
theorem dX11_goBack_73 : decode cX11_goBack 73 = .ok (.putfield 109, 3) := by decide +kernel
theorem dX11_goBack_76 : decode cX11_goBack 76 = .ok (.iconst 1, 1) := by decide +kernel
theorem dX11_goBack_77 : decode cX11_goBack 77 = .ok (.ireturn, 1) := by decide +kernel
theorem dJ6_bitCount_0f7a4_0 : decode cJ6_bitCount_0f7a4 0 = .ok (.iload_n 0, 1) := by decide +kernel
theorem dJ6_bitCount_0f7a4_1 : decode cJ6_bitCount_0f7a4 1 = .ok (.iload_n 0, 1) := by decide +kernel
theorem dJ6_bitCount_0f7a4_2 : decode cJ6_bitCount_0f7a4 2 = .ok (.iconst 1, 1) := by decide +kernel
theorem dJ6_bitCount_0f7a4_3 : decode cJ6_bitCount_0f7a4 3 = .ok (.iushr, 1) := by decide +kernel
theorem dJ6_bitCount_0f7a4_4 : decode cJ6_bitCount_0f7a4 4 = .ok (.ldc_w 265, 3) := by decide +kernel
theorem dJ6_bitCount_0f7a4_7 : decode cJ6_bitCount_0f7a4 7 = .ok (.iand, 1) := by decide +kernel
theorem dJ6_bitCount_0f7a4_8 : decode cJ6_bitCount_0f7a4 8 = .ok (.isub, 1) := by decide +kernel
theorem dJ6_bitCount_0f7a4_9 : decode cJ6_bitCount_0f7a4 9 = .ok (.istore_n 0, 1) := by decide +kernel
theorem dJ6_bitCount_0f7a4_10 : decode cJ6_bitCount_0f7a4 10 = .ok (.iload_n 0, 1) := by decide +kernel
theorem dJ6_bitCount_0f7a4_11 : decode cJ6_bitCount_0f7a4 11 = .ok (.ldc_w 266, 3) := by decide +kernel
theorem dJ6_bitCount_0f7a4_14 : decode cJ6_bitCount_0f7a4 14 = .ok (.iand, 1) := by decide +kernel
theorem dJ6_bitCount_0f7a4_15 : decode cJ6_bitCount_0f7a4 15 = .ok (.iload_n 0, 1) := by decide +kernel
theorem dJ6_bitCount_0f7a4_16 : decode cJ6_bitCount_0f7a4 16 = .ok (.iconst 2, 1) := by decide +kernel
theorem dJ6_bitCount_0f7a4_17 : decode cJ6_bitCount_0f7a4 17 = .ok (.iushr, 1) := by decide +kernel
theorem dJ6_bitCount_0f7a4_18 : decode cJ6_bitCount_0f7a4 18 = .ok (.ldc_w 266, 3) := by decide +kernel
theorem dJ6_bitCount_0f7a4_21 : decode cJ6_bitCount_0f7a4 21 = .ok (.iand, 1) := by decide +kernel
theorem dJ6_bitCount_0f7a4_22 : decode cJ6_bitCount_0f7a4 22 = .ok (.iadd, 1) := by decide +kernel
theorem dJ6_bitCount_0f7a4_23 : decode cJ6_bitCount_0f7a4 23 = .ok (.istore_n 0, 1) := by decide +kernel
theorem dJ6_bitCount_0f7a4_24 : decode cJ6_bitCount_0f7a4 24 = .ok (.iload_n 0, 1) := by decide +kernel
theorem dJ6_bitCount_0f7a4_25 : decode cJ6_bitCount_0f7a4 25 = .ok (.iload_n 0, 1) := by decide +kernel
theorem dJ6_bitCount_0f7a4_26 : decode cJ6_bitCount_0f7a4 26 = .ok (.iconst 4, 1) := by decide +kernel
theorem dJ6_bitCount_0f7a4_27 : decode cJ6_bitCount_0f7a4 27 = .ok (.iushr, 1) := by decide +kernel
theorem dJ6_bitCount_0f7a4_28 : decode cJ6_bitCount_0f7a4 28 = .ok (.iadd, 1) := by decide +kernel
theorem dJ6_bitCount_0f7a4_29 : decode cJ6_bitCount_0f7a4 29 = .ok (.ldc_w 267, 3) := by decide +kernel
theorem dJ6_bitCount_0f7a4_32 : decode cJ6_bitCount_0f7a4 32 = .ok (.iand, 1) := by decide +kernel
theorem dJ6_bitCount_0f7a4_33 : decode cJ6_bitCount_0f7a4 33 = .ok (.istore_n 0, 1) := by decide +kernel
theorem dJ6_bitCount_0f7a4_34 : decode cJ6_bitCount_0f7a4 34 = .ok (.iload_n 0, 1) := by decide +kernel
theorem dJ6_bitCount_0f7a4_35 : decode cJ6_bitCount_0f7a4 35 = .ok (.iload_n 0, 1) := by decide +kernel
theorem dJ6_bitCount_0f7a4_36 : decode cJ6_bitCount_0f7a4 36 = .ok (.bipush 8, 2) := by decide +kernel
theorem dJ6_bitCount_0f7a4_38 : decode cJ6_bitCount_0f7a4 38 = .ok (.iushr, 1) := by decide +kernel
theorem dJ6_bitCount_0f7a4_39 : decode cJ6_bitCount_0f7a4 39 = .ok (.iadd, 1) := by decide +kernel
theorem dJ6_bitCount_0f7a4_40 : decode cJ6_bitCount_0f7a4 40 = .ok (.istore_n 0, 1) := by decide +kernel
theorem dJ6_bitCount_0f7a4_41 : decode cJ6_bitCount_0f7a4 41 = .ok (.iload_n 0, 1) := by decide +kernel
theorem dJ6_bitCount_0f7a4_42 : decode cJ6_bitCount_0f7a4 42 = .ok (.iload_n 0, 1) := by decide +kernel
theorem dJ6_bitCount_0f7a4_43 : decode cJ6_bitCount_0f7a4 43 = .ok (.bipush 16, 2) := by decide +kernel
theorem dJ6_bitCount_0f7a4_45 : decode cJ6_bitCount_0f7a4 45 = .ok (.iushr, 1) := by decide +kernel
theorem dJ6_bitCount_0f7a4_46 : decode cJ6_bitCount_0f7a4 46 = .ok (.iadd, 1) := by decide +kernel
theorem dJ6_bitCount_0f7a4_47 : decode cJ6_bitCount_0f7a4 47 = .ok (.istore_n 0, 1) := by decide +kernel
theorem dJ6_bitCount_0f7a4_48 : decode cJ6_bitCount_0f7a4 48 = .ok (.iload_n 0, 1) := by decide +kernel
theorem dJ6_bitCount_0f7a4_49 : decode cJ6_bitCount_0f7a4 49 = .ok (.bipush 63, 2) := by decide +kernel
theorem dJ6_bitCount_0f7a4_51 : decode cJ6_bitCount_0f7a4 51 = .ok (.iand, 1) := by decide +kernel
theorem dJ6_bitCount_0f7a4_52 : decode cJ6_bitCount_0f7a4 52 = .ok (.ireturn, 1) := by decide +kernel
theorem dJ9_floorMod_7cf53_0 : decode cJ9_floorMod_7cf53 0 = .ok (.iload_n 0, 1) := by decide +kernel
theorem dJ9_floorMod_7cf53_1 : decode cJ9_floorMod_7cf53 1 = .ok (.iload_n 1, 1) := by decide +kernel
theorem dJ9_floorMod_7cf53_2 : decode cJ9_floorMod_7cf53 2 = .ok (.irem, 1) := by decide +kernel
theorem dJ9_floorMod_7cf53_3 : decode cJ9_floorMod_7cf53 3 = .ok (.istore_n 2, 1) := by decide +kernel
theorem dJ9_floorMod_7cf53_4 : decode cJ9_floorMod_7cf53 4 = .ok (.iload_n 0, 1) := by decide +kernel
theorem dJ9_floorMod_7cf53_5 : decode cJ9_floorMod_7cf53 5 = .ok (.iload_n 1, 1) := by decide +kernel
theorem dJ9_floorMod_7cf53_6 : decode cJ9_floorMod_7cf53 6 = .ok (.ixor, 1) := by decide +kernel
theorem dJ9_floorMod_7cf53_7 : decode cJ9_floorMod_7cf53 7 = .ok (.ifCond .ge 11, 3) := by decide +kernel
theorem dJ9_floorMod_7cf53_10 : decode cJ9_floorMod_7cf53 10 = .ok (.iload_n 2, 1) := by decide +kernel
theorem dJ9_floorMod_7cf53_11 : decode cJ9_floorMod_7cf53 11 = .ok (.ifCond .eq 7, 3) := by decide +kernel
theorem dJ9_floorMod_7cf53_14 : decode cJ9_floorMod_7cf53 14 = .ok (.iload_n 2, 1) := by decide +kernel
theorem dJ9_floorMod_7cf53_15 : decode cJ9_floorMod_7cf53 15 = .ok (.iload_n 1, 1) := by decide +kernel
theorem dJ9_floorMod_7cf53_16 : decode cJ9_floorMod_7cf53 16 = .ok (.iadd, 1) := by decide +kernel
theorem dJ9_floorMod_7cf53_17 : decode cJ9_floorMod_7cf53 17 = .ok (.ireturn, 1) := by decide +kernel
theorem dJ9_floorMod_7cf53_18 : decode cJ9_floorMod_7cf53 18 = .ok (.iload_n 2, 1) := by decide +kernel
theorem dJ9_floorMod_7cf53_19 : decode cJ9_floorMod_7cf53 19 = .ok (.ireturn, 1) := by decide +kernel
theorem dJ9_max_7cf53_0 : decode cJ9_max_7cf53 0 = .ok (.iload_n 0, 1) := by decide +kernel
theorem dJ9_max_7cf53_1 : decode cJ9_max_7cf53 1 = .ok (.iload_n 1, 1) := by decide +kernel
theorem dJ9_max_7cf53_2 : decode cJ9_max_7cf53 2 = .ok (.if_icmp .lt 7, 3) := by decide +kernel
theorem dJ9_max_7cf53_5 : decode cJ9_max_7cf53 5 = .ok (.iload_n 0, 1) := by decide +kernel
theorem dJ9_max_7cf53_6 : decode cJ9_max_7cf53 6 = .ok (.goto 4, 3) := by decide +kernel
theorem dJ9_max_7cf53_9 : decode cJ9_max_7cf53 9 = .ok (.iload_n 1, 1) := by decide +kernel
theorem dJ9_max_7cf53_10 : decode cJ9_max_7cf53 10 = .ok (.ireturn, 1) := by decide +kernel
theorem dJ9_min_7cf53_0 : decode cJ9_min_7cf53 0 = .ok (.iload_n 0, 1) := by decide +kernel
theorem dJ9_min_7cf53_1 : decode cJ9_min_7cf53 1 = .ok (.iload_n 1, 1) := by decide +kernel
theorem dJ9_min_7cf53_2 : decode cJ9_min_7cf53 2 = .ok (.if_icmp .gt 7, 3) := by decide +kernel
theorem dJ9_min_7cf53_5 : decode cJ9_min_7cf53 5 = .ok (.iload_n 0, 1) := by decide +kernel
theorem dJ9_min_7cf53_6 : decode cJ9_min_7cf53 6 = .ok (.goto 4, 3) := by decide +kernel
theorem dJ9_min_7cf53_9 : decode cJ9_min_7cf53 9 = .ok (.iload_n 1, 1) := by decide +kernel
theorem dJ9_min_7cf53_10 : decode cJ9_min_7cf53 10 = .ok (.ireturn, 1) := by decide +kernel
theorem dJ7_fill_53178_0 : decode cJ7_fill_53178 0 = .ok (.iconst 0, 1) := by decide +kernel
theorem dJ7_fill_53178_1 : decode cJ7_fill_53178 1 = .ok (.istore_n 2, 1) := by decide +kernel
theorem dJ7_fill_53178_2 : decode cJ7_fill_53178 2 = .ok (.aload_n 0, 1) := by decide +kernel
theorem dJ7_fill_53178_3 : decode cJ7_fill_53178 3 = .ok (.arraylength, 1) := by decide +kernel
theorem dJ7_fill_53178_4 : decode cJ7_fill_53178 4 = .ok (.istore_n 3, 1) := by decide +kernel
theorem dJ7_fill_53178_5 : decode cJ7_fill_53178 5 = .ok (.iload_n 2, 1) := by decide +kernel
theorem dJ7_fill_53178_6 : decode cJ7_fill_53178 6 = .ok (.iload_n 3, 1) := by decide +kernel
theorem dJ7_fill_53178_7 : decode cJ7_fill_53178 7 = .ok (.if_icmp .ge 13, 3) := by decide +kernel
theorem dJ7_fill_53178_10 : decode cJ7_fill_53178 10 = .ok (.aload_n 0, 1) := by decide +kernel
theorem dJ7_fill_53178_11 : decode cJ7_fill_53178 11 = .ok (.iload_n 2, 1) := by decide +kernel
theorem dJ7_fill_53178_12 : decode cJ7_fill_53178 12 = .ok (.iload_n 1, 1) := by decide +kernel
theorem dJ7_fill_53178_13 : decode cJ7_fill_53178 13 = .ok (.iastore, 1) := by decide +kernel
theorem dJ7_fill_53178_14 : decode cJ7_fill_53178 14 = .ok (.iinc 2 1, 3) := by decide +kernel
theorem dJ7_fill_53178_17 : decode cJ7_fill_53178 17 = .ok (.goto (-12), 3) := by decide +kernel
theorem dJ7_fill_53178_20 : decode cJ7_fill_53178 20 = .ok (.return_, 1) := by decide +kernel
theorem dL_law_0 : decode cL_law 0 = .ok (.new 7, 3) := by decide +kernel
theorem dL_law_3 : decode cL_law 3 = .ok (.dup, 1) := by decide +kernel
theorem dL_law_4 : decode cL_law 4 = .ok (.invokespecial 9, 3) := by decide +kernel
theorem dL_law_7 : decode cL_law 7 = .ok (.astore_n 1, 1) := by decide +kernel
theorem dL_law_8 : decode cL_law 8 = .ok (.new 10, 3) := by decide +kernel
theorem dL_law_11 : decode cL_law 11 = .ok (.dup, 1) := by decide +kernel
theorem dL_law_12 : decode cL_law 12 = .ok (.invokespecial 12, 3) := by decide +kernel
theorem dL_law_15 : decode cL_law 15 = .ok (.astore_n 2, 1) := by decide +kernel
theorem dL_law_16 : decode cL_law 16 = .ok (.iconst 0, 1) := by decide +kernel
theorem dL_law_17 : decode cL_law 17 = .ok (.istore_n 3, 1) := by decide +kernel
theorem dL_law_18 : decode cL_law 18 = .ok (.iload_n 3, 1) := by decide +kernel
theorem dL_law_19 : decode cL_law 19 = .ok (.aload_n 0, 1) := by decide +kernel
theorem dL_law_20 : decode cL_law 20 = .ok (.arraylength, 1) := by decide +kernel
theorem dL_law_21 : decode cL_law 21 = .ok (.iconst 4, 1) := by decide +kernel
theorem dL_law_22 : decode cL_law 22 = .ok (.isub, 1) := by decide +kernel
theorem dL_law_23 : decode cL_law 23 = .ok (.if_icmp .gt 1011, 3) := by decide +kernel
theorem dL_law_26 : decode cL_law 26 = .ok (.aload_n 0, 1) := by decide +kernel
theorem dL_law_27 : decode cL_law 27 = .ok (.iload_n 3, 1) := by decide +kernel
theorem dL_law_28 : decode cL_law 28 = .ok (.iaload, 1) := by decide +kernel
theorem dL_law_29 : decode cL_law 29 = .ok (.bipush 63, 2) := by decide +kernel
theorem dL_law_31 : decode cL_law 31 = .ok (.iand, 1) := by decide +kernel
theorem dL_law_32 : decode cL_law 32 = .ok (.tableswitch 996 0 33 #[152, 175, 188, 201, 224, 257, 280, 313, 346, 369, 392, 415, 448, 487, 510, 533, 556, 579, 602, 625, 658, 681, 704, 727, 750, 783, 842, 855, 868, 901, 914, 927, 950, 973], 152) := by decide +kernel
theorem dL_law_184 : decode cL_law 184 = .ok (.aload_n 1, 1) := by decide +kernel
theorem dL_law_185 : decode cL_law 185 = .ok (.aload_n 0, 1) := by decide +kernel
theorem dL_law_186 : decode cL_law 186 = .ok (.iload_n 3, 1) := by decide +kernel
theorem dL_law_187 : decode cL_law 187 = .ok (.iconst 1, 1) := by decide +kernel
theorem dL_law_188 : decode cL_law 188 = .ok (.iadd, 1) := by decide +kernel
theorem dL_law_189 : decode cL_law 189 = .ok (.iaload, 1) := by decide +kernel
theorem dL_law_190 : decode cL_law 190 = .ok (.invokevirtual 13, 3) := by decide +kernel
theorem dL_law_193 : decode cL_law 193 = .ok (.aload_n 2, 1) := by decide +kernel
theorem dL_law_194 : decode cL_law 194 = .ok (.aload_n 0, 1) := by decide +kernel
theorem dL_law_195 : decode cL_law 195 = .ok (.iload_n 3, 1) := by decide +kernel
theorem dL_law_196 : decode cL_law 196 = .ok (.iconst 1, 1) := by decide +kernel
theorem dL_law_197 : decode cL_law 197 = .ok (.iadd, 1) := by decide +kernel
theorem dL_law_198 : decode cL_law 198 = .ok (.iaload, 1) := by decide +kernel
theorem dL_law_199 : decode cL_law 199 = .ok (.invokevirtual 17, 3) := by decide +kernel
theorem dL_law_202 : decode cL_law 202 = .ok (.if_icmp .eq 826, 3) := by decide +kernel
theorem dL_law_205 : decode cL_law 205 = .ok (.iconst 0, 1) := by decide +kernel
theorem dL_law_206 : decode cL_law 206 = .ok (.ireturn, 1) := by decide +kernel
theorem dL_law_207 : decode cL_law 207 = .ok (.aload_n 1, 1) := by decide +kernel
theorem dL_law_208 : decode cL_law 208 = .ok (.invokevirtual 18, 3) := by decide +kernel
theorem dL_law_211 : decode cL_law 211 = .ok (.aload_n 2, 1) := by decide +kernel
theorem dL_law_212 : decode cL_law 212 = .ok (.invokevirtual 22, 3) := by decide +kernel
theorem dL_law_215 : decode cL_law 215 = .ok (.if_icmp .eq 813, 3) := by decide +kernel
theorem dL_law_218 : decode cL_law 218 = .ok (.iconst 0, 1) := by decide +kernel
theorem dL_law_219 : decode cL_law 219 = .ok (.ireturn, 1) := by decide +kernel
theorem dL_law_220 : decode cL_law 220 = .ok (.aload_n 1, 1) := by decide +kernel
theorem dL_law_221 : decode cL_law 221 = .ok (.invokevirtual 23, 3) := by decide +kernel
theorem dL_law_224 : decode cL_law 224 = .ok (.aload_n 2, 1) := by decide +kernel
theorem dL_law_225 : decode cL_law 225 = .ok (.invokevirtual 26, 3) := by decide +kernel
theorem dL_law_228 : decode cL_law 228 = .ok (.if_icmp .eq 800, 3) := by decide +kernel
theorem dL_law_231 : decode cL_law 231 = .ok (.iconst 0, 1) := by decide +kernel
theorem dL_law_232 : decode cL_law 232 = .ok (.ireturn, 1) := by decide +kernel
theorem dL_law_233 : decode cL_law 233 = .ok (.aload_n 1, 1) := by decide +kernel
theorem dL_law_234 : decode cL_law 234 = .ok (.aload_n 0, 1) := by decide +kernel
theorem dL_law_235 : decode cL_law 235 = .ok (.iload_n 3, 1) := by decide +kernel
theorem dL_law_236 : decode cL_law 236 = .ok (.iconst 1, 1) := by decide +kernel
theorem dL_law_237 : decode cL_law 237 = .ok (.iadd, 1) := by decide +kernel
theorem dL_law_238 : decode cL_law 238 = .ok (.iaload, 1) := by decide +kernel
theorem dL_law_239 : decode cL_law 239 = .ok (.invokevirtual 27, 3) := by decide +kernel
theorem dL_law_242 : decode cL_law 242 = .ok (.aload_n 2, 1) := by decide +kernel
theorem dL_law_243 : decode cL_law 243 = .ok (.aload_n 0, 1) := by decide +kernel
theorem dL_law_244 : decode cL_law 244 = .ok (.iload_n 3, 1) := by decide +kernel
theorem dL_law_245 : decode cL_law 245 = .ok (.iconst 1, 1) := by decide +kernel
theorem dL_law_246 : decode cL_law 246 = .ok (.iadd, 1) := by decide +kernel
theorem dL_law_247 : decode cL_law 247 = .ok (.iaload, 1) := by decide +kernel
theorem dL_law_248 : decode cL_law 248 = .ok (.invokevirtual 30, 3) := by decide +kernel
theorem dL_law_251 : decode cL_law 251 = .ok (.if_icmp .eq 777, 3) := by decide +kernel
theorem dL_law_254 : decode cL_law 254 = .ok (.iconst 0, 1) := by decide +kernel
theorem dL_law_255 : decode cL_law 255 = .ok (.ireturn, 1) := by decide +kernel
theorem dL_law_256 : decode cL_law 256 = .ok (.aload_n 1, 1) := by decide +kernel
theorem dL_law_257 : decode cL_law 257 = .ok (.aload_n 0, 1) := by decide +kernel
theorem dL_law_258 : decode cL_law 258 = .ok (.iload_n 3, 1) := by decide +kernel
theorem dL_law_259 : decode cL_law 259 = .ok (.iconst 1, 1) := by decide +kernel
theorem dL_law_260 : decode cL_law 260 = .ok (.iadd, 1) := by decide +kernel
theorem dL_law_261 : decode cL_law 261 = .ok (.iaload, 1) := by decide +kernel
theorem dL_law_262 : decode cL_law 262 = .ok (.aload_n 0, 1) := by decide +kernel
theorem dL_law_263 : decode cL_law 263 = .ok (.iload_n 3, 1) := by decide +kernel
theorem dL_law_264 : decode cL_law 264 = .ok (.iconst 2, 1) := by decide +kernel
theorem dL_law_265 : decode cL_law 265 = .ok (.iadd, 1) := by decide +kernel
theorem dL_law_266 : decode cL_law 266 = .ok (.iaload, 1) := by decide +kernel
theorem dL_law_267 : decode cL_law 267 = .ok (.invokevirtual 31, 3) := by decide +kernel
theorem dL_law_270 : decode cL_law 270 = .ok (.aload_n 2, 1) := by decide +kernel
theorem dL_law_271 : decode cL_law 271 = .ok (.aload_n 0, 1) := by decide +kernel
theorem dL_law_272 : decode cL_law 272 = .ok (.iload_n 3, 1) := by decide +kernel
theorem dL_law_273 : decode cL_law 273 = .ok (.iconst 1, 1) := by decide +kernel
theorem dL_law_274 : decode cL_law 274 = .ok (.iadd, 1) := by decide +kernel
theorem dL_law_275 : decode cL_law 275 = .ok (.iaload, 1) := by decide +kernel
theorem dL_law_276 : decode cL_law 276 = .ok (.aload_n 0, 1) := by decide +kernel
theorem dL_law_277 : decode cL_law 277 = .ok (.iload_n 3, 1) := by decide +kernel
theorem dL_law_278 : decode cL_law 278 = .ok (.iconst 2, 1) := by decide +kernel
theorem dL_law_279 : decode cL_law 279 = .ok (.iadd, 1) := by decide +kernel
theorem dL_law_280 : decode cL_law 280 = .ok (.iaload, 1) := by decide +kernel
theorem dL_law_281 : decode cL_law 281 = .ok (.invokevirtual 35, 3) := by decide +kernel
theorem dL_law_284 : decode cL_law 284 = .ok (.if_icmp .eq 744, 3) := by decide +kernel
theorem dL_law_287 : decode cL_law 287 = .ok (.iconst 0, 1) := by decide +kernel
theorem dL_law_288 : decode cL_law 288 = .ok (.ireturn, 1) := by decide +kernel
theorem dL_law_289 : decode cL_law 289 = .ok (.aload_n 1, 1) := by decide +kernel
theorem dL_law_290 : decode cL_law 290 = .ok (.aload_n 0, 1) := by decide +kernel
theorem dL_law_291 : decode cL_law 291 = .ok (.iload_n 3, 1) := by decide +kernel
theorem dL_law_292 : decode cL_law 292 = .ok (.iconst 1, 1) := by decide +kernel
theorem dL_law_293 : decode cL_law 293 = .ok (.iadd, 1) := by decide +kernel
theorem dL_law_294 : decode cL_law 294 = .ok (.iaload, 1) := by decide +kernel
theorem dL_law_295 : decode cL_law 295 = .ok (.invokevirtual 36, 3) := by decide +kernel
theorem dL_law_298 : decode cL_law 298 = .ok (.aload_n 2, 1) := by decide +kernel
theorem dL_law_299 : decode cL_law 299 = .ok (.aload_n 0, 1) := by decide +kernel
theorem dL_law_300 : decode cL_law 300 = .ok (.iload_n 3, 1) := by decide +kernel
theorem dL_law_301 : decode cL_law 301 = .ok (.iconst 1, 1) := by decide +kernel
theorem dL_law_302 : decode cL_law 302 = .ok (.iadd, 1) := by decide +kernel
theorem dL_law_303 : decode cL_law 303 = .ok (.iaload, 1) := by decide +kernel
theorem dL_law_304 : decode cL_law 304 = .ok (.invokevirtual 39, 3) := by decide +kernel
theorem dL_law_307 : decode cL_law 307 = .ok (.if_icmp .eq 721, 3) := by decide +kernel
theorem dL_law_310 : decode cL_law 310 = .ok (.iconst 0, 1) := by decide +kernel
theorem dL_law_311 : decode cL_law 311 = .ok (.ireturn, 1) := by decide +kernel
theorem dL_law_312 : decode cL_law 312 = .ok (.aload_n 1, 1) := by decide +kernel
theorem dL_law_313 : decode cL_law 313 = .ok (.aload_n 0, 1) := by decide +kernel
theorem dL_law_314 : decode cL_law 314 = .ok (.iload_n 3, 1) := by decide +kernel
theorem dL_law_315 : decode cL_law 315 = .ok (.iconst 1, 1) := by decide +kernel
theorem dL_law_316 : decode cL_law 316 = .ok (.iadd, 1) := by decide +kernel
theorem dL_law_317 : decode cL_law 317 = .ok (.iaload, 1) := by decide +kernel
theorem dL_law_318 : decode cL_law 318 = .ok (.aload_n 0, 1) := by decide +kernel
theorem dL_law_319 : decode cL_law 319 = .ok (.iload_n 3, 1) := by decide +kernel
theorem dL_law_320 : decode cL_law 320 = .ok (.iconst 2, 1) := by decide +kernel
theorem dL_law_321 : decode cL_law 321 = .ok (.iadd, 1) := by decide +kernel
theorem dL_law_322 : decode cL_law 322 = .ok (.iaload, 1) := by decide +kernel
theorem dL_law_323 : decode cL_law 323 = .ok (.invokevirtual 40, 3) := by decide +kernel
theorem dL_law_326 : decode cL_law 326 = .ok (.aload_n 2, 1) := by decide +kernel
theorem dL_law_327 : decode cL_law 327 = .ok (.aload_n 0, 1) := by decide +kernel
theorem dL_law_328 : decode cL_law 328 = .ok (.iload_n 3, 1) := by decide +kernel
theorem dL_law_329 : decode cL_law 329 = .ok (.iconst 1, 1) := by decide +kernel
theorem dL_law_330 : decode cL_law 330 = .ok (.iadd, 1) := by decide +kernel
theorem dL_law_331 : decode cL_law 331 = .ok (.iaload, 1) := by decide +kernel
theorem dL_law_332 : decode cL_law 332 = .ok (.aload_n 0, 1) := by decide +kernel
theorem dL_law_333 : decode cL_law 333 = .ok (.iload_n 3, 1) := by decide +kernel
theorem dL_law_334 : decode cL_law 334 = .ok (.iconst 2, 1) := by decide +kernel
theorem dL_law_335 : decode cL_law 335 = .ok (.iadd, 1) := by decide +kernel
theorem dL_law_336 : decode cL_law 336 = .ok (.iaload, 1) := by decide +kernel
theorem dL_law_337 : decode cL_law 337 = .ok (.invokevirtual 43, 3) := by decide +kernel
theorem dL_law_340 : decode cL_law 340 = .ok (.if_icmp .eq 688, 3) := by decide +kernel
theorem dL_law_343 : decode cL_law 343 = .ok (.iconst 0, 1) := by decide +kernel
theorem dL_law_344 : decode cL_law 344 = .ok (.ireturn, 1) := by decide +kernel
theorem dL_law_345 : decode cL_law 345 = .ok (.aload_n 1, 1) := by decide +kernel
theorem dL_law_346 : decode cL_law 346 = .ok (.aload_n 0, 1) := by decide +kernel
theorem dL_law_347 : decode cL_law 347 = .ok (.iload_n 3, 1) := by decide +kernel
theorem dL_law_348 : decode cL_law 348 = .ok (.iconst 1, 1) := by decide +kernel
theorem dL_law_349 : decode cL_law 349 = .ok (.iadd, 1) := by decide +kernel
theorem dL_law_350 : decode cL_law 350 = .ok (.iaload, 1) := by decide +kernel
theorem dL_law_351 : decode cL_law 351 = .ok (.aload_n 0, 1) := by decide +kernel
theorem dL_law_352 : decode cL_law 352 = .ok (.iload_n 3, 1) := by decide +kernel
theorem dL_law_353 : decode cL_law 353 = .ok (.iconst 2, 1) := by decide +kernel
theorem dL_law_354 : decode cL_law 354 = .ok (.iadd, 1) := by decide +kernel
theorem dL_law_355 : decode cL_law 355 = .ok (.iaload, 1) := by decide +kernel
theorem dL_law_356 : decode cL_law 356 = .ok (.invokevirtual 44, 3) := by decide +kernel
theorem dL_law_359 : decode cL_law 359 = .ok (.aload_n 2, 1) := by decide +kernel
theorem dL_law_360 : decode cL_law 360 = .ok (.aload_n 0, 1) := by decide +kernel
theorem dL_law_361 : decode cL_law 361 = .ok (.iload_n 3, 1) := by decide +kernel
theorem dL_law_362 : decode cL_law 362 = .ok (.iconst 1, 1) := by decide +kernel
theorem dL_law_363 : decode cL_law 363 = .ok (.iadd, 1) := by decide +kernel
theorem dL_law_364 : decode cL_law 364 = .ok (.iaload, 1) := by decide +kernel
theorem dL_law_365 : decode cL_law 365 = .ok (.aload_n 0, 1) := by decide +kernel
theorem dL_law_366 : decode cL_law 366 = .ok (.iload_n 3, 1) := by decide +kernel
theorem dL_law_367 : decode cL_law 367 = .ok (.iconst 2, 1) := by decide +kernel
theorem dL_law_368 : decode cL_law 368 = .ok (.iadd, 1) := by decide +kernel
theorem dL_law_369 : decode cL_law 369 = .ok (.iaload, 1) := by decide +kernel
theorem dL_law_370 : decode cL_law 370 = .ok (.invokevirtual 47, 3) := by decide +kernel
theorem dL_law_373 : decode cL_law 373 = .ok (.if_icmp .eq 655, 3) := by decide +kernel
theorem dL_law_376 : decode cL_law 376 = .ok (.iconst 0, 1) := by decide +kernel
theorem dL_law_377 : decode cL_law 377 = .ok (.ireturn, 1) := by decide +kernel
theorem dL_law_378 : decode cL_law 378 = .ok (.aload_n 1, 1) := by decide +kernel
theorem dL_law_379 : decode cL_law 379 = .ok (.aload_n 0, 1) := by decide +kernel
theorem dL_law_380 : decode cL_law 380 = .ok (.iload_n 3, 1) := by decide +kernel
theorem dL_law_381 : decode cL_law 381 = .ok (.iconst 1, 1) := by decide +kernel
theorem dL_law_382 : decode cL_law 382 = .ok (.iadd, 1) := by decide +kernel
theorem dL_law_383 : decode cL_law 383 = .ok (.iaload, 1) := by decide +kernel
theorem dL_law_384 : decode cL_law 384 = .ok (.invokevirtual 48, 3) := by decide +kernel
theorem dL_law_387 : decode cL_law 387 = .ok (.aload_n 2, 1) := by decide +kernel
theorem dL_law_388 : decode cL_law 388 = .ok (.aload_n 0, 1) := by decide +kernel
theorem dL_law_389 : decode cL_law 389 = .ok (.iload_n 3, 1) := by decide +kernel
theorem dL_law_390 : decode cL_law 390 = .ok (.iconst 1, 1) := by decide +kernel
theorem dL_law_391 : decode cL_law 391 = .ok (.iadd, 1) := by decide +kernel
theorem dL_law_392 : decode cL_law 392 = .ok (.iaload, 1) := by decide +kernel
theorem dL_law_393 : decode cL_law 393 = .ok (.invokevirtual 51, 3) := by decide +kernel
theorem dL_law_396 : decode cL_law 396 = .ok (.if_icmp .eq 632, 3) := by decide +kernel
theorem dL_law_399 : decode cL_law 399 = .ok (.iconst 0, 1) := by decide +kernel
theorem dL_law_400 : decode cL_law 400 = .ok (.ireturn, 1) := by decide +kernel
theorem dL_law_401 : decode cL_law 401 = .ok (.aload_n 1, 1) := by decide +kernel
theorem dL_law_402 : decode cL_law 402 = .ok (.aload_n 0, 1) := by decide +kernel
theorem dL_law_403 : decode cL_law 403 = .ok (.iload_n 3, 1) := by decide +kernel
theorem dL_law_404 : decode cL_law 404 = .ok (.iconst 1, 1) := by decide +kernel
theorem dL_law_405 : decode cL_law 405 = .ok (.iadd, 1) := by decide +kernel
theorem dL_law_406 : decode cL_law 406 = .ok (.iaload, 1) := by decide +kernel
theorem dL_law_407 : decode cL_law 407 = .ok (.invokevirtual 52, 3) := by decide +kernel
theorem dL_law_410 : decode cL_law 410 = .ok (.aload_n 2, 1) := by decide +kernel
theorem dL_law_411 : decode cL_law 411 = .ok (.aload_n 0, 1) := by decide +kernel
theorem dL_law_412 : decode cL_law 412 = .ok (.iload_n 3, 1) := by decide +kernel
theorem dL_law_413 : decode cL_law 413 = .ok (.iconst 1, 1) := by decide +kernel
theorem dL_law_414 : decode cL_law 414 = .ok (.iadd, 1) := by decide +kernel
theorem dL_law_415 : decode cL_law 415 = .ok (.iaload, 1) := by decide +kernel
theorem dL_law_416 : decode cL_law 416 = .ok (.invokevirtual 55, 3) := by decide +kernel
theorem dL_law_419 : decode cL_law 419 = .ok (.if_icmp .eq 609, 3) := by decide +kernel
theorem dL_law_422 : decode cL_law 422 = .ok (.iconst 0, 1) := by decide +kernel
theorem dL_law_423 : decode cL_law 423 = .ok (.ireturn, 1) := by decide +kernel
theorem dL_law_424 : decode cL_law 424 = .ok (.aload_n 1, 1) := by decide +kernel
theorem dL_law_425 : decode cL_law 425 = .ok (.aload_n 0, 1) := by decide +kernel
theorem dL_law_426 : decode cL_law 426 = .ok (.iload_n 3, 1) := by decide +kernel
theorem dL_law_427 : decode cL_law 427 = .ok (.iconst 1, 1) := by decide +kernel
theorem dL_law_428 : decode cL_law 428 = .ok (.iadd, 1) := by decide +kernel
theorem dL_law_429 : decode cL_law 429 = .ok (.iaload, 1) := by decide +kernel
theorem dL_law_430 : decode cL_law 430 = .ok (.invokevirtual 56, 3) := by decide +kernel
theorem dL_law_433 : decode cL_law 433 = .ok (.aload_n 2, 1) := by decide +kernel
theorem dL_law_434 : decode cL_law 434 = .ok (.aload_n 0, 1) := by decide +kernel
theorem dL_law_435 : decode cL_law 435 = .ok (.iload_n 3, 1) := by decide +kernel
theorem dL_law_436 : decode cL_law 436 = .ok (.iconst 1, 1) := by decide +kernel
theorem dL_law_437 : decode cL_law 437 = .ok (.iadd, 1) := by decide +kernel
theorem dL_law_438 : decode cL_law 438 = .ok (.iaload, 1) := by decide +kernel
theorem dL_law_439 : decode cL_law 439 = .ok (.invokevirtual 59, 3) := by decide +kernel
theorem dL_law_442 : decode cL_law 442 = .ok (.if_icmp .eq 586, 3) := by decide +kernel
theorem dL_law_445 : decode cL_law 445 = .ok (.iconst 0, 1) := by decide +kernel
theorem dL_law_446 : decode cL_law 446 = .ok (.ireturn, 1) := by decide +kernel
theorem dL_law_447 : decode cL_law 447 = .ok (.aload_n 1, 1) := by decide +kernel
theorem dL_law_448 : decode cL_law 448 = .ok (.aload_n 0, 1) := by decide +kernel
theorem dL_law_449 : decode cL_law 449 = .ok (.iload_n 3, 1) := by decide +kernel
theorem dL_law_450 : decode cL_law 450 = .ok (.iconst 1, 1) := by decide +kernel
theorem dL_law_451 : decode cL_law 451 = .ok (.iadd, 1) := by decide +kernel
theorem dL_law_452 : decode cL_law 452 = .ok (.iaload, 1) := by decide +kernel
theorem dL_law_453 : decode cL_law 453 = .ok (.aload_n 0, 1) := by decide +kernel
theorem dL_law_454 : decode cL_law 454 = .ok (.iload_n 3, 1) := by decide +kernel
theorem dL_law_455 : decode cL_law 455 = .ok (.iconst 2, 1) := by decide +kernel
theorem dL_law_456 : decode cL_law 456 = .ok (.iadd, 1) := by decide +kernel
theorem dL_law_457 : decode cL_law 457 = .ok (.iaload, 1) := by decide +kernel
theorem dL_law_458 : decode cL_law 458 = .ok (.invokevirtual 60, 3) := by decide +kernel
theorem dL_law_461 : decode cL_law 461 = .ok (.aload_n 2, 1) := by decide +kernel
theorem dL_law_462 : decode cL_law 462 = .ok (.aload_n 0, 1) := by decide +kernel
theorem dL_law_463 : decode cL_law 463 = .ok (.iload_n 3, 1) := by decide +kernel
theorem dL_law_464 : decode cL_law 464 = .ok (.iconst 1, 1) := by decide +kernel
theorem dL_law_465 : decode cL_law 465 = .ok (.iadd, 1) := by decide +kernel
theorem dL_law_466 : decode cL_law 466 = .ok (.iaload, 1) := by decide +kernel
theorem dL_law_467 : decode cL_law 467 = .ok (.aload_n 0, 1) := by decide +kernel
theorem dL_law_468 : decode cL_law 468 = .ok (.iload_n 3, 1) := by decide +kernel
theorem dL_law_469 : decode cL_law 469 = .ok (.iconst 2, 1) := by decide +kernel
theorem dL_law_470 : decode cL_law 470 = .ok (.iadd, 1) := by decide +kernel
theorem dL_law_471 : decode cL_law 471 = .ok (.iaload, 1) := by decide +kernel
theorem dL_law_472 : decode cL_law 472 = .ok (.invokevirtual 63, 3) := by decide +kernel
theorem dL_law_475 : decode cL_law 475 = .ok (.if_icmp .eq 553, 3) := by decide +kernel
theorem dL_law_478 : decode cL_law 478 = .ok (.iconst 0, 1) := by decide +kernel
theorem dL_law_479 : decode cL_law 479 = .ok (.ireturn, 1) := by decide +kernel
theorem dL_law_480 : decode cL_law 480 = .ok (.aload_n 1, 1) := by decide +kernel
theorem dL_law_481 : decode cL_law 481 = .ok (.aload_n 0, 1) := by decide +kernel
theorem dL_law_482 : decode cL_law 482 = .ok (.iload_n 3, 1) := by decide +kernel
theorem dL_law_483 : decode cL_law 483 = .ok (.iconst 1, 1) := by decide +kernel
theorem dL_law_484 : decode cL_law 484 = .ok (.iadd, 1) := by decide +kernel
theorem dL_law_485 : decode cL_law 485 = .ok (.iaload, 1) := by decide +kernel
theorem dL_law_486 : decode cL_law 486 = .ok (.ifCond .eq 7, 3) := by decide +kernel
theorem dL_law_489 : decode cL_law 489 = .ok (.iconst 1, 1) := by decide +kernel
theorem dL_law_490 : decode cL_law 490 = .ok (.goto 4, 3) := by decide +kernel
theorem dL_law_493 : decode cL_law 493 = .ok (.iconst 0, 1) := by decide +kernel
theorem dL_law_494 : decode cL_law 494 = .ok (.invokevirtual 64, 3) := by decide +kernel
theorem dL_law_497 : decode cL_law 497 = .ok (.aload_n 2, 1) := by decide +kernel
theorem dL_law_498 : decode cL_law 498 = .ok (.aload_n 0, 1) := by decide +kernel
theorem dL_law_499 : decode cL_law 499 = .ok (.iload_n 3, 1) := by decide +kernel
theorem dL_law_500 : decode cL_law 500 = .ok (.iconst 1, 1) := by decide +kernel
theorem dL_law_501 : decode cL_law 501 = .ok (.iadd, 1) := by decide +kernel
theorem dL_law_502 : decode cL_law 502 = .ok (.iaload, 1) := by decide +kernel
theorem dL_law_503 : decode cL_law 503 = .ok (.ifCond .eq 7, 3) := by decide +kernel
theorem dL_law_506 : decode cL_law 506 = .ok (.iconst 1, 1) := by decide +kernel
theorem dL_law_507 : decode cL_law 507 = .ok (.goto 4, 3) := by decide +kernel
theorem dL_law_510 : decode cL_law 510 = .ok (.iconst 0, 1) := by decide +kernel
theorem dL_law_511 : decode cL_law 511 = .ok (.invokevirtual 68, 3) := by decide +kernel
theorem dL_law_514 : decode cL_law 514 = .ok (.if_icmp .eq 514, 3) := by decide +kernel
theorem dL_law_517 : decode cL_law 517 = .ok (.iconst 0, 1) := by decide +kernel
theorem dL_law_518 : decode cL_law 518 = .ok (.ireturn, 1) := by decide +kernel
theorem dL_law_519 : decode cL_law 519 = .ok (.aload_n 1, 1) := by decide +kernel
theorem dL_law_520 : decode cL_law 520 = .ok (.aload_n 0, 1) := by decide +kernel
theorem dL_law_521 : decode cL_law 521 = .ok (.iload_n 3, 1) := by decide +kernel
theorem dL_law_522 : decode cL_law 522 = .ok (.iconst 1, 1) := by decide +kernel
theorem dL_law_523 : decode cL_law 523 = .ok (.iadd, 1) := by decide +kernel
theorem dL_law_524 : decode cL_law 524 = .ok (.iaload, 1) := by decide +kernel
theorem dL_law_525 : decode cL_law 525 = .ok (.invokevirtual 69, 3) := by decide +kernel
theorem dL_law_528 : decode cL_law 528 = .ok (.aload_n 2, 1) := by decide +kernel
theorem dL_law_529 : decode cL_law 529 = .ok (.aload_n 0, 1) := by decide +kernel
theorem dL_law_530 : decode cL_law 530 = .ok (.iload_n 3, 1) := by decide +kernel
theorem dL_law_531 : decode cL_law 531 = .ok (.iconst 1, 1) := by decide +kernel
theorem dL_law_532 : decode cL_law 532 = .ok (.iadd, 1) := by decide +kernel
theorem dL_law_533 : decode cL_law 533 = .ok (.iaload, 1) := by decide +kernel
theorem dL_law_534 : decode cL_law 534 = .ok (.invokevirtual 72, 3) := by decide +kernel
theorem dL_law_537 : decode cL_law 537 = .ok (.if_icmp .eq 491, 3) := by decide +kernel
theorem dL_law_540 : decode cL_law 540 = .ok (.iconst 0, 1) := by decide +kernel
theorem dL_law_541 : decode cL_law 541 = .ok (.ireturn, 1) := by decide +kernel
theorem dL_law_542 : decode cL_law 542 = .ok (.aload_n 1, 1) := by decide +kernel
theorem dL_law_543 : decode cL_law 543 = .ok (.aload_n 0, 1) := by decide +kernel
theorem dL_law_544 : decode cL_law 544 = .ok (.iload_n 3, 1) := by decide +kernel
theorem dL_law_545 : decode cL_law 545 = .ok (.iconst 1, 1) := by decide +kernel
theorem dL_law_546 : decode cL_law 546 = .ok (.iadd, 1) := by decide +kernel
theorem dL_law_547 : decode cL_law 547 = .ok (.iaload, 1) := by decide +kernel
theorem dL_law_548 : decode cL_law 548 = .ok (.invokevirtual 73, 3) := by decide +kernel
theorem dL_law_551 : decode cL_law 551 = .ok (.aload_n 2, 1) := by decide +kernel
theorem dL_law_552 : decode cL_law 552 = .ok (.aload_n 0, 1) := by decide +kernel
theorem dL_law_553 : decode cL_law 553 = .ok (.iload_n 3, 1) := by decide +kernel
theorem dL_law_554 : decode cL_law 554 = .ok (.iconst 1, 1) := by decide +kernel
theorem dL_law_555 : decode cL_law 555 = .ok (.iadd, 1) := by decide +kernel
theorem dL_law_556 : decode cL_law 556 = .ok (.iaload, 1) := by decide +kernel
theorem dL_law_557 : decode cL_law 557 = .ok (.invokevirtual 76, 3) := by decide +kernel
theorem dL_law_560 : decode cL_law 560 = .ok (.if_icmp .eq 468, 3) := by decide +kernel
theorem dL_law_563 : decode cL_law 563 = .ok (.iconst 0, 1) := by decide +kernel
theorem dL_law_564 : decode cL_law 564 = .ok (.ireturn, 1) := by decide +kernel
theorem dL_law_565 : decode cL_law 565 = .ok (.aload_n 1, 1) := by decide +kernel
theorem dL_law_566 : decode cL_law 566 = .ok (.aload_n 0, 1) := by decide +kernel
theorem dL_law_567 : decode cL_law 567 = .ok (.iload_n 3, 1) := by decide +kernel
theorem dL_law_568 : decode cL_law 568 = .ok (.iconst 1, 1) := by decide +kernel
theorem dL_law_569 : decode cL_law 569 = .ok (.iadd, 1) := by decide +kernel
theorem dL_law_570 : decode cL_law 570 = .ok (.iaload, 1) := by decide +kernel
theorem dL_law_571 : decode cL_law 571 = .ok (.invokevirtual 77, 3) := by decide +kernel
theorem dL_law_574 : decode cL_law 574 = .ok (.aload_n 2, 1) := by decide +kernel
theorem dL_law_575 : decode cL_law 575 = .ok (.aload_n 0, 1) := by decide +kernel
theorem dL_law_576 : decode cL_law 576 = .ok (.iload_n 3, 1) := by decide +kernel
theorem dL_law_577 : decode cL_law 577 = .ok (.iconst 1, 1) := by decide +kernel
theorem dL_law_578 : decode cL_law 578 = .ok (.iadd, 1) := by decide +kernel
theorem dL_law_579 : decode cL_law 579 = .ok (.iaload, 1) := by decide +kernel
theorem dL_law_580 : decode cL_law 580 = .ok (.invokevirtual 80, 3) := by decide +kernel
theorem dL_law_583 : decode cL_law 583 = .ok (.if_icmp .eq 445, 3) := by decide +kernel
theorem dL_law_586 : decode cL_law 586 = .ok (.iconst 0, 1) := by decide +kernel
theorem dL_law_587 : decode cL_law 587 = .ok (.ireturn, 1) := by decide +kernel
theorem dL_law_588 : decode cL_law 588 = .ok (.aload_n 1, 1) := by decide +kernel
theorem dL_law_589 : decode cL_law 589 = .ok (.aload_n 0, 1) := by decide +kernel
theorem dL_law_590 : decode cL_law 590 = .ok (.iload_n 3, 1) := by decide +kernel
theorem dL_law_591 : decode cL_law 591 = .ok (.iconst 1, 1) := by decide +kernel
theorem dL_law_592 : decode cL_law 592 = .ok (.iadd, 1) := by decide +kernel
theorem dL_law_593 : decode cL_law 593 = .ok (.iaload, 1) := by decide +kernel
theorem dL_law_594 : decode cL_law 594 = .ok (.invokevirtual 81, 3) := by decide +kernel
theorem dL_law_597 : decode cL_law 597 = .ok (.aload_n 2, 1) := by decide +kernel
theorem dL_law_598 : decode cL_law 598 = .ok (.aload_n 0, 1) := by decide +kernel
theorem dL_law_599 : decode cL_law 599 = .ok (.iload_n 3, 1) := by decide +kernel
theorem dL_law_600 : decode cL_law 600 = .ok (.iconst 1, 1) := by decide +kernel
theorem dL_law_601 : decode cL_law 601 = .ok (.iadd, 1) := by decide +kernel
theorem dL_law_602 : decode cL_law 602 = .ok (.iaload, 1) := by decide +kernel
theorem dL_law_603 : decode cL_law 603 = .ok (.invokevirtual 84, 3) := by decide +kernel
theorem dL_law_606 : decode cL_law 606 = .ok (.if_icmp .eq 422, 3) := by decide +kernel
theorem dL_law_609 : decode cL_law 609 = .ok (.iconst 0, 1) := by decide +kernel
theorem dL_law_610 : decode cL_law 610 = .ok (.ireturn, 1) := by decide +kernel
theorem dL_law_611 : decode cL_law 611 = .ok (.aload_n 1, 1) := by decide +kernel
theorem dL_law_612 : decode cL_law 612 = .ok (.aload_n 0, 1) := by decide +kernel
theorem dL_law_613 : decode cL_law 613 = .ok (.iload_n 3, 1) := by decide +kernel
theorem dL_law_614 : decode cL_law 614 = .ok (.iconst 1, 1) := by decide +kernel
theorem dL_law_615 : decode cL_law 615 = .ok (.iadd, 1) := by decide +kernel
theorem dL_law_616 : decode cL_law 616 = .ok (.iaload, 1) := by decide +kernel
theorem dL_law_617 : decode cL_law 617 = .ok (.invokevirtual 85, 3) := by decide +kernel
theorem dL_law_620 : decode cL_law 620 = .ok (.aload_n 2, 1) := by decide +kernel
theorem dL_law_621 : decode cL_law 621 = .ok (.aload_n 0, 1) := by decide +kernel
theorem dL_law_622 : decode cL_law 622 = .ok (.iload_n 3, 1) := by decide +kernel
theorem dL_law_623 : decode cL_law 623 = .ok (.iconst 1, 1) := by decide +kernel
theorem dL_law_624 : decode cL_law 624 = .ok (.iadd, 1) := by decide +kernel
theorem dL_law_625 : decode cL_law 625 = .ok (.iaload, 1) := by decide +kernel
theorem dL_law_626 : decode cL_law 626 = .ok (.invokevirtual 88, 3) := by decide +kernel
theorem dL_law_629 : decode cL_law 629 = .ok (.if_icmp .eq 399, 3) := by decide +kernel
theorem dL_law_632 : decode cL_law 632 = .ok (.iconst 0, 1) := by decide +kernel
theorem dL_law_633 : decode cL_law 633 = .ok (.ireturn, 1) := by decide +kernel
theorem dL_law_634 : decode cL_law 634 = .ok (.aload_n 1, 1) := by decide +kernel
theorem dL_law_635 : decode cL_law 635 = .ok (.aload_n 0, 1) := by decide +kernel
theorem dL_law_636 : decode cL_law 636 = .ok (.iload_n 3, 1) := by decide +kernel
theorem dL_law_637 : decode cL_law 637 = .ok (.iconst 1, 1) := by decide +kernel
theorem dL_law_638 : decode cL_law 638 = .ok (.iadd, 1) := by decide +kernel
theorem dL_law_639 : decode cL_law 639 = .ok (.iaload, 1) := by decide +kernel
theorem dL_law_640 : decode cL_law 640 = .ok (.invokevirtual 89, 3) := by decide +kernel
theorem dL_law_643 : decode cL_law 643 = .ok (.aload_n 2, 1) := by decide +kernel
theorem dL_law_644 : decode cL_law 644 = .ok (.aload_n 0, 1) := by decide +kernel
theorem dL_law_645 : decode cL_law 645 = .ok (.iload_n 3, 1) := by decide +kernel
theorem dL_law_646 : decode cL_law 646 = .ok (.iconst 1, 1) := by decide +kernel
theorem dL_law_647 : decode cL_law 647 = .ok (.iadd, 1) := by decide +kernel
theorem dL_law_648 : decode cL_law 648 = .ok (.iaload, 1) := by decide +kernel
theorem dL_law_649 : decode cL_law 649 = .ok (.invokevirtual 92, 3) := by decide +kernel
theorem dL_law_652 : decode cL_law 652 = .ok (.if_icmp .eq 376, 3) := by decide +kernel
theorem dL_law_655 : decode cL_law 655 = .ok (.iconst 0, 1) := by decide +kernel
theorem dL_law_656 : decode cL_law 656 = .ok (.ireturn, 1) := by decide +kernel
theorem dL_law_657 : decode cL_law 657 = .ok (.aload_n 1, 1) := by decide +kernel
theorem dL_law_658 : decode cL_law 658 = .ok (.aload_n 0, 1) := by decide +kernel
theorem dL_law_659 : decode cL_law 659 = .ok (.iload_n 3, 1) := by decide +kernel
theorem dL_law_660 : decode cL_law 660 = .ok (.iconst 1, 1) := by decide +kernel
theorem dL_law_661 : decode cL_law 661 = .ok (.iadd, 1) := by decide +kernel
theorem dL_law_662 : decode cL_law 662 = .ok (.iaload, 1) := by decide +kernel
theorem dL_law_663 : decode cL_law 663 = .ok (.aload_n 0, 1) := by decide +kernel
theorem dL_law_664 : decode cL_law 664 = .ok (.iload_n 3, 1) := by decide +kernel
theorem dL_law_665 : decode cL_law 665 = .ok (.iconst 2, 1) := by decide +kernel
theorem dL_law_666 : decode cL_law 666 = .ok (.iadd, 1) := by decide +kernel
theorem dL_law_667 : decode cL_law 667 = .ok (.iaload, 1) := by decide +kernel
theorem dL_law_668 : decode cL_law 668 = .ok (.invokevirtual 93, 3) := by decide +kernel
theorem dL_law_671 : decode cL_law 671 = .ok (.aload_n 2, 1) := by decide +kernel
theorem dL_law_672 : decode cL_law 672 = .ok (.aload_n 0, 1) := by decide +kernel
theorem dL_law_673 : decode cL_law 673 = .ok (.iload_n 3, 1) := by decide +kernel
theorem dL_law_674 : decode cL_law 674 = .ok (.iconst 1, 1) := by decide +kernel
theorem dL_law_675 : decode cL_law 675 = .ok (.iadd, 1) := by decide +kernel
theorem dL_law_676 : decode cL_law 676 = .ok (.iaload, 1) := by decide +kernel
theorem dL_law_677 : decode cL_law 677 = .ok (.aload_n 0, 1) := by decide +kernel
theorem dL_law_678 : decode cL_law 678 = .ok (.iload_n 3, 1) := by decide +kernel
theorem dL_law_679 : decode cL_law 679 = .ok (.iconst 2, 1) := by decide +kernel
theorem dL_law_680 : decode cL_law 680 = .ok (.iadd, 1) := by decide +kernel
theorem dL_law_681 : decode cL_law 681 = .ok (.iaload, 1) := by decide +kernel
theorem dL_law_682 : decode cL_law 682 = .ok (.invokevirtual 96, 3) := by decide +kernel
theorem dL_law_685 : decode cL_law 685 = .ok (.if_icmp .eq 343, 3) := by decide +kernel
theorem dL_law_688 : decode cL_law 688 = .ok (.iconst 0, 1) := by decide +kernel
theorem dL_law_689 : decode cL_law 689 = .ok (.ireturn, 1) := by decide +kernel
theorem dL_law_690 : decode cL_law 690 = .ok (.aload_n 1, 1) := by decide +kernel
theorem dL_law_691 : decode cL_law 691 = .ok (.aload_n 0, 1) := by decide +kernel
theorem dL_law_692 : decode cL_law 692 = .ok (.iload_n 3, 1) := by decide +kernel
theorem dL_law_693 : decode cL_law 693 = .ok (.iconst 1, 1) := by decide +kernel
theorem dL_law_694 : decode cL_law 694 = .ok (.iadd, 1) := by decide +kernel
theorem dL_law_695 : decode cL_law 695 = .ok (.iaload, 1) := by decide +kernel
theorem dL_law_696 : decode cL_law 696 = .ok (.invokevirtual 97, 3) := by decide +kernel
theorem dL_law_699 : decode cL_law 699 = .ok (.aload_n 2, 1) := by decide +kernel
theorem dL_law_700 : decode cL_law 700 = .ok (.aload_n 0, 1) := by decide +kernel
theorem dL_law_701 : decode cL_law 701 = .ok (.iload_n 3, 1) := by decide +kernel
theorem dL_law_702 : decode cL_law 702 = .ok (.iconst 1, 1) := by decide +kernel
theorem dL_law_703 : decode cL_law 703 = .ok (.iadd, 1) := by decide +kernel
theorem dL_law_704 : decode cL_law 704 = .ok (.iaload, 1) := by decide +kernel
theorem dL_law_705 : decode cL_law 705 = .ok (.invokevirtual 100, 3) := by decide +kernel
theorem dL_law_708 : decode cL_law 708 = .ok (.if_icmp .eq 320, 3) := by decide +kernel
theorem dL_law_711 : decode cL_law 711 = .ok (.iconst 0, 1) := by decide +kernel
theorem dL_law_712 : decode cL_law 712 = .ok (.ireturn, 1) := by decide +kernel
theorem dL_law_713 : decode cL_law 713 = .ok (.aload_n 1, 1) := by decide +kernel
theorem dL_law_714 : decode cL_law 714 = .ok (.aload_n 0, 1) := by decide +kernel
theorem dL_law_715 : decode cL_law 715 = .ok (.iload_n 3, 1) := by decide +kernel
theorem dL_law_716 : decode cL_law 716 = .ok (.iconst 1, 1) := by decide +kernel
theorem dL_law_717 : decode cL_law 717 = .ok (.iadd, 1) := by decide +kernel
theorem dL_law_718 : decode cL_law 718 = .ok (.iaload, 1) := by decide +kernel
theorem dL_law_719 : decode cL_law 719 = .ok (.invokevirtual 101, 3) := by decide +kernel
theorem dL_law_722 : decode cL_law 722 = .ok (.aload_n 2, 1) := by decide +kernel
theorem dL_law_723 : decode cL_law 723 = .ok (.aload_n 0, 1) := by decide +kernel
theorem dL_law_724 : decode cL_law 724 = .ok (.iload_n 3, 1) := by decide +kernel
theorem dL_law_725 : decode cL_law 725 = .ok (.iconst 1, 1) := by decide +kernel
theorem dL_law_726 : decode cL_law 726 = .ok (.iadd, 1) := by decide +kernel
theorem dL_law_727 : decode cL_law 727 = .ok (.iaload, 1) := by decide +kernel
theorem dL_law_728 : decode cL_law 728 = .ok (.invokevirtual 104, 3) := by decide +kernel
theorem dL_law_731 : decode cL_law 731 = .ok (.if_icmp .eq 297, 3) := by decide +kernel
theorem dL_law_734 : decode cL_law 734 = .ok (.iconst 0, 1) := by decide +kernel
theorem dL_law_735 : decode cL_law 735 = .ok (.ireturn, 1) := by decide +kernel
theorem dL_law_736 : decode cL_law 736 = .ok (.aload_n 1, 1) := by decide +kernel
theorem dL_law_737 : decode cL_law 737 = .ok (.aload_n 0, 1) := by decide +kernel
theorem dL_law_738 : decode cL_law 738 = .ok (.iload_n 3, 1) := by decide +kernel
theorem dL_law_739 : decode cL_law 739 = .ok (.iconst 1, 1) := by decide +kernel
theorem dL_law_740 : decode cL_law 740 = .ok (.iadd, 1) := by decide +kernel
theorem dL_law_741 : decode cL_law 741 = .ok (.iaload, 1) := by decide +kernel
theorem dL_law_742 : decode cL_law 742 = .ok (.invokevirtual 105, 3) := by decide +kernel
theorem dL_law_745 : decode cL_law 745 = .ok (.aload_n 2, 1) := by decide +kernel
theorem dL_law_746 : decode cL_law 746 = .ok (.aload_n 0, 1) := by decide +kernel
theorem dL_law_747 : decode cL_law 747 = .ok (.iload_n 3, 1) := by decide +kernel
theorem dL_law_748 : decode cL_law 748 = .ok (.iconst 1, 1) := by decide +kernel
theorem dL_law_749 : decode cL_law 749 = .ok (.iadd, 1) := by decide +kernel
theorem dL_law_750 : decode cL_law 750 = .ok (.iaload, 1) := by decide +kernel
theorem dL_law_751 : decode cL_law 751 = .ok (.invokevirtual 108, 3) := by decide +kernel
theorem dL_law_754 : decode cL_law 754 = .ok (.if_icmp .eq 274, 3) := by decide +kernel
theorem dL_law_757 : decode cL_law 757 = .ok (.iconst 0, 1) := by decide +kernel
theorem dL_law_758 : decode cL_law 758 = .ok (.ireturn, 1) := by decide +kernel
theorem dL_law_759 : decode cL_law 759 = .ok (.aload_n 1, 1) := by decide +kernel
theorem dL_law_760 : decode cL_law 760 = .ok (.aload_n 0, 1) := by decide +kernel
theorem dL_law_761 : decode cL_law 761 = .ok (.iload_n 3, 1) := by decide +kernel
theorem dL_law_762 : decode cL_law 762 = .ok (.iconst 1, 1) := by decide +kernel
theorem dL_law_763 : decode cL_law 763 = .ok (.iadd, 1) := by decide +kernel
theorem dL_law_764 : decode cL_law 764 = .ok (.iaload, 1) := by decide +kernel
theorem dL_law_765 : decode cL_law 765 = .ok (.invokevirtual 109, 3) := by decide +kernel
theorem dL_law_768 : decode cL_law 768 = .ok (.aload_n 2, 1) := by decide +kernel
theorem dL_law_769 : decode cL_law 769 = .ok (.aload_n 0, 1) := by decide +kernel
theorem dL_law_770 : decode cL_law 770 = .ok (.iload_n 3, 1) := by decide +kernel
theorem dL_law_771 : decode cL_law 771 = .ok (.iconst 1, 1) := by decide +kernel
theorem dL_law_772 : decode cL_law 772 = .ok (.iadd, 1) := by decide +kernel
theorem dL_law_773 : decode cL_law 773 = .ok (.iaload, 1) := by decide +kernel
theorem dL_law_774 : decode cL_law 774 = .ok (.invokevirtual 112, 3) := by decide +kernel
theorem dL_law_777 : decode cL_law 777 = .ok (.if_icmp .eq 251, 3) := by decide +kernel
theorem dL_law_780 : decode cL_law 780 = .ok (.iconst 0, 1) := by decide +kernel
theorem dL_law_781 : decode cL_law 781 = .ok (.ireturn, 1) := by decide +kernel
theorem dL_law_782 : decode cL_law 782 = .ok (.aload_n 1, 1) := by decide +kernel
theorem dL_law_783 : decode cL_law 783 = .ok (.aload_n 0, 1) := by decide +kernel
theorem dL_law_784 : decode cL_law 784 = .ok (.iload_n 3, 1) := by decide +kernel
theorem dL_law_785 : decode cL_law 785 = .ok (.iconst 1, 1) := by decide +kernel
theorem dL_law_786 : decode cL_law 786 = .ok (.iadd, 1) := by decide +kernel
theorem dL_law_787 : decode cL_law 787 = .ok (.iaload, 1) := by decide +kernel
theorem dL_law_788 : decode cL_law 788 = .ok (.aload_n 0, 1) := by decide +kernel
theorem dL_law_789 : decode cL_law 789 = .ok (.iload_n 3, 1) := by decide +kernel
theorem dL_law_790 : decode cL_law 790 = .ok (.iconst 2, 1) := by decide +kernel
theorem dL_law_791 : decode cL_law 791 = .ok (.iadd, 1) := by decide +kernel
theorem dL_law_792 : decode cL_law 792 = .ok (.iaload, 1) := by decide +kernel
theorem dL_law_793 : decode cL_law 793 = .ok (.invokevirtual 113, 3) := by decide +kernel
theorem dL_law_796 : decode cL_law 796 = .ok (.aload_n 2, 1) := by decide +kernel
theorem dL_law_797 : decode cL_law 797 = .ok (.aload_n 0, 1) := by decide +kernel
theorem dL_law_798 : decode cL_law 798 = .ok (.iload_n 3, 1) := by decide +kernel
theorem dL_law_799 : decode cL_law 799 = .ok (.iconst 1, 1) := by decide +kernel
theorem dL_law_800 : decode cL_law 800 = .ok (.iadd, 1) := by decide +kernel
theorem dL_law_801 : decode cL_law 801 = .ok (.iaload, 1) := by decide +kernel
theorem dL_law_802 : decode cL_law 802 = .ok (.aload_n 0, 1) := by decide +kernel
theorem dL_law_803 : decode cL_law 803 = .ok (.iload_n 3, 1) := by decide +kernel
theorem dL_law_804 : decode cL_law 804 = .ok (.iconst 2, 1) := by decide +kernel
theorem dL_law_805 : decode cL_law 805 = .ok (.iadd, 1) := by decide +kernel
theorem dL_law_806 : decode cL_law 806 = .ok (.iaload, 1) := by decide +kernel
theorem dL_law_807 : decode cL_law 807 = .ok (.invokevirtual 116, 3) := by decide +kernel
theorem dL_law_810 : decode cL_law 810 = .ok (.if_icmp .eq 218, 3) := by decide +kernel
theorem dL_law_813 : decode cL_law 813 = .ok (.iconst 0, 1) := by decide +kernel
theorem dL_law_814 : decode cL_law 814 = .ok (.ireturn, 1) := by decide +kernel
theorem dL_law_815 : decode cL_law 815 = .ok (.aload_n 1, 1) := by decide +kernel
theorem dL_law_816 : decode cL_law 816 = .ok (.aload_n 0, 1) := by decide +kernel
theorem dL_law_817 : decode cL_law 817 = .ok (.iload_n 3, 1) := by decide +kernel
theorem dL_law_818 : decode cL_law 818 = .ok (.iconst 1, 1) := by decide +kernel
theorem dL_law_819 : decode cL_law 819 = .ok (.iadd, 1) := by decide +kernel
theorem dL_law_820 : decode cL_law 820 = .ok (.iaload, 1) := by decide +kernel
theorem dL_law_821 : decode cL_law 821 = .ok (.aload_n 0, 1) := by decide +kernel
theorem dL_law_822 : decode cL_law 822 = .ok (.iload_n 3, 1) := by decide +kernel
theorem dL_law_823 : decode cL_law 823 = .ok (.iconst 2, 1) := by decide +kernel
theorem dL_law_824 : decode cL_law 824 = .ok (.iadd, 1) := by decide +kernel
theorem dL_law_825 : decode cL_law 825 = .ok (.iaload, 1) := by decide +kernel
theorem dL_law_826 : decode cL_law 826 = .ok (.aload_n 0, 1) := by decide +kernel
theorem dL_law_827 : decode cL_law 827 = .ok (.iload_n 3, 1) := by decide +kernel
theorem dL_law_828 : decode cL_law 828 = .ok (.iconst 3, 1) := by decide +kernel
theorem dL_law_829 : decode cL_law 829 = .ok (.iadd, 1) := by decide +kernel
theorem dL_law_830 : decode cL_law 830 = .ok (.iaload, 1) := by decide +kernel
theorem dL_law_831 : decode cL_law 831 = .ok (.ifCond .eq 7, 3) := by decide +kernel
theorem dL_law_834 : decode cL_law 834 = .ok (.iconst 1, 1) := by decide +kernel
theorem dL_law_835 : decode cL_law 835 = .ok (.goto 4, 3) := by decide +kernel
theorem dL_law_838 : decode cL_law 838 = .ok (.iconst 0, 1) := by decide +kernel
theorem dL_law_839 : decode cL_law 839 = .ok (.invokevirtual 117, 3) := by decide +kernel
theorem dL_law_842 : decode cL_law 842 = .ok (.aload_n 2, 1) := by decide +kernel
theorem dL_law_843 : decode cL_law 843 = .ok (.aload_n 0, 1) := by decide +kernel
theorem dL_law_844 : decode cL_law 844 = .ok (.iload_n 3, 1) := by decide +kernel
theorem dL_law_845 : decode cL_law 845 = .ok (.iconst 1, 1) := by decide +kernel
theorem dL_law_846 : decode cL_law 846 = .ok (.iadd, 1) := by decide +kernel
theorem dL_law_847 : decode cL_law 847 = .ok (.iaload, 1) := by decide +kernel
theorem dL_law_848 : decode cL_law 848 = .ok (.aload_n 0, 1) := by decide +kernel
theorem dL_law_849 : decode cL_law 849 = .ok (.iload_n 3, 1) := by decide +kernel
theorem dL_law_850 : decode cL_law 850 = .ok (.iconst 2, 1) := by decide +kernel
theorem dL_law_851 : decode cL_law 851 = .ok (.iadd, 1) := by decide +kernel
theorem dL_law_852 : decode cL_law 852 = .ok (.iaload, 1) := by decide +kernel
theorem dL_law_853 : decode cL_law 853 = .ok (.aload_n 0, 1) := by decide +kernel
theorem dL_law_854 : decode cL_law 854 = .ok (.iload_n 3, 1) := by decide +kernel
theorem dL_law_855 : decode cL_law 855 = .ok (.iconst 3, 1) := by decide +kernel
theorem dL_law_856 : decode cL_law 856 = .ok (.iadd, 1) := by decide +kernel
theorem dL_law_857 : decode cL_law 857 = .ok (.iaload, 1) := by decide +kernel
theorem dL_law_858 : decode cL_law 858 = .ok (.ifCond .eq 7, 3) := by decide +kernel
theorem dL_law_861 : decode cL_law 861 = .ok (.iconst 1, 1) := by decide +kernel
theorem dL_law_862 : decode cL_law 862 = .ok (.goto 4, 3) := by decide +kernel
theorem dL_law_865 : decode cL_law 865 = .ok (.iconst 0, 1) := by decide +kernel
theorem dL_law_866 : decode cL_law 866 = .ok (.invokevirtual 121, 3) := by decide +kernel
theorem dL_law_869 : decode cL_law 869 = .ok (.if_icmp .eq 159, 3) := by decide +kernel
theorem dL_law_872 : decode cL_law 872 = .ok (.iconst 0, 1) := by decide +kernel
theorem dL_law_873 : decode cL_law 873 = .ok (.ireturn, 1) := by decide +kernel
theorem dL_law_874 : decode cL_law 874 = .ok (.aload_n 1, 1) := by decide +kernel
theorem dL_law_875 : decode cL_law 875 = .ok (.invokevirtual 122, 3) := by decide +kernel
theorem dL_law_878 : decode cL_law 878 = .ok (.aload_n 2, 1) := by decide +kernel
theorem dL_law_879 : decode cL_law 879 = .ok (.invokevirtual 125, 3) := by decide +kernel
theorem dL_law_882 : decode cL_law 882 = .ok (.if_icmp .eq 146, 3) := by decide +kernel
theorem dL_law_885 : decode cL_law 885 = .ok (.iconst 0, 1) := by decide +kernel
theorem dL_law_886 : decode cL_law 886 = .ok (.ireturn, 1) := by decide +kernel
theorem dL_law_887 : decode cL_law 887 = .ok (.aload_n 1, 1) := by decide +kernel
theorem dL_law_888 : decode cL_law 888 = .ok (.invokevirtual 126, 3) := by decide +kernel
theorem dL_law_891 : decode cL_law 891 = .ok (.aload_n 2, 1) := by decide +kernel
theorem dL_law_892 : decode cL_law 892 = .ok (.invokevirtual 129, 3) := by decide +kernel
theorem dL_law_895 : decode cL_law 895 = .ok (.if_icmp .eq 133, 3) := by decide +kernel
theorem dL_law_898 : decode cL_law 898 = .ok (.iconst 0, 1) := by decide +kernel
theorem dL_law_899 : decode cL_law 899 = .ok (.ireturn, 1) := by decide +kernel
theorem dL_law_900 : decode cL_law 900 = .ok (.aload_n 1, 1) := by decide +kernel
theorem dL_law_901 : decode cL_law 901 = .ok (.aload_n 0, 1) := by decide +kernel
theorem dL_law_902 : decode cL_law 902 = .ok (.iload_n 3, 1) := by decide +kernel
theorem dL_law_903 : decode cL_law 903 = .ok (.iconst 1, 1) := by decide +kernel
theorem dL_law_904 : decode cL_law 904 = .ok (.iadd, 1) := by decide +kernel
theorem dL_law_905 : decode cL_law 905 = .ok (.iaload, 1) := by decide +kernel
theorem dL_law_906 : decode cL_law 906 = .ok (.aload_n 0, 1) := by decide +kernel
theorem dL_law_907 : decode cL_law 907 = .ok (.iload_n 3, 1) := by decide +kernel
theorem dL_law_908 : decode cL_law 908 = .ok (.iconst 2, 1) := by decide +kernel
theorem dL_law_909 : decode cL_law 909 = .ok (.iadd, 1) := by decide +kernel
theorem dL_law_910 : decode cL_law 910 = .ok (.iaload, 1) := by decide +kernel
theorem dL_law_911 : decode cL_law 911 = .ok (.invokevirtual 130, 3) := by decide +kernel
theorem dL_law_914 : decode cL_law 914 = .ok (.aload_n 2, 1) := by decide +kernel
theorem dL_law_915 : decode cL_law 915 = .ok (.aload_n 0, 1) := by decide +kernel
theorem dL_law_916 : decode cL_law 916 = .ok (.iload_n 3, 1) := by decide +kernel
theorem dL_law_917 : decode cL_law 917 = .ok (.iconst 1, 1) := by decide +kernel
theorem dL_law_918 : decode cL_law 918 = .ok (.iadd, 1) := by decide +kernel
theorem dL_law_919 : decode cL_law 919 = .ok (.iaload, 1) := by decide +kernel
theorem dL_law_920 : decode cL_law 920 = .ok (.aload_n 0, 1) := by decide +kernel
theorem dL_law_921 : decode cL_law 921 = .ok (.iload_n 3, 1) := by decide +kernel
theorem dL_law_922 : decode cL_law 922 = .ok (.iconst 2, 1) := by decide +kernel
theorem dL_law_923 : decode cL_law 923 = .ok (.iadd, 1) := by decide +kernel
theorem dL_law_924 : decode cL_law 924 = .ok (.iaload, 1) := by decide +kernel
theorem dL_law_925 : decode cL_law 925 = .ok (.invokevirtual 133, 3) := by decide +kernel
theorem dL_law_928 : decode cL_law 928 = .ok (.if_icmp .eq 100, 3) := by decide +kernel
theorem dL_law_931 : decode cL_law 931 = .ok (.iconst 0, 1) := by decide +kernel
theorem dL_law_932 : decode cL_law 932 = .ok (.ireturn, 1) := by decide +kernel
theorem dL_law_933 : decode cL_law 933 = .ok (.aload_n 1, 1) := by decide +kernel
theorem dL_law_934 : decode cL_law 934 = .ok (.invokevirtual 134, 3) := by decide +kernel
theorem dL_law_937 : decode cL_law 937 = .ok (.aload_n 2, 1) := by decide +kernel
theorem dL_law_938 : decode cL_law 938 = .ok (.invokevirtual 137, 3) := by decide +kernel
theorem dL_law_941 : decode cL_law 941 = .ok (.if_icmp .eq 87, 3) := by decide +kernel
theorem dL_law_944 : decode cL_law 944 = .ok (.iconst 0, 1) := by decide +kernel
theorem dL_law_945 : decode cL_law 945 = .ok (.ireturn, 1) := by decide +kernel
theorem dL_law_946 : decode cL_law 946 = .ok (.aload_n 1, 1) := by decide +kernel
theorem dL_law_947 : decode cL_law 947 = .ok (.invokevirtual 138, 3) := by decide +kernel
theorem dL_law_950 : decode cL_law 950 = .ok (.aload_n 2, 1) := by decide +kernel
theorem dL_law_951 : decode cL_law 951 = .ok (.invokevirtual 141, 3) := by decide +kernel
theorem dL_law_954 : decode cL_law 954 = .ok (.if_icmp .eq 74, 3) := by decide +kernel
theorem dL_law_957 : decode cL_law 957 = .ok (.iconst 0, 1) := by decide +kernel
theorem dL_law_958 : decode cL_law 958 = .ok (.ireturn, 1) := by decide +kernel
theorem dL_law_959 : decode cL_law 959 = .ok (.aload_n 1, 1) := by decide +kernel
theorem dL_law_960 : decode cL_law 960 = .ok (.aload_n 0, 1) := by decide +kernel
theorem dL_law_961 : decode cL_law 961 = .ok (.iload_n 3, 1) := by decide +kernel
theorem dL_law_962 : decode cL_law 962 = .ok (.iconst 1, 1) := by decide +kernel
theorem dL_law_963 : decode cL_law 963 = .ok (.iadd, 1) := by decide +kernel
theorem dL_law_964 : decode cL_law 964 = .ok (.iaload, 1) := by decide +kernel
theorem dL_law_965 : decode cL_law 965 = .ok (.invokevirtual 142, 3) := by decide +kernel
theorem dL_law_968 : decode cL_law 968 = .ok (.aload_n 2, 1) := by decide +kernel
theorem dL_law_969 : decode cL_law 969 = .ok (.aload_n 0, 1) := by decide +kernel
theorem dL_law_970 : decode cL_law 970 = .ok (.iload_n 3, 1) := by decide +kernel
theorem dL_law_971 : decode cL_law 971 = .ok (.iconst 1, 1) := by decide +kernel
theorem dL_law_972 : decode cL_law 972 = .ok (.iadd, 1) := by decide +kernel
theorem dL_law_973 : decode cL_law 973 = .ok (.iaload, 1) := by decide +kernel
theorem dL_law_974 : decode cL_law 974 = .ok (.invokevirtual 145, 3) := by decide +kernel
theorem dL_law_977 : decode cL_law 977 = .ok (.if_icmp .eq 51, 3) := by decide +kernel
theorem dL_law_980 : decode cL_law 980 = .ok (.iconst 0, 1) := by decide +kernel
theorem dL_law_981 : decode cL_law 981 = .ok (.ireturn, 1) := by decide +kernel
theorem dL_law_982 : decode cL_law 982 = .ok (.aload_n 1, 1) := by decide +kernel
theorem dL_law_983 : decode cL_law 983 = .ok (.aload_n 0, 1) := by decide +kernel
theorem dL_law_984 : decode cL_law 984 = .ok (.iload_n 3, 1) := by decide +kernel
theorem dL_law_985 : decode cL_law 985 = .ok (.iconst 1, 1) := by decide +kernel
theorem dL_law_986 : decode cL_law 986 = .ok (.iadd, 1) := by decide +kernel
theorem dL_law_987 : decode cL_law 987 = .ok (.iaload, 1) := by decide +kernel
theorem dL_law_988 : decode cL_law 988 = .ok (.invokevirtual 146, 3) := by decide +kernel
theorem dL_law_991 : decode cL_law 991 = .ok (.aload_n 2, 1) := by decide +kernel
theorem dL_law_992 : decode cL_law 992 = .ok (.aload_n 0, 1) := by decide +kernel
theorem dL_law_993 : decode cL_law 993 = .ok (.iload_n 3, 1) := by decide +kernel
theorem dL_law_994 : decode cL_law 994 = .ok (.iconst 1, 1) := by decide +kernel
theorem dL_law_995 : decode cL_law 995 = .ok (.iadd, 1) := by decide +kernel
theorem dL_law_996 : decode cL_law 996 = .ok (.iaload, 1) := by decide +kernel
theorem dL_law_997 : decode cL_law 997 = .ok (.invokevirtual 149, 3) := by decide +kernel
theorem dL_law_1000 : decode cL_law 1000 = .ok (.if_icmp .eq 28, 3) := by decide +kernel
theorem dL_law_1003 : decode cL_law 1003 = .ok (.iconst 0, 1) := by decide +kernel
theorem dL_law_1004 : decode cL_law 1004 = .ok (.ireturn, 1) := by decide +kernel
theorem dL_law_1005 : decode cL_law 1005 = .ok (.aload_n 1, 1) := by decide +kernel
theorem dL_law_1006 : decode cL_law 1006 = .ok (.aload_n 0, 1) := by decide +kernel
theorem dL_law_1007 : decode cL_law 1007 = .ok (.iload_n 3, 1) := by decide +kernel
theorem dL_law_1008 : decode cL_law 1008 = .ok (.iconst 1, 1) := by decide +kernel
theorem dL_law_1009 : decode cL_law 1009 = .ok (.iadd, 1) := by decide +kernel
theorem dL_law_1010 : decode cL_law 1010 = .ok (.iaload, 1) := by decide +kernel
theorem dL_law_1011 : decode cL_law 1011 = .ok (.invokevirtual 150, 3) := by decide +kernel
theorem dL_law_1014 : decode cL_law 1014 = .ok (.aload_n 2, 1) := by decide +kernel
theorem dL_law_1015 : decode cL_law 1015 = .ok (.aload_n 0, 1) := by decide +kernel
theorem dL_law_1016 : decode cL_law 1016 = .ok (.iload_n 3, 1) := by decide +kernel
theorem dL_law_1017 : decode cL_law 1017 = .ok (.iconst 1, 1) := by decide +kernel
theorem dL_law_1018 : decode cL_law 1018 = .ok (.iadd, 1) := by decide +kernel
theorem dL_law_1019 : decode cL_law 1019 = .ok (.iaload, 1) := by decide +kernel
theorem dL_law_1020 : decode cL_law 1020 = .ok (.invokevirtual 153, 3) := by decide +kernel
theorem dL_law_1023 : decode cL_law 1023 = .ok (.if_icmp .eq 5, 3) := by decide +kernel
theorem dL_law_1026 : decode cL_law 1026 = .ok (.iconst 0, 1) := by decide +kernel
theorem dL_law_1027 : decode cL_law 1027 = .ok (.ireturn, 1) := by decide +kernel
theorem dL_law_1028 : decode cL_law 1028 = .ok (.iinc 3 4, 3) := by decide +kernel
theorem dL_law_1031 : decode cL_law 1031 = .ok (.goto (-1013), 3) := by decide +kernel
theorem dL_law_1034 : decode cL_law 1034 = .ok (.iconst 1, 1) := by decide +kernel
theorem dL_law_1035 : decode cL_law 1035 = .ok (.ireturn, 1) := by decide +kernel
end
section
/-! THE LAYER OF NUMBERS: ints and longs as Int, cells by their numbers, one memory of numbers; a judgement AJ over the kit's W, and a rule an instruction -/
abbrev VV : Type := Int ⊕ (Int ⊕ Option (Option Nat))
abbrev vi (x : Int) : VV := .inl x
abbrev vl (x : Int) : VV := .inr (.inl x)
abbrev vr (j : Nat) : VV := .inr (.inr (some (some j)))
abbrev vsc : VV := .inr (.inr (some none))
abbrev vnl : VV := .inr (.inr none)
/-- the shape of a cell: a row of numbers (kind, length); a row of references; an object (class, fields: none is a number) -/
abbrev Sh : Type := (Nat × Nat) ⊕ ((Nat × List (Option Nat)) ⊕ (Nat × List (Option (Option Nat))))
abbrev Mem : Type := Nat → Int → Int
/-- script's address, length, contents; the classes' tables; the row classes -/
abbrev CX : Type := Nat × Nat × (Int → Int) × va_G × (Nat → ClassId)
abbrev MI : Type := MethodName × ByteArray × Nat × Option FieldType
def mu (g : Mem) (i : Nat) (k v : Int) : Mem := fun j q => if j = i ∧ q = k then v else g j q
abbrev R32 (x : Int) : Prop := -2147483648 ≤ x ∧ x < 2147483648
abbrev R64 (x : Int) : Prop := -9223372036854775808 ≤ x ∧ x < 9223372036854775808
def cv (b : Nat) (ρ : Nat → Nat) : VV → Value
  | .inl x => .int (Int32.ofInt x)
  | .inr (.inl x) => .long (Int64.ofInt x)
  | .inr (.inr none) => .null
  | .inr (.inr (some none)) => .ref b
  | .inr (.inr (some (some j))) => .ref (ρ j)
def wfv (n : Nat) : VV → Prop
  | .inl _ => True
  | .inr (.inl _) => True
  | .inr (.inr none) => True
  | .inr (.inr (some none)) => True
  | .inr (.inr (some (some j))) => j < n
def wfs (n : Nat) (l : List VV) : Prop := ∀ v ∈ l, wfv n v
def wfo (n : Nat) (l : List (Option VV)) : Prop := ∀ v : VV, some v ∈ l → wfv n v
def wfh (n : Nat) : Sh → Prop
  | .inl _ => True
  | .inr (.inl (_, rs)) => ∀ j : Nat, some j ∈ rs → j < n
  | .inr (.inr (_, fs)) => ∀ j : Nat, some (some j) ∈ fs → j < n
def wfz (Z : List Sh) : Prop := ∀ sh ∈ Z, wfh Z.length sh
def fvl (ρ : Nat → Nat) (x : Int) : Option (Option Nat) → Value
  | none => .int (Int32.ofInt x)
  | some none => .null
  | some (some j) => .ref (ρ j)
def ent (cA : Nat → ClassId) (ρ : Nat → Nat) (row : Int → Int) : Sh → va_E
  | .inl (t, n) => if t = 2 then .inl (cA t, n, .inr (.inl (fun k : Nat => Int64.ofInt (row k)))) else .inl (cA t, n, .inl (fun k : Nat => Int32.ofInt (row k)))
  | .inr (.inl (t, rs)) => .inl (cA t, rs.length, .inr (.inr (.inr (.inr (fun k => (rs.getD k none).map ρ)))))
  | .inr (.inr (c, fs)) => .inr (c, fs.mapIdx (fun k f => fvl ρ (row k) f))
def wd (X : CX) (ρ : Nat → Nat) (Z : List Sh) (g : Mem) : va_W := Z.mapIdx (fun i sh => (ρ i, ent X.2.2.2.2 ρ (g i) sh))
def tysX (X : CX) : List (ClassId × FieldType) := [(X.2.2.2.2 0, .int), (X.2.2.2.2 1, .boolean), (X.2.2.2.2 2, .long), (X.2.2.2.2 3, .object "DayCords$Line"), (X.2.2.2.2 4, .object "DayCords$Image")]
def lcv (b : Nat) (ρ : Nat → Nat) (ls : List (Option VV)) : List (Nat × Value) := (List.range ls.length).filterMap (fun k => (ls.getD k none).map (fun v => (k, cv b ρ v)))
def gTbl : List Cond := lw_tbl.filter goodWord
def nTbl : List (String × Nat × MethodName × String) := lw_tbl.filterMap (fun w => match w with | .methodLinkNest a i x h => some (a, i, x, h) | _ => none)
def Agr (ρ0 : Nat → Nat) (n0 : Nat) (ρ : Nat → Nat) (n : Nat) : Prop := n0 ≤ n ∧ ∀ j : Nat, (j < n0 ∨ n ≤ j) → ρ j = ρ0 j
def RetAt (M : MI) (pc : Nat) (r : Option VV) : Prop := (decode M.2.1 pc = .ok (.ireturn, 1) ∧ ∃ v : Int, r = some (vi v) ∧ ∃ ty, M.2.2.2 = some ty ∧ (ty = .int ∨ (ty = .boolean ∧ (v = 0 ∨ v = 1)))) ∨ (decode M.2.1 pc = .ok (.return_, 1) ∧ r = none ∧ M.2.2.2 = none)
def RD (X : CX) (s : State) (A : Nat → Prop) (ρ0 : Nat → Nat) (n0 nL : Nat) (H : Heap) (locs : List Loc) (ρ : Nat → Nat) (arr : Array Slot) (ls : List (Option VV)) (st : List VV) (Z : List Sh) (g : Mem) : Prop :=
  va_P X.2.2.2.1 vwCl (wd X ρ Z g) H ∧ va_D A (wd X ρ Z g) ∧ va_S A s.heap H locs ∧ wfz Z ∧ wfo Z.length ls ∧ wfs Z.length st ∧ lv_has arr nL (lcv X.1 ρ ls) ∧ ls.length = nL ∧ Agr ρ0 n0 ρ Z.length
def RE (X : CX) (s : State) (A : Nat → Prop) (ρ0 : Nat → Nat) (n0 : Nat) (H : Heap) (locs : List Loc) (ρ : Nat → Nat) (r : Option VV) (Z : List Sh) (g : Mem) : Prop :=
  va_P X.2.2.2.1 vwCl (wd X ρ Z g) H ∧ va_D A (wd X ρ Z g) ∧ va_S A s.heap H locs ∧ wfz Z ∧ wfs Z.length r.toList ∧ Agr ρ0 n0 ρ Z.length
def NW (s : State) : Prop := (∀ q ∈ nTbl, va_Nw (.methodLinkNest q.1 q.2.1 q.2.2.1 q.2.2.2) s) ∧ va_AO "DayCords$Line" s ∧ va_AO "DayCords$Image" s
def RS (X : CX) (d : Nat) (M : MI) (mc ms : Nat) (Q : Option VV → List Sh → Mem → Prop) (p : Program) (l : Launch) (e : Env) (R : Room) (s : State) (m : MethodId) (args : Array Value) (below : List Frame) (meth : Method) (c : Code) (Qw : State → Prop) (A : Nat → Prop) (ρ0 : Nat → Nat) (n0 : Nat) : Prop :=
  p.tables.exec = Jvm.exec ∧ c.code = M.2.1 ∧ c.maxLocals = M.2.2.1 ∧ s.vm.findClass M.1.cls = some m.cls ∧ (∀ w ∈ gTbl, w.before args s = true) ∧ NW s ∧ va_K X.2.2.2.1 vwCl (tysX X) s ∧ meth.sig.returnType = M.2.2.2 ∧ meth.locks = false ∧ meth.name = M.1.name ∧
  (d ≤ R.frames ∧ 64 * d ≤ R.locals ∧ mc ≤ R.cells ∧ ms ≤ R.slots) ∧ (∀ q : Nat, s.heap.size ≤ q → A q) ∧ (M.1.name = "law" → va_X X.1 X.2.1 (fun j : Nat => Int32.ofInt (X.2.2.1 j)) s s.heap ∧ X.1 < s.heap.size ∧ ¬ A X.1) ∧
  (∀ (r : Option VV) (Z : List Sh) (g : Mem) (ρ : Nat → Nat) (H : Heap) (locs : List Loc) (k n pc : Nat) (arr : Array Slot), Q r Z g → RE X s A ρ0 n0 H locs ρ r Z g → k ≤ mc → n ≤ ms → RetAt M pc r → W p l e R s m args below meth c H locs k n Qw (F0 m pc arr (r.toList.map (cv X.1 ρ))))
def AJ (X : CX) (d : Nat) (M : MI) (mc ms : Nat) (Q : Option VV → List Sh → Mem → Prop) (k n pc : Nat) (ls : List (Option VV)) (st : List VV) (Z : List Sh) (g : Mem) : Prop :=
  ∀ (p : Program) (l : Launch) (e : Env) (R : Room) (s : State) (m : MethodId) (args : Array Value) (below : List Frame) (meth : Method) (c : Code) (Qw : State → Prop) (A : Nat → Prop) (ρ0 : Nat → Nat) (n0 : Nat), RS X d M mc ms Q p l e R s m args below meth c Qw A ρ0 n0 →
  ∀ (H : Heap) (locs : List Loc) (ρ : Nat → Nat) (arr : Array Slot), RD X s A ρ0 n0 M.2.2.1 H locs ρ arr ls st Z g → W p l e R s m args below meth c H locs k n Qw (F0 m pc arr (st.map (cv X.1 ρ)))
def Ent (X : CX) (d : Nat) (M : MI) (mc ms : Nat) (vs : List VV) (Z : List Sh) (g : Mem) (Q : Option VV → List Sh → Mem → Prop) : Prop := AJ X d M mc ms Q 0 0 0 (vs.map some ++ List.replicate (M.2.2.1 - vs.length) none) [] Z g
-- numbers
theorem i32_toInt {x : Int} (h : R32 x) : (Int32.ofInt x).toInt = x := by
  rw [Int32.toInt_ofInt]
  have e : x.bmod 4294967296 = x := by rw [Int.bmod_def]; omega
  exact e
theorem i64_toInt {x : Int} (h : R64 x) : (Int64.ofInt x).toInt = x := by
  rw [Int64.toInt_ofInt]
  have e : x.bmod 18446744073709551616 = x := by rw [Int.bmod_def]; omega
  exact e
theorem i32_lt {a b : Int} (ha : R32 a) (hb : R32 b) : Int32.ofInt a < Int32.ofInt b ↔ a < b := by rw [Int32.lt_iff_toInt_lt, i32_toInt ha, i32_toInt hb]
theorem i32_le {a b : Int} (ha : R32 a) (hb : R32 b) : Int32.ofInt a ≤ Int32.ofInt b ↔ a ≤ b := by rw [Int32.le_iff_toInt_le, i32_toInt ha, i32_toInt hb]
theorem i32_eq {a b : Int} (ha : R32 a) (hb : R32 b) : Int32.ofInt a = Int32.ofInt b ↔ a = b := by rw [← Int32.toInt_inj, i32_toInt ha, i32_toInt hb]
theorem i32_0 : (0 : Int32) = Int32.ofInt 0 := rfl
theorem i32_div {a b : Int} (ha : R32 a) (hb : R32 b) : Int32.ofInt a / Int32.ofInt b = Int32.ofInt (a.tdiv b) := by
  rw [← Int32.toInt_inj, Int32.toInt_div, i32_toInt ha, i32_toInt hb, Int32.toInt_ofInt]
theorem i64_div {a b : Int} (ha : R64 a) (hb : R64 b) : Int64.ofInt a / Int64.ofInt b = Int64.ofInt (a.tdiv b) := by
  rw [← Int64.toInt_inj, Int64.toInt_div, i64_toInt ha, i64_toInt hb, Int64.toInt_ofInt]
theorem i32_in {i : Int} {n : Nat} (h0 : 0 ≤ i) (h1 : i < n) (hn : n < 2147483648) : vp_in (Int32.ofInt i) n ∧ (Int32.ofInt i).toNatClampNeg = i.toNat := by
  have e : (Int32.ofInt i).toInt = i := i32_toInt ⟨by omega, by omega⟩
  refine ⟨vp_in_iff.mpr (by rw [e]; exact ⟨h0, h1⟩), ?_⟩
  show (Int32.ofInt i).toInt.toNat = _
  rw [e]
-- lists of locals
theorem mem_lcv {b : Nat} {ρ : Nat → Nat} {ls : List (Option VV)} {q : Nat × Value} : q ∈ lcv b ρ ls ↔ ∃ v, ls[q.1]? = some (some v) ∧ q.2 = cv b ρ v := by
  unfold lcv
  rw [List.mem_filterMap]
  constructor
  · rintro ⟨k, hk, h⟩
    have hk' := List.mem_range.mp hk
    rw [Option.map_eq_some_iff] at h
    obtain ⟨v, h1, rfl⟩ := h
    refine ⟨v, ?_, rfl⟩
    rw [List.getD_eq_getElem?_getD] at h1
    show ls[k]? = _
    rw [List.getElem?_eq_getElem hk'] at h1 ⊢
    exact congrArg some h1
  · rintro ⟨v, h1, h2⟩
    have hk := (List.getElem?_eq_some_iff.mp h1).1
    refine ⟨q.1, List.mem_range.mpr hk, ?_⟩
    rw [List.getD_eq_getElem?_getD, h1]
    obtain ⟨k, w⟩ := q
    cases h2
    rfl
theorem lv_mono {arr : Array Slot} {nL : Nat} {l l' : List (Nat × Value)} (h : lv_has arr nL l) (hs : ∀ q ∈ l', q ∈ l) : lv_has arr nL l' := ⟨h.1, h.2.1, fun q hq => h.2.2 q (hs q hq)⟩
theorem lv_get {arr : Array Slot} {nL b : Nat} {ρ : Nat → Nat} {ls : List (Option VV)} (h : lv_has arr nL (lcv b ρ ls)) {i : Nat} {v : VV} (hi : ls[i]? = some (some v)) : arr[i]? = some (.val (cv b ρ v)) := h.2.2 (i, cv b ρ v) (mem_lcv.mpr ⟨v, hi, rfl⟩)
def nol (ls : List (Option VV)) : Nat → Bool
  | 0 => true
  | j + 1 => match ls[j]? with
    | some (some (.inr (.inl _))) => false
    | _ => true
def oks (ls : List (Option VV)) (i : Nat) : Bool := nol ls i && Nat.ble (i + 1) ls.length
theorem oks_lt {ls : List (Option VV)} {i : Nat} (h : oks ls i = true) : i < ls.length := Nat.le_of_ble_eq_true (Bool.and_eq_true _ _ ▸ h).2
theorem nol_cat {b : Nat} {ρ : Nat → Nat} {ls : List (Option VV)} {j : Nat} {v : VV} (h : nol ls (j + 1) = true) (hv : ls[j]? = some (some v)) : (cv b ρ v).category ≠ 2 := by
  simp only [nol, hv] at h
  rcases v with x | x | _ | _ | x
  · simp [cv, Value.category]
  · simp at h
  · simp [cv, Value.category]
  · simp [cv, Value.category]
  · simp [cv, Value.category]
theorem lv_setv {b : Nat} {ρ : Nat → Nat} {ls : List (Option VV)} {i : Nat} {v : VV} {q : Nat × Value} (ho : oks ls i = true) (hq : q ∈ lcv b ρ (ls.set i (some v))) : q ∈ (i, cv b ρ v) :: (lcv b ρ ls).filter (fun q => !(q.1 == i) && !(q.1 + 1 == i && q.2.category == 2)) := by
  obtain ⟨w, h1, h2⟩ := mem_lcv.mp hq
  obtain ⟨k, u⟩ := q
  dsimp only at h1 h2
  subst h2
  have hno : nol ls i = true := (Bool.and_eq_true _ _ ▸ ho).1
  by_cases hk : k = i
  · subst hk
    rw [List.getElem?_set_self (oks_lt ho)] at h1
    cases h1
    exact List.mem_cons_self
  · rw [List.getElem?_set_ne (Ne.symm hk)] at h1
    refine List.mem_cons_of_mem _ (List.mem_filter.mpr ⟨mem_lcv.mpr ⟨w, h1, rfl⟩, ?_⟩)
    have hc : ¬ (k + 1 = i ∧ (cv b ρ w).category = 2) := by
      rintro ⟨e, hc⟩
      subst e
      exact nol_cat hno h1 hc
    simp only [Bool.and_eq_true, Bool.not_eq_true', beq_eq_false_iff_ne, ne_eq, Bool.and_eq_false_iff]
    refine ⟨hk, ?_⟩
    by_cases e : k + 1 = i
    · exact Or.inr fun z => hc ⟨e, z⟩
    · exact Or.inl e
theorem lv_setl {b : Nat} {ρ : Nat → Nat} {ls : List (Option VV)} {i : Nat} {v : VV} {q : Nat × Value} (ho : oks ls i = true) (hi : i + 1 < ls.length) (hq : q ∈ lcv b ρ ((ls.set i (some v)).set (i + 1) none)) : q ∈ (i, cv b ρ v) :: (lcv b ρ ls).filter (fun q => !(q.1 == i) && (!(q.1 == i + 1) && !(q.1 + 1 == i && q.2.category == 2))) := by
  obtain ⟨w, h1, h2⟩ := mem_lcv.mp hq
  obtain ⟨k, u⟩ := q
  dsimp only at h1 h2
  subst h2
  have hno : nol ls i = true := (Bool.and_eq_true _ _ ▸ ho).1
  by_cases hk1 : k = i + 1
  · subst hk1
    rw [List.getElem?_set_self (by rw [List.length_set]; exact hi)] at h1
    cases h1
  rw [List.getElem?_set_ne (Ne.symm hk1)] at h1
  by_cases hk : k = i
  · subst hk
    rw [List.getElem?_set_self (oks_lt ho)] at h1
    cases h1
    exact List.mem_cons_self
  · rw [List.getElem?_set_ne (Ne.symm hk)] at h1
    refine List.mem_cons_of_mem _ (List.mem_filter.mpr ⟨mem_lcv.mpr ⟨w, h1, rfl⟩, ?_⟩)
    have hc : ¬ (k + 1 = i ∧ (cv b ρ w).category = 2) := by
      rintro ⟨e, hc⟩
      subst e
      exact nol_cat hno h1 hc
    simp only [Bool.and_eq_true, Bool.not_eq_true', beq_eq_false_iff_ne, ne_eq, Bool.and_eq_false_iff]
    refine ⟨hk, hk1, ?_⟩
    by_cases e : k + 1 = i
    · exact Or.inr fun z => hc ⟨e, z⟩
    · exact Or.inl e
-- wf
theorem wfs_c {n : Nat} {st : List VV} {v : VV} (hv : wfv n v) (h : wfs n st) : wfs n (v :: st) := fun w hw => by
  rcases List.mem_cons.mp hw with rfl | hw
  · exact hv
  · exact h w hw
theorem wfs_t {n : Nat} {st : List VV} {v : VV} (h : wfs n (v :: st)) : wfs n st := fun w hw => h w (List.mem_cons_of_mem _ hw)
theorem wfs_h {n : Nat} {st : List VV} {v : VV} (h : wfs n (v :: st)) : wfv n v := h v List.mem_cons_self
theorem wfo_g {n : Nat} {ls : List (Option VV)} {i : Nat} {v : VV} (h : wfo n ls) (hi : ls[i]? = some (some v)) : wfv n v := h v (List.mem_of_getElem? hi)
theorem wfo_s {n : Nat} {ls : List (Option VV)} {i : Nat} {o : Option VV} (h : wfo n ls) (ho : ∀ v, o = some v → wfv n v) : wfo n (ls.set i o) := fun v hv => by
  rcases List.mem_or_eq_of_mem_set hv with h1 | h1
  · exact h v h1
  · exact ho v h1.symm
end
section
-- worlds
theorem wd_get {X : CX} {ρ : Nat → Nat} {Z : List Sh} {g : Mem} {i : Nat} {sh : Sh} (h : Z[i]? = some sh) : (wd X ρ Z g)[i]? = some (ρ i, ent X.2.2.2.2 ρ (g i) sh) := by
  unfold wd
  rw [List.getElem?_mapIdx, h]
  rfl
theorem wd_set {X : CX} {ρ : Nat → Nat} {Z : List Sh} {g g' : Mem} {i : Nat} {sh : Sh} {E : va_E} (h : Z[i]? = some sh) (ho : ∀ j, j ≠ i → g' j = g j) (he : ent X.2.2.2.2 ρ (g' i) sh = E) : (wd X ρ Z g).set i (ρ i, E) = wd X ρ Z g' := by
  apply List.ext_getElem?
  intro j
  by_cases hj : j = i
  · subst hj
    have hl : j < (wd X ρ Z g).length := (List.getElem?_eq_some_iff.mp (wd_get (X := X) (ρ := ρ) (g := g) h)).1
    rw [List.getElem?_set_self hl, wd_get h, he]
  · rw [List.getElem?_set_ne (Ne.symm hj)]
    unfold wd
    rw [List.getElem?_mapIdx, List.getElem?_mapIdx, ho j hj]
theorem mu_off {g : Mem} {i : Nat} {k v : Int} {j : Nat} (h : j ≠ i) : mu g i k v j = g j := by
  funext q
  simp [mu, h]
theorem mu_row (g : Mem) (i : Nat) (k v : Int) : mu g i k v i = fun q => if q = k then v else g i q := by
  funext q
  simp [mu]
theorem ent_put {cA : Nat → ClassId} {ρ : Nat → Nat} {row : Int → Int} {c k : Nat} {fs : List (Option (Option Nat))} {v : Int} (hf : fs[k]? = some none) : ent cA ρ (fun q => if q = (k : Int) then v else row q) (.inr (.inr (c, fs))) = .inr (c, (fs.mapIdx (fun k f => fvl ρ (row k) f)).set k (.int (Int32.ofInt v))) := by
  show Sum.inr (c, _) = _
  congr 2
  apply List.ext_getElem?
  intro j
  by_cases hj : j = k
  · subst hj
    have hl := (List.getElem?_eq_some_iff.mp hf).1
    rw [List.getElem?_set_self (by rw [List.length_mapIdx]; exact hl), List.getElem?_mapIdx, hf]
    simp [fvl]
  · rw [List.getElem?_set_ne (Ne.symm hj), List.getElem?_mapIdx, List.getElem?_mapIdx]
    cases fs[j]? with
    | none => rfl
    | some f =>
      have hj' : ¬ ((j : Int) = (k : Int)) := by omega
      cases f <;> simp [fvl, hj']
-- the static part's words
section RSp
variable {X : CX} {d : Nat} {M : MI} {mc ms : Nat} {Q : Option VV → List Sh → Mem → Prop} {p : Program} {l : Launch} {e : Env} {R : Room} {s : State} {m : MethodId} {args : Array Value} {below : List Frame} {meth : Method} {c : Code} {Qw : State → Prop} {A : Nat → Prop} {ρ0 : Nat → Nat} {n0 : Nat}
theorem RS.ex (S : RS X d M mc ms Q p l e R s m args below meth c Qw A ρ0 n0) : p.tables.exec = Jvm.exec := S.1
theorem RS.co (S : RS X d M mc ms Q p l e R s m args below meth c Qw A ρ0 n0) : c.code = M.2.1 := S.2.1
theorem RS.ml (S : RS X d M mc ms Q p l e R s m args below meth c Qw A ρ0 n0) : c.maxLocals = M.2.2.1 := S.2.2.1
theorem RS.ow (S : RS X d M mc ms Q p l e R s m args below meth c Qw A ρ0 n0) : s.vm.findClass M.1.cls = some m.cls := S.2.2.2.1
theorem RS.ts (S : RS X d M mc ms Q p l e R s m args below meth c Qw A ρ0 n0) : ∀ w ∈ gTbl, w.before args s = true := S.2.2.2.2.1
theorem RS.nw (S : RS X d M mc ms Q p l e R s m args below meth c Qw A ρ0 n0) : NW s := S.2.2.2.2.2.1
theorem RS.K (S : RS X d M mc ms Q p l e R s m args below meth c Qw A ρ0 n0) : va_K X.2.2.2.1 vwCl (tysX X) s := S.2.2.2.2.2.2.1
theorem RS.rt (S : RS X d M mc ms Q p l e R s m args below meth c Qw A ρ0 n0) : meth.sig.returnType = M.2.2.2 := S.2.2.2.2.2.2.2.1
theorem RS.lk (S : RS X d M mc ms Q p l e R s m args below meth c Qw A ρ0 n0) : meth.locks = false := S.2.2.2.2.2.2.2.2.1
theorem RS.nm (S : RS X d M mc ms Q p l e R s m args below meth c Qw A ρ0 n0) : meth.name = M.1.name := S.2.2.2.2.2.2.2.2.2.1
theorem RS.rm (S : RS X d M mc ms Q p l e R s m args below meth c Qw A ρ0 n0) : d ≤ R.frames ∧ 64 * d ≤ R.locals ∧ mc ≤ R.cells ∧ ms ≤ R.slots := S.2.2.2.2.2.2.2.2.2.2.1
theorem RS.hA (S : RS X d M mc ms Q p l e R s m args below meth c Qw A ρ0 n0) : ∀ q : Nat, s.heap.size ≤ q → A q := S.2.2.2.2.2.2.2.2.2.2.2.1
theorem RS.sc (S : RS X d M mc ms Q p l e R s m args below meth c Qw A ρ0 n0) : M.1.name = "law" → va_X X.1 X.2.1 (fun j : Nat => Int32.ofInt (X.2.2.1 j)) s s.heap ∧ X.1 < s.heap.size ∧ ¬ A X.1 := S.2.2.2.2.2.2.2.2.2.2.2.2.1
end RSp
section RDp
variable {X : CX} {s : State} {A : Nat → Prop} {ρ0 : Nat → Nat} {n0 nL : Nat} {H : Heap} {locs : List Loc} {ρ : Nat → Nat} {arr : Array Slot} {ls : List (Option VV)} {st : List VV} {Z : List Sh} {g : Mem}
theorem RD.P (D : RD X s A ρ0 n0 nL H locs ρ arr ls st Z g) : va_P X.2.2.2.1 vwCl (wd X ρ Z g) H := D.1
theorem RD.D (D : RD X s A ρ0 n0 nL H locs ρ arr ls st Z g) : va_D A (wd X ρ Z g) := D.2.1
theorem RD.S (D : RD X s A ρ0 n0 nL H locs ρ arr ls st Z g) : va_S A s.heap H locs := D.2.2.1
theorem RD.z (D : RD X s A ρ0 n0 nL H locs ρ arr ls st Z g) : wfz Z := D.2.2.2.1
theorem RD.o (D : RD X s A ρ0 n0 nL H locs ρ arr ls st Z g) : wfo Z.length ls := D.2.2.2.2.1
theorem RD.sk (D : RD X s A ρ0 n0 nL H locs ρ arr ls st Z g) : wfs Z.length st := D.2.2.2.2.2.1
theorem RD.l (D : RD X s A ρ0 n0 nL H locs ρ arr ls st Z g) : lv_has arr nL (lcv X.1 ρ ls) := D.2.2.2.2.2.2.1
theorem RD.n (D : RD X s A ρ0 n0 nL H locs ρ arr ls st Z g) : ls.length = nL := D.2.2.2.2.2.2.2.1
theorem RD.ag (D : RD X s A ρ0 n0 nL H locs ρ arr ls st Z g) : Agr ρ0 n0 ρ Z.length := D.2.2.2.2.2.2.2.2
theorem RD.stk (D : RD X s A ρ0 n0 nL H locs ρ arr ls st Z g) {st' : List VV} (h : wfs Z.length st') : RD X s A ρ0 n0 nL H locs ρ arr ls st' Z g := ⟨D.P, D.D, D.S, D.z, D.o, h, D.l, D.n, D.ag⟩
theorem RD.loc (D : RD X s A ρ0 n0 nL H locs ρ arr ls st Z g) {st' : List VV} {arr' : Array Slot} {ls' : List (Option VV)} (h : wfs Z.length st') (ho : wfo Z.length ls') (hl : lv_has arr' nL (lcv X.1 ρ ls')) (hn : ls'.length = ls.length) : RD X s A ρ0 n0 nL H locs ρ arr' ls' st' Z g := ⟨D.P, D.D, D.S, D.z, ho, h, hl, hn.trans D.n, D.ag⟩
theorem RD.mem (D : RD X s A ρ0 n0 nL H locs ρ arr ls st Z g) {st' : List VV} {g' : Mem} {H' : Heap} {locs' : List Loc} (h : wfs Z.length st') (hP : va_P X.2.2.2.1 vwCl (wd X ρ Z g') H') (hD : va_D A (wd X ρ Z g')) (hS : va_S A s.heap H' locs') : RD X s A ρ0 n0 nL H' locs' ρ arr ls st' Z g' := ⟨hP, hD, hS, D.z, D.o, h, D.l, D.n, D.ag⟩
end RDp
section Rules
variable {X : CX} {d : Nat} {M : MI} {mc ms : Nat} {Q : Option VV → List Sh → Mem → Prop} {k n pc pc' : Nat} {ls : List (Option VV)} {st : List VV} {Z : List Sh} {g : Mem}
theorem r_iconst {z : Int} (hd : decode M.2.1 pc = .ok (.iconst z, 1)) (hp : pc + 1 = pc') (kk : AJ X d M mc ms Q k n pc' ls (vi z :: st) Z g) : AJ X d M mc ms Q k n pc ls st Z g := by
  intro p l e R s m args below meth c Qw A ρ0 n0 S H locs ρ arr D
  subst hp
  exact lv_iconst S.ex S.co hd rfl (kk p l e R s m args below meth c Qw A ρ0 n0 S H locs ρ arr (D.stk (wfs_c trivial D.sk)))
theorem r_bipush {z : Int} (hd : decode M.2.1 pc = .ok (.bipush z, 2)) (hp : pc + 2 = pc') (hz : (Int8.ofInt z).toInt32 = Int32.ofInt z) (kk : AJ X d M mc ms Q k n pc' ls (vi z :: st) Z g) : AJ X d M mc ms Q k n pc ls st Z g := by
  intro p l e R s m args below meth c Qw A ρ0 n0 S H locs ρ arr D
  subst hp
  exact lv_bipush S.ex S.co hd hz (kk p l e R s m args below meth c Qw A ρ0 n0 S H locs ρ arr (D.stk (wfs_c trivial D.sk)))
theorem r_sipush {z : Int} (hd : decode M.2.1 pc = .ok (.sipush z, 3)) (hp : pc + 3 = pc') (hz : (Int16.ofInt z).toInt32 = Int32.ofInt z) (kk : AJ X d M mc ms Q k n pc' ls (vi z :: st) Z g) : AJ X d M mc ms Q k n pc ls st Z g := by
  intro p l e R s m args below meth c Qw A ρ0 n0 S H locs ρ arr D
  subst hp
  exact lv_sipush S.ex S.co hd hz (kk p l e R s m args below meth c Qw A ρ0 n0 S H locs ρ arr (D.stk (wfs_c trivial D.sk)))
theorem r_ldc {i : Nat} {z : Int} (hd : decode M.2.1 pc = .ok (.ldc i, 2)) (hp : pc + 2 = pc') (hw : Cond.constant M.1.cls i (Int32.ofInt z) ∈ gTbl) (kk : AJ X d M mc ms Q k n pc' ls (vi z :: st) Z g) : AJ X d M mc ms Q k n pc ls st Z g := by
  intro p l e R s m args below meth c Qw A ρ0 n0 S H locs ρ arr D
  subst hp
  exact lv_ldc S.ex S.co S.ow (S.ts _ hw) hd (kk p l e R s m args below meth c Qw A ρ0 n0 S H locs ρ arr (D.stk (wfs_c trivial D.sk)))
theorem r_ldc_w {i : Nat} {z : Int} (hd : decode M.2.1 pc = .ok (.ldc_w i, 3)) (hp : pc + 3 = pc') (hw : Cond.constant M.1.cls i (Int32.ofInt z) ∈ gTbl) (kk : AJ X d M mc ms Q k n pc' ls (vi z :: st) Z g) : AJ X d M mc ms Q k n pc ls st Z g := by
  intro p l e R s m args below meth c Qw A ρ0 n0 S H locs ρ arr D
  subst hp
  exact lv_ldcw S.ex S.co S.ow (S.ts _ hw) hd (kk p l e R s m args below meth c Qw A ρ0 n0 S H locs ρ arr (D.stk (wfs_c trivial D.sk)))
theorem r_ldc2_w {i : Nat} {z : Int} (hd : decode M.2.1 pc = .ok (.ldc2_w i, 3)) (hp : pc + 3 = pc') (hw : Cond.constantLong M.1.cls i (Int64.ofInt z) ∈ gTbl) (kk : AJ X d M mc ms Q k n pc' ls (vl z :: st) Z g) : AJ X d M mc ms Q k n pc ls st Z g := by
  intro p l e R s m args below meth c Qw A ρ0 n0 S H locs ρ arr D
  subst hp
  exact lv_ldc2 S.ex S.co S.ow (S.ts _ hw) hd (kk p l e R s m args below meth c Qw A ρ0 n0 S H locs ρ arr (D.stk (wfs_c trivial D.sk)))
theorem r_iload_n {i : Fin 4} {x : Int} (hd : decode M.2.1 pc = .ok (.iload_n i, 1)) (hp : pc + 1 = pc') (hl : ls[i.val]? = some (some (vi x))) (kk : AJ X d M mc ms Q k n pc' ls (vi x :: st) Z g) : AJ X d M mc ms Q k n pc ls st Z g := by
  intro p l e R s m args below meth c Qw A ρ0 n0 S H locs ρ arr D
  subst hp
  exact lv_iload_n S.ex S.co hd rfl (lv_get D.l hl) (kk p l e R s m args below meth c Qw A ρ0 n0 S H locs ρ arr (D.stk (wfs_c trivial D.sk)))
theorem r_iload {i : Nat} {x : Int} (hd : decode M.2.1 pc = .ok (.iload i, 2)) (hp : pc + 2 = pc') (hl : ls[i]? = some (some (vi x))) (kk : AJ X d M mc ms Q k n pc' ls (vi x :: st) Z g) : AJ X d M mc ms Q k n pc ls st Z g := by
  intro p l e R s m args below meth c Qw A ρ0 n0 S H locs ρ arr D
  subst hp
  exact lv_iload S.ex S.co hd (lv_get D.l hl) (kk p l e R s m args below meth c Qw A ρ0 n0 S H locs ρ arr (D.stk (wfs_c trivial D.sk)))
theorem r_lload_n {i : Fin 4} {x : Int} (hd : decode M.2.1 pc = .ok (.lload_n i, 1)) (hp : pc + 1 = pc') (hl : ls[i.val]? = some (some (vl x))) (kk : AJ X d M mc ms Q k n pc' ls (vl x :: st) Z g) : AJ X d M mc ms Q k n pc ls st Z g := by
  intro p l e R s m args below meth c Qw A ρ0 n0 S H locs ρ arr D
  subst hp
  exact lv_lload_n S.ex S.co hd rfl (lv_get D.l hl) (kk p l e R s m args below meth c Qw A ρ0 n0 S H locs ρ arr (D.stk (wfs_c trivial D.sk)))
theorem r_aload_n {i : Fin 4} {x : Nat} (hd : decode M.2.1 pc = .ok (.aload_n i, 1)) (hp : pc + 1 = pc') (hl : ls[i.val]? = some (some (vr x))) (kk : AJ X d M mc ms Q k n pc' ls (vr x :: st) Z g) : AJ X d M mc ms Q k n pc ls st Z g := by
  intro p l e R s m args below meth c Qw A ρ0 n0 S H locs ρ arr D
  subst hp
  exact lv_aload_n S.ex S.co hd rfl (lv_get D.l hl) (kk p l e R s m args below meth c Qw A ρ0 n0 S H locs ρ arr (D.stk (wfs_c (wfo_g D.o hl) D.sk)))
theorem r_aload_s {i : Fin 4} (hd : decode M.2.1 pc = .ok (.aload_n i, 1)) (hp : pc + 1 = pc') (hl : ls[i.val]? = some (some vsc)) (kk : AJ X d M mc ms Q k n pc' ls (vsc :: st) Z g) : AJ X d M mc ms Q k n pc ls st Z g := by
  intro p l e R s m args below meth c Qw A ρ0 n0 S H locs ρ arr D
  subst hp
  exact lv_aload_n S.ex S.co hd rfl (lv_get D.l hl) (kk p l e R s m args below meth c Qw A ρ0 n0 S H locs ρ arr (D.stk (wfs_c trivial D.sk)))
theorem r_istore_n {i : Fin 4} {x : Int} (hd : decode M.2.1 pc = .ok (.istore_n i, 1)) (hp : pc + 1 = pc') (ho : oks ls i.val = true) (kk : AJ X d M mc ms Q k n pc' (ls.set i.val (some (vi x))) st Z g) : AJ X d M mc ms Q k n pc ls (vi x :: st) Z g := by
  intro p l e R s m args below meth c Qw A ρ0 n0 S H locs ρ arr D
  subst hp
  refine lv_istore_n S.ex S.co hd rfl D.l (by rw [← D.n]; exact oks_lt ho) rfl fun arr' h => ?_
  exact kk p l e R s m args below meth c Qw A ρ0 n0 S H locs ρ arr' (D.loc (wfs_t D.sk) (wfo_s D.o (fun v h => by cases h; trivial)) (lv_mono h fun q hq => lv_setv ho hq) (List.length_set ..))
theorem r_istore {i : Nat} {x : Int} (hd : decode M.2.1 pc = .ok (.istore i, 2)) (hp : pc + 2 = pc') (ho : oks ls i = true) (kk : AJ X d M mc ms Q k n pc' (ls.set i (some (vi x))) st Z g) : AJ X d M mc ms Q k n pc ls (vi x :: st) Z g := by
  intro p l e R s m args below meth c Qw A ρ0 n0 S H locs ρ arr D
  subst hp
  refine lv_istore S.ex S.co hd D.l (by rw [← D.n]; exact oks_lt ho) rfl fun arr' h => ?_
  exact kk p l e R s m args below meth c Qw A ρ0 n0 S H locs ρ arr' (D.loc (wfs_t D.sk) (wfo_s D.o (fun v h => by cases h; trivial)) (lv_mono h fun q hq => lv_setv ho hq) (List.length_set ..))
theorem r_astore_n {i : Fin 4} {x : Nat} (hd : decode M.2.1 pc = .ok (.astore_n i, 1)) (hp : pc + 1 = pc') (ho : oks ls i.val = true) (kk : AJ X d M mc ms Q k n pc' (ls.set i.val (some (vr x))) st Z g) : AJ X d M mc ms Q k n pc ls (vr x :: st) Z g := by
  intro p l e R s m args below meth c Qw A ρ0 n0 S H locs ρ arr D
  subst hp
  refine lv_astore_n S.ex S.co hd rfl D.l (by rw [← D.n]; exact oks_lt ho) rfl fun arr' h => ?_
  exact kk p l e R s m args below meth c Qw A ρ0 n0 S H locs ρ arr' (D.loc (wfs_t D.sk) (wfo_s D.o (fun v h => by cases h; exact wfs_h D.sk)) (lv_mono h fun q hq => lv_setv ho hq) (List.length_set ..))
theorem r_lstore_n {i : Fin 4} {x : Int} (hd : decode M.2.1 pc = .ok (.lstore_n i, 1)) (hp : pc + 1 = pc') (ho : oks ls i.val = true) (ho2 : Nat.ble (i.val + 2) ls.length = true) (kk : AJ X d M mc ms Q k n pc' ((ls.set i.val (some (vl x))).set (i.val + 1) none) st Z g) : AJ X d M mc ms Q k n pc ls (vl x :: st) Z g := by
  intro p l e R s m args below meth c Qw A ρ0 n0 S H locs ρ arr D
  subst hp
  have hi : i.val + 1 < ls.length := Nat.le_of_ble_eq_true ho2
  refine lv_lstore_n S.ex S.co hd rfl D.l (by rw [← D.n]; exact hi) rfl fun arr' h => ?_
  exact kk p l e R s m args below meth c Qw A ρ0 n0 S H locs ρ arr' (D.loc (wfs_t D.sk) (wfo_s (wfo_s D.o (fun v h => by cases h; trivial)) (fun v h => by cases h)) (lv_mono h fun q hq => lv_setl ho hi hq) (by rw [List.length_set, List.length_set]))
theorem r_iinc {i : Nat} {x z : Int} (hd : decode M.2.1 pc = .ok (.iinc i z, 3)) (hp : pc + 3 = pc') (hl : ls[i]? = some (some (vi x))) (ho : oks ls i = true) (kk : AJ X d M mc ms Q k n pc' (ls.set i (some (vi (x + z)))) st Z g) : AJ X d M mc ms Q k n pc ls st Z g := by
  intro p l e R s m args below meth c Qw A ρ0 n0 S H locs ρ arr D
  subst hp
  obtain ⟨kq, hkq⟩ := List.getElem?_of_mem (mem_lcv (b := X.1) (ρ := ρ) (q := (i, cv X.1 ρ (vi x))).mpr ⟨_, hl, rfl⟩)
  refine lv_iinc (v := Int32.ofInt (x + z)) S.ex S.co hd D.l hkq (by rw [Int32.ofInt_add]) (by rw [← D.n]; exact oks_lt ho) rfl fun arr' h => ?_
  exact kk p l e R s m args below meth c Qw A ρ0 n0 S H locs ρ arr' (D.loc D.sk (wfo_s D.o (fun v h => by cases h; trivial)) (lv_mono h fun q hq => lv_setv (v := vi (x + z)) ho hq) (List.length_set ..))
theorem r_iadd {a b : Int} (hd : decode M.2.1 pc = .ok (.iadd, 1)) (hp : pc + 1 = pc') (kk : AJ X d M mc ms Q k n pc' ls (vi (a + b) :: st) Z g) : AJ X d M mc ms Q k n pc ls (vi b :: vi a :: st) Z g := by
  intro p l e R s m args below meth c Qw A ρ0 n0 S H locs ρ arr D
  subst hp
  have h := kk p l e R s m args below meth c Qw A ρ0 n0 S H locs ρ arr (D.stk (wfs_c trivial (wfs_t (wfs_t D.sk))))
  refine lv_iadd S.ex S.co hd ?_
  rw [← Int32.ofInt_add]
  exact h
theorem r_isub {a b : Int} (hd : decode M.2.1 pc = .ok (.isub, 1)) (hp : pc + 1 = pc') (kk : AJ X d M mc ms Q k n pc' ls (vi (a - b) :: st) Z g) : AJ X d M mc ms Q k n pc ls (vi b :: vi a :: st) Z g := by
  intro p l e R s m args below meth c Qw A ρ0 n0 S H locs ρ arr D
  subst hp
  have h := kk p l e R s m args below meth c Qw A ρ0 n0 S H locs ρ arr (D.stk (wfs_c trivial (wfs_t (wfs_t D.sk))))
  refine lv_isub S.ex S.co hd ?_
  rw [← Int32.ofInt_sub]
  exact h
theorem r_imul {a b : Int} (hd : decode M.2.1 pc = .ok (.imul, 1)) (hp : pc + 1 = pc') (kk : AJ X d M mc ms Q k n pc' ls (vi (a * b) :: st) Z g) : AJ X d M mc ms Q k n pc ls (vi b :: vi a :: st) Z g := by
  intro p l e R s m args below meth c Qw A ρ0 n0 S H locs ρ arr D
  subst hp
  have h := kk p l e R s m args below meth c Qw A ρ0 n0 S H locs ρ arr (D.stk (wfs_c trivial (wfs_t (wfs_t D.sk))))
  refine lv_imul S.ex S.co hd ?_
  rw [← Int32.ofInt_mul]
  exact h
theorem r_idiv {a b : Int} (hd : decode M.2.1 pc = .ok (.idiv, 1)) (hp : pc + 1 = pc') (ha : R32 a) (hb : R32 b) (h0 : b ≠ 0) (kk : AJ X d M mc ms Q k n pc' ls (vi (a.tdiv b) :: st) Z g) : AJ X d M mc ms Q k n pc ls (vi b :: vi a :: st) Z g := by
  intro p l e R s m args below meth c Qw A ρ0 n0 S H locs ρ arr D
  subst hp
  have h := kk p l e R s m args below meth c Qw A ρ0 n0 S H locs ρ arr (D.stk (wfs_c trivial (wfs_t (wfs_t D.sk))))
  refine lv_idiv S.ex S.co hd (by rw [i32_0, i32_eq hb (by decide)]; exact h0) ?_
  rw [i32_div ha hb]
  exact h
theorem r_irem {a b : Int} (hd : decode M.2.1 pc = .ok (.irem, 1)) (hp : pc + 1 = pc') (ha : R32 a) (hb : R32 b) (h0 : b ≠ 0) (kk : AJ X d M mc ms Q k n pc' ls (vi (a.tmod b) :: st) Z g) : AJ X d M mc ms Q k n pc ls (vi b :: vi a :: st) Z g := by
  intro p l e R s m args below meth c Qw A ρ0 n0 S H locs ρ arr D
  subst hp
  have h := kk p l e R s m args below meth c Qw A ρ0 n0 S H locs ρ arr (D.stk (wfs_c trivial (wfs_t (wfs_t D.sk))))
  refine lv_irem S.ex S.co hd (by rw [i32_0, i32_eq hb (by decide)]; exact h0) ?_
  rw [i32_div ha hb, ← Int32.ofInt_mul, ← Int32.ofInt_sub]
  have e1 : a - a.tdiv b * b = a.tmod b := by
    have := Int.tmod_add_mul_tdiv a b
    rw [Int.mul_comm] at this
    omega
  rw [e1]
  exact h
end Rules
end
section
-- bit operations on numbers
def b_and (a b : Int) : Int := (Int32.ofInt a &&& Int32.ofInt b).toInt
def b_or (a b : Int) : Int := (Int32.ofInt a ||| Int32.ofInt b).toInt
def b_xor (a b : Int) : Int := (Int32.ofInt a ^^^ Int32.ofInt b).toInt
def b_shl (a b : Int) : Int := (Int32.ofInt a <<< (Int32.ofInt b &&& 31)).toInt
def b_shr (a b : Int) : Int := (Int32.ofInt a >>> (Int32.ofInt b &&& 31)).toInt
def b_ushr (a b : Int) : Int := ((Int32.ofInt a).toUInt32 >>> ((Int32.ofInt b).toUInt32 &&& Int32.toUInt32 31)).toInt32.toInt
def l_and (a b : Int) : Int := (Int64.ofInt a &&& Int64.ofInt b).toInt
def l_or (a b : Int) : Int := (Int64.ofInt a ||| Int64.ofInt b).toInt
def l_xor (a b : Int) : Int := (Int64.ofInt a ^^^ Int64.ofInt b).toInt
def l_shl (a b : Int) : Int := (Int64.ofInt a <<< ((Int32.ofInt b).toInt64 &&& 63)).toInt
def l_shr (a b : Int) : Int := (Int64.ofInt a >>> ((Int32.ofInt b).toInt64 &&& 63)).toInt
theorem i32_of (x : Int32) : Int32.ofInt x.toInt = x := Int32.ofInt_toInt x
theorem i64_of (x : Int64) : Int64.ofInt x.toInt = x := Int64.ofInt_toInt x
theorem i32_R (x : Int32) : R32 x.toInt := ⟨by have := Int32.le_toInt x; omega, by have := Int32.toInt_lt x; omega⟩
theorem i64_R (x : Int64) : R64 x.toInt := ⟨by have := Int64.le_toInt x; omega, by have := Int64.toInt_lt x; omega⟩
section Rules
variable {X : CX} {d : Nat} {M : MI} {mc ms : Nat} {Q : Option VV → List Sh → Mem → Prop} {k n pc pc' : Nat} {ls : List (Option VV)} {st : List VV} {Z : List Sh} {g : Mem}
theorem r_iand {a b : Int} (hd : decode M.2.1 pc = .ok (.iand, 1)) (hp : pc + 1 = pc') (kk : AJ X d M mc ms Q k n pc' ls (vi (b_and a b) :: st) Z g) : AJ X d M mc ms Q k n pc ls (vi b :: vi a :: st) Z g := by
  intro p l e R s m args below meth c Qw A ρ0 n0 S H locs ρ arr D
  subst hp
  have h := kk p l e R s m args below meth c Qw A ρ0 n0 S H locs ρ arr (D.stk (wfs_c trivial (wfs_t (wfs_t D.sk))))
  refine lv_iand S.ex S.co hd ?_
  rw [← i32_of (Int32.ofInt a &&& Int32.ofInt b)]
  exact h
theorem r_ior {a b : Int} (hd : decode M.2.1 pc = .ok (.ior, 1)) (hp : pc + 1 = pc') (kk : AJ X d M mc ms Q k n pc' ls (vi (b_or a b) :: st) Z g) : AJ X d M mc ms Q k n pc ls (vi b :: vi a :: st) Z g := by
  intro p l e R s m args below meth c Qw A ρ0 n0 S H locs ρ arr D
  subst hp
  have h := kk p l e R s m args below meth c Qw A ρ0 n0 S H locs ρ arr (D.stk (wfs_c trivial (wfs_t (wfs_t D.sk))))
  refine lv_ior S.ex S.co hd ?_
  rw [← i32_of (Int32.ofInt a ||| Int32.ofInt b)]
  exact h
theorem r_ixor {a b : Int} (hd : decode M.2.1 pc = .ok (.ixor, 1)) (hp : pc + 1 = pc') (kk : AJ X d M mc ms Q k n pc' ls (vi (b_xor a b) :: st) Z g) : AJ X d M mc ms Q k n pc ls (vi b :: vi a :: st) Z g := by
  intro p l e R s m args below meth c Qw A ρ0 n0 S H locs ρ arr D
  subst hp
  have h := kk p l e R s m args below meth c Qw A ρ0 n0 S H locs ρ arr (D.stk (wfs_c trivial (wfs_t (wfs_t D.sk))))
  refine lv_ixor S.ex S.co hd ?_
  rw [← i32_of (Int32.ofInt a ^^^ Int32.ofInt b)]
  exact h
theorem r_ishl {a b : Int} (hd : decode M.2.1 pc = .ok (.ishl, 1)) (hp : pc + 1 = pc') (kk : AJ X d M mc ms Q k n pc' ls (vi (b_shl a b) :: st) Z g) : AJ X d M mc ms Q k n pc ls (vi b :: vi a :: st) Z g := by
  intro p l e R s m args below meth c Qw A ρ0 n0 S H locs ρ arr D
  subst hp
  have h := kk p l e R s m args below meth c Qw A ρ0 n0 S H locs ρ arr (D.stk (wfs_c trivial (wfs_t (wfs_t D.sk))))
  refine lv_ishl S.ex S.co hd ?_
  rw [← i32_of (Int32.ofInt a <<< (Int32.ofInt b &&& 31))]
  exact h
theorem r_ishr {a b : Int} (hd : decode M.2.1 pc = .ok (.ishr, 1)) (hp : pc + 1 = pc') (kk : AJ X d M mc ms Q k n pc' ls (vi (b_shr a b) :: st) Z g) : AJ X d M mc ms Q k n pc ls (vi b :: vi a :: st) Z g := by
  intro p l e R s m args below meth c Qw A ρ0 n0 S H locs ρ arr D
  subst hp
  have h := kk p l e R s m args below meth c Qw A ρ0 n0 S H locs ρ arr (D.stk (wfs_c trivial (wfs_t (wfs_t D.sk))))
  refine lv_ishr S.ex S.co hd ?_
  rw [← i32_of (Int32.ofInt a >>> (Int32.ofInt b &&& 31))]
  exact h
theorem r_iushr {a b : Int} (hd : decode M.2.1 pc = .ok (.iushr, 1)) (hp : pc + 1 = pc') (kk : AJ X d M mc ms Q k n pc' ls (vi (b_ushr a b) :: st) Z g) : AJ X d M mc ms Q k n pc ls (vi b :: vi a :: st) Z g := by
  intro p l e R s m args below meth c Qw A ρ0 n0 S H locs ρ arr D
  subst hp
  have h := kk p l e R s m args below meth c Qw A ρ0 n0 S H locs ρ arr (D.stk (wfs_c trivial (wfs_t (wfs_t D.sk))))
  exact lv_iushr S.ex S.co hd (i32_of _).symm h
theorem r_land {a b : Int} (hd : decode M.2.1 pc = .ok (.land, 1)) (hp : pc + 1 = pc') (kk : AJ X d M mc ms Q k n pc' ls (vl (l_and a b) :: st) Z g) : AJ X d M mc ms Q k n pc ls (vl b :: vl a :: st) Z g := by
  intro p l e R s m args below meth c Qw A ρ0 n0 S H locs ρ arr D
  subst hp
  have h := kk p l e R s m args below meth c Qw A ρ0 n0 S H locs ρ arr (D.stk (wfs_c trivial (wfs_t (wfs_t D.sk))))
  refine lv_land S.ex S.co hd ?_
  rw [← i64_of (Int64.ofInt a &&& Int64.ofInt b)]
  exact h
theorem r_lor {a b : Int} (hd : decode M.2.1 pc = .ok (.lor, 1)) (hp : pc + 1 = pc') (kk : AJ X d M mc ms Q k n pc' ls (vl (l_or a b) :: st) Z g) : AJ X d M mc ms Q k n pc ls (vl b :: vl a :: st) Z g := by
  intro p l e R s m args below meth c Qw A ρ0 n0 S H locs ρ arr D
  subst hp
  have h := kk p l e R s m args below meth c Qw A ρ0 n0 S H locs ρ arr (D.stk (wfs_c trivial (wfs_t (wfs_t D.sk))))
  refine lv_lor S.ex S.co hd ?_
  rw [← i64_of (Int64.ofInt a ||| Int64.ofInt b)]
  exact h
theorem r_lxor {a b : Int} (hd : decode M.2.1 pc = .ok (.lxor, 1)) (hp : pc + 1 = pc') (kk : AJ X d M mc ms Q k n pc' ls (vl (l_xor a b) :: st) Z g) : AJ X d M mc ms Q k n pc ls (vl b :: vl a :: st) Z g := by
  intro p l e R s m args below meth c Qw A ρ0 n0 S H locs ρ arr D
  subst hp
  have h := kk p l e R s m args below meth c Qw A ρ0 n0 S H locs ρ arr (D.stk (wfs_c trivial (wfs_t (wfs_t D.sk))))
  refine lv_lxor S.ex S.co hd ?_
  rw [← i64_of (Int64.ofInt a ^^^ Int64.ofInt b)]
  exact h
theorem r_ladd {a b : Int} (hd : decode M.2.1 pc = .ok (.ladd, 1)) (hp : pc + 1 = pc') (kk : AJ X d M mc ms Q k n pc' ls (vl (a + b) :: st) Z g) : AJ X d M mc ms Q k n pc ls (vl b :: vl a :: st) Z g := by
  intro p l e R s m args below meth c Qw A ρ0 n0 S H locs ρ arr D
  subst hp
  have h := kk p l e R s m args below meth c Qw A ρ0 n0 S H locs ρ arr (D.stk (wfs_c trivial (wfs_t (wfs_t D.sk))))
  refine lv_ladd S.ex S.co hd ?_
  rw [← Int64.ofInt_add]
  exact h
theorem r_lmul {a b : Int} (hd : decode M.2.1 pc = .ok (.lmul, 1)) (hp : pc + 1 = pc') (kk : AJ X d M mc ms Q k n pc' ls (vl (a * b) :: st) Z g) : AJ X d M mc ms Q k n pc ls (vl b :: vl a :: st) Z g := by
  intro p l e R s m args below meth c Qw A ρ0 n0 S H locs ρ arr D
  subst hp
  have h := kk p l e R s m args below meth c Qw A ρ0 n0 S H locs ρ arr (D.stk (wfs_c trivial (wfs_t (wfs_t D.sk))))
  refine lv_lmul S.ex S.co hd ?_
  rw [← Int64.ofInt_mul]
  exact h
theorem r_ldiv {a b : Int} (hd : decode M.2.1 pc = .ok (.ldiv, 1)) (hp : pc + 1 = pc') (ha : R64 a) (hb : R64 b) (h0 : b ≠ 0) (kk : AJ X d M mc ms Q k n pc' ls (vl (a.tdiv b) :: st) Z g) : AJ X d M mc ms Q k n pc ls (vl b :: vl a :: st) Z g := by
  intro p l e R s m args below meth c Qw A ρ0 n0 S H locs ρ arr D
  subst hp
  have h := kk p l e R s m args below meth c Qw A ρ0 n0 S H locs ρ arr (D.stk (wfs_c trivial (wfs_t (wfs_t D.sk))))
  refine lv_ldiv S.ex S.co hd (fun q => h0 ?_) ?_
  · have := Int64.toInt_inj.mpr q
    rw [i64_toInt hb] at this
    exact this
  · rw [i64_div ha hb]
    exact h
theorem r_lshl {a b : Int} (hd : decode M.2.1 pc = .ok (.lshl, 1)) (hp : pc + 1 = pc') (kk : AJ X d M mc ms Q k n pc' ls (vl (l_shl a b) :: st) Z g) : AJ X d M mc ms Q k n pc ls (vi b :: vl a :: st) Z g := by
  intro p l e R s m args below meth c Qw A ρ0 n0 S H locs ρ arr D
  subst hp
  have h := kk p l e R s m args below meth c Qw A ρ0 n0 S H locs ρ arr (D.stk (wfs_c trivial (wfs_t (wfs_t D.sk))))
  exact lv_lshl S.ex S.co hd (i64_of _).symm h
theorem r_lshr {a b : Int} (hd : decode M.2.1 pc = .ok (.lshr, 1)) (hp : pc + 1 = pc') (kk : AJ X d M mc ms Q k n pc' ls (vl (l_shr a b) :: st) Z g) : AJ X d M mc ms Q k n pc ls (vi b :: vl a :: st) Z g := by
  intro p l e R s m args below meth c Qw A ρ0 n0 S H locs ρ arr D
  subst hp
  have h := kk p l e R s m args below meth c Qw A ρ0 n0 S H locs ρ arr (D.stk (wfs_c trivial (wfs_t (wfs_t D.sk))))
  exact lv_lshr S.ex S.co hd (i64_of _).symm h
theorem r_i2l {a : Int} (hd : decode M.2.1 pc = .ok (.i2l, 1)) (hp : pc + 1 = pc') (ha : R32 a) (kk : AJ X d M mc ms Q k n pc' ls (vl a :: st) Z g) : AJ X d M mc ms Q k n pc ls (vi a :: st) Z g := by
  intro p l e R s m args below meth c Qw A ρ0 n0 S H locs ρ arr D
  subst hp
  have h := kk p l e R s m args below meth c Qw A ρ0 n0 S H locs ρ arr (D.stk (wfs_c trivial (wfs_t D.sk)))
  refine lv_i2l S.ex S.co hd ?_ h
  rw [← Int64.toInt_inj, i64_toInt ⟨by omega, by omega⟩, Int32.toInt_toInt64, i32_toInt ha]
theorem r_l2i {a : Int} (hd : decode M.2.1 pc = .ok (.l2i, 1)) (hp : pc + 1 = pc') (kk : AJ X d M mc ms Q k n pc' ls (vi a :: st) Z g) : AJ X d M mc ms Q k n pc ls (vl a :: st) Z g := by
  intro p l e R s m args below meth c Qw A ρ0 n0 S H locs ρ arr D
  subst hp
  have h := kk p l e R s m args below meth c Qw A ρ0 n0 S H locs ρ arr (D.stk (wfs_c trivial (wfs_t D.sk)))
  refine lv_l2i S.ex S.co hd ?_ h
  rw [Int64.toInt32_ofInt]
theorem cv_cat1 {b : Nat} {ρ : Nat → Nat} {v : VV} (h : (match v with | .inr (.inl _) => false | _ => true) = true) : (cv b ρ v).category = 1 := by
  rcases v with x | x | _ | _ | x
  · simp [cv, Value.category]
  · simp at h
  · simp [cv, Value.category]
  · simp [cv, Value.category]
  · simp [cv, Value.category]
theorem r_dup {v : VV} (hd : decode M.2.1 pc = .ok (.dup, 1)) (hp : pc + 1 = pc') (hv : (match v with | .inr (.inl _) => false | _ => true) = true) (kk : AJ X d M mc ms Q k n pc' ls (v :: v :: st) Z g) : AJ X d M mc ms Q k n pc ls (v :: st) Z g := by
  intro p l e R s m args below meth c Qw A ρ0 n0 S H locs ρ arr D
  subst hp
  exact lv_dup S.ex S.co hd (cv_cat1 hv) (kk p l e R s m args below meth c Qw A ρ0 n0 S H locs ρ arr (D.stk (wfs_c (wfs_h D.sk) D.sk)))
theorem r_dup2 {v w : VV} (hd : decode M.2.1 pc = .ok (.dup2, 1)) (hp : pc + 1 = pc') (hv : (match v with | .inr (.inl _) => false | _ => true) = true) (hw : (match w with | .inr (.inl _) => false | _ => true) = true) (kk : AJ X d M mc ms Q k n pc' ls (v :: w :: v :: w :: st) Z g) : AJ X d M mc ms Q k n pc ls (v :: w :: st) Z g := by
  intro p l e R s m args below meth c Qw A ρ0 n0 S H locs ρ arr D
  subst hp
  exact lv_dup2_11 S.ex S.co hd (cv_cat1 hv) (cv_cat1 hw) (kk p l e R s m args below meth c Qw A ρ0 n0 S H locs ρ arr (D.stk (wfs_c (wfs_h D.sk) (wfs_c (wfs_h (wfs_t D.sk)) D.sk))))
theorem r_goto {off : Int} {tgt : Nat} (hd : decode M.2.1 pc = .ok (.goto off, 3)) (ht : (pc : Int) + off = (tgt : Int)) (kk : AJ X d M mc ms Q k n tgt ls st Z g) : AJ X d M mc ms Q k n pc ls st Z g := by
  intro p l e R s m args below meth c Qw A ρ0 n0 S H locs ρ arr D
  exact lv_goto S.ex S.co hd ht (kk p l e R s m args below meth c Qw A ρ0 n0 S H locs ρ arr D)
theorem r_if_eq {a off : Int} {tgt : Nat} (hd : decode M.2.1 pc = .ok (.ifCond .eq off, 3)) (ht : (pc : Int) + off = (tgt : Int)) (hp : pc + 3 = pc') (ha : R32 a) (kt : a = 0 → AJ X d M mc ms Q k n tgt ls st Z g) (kf : ¬ (a = 0) → AJ X d M mc ms Q k n pc' ls st Z g) : AJ X d M mc ms Q k n pc ls (vi a :: st) Z g := by
  intro p l e R s m args below meth c Qw A ρ0 n0 S H locs ρ arr D
  subst hp
  have D' := D.stk (wfs_t D.sk)
  refine lv_if_eq S.ex S.co hd ht (fun q => kt ?_ p l e R s m args below meth c Qw A ρ0 n0 S H locs ρ arr D') (fun q => kf ?_ p l e R s m args below meth c Qw A ρ0 n0 S H locs ρ arr D')
  · exact (i32_eq ha (by decide)).mp q
  · exact fun h => q ((i32_eq ha (by decide)).mpr h)
theorem r_icmp_eq {a b off : Int} {tgt : Nat} (hd : decode M.2.1 pc = .ok (.if_icmp .eq off, 3)) (ht : (pc : Int) + off = (tgt : Int)) (hp : pc + 3 = pc') (ha : R32 a) (hb : R32 b) (kt : a = b → AJ X d M mc ms Q k n tgt ls st Z g) (kf : ¬ (a = b) → AJ X d M mc ms Q k n pc' ls st Z g) : AJ X d M mc ms Q k n pc ls (vi b :: vi a :: st) Z g := by
  intro p l e R s m args below meth c Qw A ρ0 n0 S H locs ρ arr D
  subst hp
  have D' := D.stk (wfs_t (wfs_t D.sk))
  refine lv_icmp_eq S.ex S.co hd ht (fun q => kt ?_ p l e R s m args below meth c Qw A ρ0 n0 S H locs ρ arr D') (fun q => kf ?_ p l e R s m args below meth c Qw A ρ0 n0 S H locs ρ arr D')
  · exact (i32_eq ha hb).mp q
  · exact fun h => q ((i32_eq ha hb).mpr h)
theorem r_if_ne {a off : Int} {tgt : Nat} (hd : decode M.2.1 pc = .ok (.ifCond .ne off, 3)) (ht : (pc : Int) + off = (tgt : Int)) (hp : pc + 3 = pc') (ha : R32 a) (kt : a ≠ 0 → AJ X d M mc ms Q k n tgt ls st Z g) (kf : a = 0 → AJ X d M mc ms Q k n pc' ls st Z g) : AJ X d M mc ms Q k n pc ls (vi a :: st) Z g := by
  intro p l e R s m args below meth c Qw A ρ0 n0 S H locs ρ arr D
  subst hp
  have D' := D.stk (wfs_t D.sk)
  refine lv_if_ne S.ex S.co hd ht (fun q => kt ?_ p l e R s m args below meth c Qw A ρ0 n0 S H locs ρ arr D') (fun q => kf ?_ p l e R s m args below meth c Qw A ρ0 n0 S H locs ρ arr D')
  · exact fun h => q (by rw [h]; rfl)
  · exact (i32_eq ha (by decide)).mp q
theorem r_icmp_ne {a b off : Int} {tgt : Nat} (hd : decode M.2.1 pc = .ok (.if_icmp .ne off, 3)) (ht : (pc : Int) + off = (tgt : Int)) (hp : pc + 3 = pc') (ha : R32 a) (hb : R32 b) (kt : a ≠ b → AJ X d M mc ms Q k n tgt ls st Z g) (kf : a = b → AJ X d M mc ms Q k n pc' ls st Z g) : AJ X d M mc ms Q k n pc ls (vi b :: vi a :: st) Z g := by
  intro p l e R s m args below meth c Qw A ρ0 n0 S H locs ρ arr D
  subst hp
  have D' := D.stk (wfs_t (wfs_t D.sk))
  refine lv_icmp_ne S.ex S.co hd ht (fun q => kt ?_ p l e R s m args below meth c Qw A ρ0 n0 S H locs ρ arr D') (fun q => kf ?_ p l e R s m args below meth c Qw A ρ0 n0 S H locs ρ arr D')
  · exact fun h => q (by rw [h])
  · exact (i32_eq ha hb).mp q
theorem r_if_lt {a off : Int} {tgt : Nat} (hd : decode M.2.1 pc = .ok (.ifCond .lt off, 3)) (ht : (pc : Int) + off = (tgt : Int)) (hp : pc + 3 = pc') (ha : R32 a) (kt : a < 0 → AJ X d M mc ms Q k n tgt ls st Z g) (kf : ¬ (a < 0) → AJ X d M mc ms Q k n pc' ls st Z g) : AJ X d M mc ms Q k n pc ls (vi a :: st) Z g := by
  intro p l e R s m args below meth c Qw A ρ0 n0 S H locs ρ arr D
  subst hp
  have D' := D.stk (wfs_t D.sk)
  refine lv_if_lt S.ex S.co hd ht (fun q => kt ?_ p l e R s m args below meth c Qw A ρ0 n0 S H locs ρ arr D') (fun q => kf ?_ p l e R s m args below meth c Qw A ρ0 n0 S H locs ρ arr D')
  · exact (i32_lt ha (by decide)).mp q
  · exact fun h => q ((i32_lt ha (by decide)).mpr h)
theorem r_icmp_lt {a b off : Int} {tgt : Nat} (hd : decode M.2.1 pc = .ok (.if_icmp .lt off, 3)) (ht : (pc : Int) + off = (tgt : Int)) (hp : pc + 3 = pc') (ha : R32 a) (hb : R32 b) (kt : a < b → AJ X d M mc ms Q k n tgt ls st Z g) (kf : ¬ (a < b) → AJ X d M mc ms Q k n pc' ls st Z g) : AJ X d M mc ms Q k n pc ls (vi b :: vi a :: st) Z g := by
  intro p l e R s m args below meth c Qw A ρ0 n0 S H locs ρ arr D
  subst hp
  have D' := D.stk (wfs_t (wfs_t D.sk))
  refine lv_icmp_lt S.ex S.co hd ht (fun q => kt ?_ p l e R s m args below meth c Qw A ρ0 n0 S H locs ρ arr D') (fun q => kf ?_ p l e R s m args below meth c Qw A ρ0 n0 S H locs ρ arr D')
  · exact (i32_lt ha hb).mp q
  · exact fun h => q ((i32_lt ha hb).mpr h)
theorem r_if_ge {a off : Int} {tgt : Nat} (hd : decode M.2.1 pc = .ok (.ifCond .ge off, 3)) (ht : (pc : Int) + off = (tgt : Int)) (hp : pc + 3 = pc') (ha : R32 a) (kt : 0 ≤ a → AJ X d M mc ms Q k n tgt ls st Z g) (kf : ¬ (0 ≤ a) → AJ X d M mc ms Q k n pc' ls st Z g) : AJ X d M mc ms Q k n pc ls (vi a :: st) Z g := by
  intro p l e R s m args below meth c Qw A ρ0 n0 S H locs ρ arr D
  subst hp
  have D' := D.stk (wfs_t D.sk)
  refine lv_if_ge S.ex S.co hd ht (fun q => kt ?_ p l e R s m args below meth c Qw A ρ0 n0 S H locs ρ arr D') (fun q => kf ?_ p l e R s m args below meth c Qw A ρ0 n0 S H locs ρ arr D')
  · exact (i32_le (by decide) ha).mp q
  · exact fun h => q ((i32_le (by decide) ha).mpr h)
theorem r_icmp_ge {a b off : Int} {tgt : Nat} (hd : decode M.2.1 pc = .ok (.if_icmp .ge off, 3)) (ht : (pc : Int) + off = (tgt : Int)) (hp : pc + 3 = pc') (ha : R32 a) (hb : R32 b) (kt : b ≤ a → AJ X d M mc ms Q k n tgt ls st Z g) (kf : ¬ (b ≤ a) → AJ X d M mc ms Q k n pc' ls st Z g) : AJ X d M mc ms Q k n pc ls (vi b :: vi a :: st) Z g := by
  intro p l e R s m args below meth c Qw A ρ0 n0 S H locs ρ arr D
  subst hp
  have D' := D.stk (wfs_t (wfs_t D.sk))
  refine lv_icmp_ge S.ex S.co hd ht (fun q => kt ?_ p l e R s m args below meth c Qw A ρ0 n0 S H locs ρ arr D') (fun q => kf ?_ p l e R s m args below meth c Qw A ρ0 n0 S H locs ρ arr D')
  · exact (i32_le hb ha).mp q
  · exact fun h => q ((i32_le hb ha).mpr h)
theorem r_if_gt {a off : Int} {tgt : Nat} (hd : decode M.2.1 pc = .ok (.ifCond .gt off, 3)) (ht : (pc : Int) + off = (tgt : Int)) (hp : pc + 3 = pc') (ha : R32 a) (kt : 0 < a → AJ X d M mc ms Q k n tgt ls st Z g) (kf : ¬ (0 < a) → AJ X d M mc ms Q k n pc' ls st Z g) : AJ X d M mc ms Q k n pc ls (vi a :: st) Z g := by
  intro p l e R s m args below meth c Qw A ρ0 n0 S H locs ρ arr D
  subst hp
  have D' := D.stk (wfs_t D.sk)
  refine lv_if_gt S.ex S.co hd ht (fun q => kt ?_ p l e R s m args below meth c Qw A ρ0 n0 S H locs ρ arr D') (fun q => kf ?_ p l e R s m args below meth c Qw A ρ0 n0 S H locs ρ arr D')
  · exact (i32_lt (by decide) ha).mp q
  · exact fun h => q ((i32_lt (by decide) ha).mpr h)
theorem r_icmp_gt {a b off : Int} {tgt : Nat} (hd : decode M.2.1 pc = .ok (.if_icmp .gt off, 3)) (ht : (pc : Int) + off = (tgt : Int)) (hp : pc + 3 = pc') (ha : R32 a) (hb : R32 b) (kt : b < a → AJ X d M mc ms Q k n tgt ls st Z g) (kf : ¬ (b < a) → AJ X d M mc ms Q k n pc' ls st Z g) : AJ X d M mc ms Q k n pc ls (vi b :: vi a :: st) Z g := by
  intro p l e R s m args below meth c Qw A ρ0 n0 S H locs ρ arr D
  subst hp
  have D' := D.stk (wfs_t (wfs_t D.sk))
  refine lv_icmp_gt S.ex S.co hd ht (fun q => kt ?_ p l e R s m args below meth c Qw A ρ0 n0 S H locs ρ arr D') (fun q => kf ?_ p l e R s m args below meth c Qw A ρ0 n0 S H locs ρ arr D')
  · exact (i32_lt hb ha).mp q
  · exact fun h => q ((i32_lt hb ha).mpr h)
theorem r_if_le {a off : Int} {tgt : Nat} (hd : decode M.2.1 pc = .ok (.ifCond .le off, 3)) (ht : (pc : Int) + off = (tgt : Int)) (hp : pc + 3 = pc') (ha : R32 a) (kt : a ≤ 0 → AJ X d M mc ms Q k n tgt ls st Z g) (kf : ¬ (a ≤ 0) → AJ X d M mc ms Q k n pc' ls st Z g) : AJ X d M mc ms Q k n pc ls (vi a :: st) Z g := by
  intro p l e R s m args below meth c Qw A ρ0 n0 S H locs ρ arr D
  subst hp
  have D' := D.stk (wfs_t D.sk)
  refine lv_if_le S.ex S.co hd ht (fun q => kt ?_ p l e R s m args below meth c Qw A ρ0 n0 S H locs ρ arr D') (fun q => kf ?_ p l e R s m args below meth c Qw A ρ0 n0 S H locs ρ arr D')
  · exact (i32_le ha (by decide)).mp q
  · exact fun h => q ((i32_le ha (by decide)).mpr h)
theorem r_icmp_le {a b off : Int} {tgt : Nat} (hd : decode M.2.1 pc = .ok (.if_icmp .le off, 3)) (ht : (pc : Int) + off = (tgt : Int)) (hp : pc + 3 = pc') (ha : R32 a) (hb : R32 b) (kt : a ≤ b → AJ X d M mc ms Q k n tgt ls st Z g) (kf : ¬ (a ≤ b) → AJ X d M mc ms Q k n pc' ls st Z g) : AJ X d M mc ms Q k n pc ls (vi b :: vi a :: st) Z g := by
  intro p l e R s m args below meth c Qw A ρ0 n0 S H locs ρ arr D
  subst hp
  have D' := D.stk (wfs_t (wfs_t D.sk))
  refine lv_icmp_le S.ex S.co hd ht (fun q => kt ?_ p l e R s m args below meth c Qw A ρ0 n0 S H locs ρ arr D') (fun q => kf ?_ p l e R s m args below meth c Qw A ρ0 n0 S H locs ρ arr D')
  · exact (i32_le ha hb).mp q
  · exact fun h => q ((i32_le ha hb).mpr h)
end Rules
end
section
/-- a class's tables, and a field of it as a site names it -/
def cF (c : Nat) (C : String) (T : u_T) (N : Nat) (ty : Nat → FieldType) : Prop := vwCl[c]? = some (C, T, N) ∧ (∀ w ∈ u_ws C T N, w ∈ gTbl) ∧ (∀ k, k < N → parseFieldDescriptor (T k).2.2.1 = some (ty k)) ∧ (∀ a, a < N → ∀ b, b < N → a ≠ b → (T a).2.1 ≠ (T b).2.1) ∧ ∀ k, k < N → (T k).1 = C
def fS (own : String) (idx c k : Nat) (ty : FieldType) (fin : Bool) : Prop := ∃ (C : String) (T : u_T) (N : Nat) (tyf : Nat → FieldType), cF c C T N tyf ∧ k < N ∧ Cond.fieldLink own idx C (T k).2.1 (T k).2.2.1 ∈ gTbl ∧ tyf k = ty ∧ (T k).2.2.2 = fin
theorem ent_get {cA : Nat → ClassId} {ρ : Nat → Nat} {row : Int → Int} {k : Nat} {fs : List (Option (Option Nat))} {f : Option (Option Nat)} (hf : fs[k]? = some f) : (fs.mapIdx (fun k f => fvl ρ (row k) f))[k]? = some (fvl ρ (row k) f) := by
  rw [List.getElem?_mapIdx, hf]
  rfl
theorem fits_iz {ty : FieldType} {v : Int} (h : ty = .int ∨ (ty = .boolean ∧ (v = 0 ∨ v = 1))) : narrow ty (.int (Int32.ofInt v)) = .int (Int32.ofInt v) ∧ fits ty (.int (Int32.ofInt v)) = true := by
  rcases h with rfl | ⟨rfl, rfl | rfl⟩
  · exact ⟨rfl, rfl⟩
  · exact ⟨rfl, rfl⟩
  · exact ⟨rfl, rfl⟩
theorem wfz_get {Z : List Sh} {i c : Nat} {fs : List (Option (Option Nat))} {j k : Nat} (hz : wfz Z) (h : Z[i]? = some (.inr (.inr (c, fs)))) (hf : fs[k]? = some (some (some j))) : j < Z.length := hz _ (List.mem_of_getElem? h) j (List.mem_of_getElem? hf)
theorem wfz_getq {Z : List Sh} {i t : Nat} {rs : List (Option Nat)} {j k : Nat} (hz : wfz Z) (h : Z[i]? = some (.inr (.inl (t, rs)))) (hf : rs[k]? = some (some j)) : j < Z.length := hz _ (List.mem_of_getElem? h) j (List.mem_of_getElem? hf)
section Rules
variable {X : CX} {d : Nat} {M : MI} {mc ms : Nat} {Q : Option VV → List Sh → Mem → Prop} {k n pc pc' : Nat} {ls : List (Option VV)} {st : List VV} {Z : List Sh} {g g' : Mem}
theorem r_getf {idx c0 kf i : Nat} {ty : FieldType} {fin : Bool} {fs : List (Option (Option Nat))} {x kI : Int} (hd : decode M.2.1 pc = .ok (.getfield idx, 3)) (hp : pc + 3 = pc') (hs : fS M.1.cls idx c0 kf ty fin) (hz : Z[i]? = some (.inr (.inr (c0, fs)))) (hf : fs[kf]? = some none) (hI : (kf : Int) = kI) (hv : g i kI = x) (kk : AJ X d M mc ms Q k n pc' ls (vi x :: st) Z g) : AJ X d M mc ms Q k n pc ls (vr i :: st) Z g := by
  intro p l e R s m args below meth c Qw A ρ0 n0 S H locs ρ arr D
  subst hp
  subst hI
  subst hv
  obtain ⟨C, T, N, tyf, ⟨h1, h2, h3, h4, h5⟩, h6, h7, h8, h9⟩ := hs
  have h := kk p l e R s m args below meth c Qw A ρ0 n0 S H locs ρ arr (D.stk (wfs_c trivial (wfs_t D.sk)))
  exact va_get S.ex S.co S.ts h2 S.ow S.K D.P i (wd_get hz) h1 kf h6 (S.ts _ h7) (fun x hx => by rw [h5 kf h6] at hx; exact hx) (ent_get (cA := X.2.2.2.2) hf) hd h
theorem r_getr {idx c0 kf i j : Nat} {ty : FieldType} {fin : Bool} {fs : List (Option (Option Nat))} (hd : decode M.2.1 pc = .ok (.getfield idx, 3)) (hp : pc + 3 = pc') (hs : fS M.1.cls idx c0 kf ty fin) (hz : Z[i]? = some (.inr (.inr (c0, fs)))) (hf : fs[kf]? = some (some (some j))) (kk : AJ X d M mc ms Q k n pc' ls (vr j :: st) Z g) : AJ X d M mc ms Q k n pc ls (vr i :: st) Z g := by
  intro p l e R s m args below meth c Qw A ρ0 n0 S H locs ρ arr D
  subst hp
  obtain ⟨C, T, N, tyf, ⟨h1, h2, h3, h4, h5⟩, h6, h7, h8, h9⟩ := hs
  have h := kk p l e R s m args below meth c Qw A ρ0 n0 S H locs ρ arr (D.stk (wfs_c (show j < Z.length from wfz_get D.z hz hf) (wfs_t D.sk)))
  exact va_get S.ex S.co S.ts h2 S.ow S.K D.P i (wd_get hz) h1 kf h6 (S.ts _ h7) (fun x hx => by rw [h5 kf h6] at hx; exact hx) (ent_get (cA := X.2.2.2.2) hf) hd h
theorem r_putf {idx c0 kf i : Nat} {ty : FieldType} {fs : List (Option (Option Nat))} {v kI : Int} (hd : decode M.2.1 pc = .ok (.putfield idx, 3)) (hp : pc + 3 = pc') (hs : fS M.1.cls idx c0 kf ty false) (hz : Z[i]? = some (.inr (.inr (c0, fs)))) (hf : fs[kf]? = some none) (ht : ty = .int ∨ (ty = .boolean ∧ (v = 0 ∨ v = 1))) (hI : (kf : Int) = kI) (hg : mu g i kI v = g') (kk : AJ X d M mc ms Q k n pc' ls st Z g') : AJ X d M mc ms Q k n pc ls (vi v :: vr i :: st) Z g := by
  intro p l e R s m args below meth c Qw A ρ0 n0 S H locs ρ arr D
  subst hp
  subst hI
  subst hg
  obtain ⟨C, T, N, tyf, ⟨h1, h2, h3, h4, h5⟩, h6, h7, rfl, h9⟩ := hs
  obtain ⟨hn, hfit⟩ := fits_iz ht
  have ew : (wd X ρ Z g).set i (ρ i, .inr (c0, (fs.mapIdx (fun k f => fvl ρ (g i k) f)).set kf (cv X.1 ρ (vi v)))) = wd X ρ Z (mu g i kf v) := wd_set hz (fun j hj => mu_off hj) (by rw [mu_row]; exact ent_put hf)
  refine va_put S.ex S.co S.ts h2 tyf h3 h4 S.ow S.K D.P D.D D.S i (wd_get hz) h1 kf h6 (S.ts _ h7) (fun x hx => by rw [h5 kf h6] at hx; exact hx) h9 (h3 kf h6) hn hfit (by rw [List.length_mapIdx]; exact (List.getElem?_eq_some_iff.mp hf).1) hd (fun H1 locs1 hP hD hS => ?_)
  rw [ew] at hP hD
  exact kk p l e R s m args below meth c Qw A ρ0 n0 S H1 locs1 ρ arr (D.mem (wfs_t (wfs_t D.sk)) hP hD hS)
theorem tys0 (X : CX) : (tysX X)[0]? = some (X.2.2.2.2 0, .int) := rfl
theorem tys1 (X : CX) : (tysX X)[1]? = some (X.2.2.2.2 1, .boolean) := rfl
theorem tys2 (X : CX) : (tysX X)[2]? = some (X.2.2.2.2 2, .long) := rfl
theorem r_iaload {i len : Nat} {j x : Int} (hd : decode M.2.1 pc = .ok (.iaload, 1)) (hp : pc + 1 = pc') (hz : Z[i]? = some (.inl (0, len))) (hl : len < 2147483648) (h0 : 0 ≤ j) (h1 : j < len) (hv : g i j = x) (kk : AJ X d M mc ms Q k n pc' ls (vi x :: st) Z g) : AJ X d M mc ms Q k n pc ls (vi j :: vr i :: st) Z g := by
  intro p l e R s m args below meth c Qw A ρ0 n0 S H locs ρ arr D
  subst hp
  subst hv
  obtain ⟨q1, q2⟩ := i32_in h0 h1 hl
  have h := kk p l e R s m args below meth c Qw A ρ0 n0 S H locs ρ arr (D.stk (wfs_c trivial (wfs_t (wfs_t D.sk))))
  refine va_iald S.ex S.co S.K D.P i 0 (wd_get hz) (tys0 X) q1 hd ?_
  rw [q2, show ((j.toNat : Nat) : Int) = j by omega]
  exact h
theorem r_baload {i len : Nat} {j x : Int} (hd : decode M.2.1 pc = .ok (.baload, 1)) (hp : pc + 1 = pc') (hz : Z[i]? = some (.inl (1, len))) (hl : len < 2147483648) (h0 : 0 ≤ j) (h1 : j < len) (hv : g i j = x) (kk : AJ X d M mc ms Q k n pc' ls (vi x :: st) Z g) : AJ X d M mc ms Q k n pc ls (vi j :: vr i :: st) Z g := by
  intro p l e R s m args below meth c Qw A ρ0 n0 S H locs ρ arr D
  subst hp
  subst hv
  obtain ⟨q1, q2⟩ := i32_in h0 h1 hl
  have h := kk p l e R s m args below meth c Qw A ρ0 n0 S H locs ρ arr (D.stk (wfs_c trivial (wfs_t (wfs_t D.sk))))
  refine va_zald S.ex S.co S.K D.P i 1 (wd_get hz) (tys1 X) q1 hd ?_
  rw [q2, show ((j.toNat : Nat) : Int) = j by omega]
  exact h
theorem r_laload {i len : Nat} {j x : Int} (hd : decode M.2.1 pc = .ok (.laload, 1)) (hp : pc + 1 = pc') (hz : Z[i]? = some (.inl (2, len))) (hl : len < 2147483648) (h0 : 0 ≤ j) (h1 : j < len) (hv : g i j = x) (kk : AJ X d M mc ms Q k n pc' ls (vl x :: st) Z g) : AJ X d M mc ms Q k n pc ls (vi j :: vr i :: st) Z g := by
  intro p l e R s m args below meth c Qw A ρ0 n0 S H locs ρ arr D
  subst hp
  subst hv
  obtain ⟨q1, q2⟩ := i32_in h0 h1 hl
  have h := kk p l e R s m args below meth c Qw A ρ0 n0 S H locs ρ arr (D.stk (wfs_c trivial (wfs_t (wfs_t D.sk))))
  refine va_lald S.ex S.co S.K D.P i 2 (wd_get hz) (tys2 X) q1 hd ?_
  rw [q2, show ((j.toNat : Nat) : Int) = j by omega]
  exact h
theorem r_aaload {i t r : Nat} {C : String} {j : Int} {rs : List (Option Nat)} (hd : decode M.2.1 pc = .ok (.aaload, 1)) (hp : pc + 1 = pc') (hz : Z[i]? = some (.inr (.inl (t, rs)))) (ht : ∀ X : CX, (tysX X)[t]? = some (X.2.2.2.2 t, .object C)) (hl : rs.length < 2147483648) (h0 : 0 ≤ j) (hr : rs[j.toNat]? = some (some r)) (kk : AJ X d M mc ms Q k n pc' ls (vr r :: st) Z g) : AJ X d M mc ms Q k n pc ls (vi j :: vr i :: st) Z g := by
  intro p l e R s m args below meth c Qw A ρ0 n0 S H locs ρ arr D
  subst hp
  have h1 := (List.getElem?_eq_some_iff.mp hr).1
  obtain ⟨q1, q2⟩ := i32_in h0 (show j < (rs.length : Int) by omega) hl
  have h := kk p l e R s m args below meth c Qw A ρ0 n0 S H locs ρ arr (D.stk (wfs_c (show r < Z.length from wfz_getq D.z hz hr) (wfs_t (wfs_t D.sk))))
  refine va_aldq S.ex S.co S.K D.P i t (wd_get hz) (ht X) q1 hd ?_
  rw [q2, List.getD_eq_getElem?_getD, hr]
  exact h
theorem upd_mu (g : Mem) (i : Nat) {j : Int} (hj : 0 ≤ j) (v : Int) : upd (fun q : Nat => Int32.ofInt (g i q)) j.toNat (Int32.ofInt v) = fun q : Nat => Int32.ofInt (mu g i j v i q) := by
  funext q
  by_cases h : q = j.toNat
  · have h2 : (q : Int) = j := by omega
    simp only [upd, mu, if_pos h, h2, and_self, if_true]
  · have h2 : ¬ (q : Int) = j := by omega
    simp [upd, mu, h, h2]
theorem updL_mu (g : Mem) (i : Nat) {j : Int} (hj : 0 ≤ j) (v : Int) : vp_updL (fun q : Nat => Int64.ofInt (g i q)) j.toNat (Int64.ofInt v) = fun q : Nat => Int64.ofInt (mu g i j v i q) := by
  funext q
  by_cases h : q = j.toNat
  · have h2 : (q : Int) = j := by omega
    simp only [vp_updL, mu, if_pos h, h2, and_self, if_true]
  · have h2 : ¬ (q : Int) = j := by omega
    simp [vp_updL, mu, h, h2]
theorem r_iastore {i len : Nat} {j x : Int} (hd : decode M.2.1 pc = .ok (.iastore, 1)) (hp : pc + 1 = pc') (hz : Z[i]? = some (.inl (0, len))) (hl : len < 2147483648) (h0 : 0 ≤ j) (h1 : j < len) (hg : mu g i j x = g') (kk : AJ X d M mc ms Q k n pc' ls st Z g') : AJ X d M mc ms Q k n pc ls (vi x :: vi j :: vr i :: st) Z g := by
  intro p l e R s m args below meth c Qw A ρ0 n0 S H locs ρ arr D
  subst hp
  subst hg
  obtain ⟨q1, q2⟩ := i32_in h0 h1 hl
  refine va_iast S.ex S.co S.K D.P D.D D.S i 0 (wd_get hz) (tys0 X) q1 hd (fun H1 locs1 hP hD hS => ?_)
  have ew : (wd X ρ Z g).set i (ρ i, .inl (X.2.2.2.2 0, len, .inl (fun q : Nat => Int32.ofInt (mu g i j x i q)))) = wd X ρ Z (mu g i j x) := wd_set hz (fun j hj => mu_off hj) rfl
  rw [q2, upd_mu g i h0, ew] at hP hD
  exact kk p l e R s m args below meth c Qw A ρ0 n0 S H1 locs1 ρ arr (D.mem (wfs_t (wfs_t (wfs_t D.sk))) hP hD hS)
theorem r_bastore {i len : Nat} {j x : Int} (hd : decode M.2.1 pc = .ok (.bastore, 1)) (hp : pc + 1 = pc') (hz : Z[i]? = some (.inl (1, len))) (hl : len < 2147483648) (h0 : 0 ≤ j) (h1 : j < len) (hx : x = 0 ∨ x = 1) (hg : mu g i j x = g') (kk : AJ X d M mc ms Q k n pc' ls st Z g') : AJ X d M mc ms Q k n pc ls (vi x :: vi j :: vr i :: st) Z g := by
  intro p l e R s m args below meth c Qw A ρ0 n0 S H locs ρ arr D
  subst hp
  subst hg
  obtain ⟨q1, q2⟩ := i32_in h0 h1 hl
  have hb : vp_nar .boolean (Int32.ofInt x) = Int32.ofInt x := by rcases hx with rfl | rfl <;> rfl
  refine va_zast S.ex S.co S.K D.P D.D D.S i 1 (wd_get hz) (tys1 X) q1 hd (fun H1 locs1 hP hD hS => ?_)
  have ew : (wd X ρ Z g).set i (ρ i, .inl (X.2.2.2.2 1, len, .inl (fun q : Nat => Int32.ofInt (mu g i j x i q)))) = wd X ρ Z (mu g i j x) := wd_set hz (fun j hj => mu_off hj) rfl
  rw [q2, hb, upd_mu g i h0, ew] at hP hD
  exact kk p l e R s m args below meth c Qw A ρ0 n0 S H1 locs1 ρ arr (D.mem (wfs_t (wfs_t (wfs_t D.sk))) hP hD hS)
theorem r_lastore {i len : Nat} {j x : Int} (hd : decode M.2.1 pc = .ok (.lastore, 1)) (hp : pc + 1 = pc') (hz : Z[i]? = some (.inl (2, len))) (hl : len < 2147483648) (h0 : 0 ≤ j) (h1 : j < len) (hg : mu g i j x = g') (kk : AJ X d M mc ms Q k n pc' ls st Z g') : AJ X d M mc ms Q k n pc ls (vl x :: vi j :: vr i :: st) Z g := by
  intro p l e R s m args below meth c Qw A ρ0 n0 S H locs ρ arr D
  subst hp
  subst hg
  obtain ⟨q1, q2⟩ := i32_in h0 h1 hl
  refine va_last S.ex S.co S.K D.P D.D D.S i 2 (wd_get hz) (tys2 X) q1 hd (fun H1 locs1 hP hD hS => ?_)
  have ew : (wd X ρ Z g).set i (ρ i, .inl (X.2.2.2.2 2, len, .inr (.inl (fun q : Nat => Int64.ofInt (mu g i j x i q))))) = wd X ρ Z (mu g i j x) := wd_set hz (fun j hj => mu_off hj) rfl
  rw [q2, updL_mu g i h0, ew] at hP hD
  exact kk p l e R s m args below meth c Qw A ρ0 n0 S H1 locs1 ρ arr (D.mem (wfs_t (wfs_t (wfs_t D.sk))) hP hD hS)
theorem r_alen {i t len : Nat} (hd : decode M.2.1 pc = .ok (.arraylength, 1)) (hp : pc + 1 = pc') (hz : Z[i]? = some (.inl (t, len))) (ht : t = 0 ∨ t = 1 ∨ t = 2) (kk : AJ X d M mc ms Q k n pc' ls (vi len :: st) Z g) : AJ X d M mc ms Q k n pc ls (vr i :: st) Z g := by
  intro p l e R s m args below meth c Qw A ρ0 n0 S H locs ρ arr D
  subst hp
  have h := kk p l e R s m args below meth c Qw A ρ0 n0 S H locs ρ arr (D.stk (wfs_c trivial (wfs_t D.sk)))
  have el : Int32.ofNat len = Int32.ofInt len := rfl
  rcases ht with rfl | rfl | rfl
  · exact va_alen S.ex S.co S.K D.P i 0 (wd_get hz) (tys0 X) el hd h
  · exact va_alen S.ex S.co S.K D.P i 1 (wd_get hz) (tys1 X) el hd h
  · exact va_alen S.ex S.co S.K D.P i 2 (wd_get hz) (tys2 X) el hd h
theorem r_slen (hn : M.1.name = "law") (hd : decode M.2.1 pc = .ok (.arraylength, 1)) (hp : pc + 1 = pc') (kk : AJ X d M mc ms Q k n pc' ls (vi X.2.1 :: st) Z g) : AJ X d M mc ms Q k n pc ls (vsc :: st) Z g := by
  intro p l e R s m args below meth c Qw A ρ0 n0 S H locs ρ arr D
  subst hp
  have h := kk p l e R s m args below meth c Qw A ρ0 n0 S H locs ρ arr (D.stk (wfs_c trivial (wfs_t D.sk)))
  obtain ⟨hX, hb, hA⟩ := S.sc hn
  exact va_slen S.ex S.co hX hb hA D.S hd h
theorem r_sald {j x : Int} (hn : M.1.name = "law") (hd : decode M.2.1 pc = .ok (.iaload, 1)) (hp : pc + 1 = pc') (hl : X.2.1 < 2147483648) (h0 : 0 ≤ j) (h1 : j < X.2.1) (hv : X.2.2.1 j = x) (kk : AJ X d M mc ms Q k n pc' ls (vi x :: st) Z g) : AJ X d M mc ms Q k n pc ls (vi j :: vsc :: st) Z g := by
  intro p l e R s m args below meth c Qw A ρ0 n0 S H locs ρ arr D
  subst hp
  subst hv
  obtain ⟨q1, q2⟩ := i32_in h0 h1 hl
  have h := kk p l e R s m args below meth c Qw A ρ0 n0 S H locs ρ arr (D.stk (wfs_c trivial (wfs_t (wfs_t D.sk))))
  obtain ⟨hX, hb, hA⟩ := S.sc hn
  refine va_sld S.ex S.co hX hb hA D.S q1 hd ?_
  rw [q2, show ((j.toNat : Nat) : Int) = j by omega]
  exact h
theorem r_tabI {a dflt lo hi off : Int} {offs : Array Int} {len tgt : Nat} (hd : decode M.2.1 pc = .ok (.tableswitch dflt lo hi offs, len)) (ha : R32 a) (h1 : lo ≤ a) (h2 : a ≤ hi) (ho : offs[(a - lo).toNat]? = some off) (ht : (pc : Int) + off = (tgt : Int)) (kk : AJ X d M mc ms Q k n tgt ls st Z g) : AJ X d M mc ms Q k n pc ls (vi a :: st) Z g := by
  intro p l e R s m args below meth c Qw A ρ0 n0 S H locs ρ arr D
  have h := kk p l e R s m args below meth c Qw A ρ0 n0 S H locs ρ arr (D.stk (wfs_t D.sk))
  exact lv_tableIn S.ex S.co hd (by rw [i32_toInt ha]; omega) (by rw [i32_toInt ha]; omega) (by rw [i32_toInt ha]; exact ho) ht h
theorem r_tabO {a dflt lo hi : Int} {offs : Array Int} {len tgt : Nat} (hd : decode M.2.1 pc = .ok (.tableswitch dflt lo hi offs, len)) (ha : R32 a) (h1 : a < lo ∨ hi < a) (ht : (pc : Int) + dflt = (tgt : Int)) (kk : AJ X d M mc ms Q k n tgt ls st Z g) : AJ X d M mc ms Q k n pc ls (vi a :: st) Z g := by
  intro p l e R s m args below meth c Qw A ρ0 n0 S H locs ρ arr D
  have h := kk p l e R s m args below meth c Qw A ρ0 n0 S H locs ρ arr (D.stk (wfs_t D.sk))
  exact lv_tableOut S.ex S.co hd (by rw [i32_toInt ha]; omega) ht h
theorem r_look {a dflt off : Int} {ps : Array (Int × Int)} {len tgt : Nat} (hd : decode M.2.1 pc = .ok (.lookupswitch dflt ps, len)) (hs : (ps.toList.zip (ps.toList.drop 1)).all (fun (a, next) => a.1 < next.1) = true) (ha : R32 a) (ho : Op.lookupswitch.offset ps.toList dflt a = off) (ht : (pc : Int) + off = (tgt : Int)) (kk : AJ X d M mc ms Q k n tgt ls st Z g) : AJ X d M mc ms Q k n pc ls (vi a :: st) Z g := by
  intro p l e R s m args below meth c Qw A ρ0 n0 S H locs ρ arr D
  have h := kk p l e R s m args below meth c Qw A ρ0 n0 S H locs ρ arr (D.stk (wfs_t D.sk))
  exact lv_lookup S.ex S.co hd hs (by rw [i32_toInt ha]; exact ho) ht h
theorem r_ret {v : Int} {ty : FieldType} (hd : decode M.2.1 pc = .ok (.ireturn, 1)) (hr : M.2.2.2 = some ty) (ht : ty = .int ∨ (ty = .boolean ∧ (v = 0 ∨ v = 1))) (hk : k ≤ mc) (hn : n ≤ ms) (hq : Q (some (vi v)) Z g) : AJ X d M mc ms Q k n pc ls [vi v] Z g := by
  intro p l e R s m args below meth c Qw A ρ0 n0 S H locs ρ arr D
  exact S.2.2.2.2.2.2.2.2.2.2.2.2.2 (some (vi v)) Z g ρ H locs k n pc arr hq ⟨D.P, D.D, D.S, D.z, D.sk, D.ag⟩ hk hn (Or.inl ⟨hd, v, rfl, ty, hr, ht⟩)
theorem r_retv (hd : decode M.2.1 pc = .ok (.return_, 1)) (hr : M.2.2.2 = none) (hk : k ≤ mc) (hn : n ≤ ms) (hq : Q none Z g) : AJ X d M mc ms Q k n pc ls [] Z g := by
  intro p l e R s m args below meth c Qw A ρ0 n0 S H locs ρ arr D
  exact S.2.2.2.2.2.2.2.2.2.2.2.2.2 none Z g ρ H locs k n pc arr hq ⟨D.P, D.D, D.S, D.z, D.sk, D.ag⟩ hk hn (Or.inr ⟨hd, rfl, hr⟩)
end Rules
end
section
-- calls
theorem lv_args_in {b : Nat} {ρ : Nat → Nat} : ∀ (vs : List VV) (i : Nat), (∀ v ∈ vs, (cv b ρ v).category = 1) → ∀ (k : Nat) (v : VV), vs[k]? = some v → (i + k, cv b ρ v) ∈ lv_args i (vs.map (cv b ρ))
  | [], _, _, k, v, h => by simp at h
  | w :: vs, i, hc, k, v, h => by
    have h1 : (cv b ρ w).category = 1 := hc w List.mem_cons_self
    simp only [List.map_cons, lv_args, h1]
    rw [if_neg (by decide)]
    cases k with
    | zero =>
      rw [List.getElem?_cons_zero] at h
      cases h
      exact List.mem_cons_self
    | succ k =>
      rw [List.getElem?_cons_succ] at h
      have := lv_args_in vs (i + 1) (fun v hv => hc v (List.mem_cons_of_mem _ hv)) k v h
      rw [show i + 1 + k = i + (k + 1) by omega] at this
      exact List.mem_cons_of_mem _ this
theorem lg_sl_len {b : Nat} {ρ : Nat → Nat} : ∀ (vs : List VV), (∀ v ∈ vs, (cv b ρ v).category = 1) → (lg_sl (vs.map (cv b ρ))).length = vs.length
  | [], _ => rfl
  | w :: vs, hc => by
    have h1 : (cv b ρ w).category = 1 := hc w List.mem_cons_self
    have := lg_sl_len vs (fun v hv => hc v (List.mem_cons_of_mem _ hv))
    unfold lg_sl at this ⊢
    simp only [List.map_cons, List.flatMap_cons, h1, List.length_append, this]
    rw [if_neg (by decide)]
    simp
    omega
theorem ent_ls {vs : List VV} {k N : Nat} {v : VV} (h : (vs.map some ++ List.replicate N (none : Option VV))[k]? = some (some v)) : vs[k]? = some v := by
  by_cases hk : k < vs.length
  · rw [List.getElem?_append_left (by rw [List.length_map]; exact hk), List.getElem?_map] at h
    cases hv : vs[k]? with
    | none => rw [hv] at h; cases h
    | some w => rw [hv] at h; cases h; rfl
  · rw [List.getElem?_append_right (by rw [List.length_map]; omega)] at h
    have := List.mem_of_getElem? h
    rw [List.mem_replicate] at this
    cases this.2
def cat1 (vs : List VV) : Bool := vs.all (fun v => match v with | .inr (.inl _) => false | _ => true)
theorem cat1_of {vs : List VV} (h : cat1 vs = true) (b : Nat) (ρ : Nat → Nat) : ∀ v ∈ vs, (cv b ρ v).category = 1 := fun v hv => cv_cat1 (List.all_eq_true.mp h v hv)
def PC (X : CX) (ρ : Nat → Nat) (vs : List VV) (Z : List Sh) (g : Mem) (sz : Nat) : State → Prop := fun U => NW U ∧ va_K X.2.2.2.1 vwCl (tysX X) U ∧ va_P X.2.2.2.1 vwCl (wd X ρ Z g) U.heap ∧ va_D (fun _ => True) (wd X ρ Z g) ∧ wfz Z ∧ wfs Z.length vs ∧ U.heap.size = sz
def QC (X : CX) (ρ : Nat → Nat) (Z : List Sh) (g : Mem) (sz : Nat) (Q : Option VV → List Sh → Mem → Prop) : Array Value → State → Outcome → State → Prop := fun _ st oc t =>
  (∃ (r : Option VV) (Z' : List Sh) (g' : Mem) (ρ' : Nat → Nat), oc = .returned (r.map (cv X.1 ρ')) ∧ Q r Z' g' ∧ va_P X.2.2.2.1 vwCl (wd X ρ' Z' g') t.heap ∧ va_D (va_A (wd X ρ Z g) sz) (wd X ρ' Z' g') ∧ wfz Z' ∧ wfs Z'.length r.toList ∧ Agr ρ Z.length ρ' Z'.length) ∧ va_F (va_A (wd X ρ Z g) sz) st t
theorem ret_W {X : CX} {M : MI} {mc ms : Nat} {p : Program} {l : Launch} {e : Env} {R : Room} {s : State} {m : MethodId} {args : Array Value} {below : List Frame} {meth : Method} {c : Code} {H : Heap} {locs : List Loc} {k n pc : Nat} {arr : Array Slot} {r : Option VV} {ρ : Nat → Nat} {Qc : Array Value → State → Outcome → State → Prop} {free : Addr → Prop}
    (hx : p.tables.exec = Jvm.exec) (hb : c.code = M.2.1) (hr : meth.sig.returnType = M.2.2.2) (hlk : meth.locks = false) (hk : k ≤ mc) (hn : n ≤ ms) (ha : RetAt M pc r) (hq : ∀ t : State, t.heap = H → s.WarmedH t.vm → Qc args s (.returned (r.map (cv X.1 ρ))) t) (hf : ∀ q ∈ locs, free q.base) :
    W p l e R s m args below meth c H locs k n (MQ below Qc args s mc ms free) (F0 m pc arr (r.toList.map (cv X.1 ρ))) := by
  refine W.widen hk hn ?_
  rcases ha with ⟨hd, v, rfl, ty, ht, h⟩ | ⟨hd, rfl, ht⟩
  · exact W.zret hx hb (hr.trans ht) (fits_iz h).1 hq hf hd hlk
  · exact W.vret hx hb (hr.trans ht) hq hf hd hlk
theorem met_ofW {l : Launch} {y : MethodName} {ws ws' : List Cond} {rm : Room} {Pc : Array Value → State → Prop} {Qc : Array Value → State → Outcome → State → Prop} {mc ms : Nat} {free : Addr → Prop} {cc : ByteArray} {maxL : Nat} {ret : Option FieldType}
    (hy : plainFor y = true) (hw : ws = Cond.code y cc maxL ret :: ws')
    (body : ∀ p e s m args below meth c s₁, BodyLoose p l y (headSpec ws rm) cc maxL ret e s m args below meth c s₁ → c.maxLocals = maxL → Pc args s →
      W p l e (headSpec ws rm).room s m args below meth c s.heap [] 0 0 (MQ below Qc args s mc ms free) (entryFrame m args maxL)) : Met l y ws rm Pc Qc mc ms free := by
  refine MetFree.of_bodySF (code := cc) (maxLocals := maxL) (ret := ret) hy (fun args s m h hn => ?_) (fun p e s m args below meth c s₁ B hml hP _ => ?_)
  · have hc := atoms_spec (ws := ws) h (Cond.code y cc maxL ret) (by rw [hw]; exact List.mem_cons_self)
    obtain ⟨meth, c, a1, a2, a3, a4, a5, a6, -⟩ := Cond.code_spec hn hc
    exact ⟨meth, c, a1, a2, a3, a4, a5, a6⟩
  · have e0 : s₁.heap = s.heap := by rw [B.state]; rfl
    obtain ⟨t, a1, o, b1, b2, b3⟩ := body p e s m args below meth c s₁ B hml hP s₁ e0 (Stand.of_body B)
    exact ⟨t, o, a1, b1, b2, b3⟩
theorem met_of {X : CX} {d : Nat} {M : MI} {mc ms : Nat} {vs : List VV} {Z : List Sh} {g : Mem} {Q : Option VV → List Sh → Mem → Prop} (l : Launch) (he : Ent X d M mc ms vs Z g Q) (hpn : plainFor M.1 = true) (hlaw : M.1.name ≠ "law") (hc : cat1 vs = true) (hle : vs.length ≤ M.2.2.1) (ρ : Nat → Nat) (sz : Nat) :
    Met l M.1 (.code M.1 M.2.1 M.2.2.1 M.2.2.2 :: gTbl) { frames := d, cells := mc, slots := ms, locals := 64 * d } (va_Pc (vs.map (cv X.1 ρ)) (PC X ρ vs Z g sz)) (QC X ρ Z g sz Q) mc ms (va_A (wd X ρ Z g) sz) := by
  refine met_ofW (cc := M.2.1) (maxL := M.2.2.1) (ret := M.2.2.2) hpn rfl ?_
  intro p e s m args below meth c s₁ B hml hv
  obtain ⟨rfl, hNW, hK, hP, hD0, hz, hs, hsz⟩ := hv
  have hts := atoms_spec (ws := .code M.1 M.2.1 M.2.2.1 M.2.2.2 :: gTbl) B.pre
  have hcc := cat1_of hc X.1 ρ
  have hll := lg_sl_len vs hcc
  have hl := lv_entry (vs.map (cv X.1 ρ)) (n := M.2.2.1) (by rw [hll]; exact hle)
  rw [lg_entry_eq]
  subst hsz
  refine he p l e _ s m _ below meth c _ (va_A (wd X ρ Z g) s.heap.size) ρ Z.length ⟨B.exec, B.bytes, hml, findClass_of_methodNamed B.named, fun w hw => hts w (List.mem_cons_of_mem _ hw), hNW, hK, B.returns, B.notSynchronized, (name_of_methodNamed B.named B.method).1, ⟨Nat.le_refl _, Nat.le_refl _, Nat.le_refl _, Nat.le_refl _⟩, fun q h => Or.inr h, fun h => absurd h hlaw, ?_⟩ s.heap [] ρ _ ⟨hP, hD0.self, va_S.rf, hz, ?_, fun v hv => (by cases hv), lv_mono hl ?_, ?_, ⟨Nat.le_refl _, fun _ _ => rfl⟩⟩
  · intro r Z' g' ρ' H' locs' k' n' pc' arr' hq hE hk hn ha
    obtain ⟨e1, e2, e3, e4, e5, e6⟩ := hE
    exact ret_W B.exec B.bytes B.returns B.notSynchronized hk hn ha (fun t ht hW => ⟨⟨r, Z', g', ρ', rfl, hq, by rw [ht]; exact e1, e2, e4, e5, e6⟩, e3.F ht⟩) e3.2.2
  · intro v hv
    rcases List.mem_append.mp hv with h | h
    · obtain ⟨w, hw, e⟩ := List.mem_map.mp h
      cases e
      exact hs v hw
    · rw [List.mem_replicate] at h
      cases h.2
  · intro q hq
    obtain ⟨v, h1, h2⟩ := mem_lcv.mp hq
    have := lv_args_in vs 0 hcc q.1 v (ent_ls h1)
    rw [Nat.zero_add] at this
    obtain ⟨a, b⟩ := q
    cases h2
    exact this
  · rw [List.length_append, List.length_map, List.length_replicate]
    omega
theorem cv_agr {b n n' : Nat} {ρ ρ' : Nat → Nat} (h : Agr ρ n ρ' n') {v : VV} (hv : wfv n v) : cv b ρ' v = cv b ρ v := by
  rcases v with x | x | _ | _ | x
  · rfl
  · rfl
  · rfl
  · rfl
  · show Value.ref (ρ' x) = Value.ref (ρ x)
    rw [h.2 x (Or.inl hv)]
theorem map_agr {b n n' : Nat} {ρ ρ' : Nat → Nat} (h : Agr ρ n ρ' n') {st : List VV} (hs : wfs n st) : st.map (cv b ρ') = st.map (cv b ρ) := List.map_congr_left fun v hv => cv_agr h (hs v hv)
theorem wfv_le {n n' : Nat} (h : n ≤ n') {v : VV} (hv : wfv n v) : wfv n' v := by
  rcases v with x | x | _ | _ | x
  · trivial
  · trivial
  · trivial
  · trivial
  · exact Nat.lt_of_lt_of_le hv h
theorem wd_A {X : CX} {ρ : Nat → Nat} {Z : List Sh} {g : Mem} {A : Nat → Prop} {H0 H : Heap} {locs : List Loc} (hD : va_D A (wd X ρ Z g)) (hS : va_S A H0 H locs) (hA : ∀ q : Nat, H0.size ≤ q → A q) : ∀ q, va_A (wd X ρ Z g) H.size q → A q := by
  intro q h
  rcases h with ⟨k, e, h⟩ | h
  · exact hD.2 k (q, e) h
  · exact hA q (Nat.le_trans hS.1 h)
section CallEnd
variable {X : CX} {d : Nat} {M : MI} {mc ms : Nat} {Q : Option VV → List Sh → Mem → Prop} {k n pc pc' mc' ms' : Nat} {ls : List (Option VV)} {st sta : List VV} {Z : List Sh} {g : Mem}
variable {p : Program} {l : Launch} {e : Env} {R : Room} {s : State} {m : MethodId} {args : Array Value} {below : List Frame} {meth : Method} {c : Code} {Qw : State → Prop} {A : Nat → Prop} {ρ0 : Nat → Nat} {n0 : Nat} {H : Heap} {locs : List Loc} {ρ : Nat → Nat} {arr : Array Slot} {st0 : List Value} {a : Array Value}
theorem call_end (S : RS X d M mc ms Q p l e R s m args below meth c Qw A ρ0 n0) (D : RD X s A ρ0 n0 M.2.2.1 H locs ρ arr ls sta Z g) (hst : wfs Z.length st) (hp : pc + 3 = pc')
    (hr : va_Run p l e R s m args below meth c H locs k n mc' ms' (F0 m pc arr st0) (st.map (cv X.1 ρ)) (QC X ρ Z g H.size (fun r Z' g' => AJ X d M mc ms Q (k + mc') (n + ms') pc' ls (r.toList ++ st) Z' g') a) (va_A (wd X ρ Z g) H.size)) : W p l e R s m args below meth c H locs k n Qw (F0 m pc arr st0) := by
  subst hp
  have hFA := wd_A D.D D.S S.hA
  intro T hT XX
  obtain ⟨v, st₀, t, T', L, h0, X', hL, e1, e2, ⟨⟨r, Z', g', ρ', hv, hq, hP, hD, hz, hs, hag⟩, hF⟩, stp⟩ := hr T hT XX
  obtain ⟨hz1, hk1⟩ := hF
  rw [h0] at hz1 hk1
  have hv' : v = r.map (cv X.1 ρ') := by injection hv
  subst hv'
  have hle : Z.length ≤ Z'.length := hag.1
  have elc : lcv X.1 ρ' ls = lcv X.1 ρ ls := by
    unfold lcv
    congr 1
    funext q
    cases hx : ls.getD q none with
    | none => rfl
    | some v =>
      have : some v ∈ ls := by
        rw [List.getD_eq_getElem?_getD] at hx
        cases h2 : ls[q]? with
        | none => rw [h2] at hx; cases hx
        | some w => rw [h2] at hx; cases hx; exact List.mem_of_getElem? h2
      show some (q, cv X.1 ρ' v) = some (q, cv X.1 ρ v)
      rw [cv_agr hag (D.o v this)]
  obtain ⟨t2, a1, b1⟩ := hq p l e R s m args below meth c Qw A ρ0 n0 S T'.heap (locs ++ L) ρ' arr ⟨by rw [e1]; exact hP, hD.weaken (fun _ q _ h => hFA q.1 h),
    ⟨Nat.le_trans D.S.1 (by rw [e1]; exact hz1), fun q h1 h2 => by rw [e1, hk1 q (Nat.lt_of_lt_of_le h1 D.S.1) (fun z => h2 (hFA q z))]; exact D.S.2.1 q h1 h2, fun q hq => by
      rcases List.mem_append.mp hq with h | h
      · exact D.S.2.2 q h
      · exact hFA _ (hL q h)⟩, hz, fun v hv => wfv_le hle (D.o v hv), fun v hv => by
      rcases List.mem_append.mp hv with h | h
      · exact hs v h
      · exact wfv_le hle (hst v h), by rw [elc]; exact D.l, D.n, ⟨Nat.le_trans D.ag.1 hle, fun j hj => by
      rcases hj with h | h
      · rw [hag.2 j (Or.inl (Nat.lt_of_lt_of_le h D.ag.1)), D.ag.2 j (Or.inl h)]
      · rw [hag.2 j (Or.inr h), D.ag.2 j (Or.inr (Nat.le_trans hle h))]⟩⟩ T' rfl X'
  refine ⟨t2, stp t2 ?_, b1⟩
  rw [List.map_append, map_agr hag hst] at a1
  have er : (r.map (cv X.1 ρ')).toList = r.toList.map (cv X.1 ρ') := by cases r <;> rfl
  show Steps p.tables e below (T'.setTop { method := m, pc := pc + 3, locals := arr, stack := (r.map (cv X.1 ρ')).toList ++ st.map (cv X.1 ρ), locked := none }) t2
  rw [er]
  exact a1
end CallEnd
/-- what the tables say of a method: its code, that it can be called; n: its parameters -/
def mB (M : MI) (n : Nat) : Prop := Cond.code M.1 M.2.1 M.2.2.1 M.2.2.2 ∈ gTbl ∧ Cond.initialized M.1.cls ∈ gTbl ∧ M.1.cls ≠ "java/lang/invoke/MethodHandle" ∧ M.1.cls ≠ "java/lang/invoke/VarHandle" ∧ (parseMethodDescriptor M.1.desc).map (fun d => d.parameters.length) = some n ∧ M.2.2.1 ≤ 40 ∧ M.1.name ≠ "law" ∧ plainFor M.1 = true
def mV (M : MI) (n : Nat) : Prop := mB M n ∧ Cond.instanceMethod M.1 ∈ gTbl ∧ Cond.selects M.1.cls M.1 M.1 ∈ gTbl
def mS (M : MI) (n : Nat) : Prop := mB M n ∧ Cond.static M.1 ∈ gTbl
def mI (M : MI) (n : Nat) : Prop := mB M n ∧ Cond.instanceMethod M.1 ∈ gTbl ∧ M.1.name = "<init>"
theorem g_good : GoodIn gTbl gTbl := fun w hw => ⟨hw, good_of_word (List.mem_filter.mp hw).2⟩
theorem g_goodM {M : MI} (h : Cond.code M.1 M.2.1 M.2.2.1 M.2.2.2 ∈ gTbl) : GoodIn gTbl (.code M.1 M.2.1 M.2.2.1 M.2.2.2 :: gTbl) := fun w hw => by
  rcases List.mem_cons.mp hw with rfl | hw
  · exact g_good _ h
  · exact g_good _ hw
theorem NW.warm {s U : State} (hW : s.WarmedH U.vm) (h : NW s) : NW U := ⟨fun q hq => va_Nw.warmM hW (h.1 q hq), va_AO.moved hW.alike h.2.1, va_AO.moved hW.alike h.2.2⟩
theorem NW.same {U V : State} (h : U.vm = V.vm) (hn : NW U) : NW V := ⟨fun q hq => va_Nw.same rfl h (hn.1 q hq), va_AO.moved (by rw [h]; exact Vm.Alike.refl _) hn.2.1, va_AO.moved (by rw [h]; exact Vm.Alike.refl _) hn.2.2⟩
theorem PC_blind {X : CX} {ρ : Nat → Nat} {vs : List VV} {Z : List Sh} {g : Mem} {sz : Nat} {av : List Value} : FrameBlind (va_Pc av (PC X ρ vs Z g sz)) := by
  intro a U gf mk q
  obtain ⟨q0, q1, qK, qP, qD, qz, qs, qsz⟩ := q
  exact ⟨q0, q1.same rfl, va_K.moved (u := U) (U := U.calling gf mk a) (Vm.Alike.refl U.vm) qK, qP, qD, qz, qs, qsz⟩
theorem PC_at {X : CX} {s : State} {A : Nat → Prop} {ρ0 : Nat → Nat} {n0 nL : Nat} {H : Heap} {locs : List Loc} {ρ : Nat → Nat} {arr : Array Slot} {ls : List (Option VV)} {sta vs : List VV} {Z : List Sh} {g : Mem} (hn : NW s) (hK : va_K X.2.2.2.1 vwCl (tysX X) s) (D : RD X s A ρ0 n0 nL H locs ρ arr ls sta Z g) (hvs : wfs Z.length vs) (U : State) (hU : U.heap = H) (hW : s.WarmedH U.vm) : PC X ρ vs Z g H.size U :=
  ⟨hn.warm hW, va_K.moved hW.alike hK, by rw [hU]; exact D.P, D.D.weaken (fun _ _ _ _ => trivial), D.z, hvs, by rw [hU]⟩
theorem cat_le {b : Nat} {ρ : Nat → Nat} {st : List VV} (h : Nat.ble (st.map (fun v => match v with | .inr (.inl _) => 2 | _ => 1)).sum 8 = true) : ((st.map (cv b ρ)).map fun v => v.category).sum ≤ 8 := by
  have e : (st.map (cv b ρ)).map (fun v => v.category) = st.map (fun v => match v with | .inr (.inl _) => 2 | _ => 1) := by
    rw [List.map_map]
    refine List.map_congr_left fun v _ => ?_
    rcases v with x | x | _ | _ | x <;> rfl
  rw [e]
  exact Nat.le_of_ble_eq_true h
section CallRules
variable {X : CX} {d : Nat} {M M' : MI} {mc ms mc' ms' : Nat} {Q : Option VV → List Sh → Mem → Prop} {k n pc pc' : Nat} {ls : List (Option VV)} {st vs : List VV} {Z : List Sh} {g : Mem}
/-- a call on an object: the arguments vs behind the receiver i, the last on top -/
theorem r_cV {idx i c0 : Nat} {fs : List (Option (Option Nat))} (hd : decode M.2.1 pc = .ok (.invokevirtual idx, 3)) (hp : pc + 3 = pc') (hm : mV M' vs.length) (hl : Cond.methodLink M.1.cls idx M'.1 ∈ gTbl) (hz : Z[i]? = some (.inr (.inr (c0, fs)))) (hcn : (vwCl[c0]?).map (fun q => q.1) = some M'.1.cls) (hc : cat1 vs = true) (hle : vs.length < M'.2.2.1) (hw : Nat.ble (st.map (fun v => match v with | .inr (.inl _) => 2 | _ => 1)).sum 8 = true) (hk : k + mc' ≤ mc) (hn : n + ms' ≤ ms) {sta : List VV} (hs : sta = vs.reverse ++ vr i :: st)
    (he : Ent X d M' mc' ms' (vr i :: vs) Z g (fun r Z' g' => AJ X (d + 1) M mc ms Q (k + mc') (n + ms') pc' ls (r.toList ++ st) Z' g')) : AJ X (d + 1) M mc ms Q k n pc ls sta Z g := by
  intro p l e R s m args below meth c Qw A ρ0 n0 S H locs ρ arr D
  subst hs
  obtain ⟨⟨q1, q2, q3, q4, q5, q6, q7, q8⟩, q9, q10⟩ := hm
  obtain ⟨r1, r2, r3, r4⟩ := S.rm
  have wst : wfs Z.length st := fun v hv => D.sk v (List.mem_append_right _ (List.mem_cons_of_mem _ hv))
  have wvs : wfs Z.length (vr i :: vs) := fun v hv => by
    rcases List.mem_cons.mp hv with rfl | hv
    · exact D.sk _ (List.mem_append_right _ List.mem_cons_self)
    · exact D.sk v (List.mem_append_left _ (List.mem_reverse.mpr hv))
  obtain ⟨q, hq, hqn⟩ := Option.map_eq_some_iff.mp hcn
  have hrec := va_recv S.K D.P hq (wd_get hz)
  rw [hqn] at hrec
  have hM := met_of l he q8 q7 (by simpa [cat1] using hc) (by simp; omega) ρ H.size
  refine call_end (mc' := mc') (ms' := ms') S D wst hp (va_runV (As := vs.map (cv X.1 ρ)) (rest := st.map (cv X.1 ρ)) ⟨S.ex, S.co, S.ml, S.ow, S.ts⟩ hM (C := M'.1.cls) ⟨callB_of (bytes := M'.2.1) (maxL := M'.2.2.1) (ret := M'.2.2.2) vs.length S.ts (g_goodM q1) rfl rfl rfl (S.ts _ q2) (S.ts _ hl) ⟨q3, q4, q5⟩ ⟨by show d + 1 ≤ _; omega, by show 8 + (M'.2.2.1 + 11) + 64 * d ≤ _; omega⟩, S.ts _ q9, S.ts _ q10⟩ ⟨PC_blind, hrec, fun U hU hW => ⟨rfl, PC_at S.nw S.K D wvs U hU hW⟩⟩ rfl (by rw [List.length_map]) (by rw [← S.ml]; exact D.l.1.trans S.ml.symm) ?_ (lv_room (cat_le hw)) hd ⟨by omega, by omega⟩)
  show List.map (cv X.1 ρ) (vs.reverse ++ vr i :: st) = _
  rw [List.map_append, List.map_reverse]
  rfl
/-- a static call, of the class itself or of another -/
theorem r_cS {idx : Nat} (hd : decode M.2.1 pc = .ok (.invokestatic idx, 3)) (hp : pc + 3 = pc') (hm : mS M' vs.length) (hl : Cond.methodLink M.1.cls idx M'.1 ∈ gTbl) (hc : cat1 vs = true) (hle : vs.length ≤ M'.2.2.1) (hw : Nat.ble (st.map (fun v => match v with | .inr (.inl _) => 2 | _ => 1)).sum 8 = true) (hk : k + mc' ≤ mc) (hn : n + ms' ≤ ms) {sta : List VV} (hs : sta = vs.reverse ++ st)
    (he : Ent X d M' mc' ms' vs Z g (fun r Z' g' => AJ X (d + 1) M mc ms Q (k + mc') (n + ms') pc' ls (r.toList ++ st) Z' g')) : AJ X (d + 1) M mc ms Q k n pc ls sta Z g := by
  intro p l e R s m args below meth c Qw A ρ0 n0 S H locs ρ arr D
  subst hs
  obtain ⟨⟨q1, q2, q3, q4, q5, q6, q7, q8⟩, q9⟩ := hm
  obtain ⟨r1, r2, r3, r4⟩ := S.rm
  have wst : wfs Z.length st := fun v hv => D.sk v (List.mem_append_right _ hv)
  have wvs : wfs Z.length vs := fun v hv => D.sk v (List.mem_append_left _ (List.mem_reverse.mpr hv))
  have hM := met_of l he q8 q7 hc hle ρ H.size
  refine call_end (mc' := mc') (ms' := ms') S D wst hp (va_runS (As := vs.map (cv X.1 ρ)) (rest := st.map (cv X.1 ρ)) ⟨S.ex, S.co, S.ml, S.ow, S.ts⟩ hM ⟨callB_of (bytes := M'.2.1) (maxL := M'.2.2.1) (ret := M'.2.2.2) vs.length S.ts (g_goodM q1) rfl rfl rfl (S.ts _ q2) (S.ts _ hl) ⟨q3, q4, q5⟩ ⟨by show d + 1 ≤ _; omega, by show 8 + (M'.2.2.1 + 11) + 64 * d ≤ _; omega⟩, S.ts _ q9⟩ ⟨PC_blind, fun U hU hW => ⟨rfl, PC_at S.nw S.K D wvs U hU hW⟩⟩ rfl (by rw [List.length_map]) (by rw [← S.ml]; exact D.l.1.trans S.ml.symm) ?_ (lv_room (cat_le hw)) hd ⟨by omega, by omega⟩)
  show List.map (cv X.1 ρ) (vs.reverse ++ st) = _
  rw [List.map_append, List.map_reverse]
/-- a static call of a nest mate's private method -/
theorem r_cSN {idx : Nat} {host : String} (hd : decode M.2.1 pc = .ok (.invokestatic idx, 3)) (hp : pc + 3 = pc') (hm : mS M' vs.length) (hl : (M.1.cls, idx, M'.1, host) ∈ nTbl) (hc : cat1 vs = true) (hle : vs.length ≤ M'.2.2.1) (hw : Nat.ble (st.map (fun v => match v with | .inr (.inl _) => 2 | _ => 1)).sum 8 = true) (hk : k + mc' ≤ mc) (hn : n + ms' ≤ ms) {sta : List VV} (hs : sta = vs.reverse ++ st)
    (he : Ent X d M' mc' ms' vs Z g (fun r Z' g' => AJ X (d + 1) M mc ms Q (k + mc') (n + ms') pc' ls (r.toList ++ st) Z' g')) : AJ X (d + 1) M mc ms Q k n pc ls sta Z g := by
  intro p l e R s m args below meth c Qw A ρ0 n0 S H locs ρ arr D
  subst hs
  obtain ⟨⟨q1, q2, q3, q4, q5, q6, q7, q8⟩, q9⟩ := hm
  obtain ⟨r1, r2, r3, r4⟩ := S.rm
  have wst : wfs Z.length st := fun v hv => D.sk v (List.mem_append_right _ hv)
  have wvs : wfs Z.length vs := fun v hv => D.sk v (List.mem_append_left _ (List.mem_reverse.mpr hv))
  have hM := met_of l he q8 q7 hc hle ρ H.size
  refine call_end (mc' := mc') (ms' := ms') S D wst hp (va_runSN (As := vs.map (cv X.1 ρ)) (rest := st.map (cv X.1 ρ)) ⟨S.ex, S.co, S.ml, S.ow, S.ts⟩ hM ⟨va_cnB (bytes := M'.2.1) (maxL := M'.2.2.1) (ret := M'.2.2.2) vs.length S.ts (g_goodM q1) rfl rfl rfl (S.nw.1 _ hl) (S.ts _ q2) ⟨q3, q4, q5⟩ ⟨by show d + 1 ≤ _; omega, by show 8 + (M'.2.2.1 + 11) + 64 * d ≤ _; omega⟩, S.ts _ q9, trivial⟩ ⟨PC_blind, fun U hU hW => ⟨rfl, PC_at S.nw S.K D wvs U hU hW⟩⟩ rfl (by rw [List.length_map]) (by rw [← S.ml]; exact D.l.1.trans S.ml.symm) ?_ (lv_room (cat_le hw)) hd ⟨by omega, by omega⟩)
  show List.map (cv X.1 ρ) (vs.reverse ++ st) = _
  rw [List.map_append, List.map_reverse]
/-- a constructor, of a nest mate -/
theorem r_cIN {idx i : Nat} {host : String} (hd : decode M.2.1 pc = .ok (.invokespecial idx, 3)) (hp : pc + 3 = pc') (hm : mI M' 0) (hl : (M.1.cls, idx, M'.1, host) ∈ nTbl) (hle : 0 < M'.2.2.1) (hr : M'.2.2.2 = none) (hw : Nat.ble (st.map (fun v => match v with | .inr (.inl _) => 2 | _ => 1)).sum 8 = true) (hk : k + mc' ≤ mc) (hn : n + ms' ≤ ms)
    (he : Ent X d M' mc' ms' [vr i] Z g (fun r Z' g' => AJ X (d + 1) M mc ms Q (k + mc') (n + ms') pc' ls (r.toList ++ st) Z' g')) : AJ X (d + 1) M mc ms Q k n pc ls (vr i :: st) Z g := by
  intro p l e R s m args below meth c Qw A ρ0 n0 S H locs ρ arr D
  obtain ⟨y, cc, mL, rt⟩ := M'
  have hr' : rt = none := hr
  subst hr'
  obtain ⟨⟨q1, q2, q3, q4, q5, q6, q7, q8⟩, q9, q10⟩ := hm
  dsimp only at q1 q2 q3 q4 q5 q6 q7 q8 q9 q10 hl hle he
  obtain ⟨r1, r2, r3, r4⟩ := S.rm
  have wst : wfs Z.length st := wfs_t D.sk
  have wvs : wfs Z.length [vr i] := fun v hv => by rw [List.mem_singleton.mp hv]; exact wfs_h D.sk
  have hM := met_of l he q8 q7 rfl hle ρ H.size
  exact call_end (mc' := mc') (ms' := ms') S D wst hp (va_runIN (As := []) (rest := st.map (cv X.1 ρ)) ⟨S.ex, S.co, S.ml, S.ow, S.ts⟩ hM ⟨va_cnB (bytes := cc) (maxL := mL) (ret := none) 0 S.ts (g_goodM (M := (y, cc, mL, none)) q1) rfl rfl rfl (S.nw.1 _ hl) (S.ts _ q2) ⟨q3, q4, q5⟩ ⟨by show d + 1 ≤ _; omega, by show 8 + (mL + 11) + 64 * d ≤ _; omega⟩, q10, S.ts _ q9⟩ ⟨PC_blind, fun U hU hW => ⟨rfl, PC_at S.nw S.K D wvs U hU hW⟩⟩ rfl rfl (by rw [← S.ml]; exact D.l.1.trans S.ml.symm) rfl (lv_room (cat_le hw)) hd ⟨by omega, by omega⟩)
/-- a constructor, by an ordinary link -/
theorem r_cI {idx i : Nat} (hd : decode M.2.1 pc = .ok (.invokespecial idx, 3)) (hp : pc + 3 = pc') (hm : mI M' 0) (hl : Cond.methodLink M.1.cls idx M'.1 ∈ gTbl) (hle : 0 < M'.2.2.1) (hr : M'.2.2.2 = none) (hw : Nat.ble (st.map (fun v => match v with | .inr (.inl _) => 2 | _ => 1)).sum 8 = true) (hk : k + mc' ≤ mc) (hn : n + ms' ≤ ms)
    (he : Ent X d M' mc' ms' [vr i] Z g (fun r Z' g' => AJ X (d + 1) M mc ms Q (k + mc') (n + ms') pc' ls (r.toList ++ st) Z' g')) : AJ X (d + 1) M mc ms Q k n pc ls (vr i :: st) Z g := by
  intro p l e R s m args below meth c Qw A ρ0 n0 S H locs ρ arr D
  obtain ⟨y, cc, mL, rt⟩ := M'
  have hr' : rt = none := hr
  subst hr'
  obtain ⟨⟨q1, q2, q3, q4, q5, q6, q7, q8⟩, q9, q10⟩ := hm
  dsimp only at q1 q2 q3 q4 q5 q6 q7 q8 q9 q10 hl hle he
  obtain ⟨r1, r2, r3, r4⟩ := S.rm
  have wst : wfs Z.length st := wfs_t D.sk
  have wvs : wfs Z.length [vr i] := fun v hv => by rw [List.mem_singleton.mp hv]; exact wfs_h D.sk
  have hM := met_of l he q8 q7 rfl hle ρ H.size
  exact call_end (mc' := mc') (ms' := ms') S D wst hp (va_runI (As := []) (rest := st.map (cv X.1 ρ)) ⟨S.ex, S.co, S.ml, S.ow, S.ts⟩ hM ⟨callB_of (bytes := cc) (maxL := mL) (ret := none) 0 S.ts (g_goodM (M := (y, cc, mL, none)) q1) rfl rfl rfl (S.ts _ q2) (S.ts _ hl) ⟨q3, q4, q5⟩ ⟨by show d + 1 ≤ _; omega, by show 8 + (mL + 11) + 64 * d ≤ _; omega⟩, q10, S.ts _ q9⟩ ⟨PC_blind, fun U hU hW => ⟨rfl, PC_at S.nw S.K D wvs U hU hW⟩⟩ rfl rfl (by rw [← S.ml]; exact D.l.1.trans S.ml.symm) rfl (lv_room (cat_le hw)) hd ⟨by omega, by omega⟩)
end CallRules
end
section
theorem AJ.mono {X : CX} {d : Nat} {M : MI} {mc ms : Nat} {Q Q' : Option VV → List Sh → Mem → Prop} {k n pc : Nat} {ls : List (Option VV)} {st : List VV} {Z : List Sh} {g : Mem} (h : AJ X d M mc ms Q k n pc ls st Z g) (hq : ∀ r Z g, Q r Z g → Q' r Z g) : AJ X d M mc ms Q' k n pc ls st Z g := by
  intro p l e R s m args below meth c Qw A ρ0 n0 S H locs ρ arr D
  obtain ⟨h1, h2, h3, h4, h5, h6, h7, h8, h9, h10, h11, h12, h13, h14⟩ := S
  exact h p l e R s m args below meth c Qw A ρ0 n0 ⟨h1, h2, h3, h4, h5, h6, h7, h8, h9, h10, h11, h12, h13, fun r Z g ρ H locs k n pc arr z => h14 r Z g ρ H locs k n pc arr (hq r Z g z)⟩ H locs ρ arr D
def QI (Z : List Sh) (K : Int → Mem → Prop) : Option VV → List Sh → Mem → Prop := fun r Z' g' => ∃ v, r = some (vi v) ∧ Z' = Z ∧ K v g'
def QV (Z : List Sh) (K : Mem → Prop) : Option VV → List Sh → Mem → Prop := fun r Z' g' => r = none ∧ Z' = Z ∧ K g'
/-- a method that answers a number, and one that answers nothing, making no cells -/
def EI (X : CX) (d : Nat) (M : MI) (vs : List VV) (Z : List Sh) (g : Mem) (K : Int → Mem → Prop) : Prop := Ent X d M 0 0 vs Z g (QI Z K)
def EV (X : CX) (d : Nat) (M : MI) (vs : List VV) (Z : List Sh) (g : Mem) (K : Mem → Prop) : Prop := Ent X d M 0 0 vs Z g (QV Z K)
theorem EI.mono {X : CX} {d : Nat} {M : MI} {vs : List VV} {Z : List Sh} {g : Mem} {K K' : Int → Mem → Prop} (h : EI X d M vs Z g K) (hk : ∀ v g, K v g → K' v g) : EI X d M vs Z g K' := AJ.mono h (fun r Z g ⟨v, h1, h2, h3⟩ => ⟨v, h1, h2, hk v g h3⟩)
theorem EV.mono {X : CX} {d : Nat} {M : MI} {vs : List VV} {Z : List Sh} {g : Mem} {K K' : Mem → Prop} (h : EV X d M vs Z g K) (hk : ∀ g, K g → K' g) : EV X d M vs Z g K' := AJ.mono h (fun r Z g ⟨h1, h2, h3⟩ => ⟨h1, h2, hk g h3⟩)
section Spec
variable {X : CX} {d : Nat} {M M' : MI} {mc ms : Nat} {Q : Option VV → List Sh → Mem → Prop} {k n pc pc' : Nat} {ls : List (Option VV)} {st vs sta : List VV} {Z : List Sh} {g : Mem}
theorem r_reti {v : Int} {ty : FieldType} {K : Int → Mem → Prop} (hd : decode M.2.1 pc = .ok (.ireturn, 1)) (hr : M.2.2.2 = some ty) (ht : ty = .int ∨ (ty = .boolean ∧ (v = 0 ∨ v = 1))) (hq : K v g) : AJ X d M 0 0 (QI Z K) 0 0 pc ls [vi v] Z g := r_ret hd hr ht (Nat.le_refl _) (Nat.le_refl _) ⟨v, rfl, rfl, hq⟩
theorem r_retn {K : Mem → Prop} (hd : decode M.2.1 pc = .ok (.return_, 1)) (hr : M.2.2.2 = none) (hq : K g) : AJ X d M 0 0 (QV Z K) 0 0 pc ls [] Z g := r_retv hd hr (Nat.le_refl _) (Nat.le_refl _) ⟨rfl, rfl, hq⟩
theorem r_vi {idx i c0 : Nat} {fs : List (Option (Option Nat))} (hd : decode M.2.1 pc = .ok (.invokevirtual idx, 3)) (hp : pc + 3 = pc') (hm : mV M' vs.length) (hl : Cond.methodLink M.1.cls idx M'.1 ∈ gTbl) (hz : Z[i]? = some (.inr (.inr (c0, fs)))) (hcn : (vwCl[c0]?).map (fun q => q.1) = some M'.1.cls) (hc : cat1 vs = true) (hle : Nat.ble (vs.length + 1) M'.2.2.1 = true) (hw : Nat.ble (st.map (fun v => match v with | .inr (.inl _) => 2 | _ => 1)).sum 8 = true) (hk : k ≤ mc) (hn : n ≤ ms) (hs : sta = vs.reverse ++ vr i :: st)
    (he : EI X d M' (vr i :: vs) Z g (fun v g' => AJ X (d + 1) M mc ms Q k n pc' ls (vi v :: st) Z g')) : AJ X (d + 1) M mc ms Q k n pc ls sta Z g :=
  r_cV (mc' := 0) (ms' := 0) hd hp hm hl hz hcn hc (Nat.le_of_ble_eq_true hle) hw hk hn hs (AJ.mono he (by rintro r Z' g' ⟨v, rfl, rfl, h⟩; exact h))
theorem r_vv {idx i c0 : Nat} {fs : List (Option (Option Nat))} (hd : decode M.2.1 pc = .ok (.invokevirtual idx, 3)) (hp : pc + 3 = pc') (hm : mV M' vs.length) (hl : Cond.methodLink M.1.cls idx M'.1 ∈ gTbl) (hz : Z[i]? = some (.inr (.inr (c0, fs)))) (hcn : (vwCl[c0]?).map (fun q => q.1) = some M'.1.cls) (hc : cat1 vs = true) (hle : Nat.ble (vs.length + 1) M'.2.2.1 = true) (hw : Nat.ble (st.map (fun v => match v with | .inr (.inl _) => 2 | _ => 1)).sum 8 = true) (hk : k ≤ mc) (hn : n ≤ ms) (hs : sta = vs.reverse ++ vr i :: st)
    (he : EV X d M' (vr i :: vs) Z g (fun g' => AJ X (d + 1) M mc ms Q k n pc' ls st Z g')) : AJ X (d + 1) M mc ms Q k n pc ls sta Z g :=
  r_cV (mc' := 0) (ms' := 0) hd hp hm hl hz hcn hc (Nat.le_of_ble_eq_true hle) hw hk hn hs (AJ.mono he (by rintro r Z' g' ⟨rfl, rfl, h⟩; exact h))
theorem r_si {idx : Nat} (hd : decode M.2.1 pc = .ok (.invokestatic idx, 3)) (hp : pc + 3 = pc') (hm : mS M' vs.length) (hl : Cond.methodLink M.1.cls idx M'.1 ∈ gTbl) (hc : cat1 vs = true) (hle : Nat.ble vs.length M'.2.2.1 = true) (hw : Nat.ble (st.map (fun v => match v with | .inr (.inl _) => 2 | _ => 1)).sum 8 = true) (hk : k ≤ mc) (hn : n ≤ ms) (hs : sta = vs.reverse ++ st)
    (he : EI X d M' vs Z g (fun v g' => AJ X (d + 1) M mc ms Q k n pc' ls (vi v :: st) Z g')) : AJ X (d + 1) M mc ms Q k n pc ls sta Z g :=
  r_cS (mc' := 0) (ms' := 0) hd hp hm hl hc (Nat.le_of_ble_eq_true hle) hw hk hn hs (AJ.mono he (by rintro r Z' g' ⟨v, rfl, rfl, h⟩; exact h))
theorem r_sv {idx : Nat} (hd : decode M.2.1 pc = .ok (.invokestatic idx, 3)) (hp : pc + 3 = pc') (hm : mS M' vs.length) (hl : Cond.methodLink M.1.cls idx M'.1 ∈ gTbl) (hc : cat1 vs = true) (hle : Nat.ble vs.length M'.2.2.1 = true) (hw : Nat.ble (st.map (fun v => match v with | .inr (.inl _) => 2 | _ => 1)).sum 8 = true) (hk : k ≤ mc) (hn : n ≤ ms) (hs : sta = vs.reverse ++ st)
    (he : EV X d M' vs Z g (fun g' => AJ X (d + 1) M mc ms Q k n pc' ls st Z g')) : AJ X (d + 1) M mc ms Q k n pc ls sta Z g :=
  r_cS (mc' := 0) (ms' := 0) hd hp hm hl hc (Nat.le_of_ble_eq_true hle) hw hk hn hs (AJ.mono he (by rintro r Z' g' ⟨rfl, rfl, h⟩; exact h))
theorem r_ni {idx : Nat} {host : String} (hd : decode M.2.1 pc = .ok (.invokestatic idx, 3)) (hp : pc + 3 = pc') (hm : mS M' vs.length) (hl : (M.1.cls, idx, M'.1, host) ∈ nTbl) (hc : cat1 vs = true) (hle : Nat.ble vs.length M'.2.2.1 = true) (hw : Nat.ble (st.map (fun v => match v with | .inr (.inl _) => 2 | _ => 1)).sum 8 = true) (hk : k ≤ mc) (hn : n ≤ ms) (hs : sta = vs.reverse ++ st)
    (he : EI X d M' vs Z g (fun v g' => AJ X (d + 1) M mc ms Q k n pc' ls (vi v :: st) Z g')) : AJ X (d + 1) M mc ms Q k n pc ls sta Z g :=
  r_cSN (mc' := 0) (ms' := 0) hd hp hm hl hc (Nat.le_of_ble_eq_true hle) hw hk hn hs (AJ.mono he (by rintro r Z' g' ⟨v, rfl, rfl, h⟩; exact h))
theorem r_vi0 {idx i c0 : Nat} {fs : List (Option (Option Nat))} (hd : decode M.2.1 pc = .ok (.invokevirtual idx, 3)) (hp : pc + 3 = pc') (hm : mV M' 0) (hl : Cond.methodLink M.1.cls idx M'.1 ∈ gTbl) (hz : Z[i]? = some (.inr (.inr (c0, fs)))) (hcn : (vwCl[c0]?).map (fun q => q.1) = some M'.1.cls) (hle : Nat.ble 1 M'.2.2.1 = true) (hw : Nat.ble (st.map (fun v => match v with | .inr (.inl _) => 2 | _ => 1)).sum 8 = true) (hk : k ≤ mc) (hn : n ≤ ms)
    (he : EI X d M' [vr i] Z g (fun v g' => AJ X (d + 1) M mc ms Q k n pc' ls (vi v :: st) Z g')) : AJ X (d + 1) M mc ms Q k n pc ls (vr i :: st) Z g := r_vi (vs := []) hd hp hm hl hz hcn rfl hle hw hk hn rfl he
theorem r_vi1 {idx i c0 : Nat} {v1 : VV} {fs : List (Option (Option Nat))} (hd : decode M.2.1 pc = .ok (.invokevirtual idx, 3)) (hp : pc + 3 = pc') (hm : mV M' 1) (hl : Cond.methodLink M.1.cls idx M'.1 ∈ gTbl) (hz : Z[i]? = some (.inr (.inr (c0, fs)))) (hcn : (vwCl[c0]?).map (fun q => q.1) = some M'.1.cls) (hc : cat1 [v1] = true) (hle : Nat.ble 2 M'.2.2.1 = true) (hw : Nat.ble (st.map (fun v => match v with | .inr (.inl _) => 2 | _ => 1)).sum 8 = true) (hk : k ≤ mc) (hn : n ≤ ms)
    (he : EI X d M' [vr i, v1] Z g (fun v g' => AJ X (d + 1) M mc ms Q k n pc' ls (vi v :: st) Z g')) : AJ X (d + 1) M mc ms Q k n pc ls (v1 :: vr i :: st) Z g := r_vi (vs := [v1]) hd hp hm hl hz hcn hc hle hw hk hn rfl he
theorem r_vi2 {idx i c0 : Nat} {v1 v2 : VV} {fs : List (Option (Option Nat))} (hd : decode M.2.1 pc = .ok (.invokevirtual idx, 3)) (hp : pc + 3 = pc') (hm : mV M' 2) (hl : Cond.methodLink M.1.cls idx M'.1 ∈ gTbl) (hz : Z[i]? = some (.inr (.inr (c0, fs)))) (hcn : (vwCl[c0]?).map (fun q => q.1) = some M'.1.cls) (hc : cat1 [v1, v2] = true) (hle : Nat.ble 3 M'.2.2.1 = true) (hw : Nat.ble (st.map (fun v => match v with | .inr (.inl _) => 2 | _ => 1)).sum 8 = true) (hk : k ≤ mc) (hn : n ≤ ms)
    (he : EI X d M' [vr i, v1, v2] Z g (fun v g' => AJ X (d + 1) M mc ms Q k n pc' ls (vi v :: st) Z g')) : AJ X (d + 1) M mc ms Q k n pc ls (v2 :: v1 :: vr i :: st) Z g := r_vi (vs := [v1, v2]) hd hp hm hl hz hcn hc hle hw hk hn rfl he
theorem r_vi3 {idx i c0 : Nat} {v1 v2 v3 : VV} {fs : List (Option (Option Nat))} (hd : decode M.2.1 pc = .ok (.invokevirtual idx, 3)) (hp : pc + 3 = pc') (hm : mV M' 3) (hl : Cond.methodLink M.1.cls idx M'.1 ∈ gTbl) (hz : Z[i]? = some (.inr (.inr (c0, fs)))) (hcn : (vwCl[c0]?).map (fun q => q.1) = some M'.1.cls) (hc : cat1 [v1, v2, v3] = true) (hle : Nat.ble 4 M'.2.2.1 = true) (hw : Nat.ble (st.map (fun v => match v with | .inr (.inl _) => 2 | _ => 1)).sum 8 = true) (hk : k ≤ mc) (hn : n ≤ ms)
    (he : EI X d M' [vr i, v1, v2, v3] Z g (fun v g' => AJ X (d + 1) M mc ms Q k n pc' ls (vi v :: st) Z g')) : AJ X (d + 1) M mc ms Q k n pc ls (v3 :: v2 :: v1 :: vr i :: st) Z g := r_vi (vs := [v1, v2, v3]) hd hp hm hl hz hcn hc hle hw hk hn rfl he
theorem r_vv0 {idx i c0 : Nat} {fs : List (Option (Option Nat))} (hd : decode M.2.1 pc = .ok (.invokevirtual idx, 3)) (hp : pc + 3 = pc') (hm : mV M' 0) (hl : Cond.methodLink M.1.cls idx M'.1 ∈ gTbl) (hz : Z[i]? = some (.inr (.inr (c0, fs)))) (hcn : (vwCl[c0]?).map (fun q => q.1) = some M'.1.cls) (hle : Nat.ble 1 M'.2.2.1 = true) (hw : Nat.ble (st.map (fun v => match v with | .inr (.inl _) => 2 | _ => 1)).sum 8 = true) (hk : k ≤ mc) (hn : n ≤ ms)
    (he : EV X d M' [vr i] Z g (fun g' => AJ X (d + 1) M mc ms Q k n pc' ls st Z g')) : AJ X (d + 1) M mc ms Q k n pc ls (vr i :: st) Z g := r_vv (vs := []) hd hp hm hl hz hcn rfl hle hw hk hn rfl he
theorem r_vv1 {idx i c0 : Nat} {v1 : VV} {fs : List (Option (Option Nat))} (hd : decode M.2.1 pc = .ok (.invokevirtual idx, 3)) (hp : pc + 3 = pc') (hm : mV M' 1) (hl : Cond.methodLink M.1.cls idx M'.1 ∈ gTbl) (hz : Z[i]? = some (.inr (.inr (c0, fs)))) (hcn : (vwCl[c0]?).map (fun q => q.1) = some M'.1.cls) (hc : cat1 [v1] = true) (hle : Nat.ble 2 M'.2.2.1 = true) (hw : Nat.ble (st.map (fun v => match v with | .inr (.inl _) => 2 | _ => 1)).sum 8 = true) (hk : k ≤ mc) (hn : n ≤ ms)
    (he : EV X d M' [vr i, v1] Z g (fun g' => AJ X (d + 1) M mc ms Q k n pc' ls st Z g')) : AJ X (d + 1) M mc ms Q k n pc ls (v1 :: vr i :: st) Z g := r_vv (vs := [v1]) hd hp hm hl hz hcn hc hle hw hk hn rfl he
theorem r_vv2 {idx i c0 : Nat} {v1 v2 : VV} {fs : List (Option (Option Nat))} (hd : decode M.2.1 pc = .ok (.invokevirtual idx, 3)) (hp : pc + 3 = pc') (hm : mV M' 2) (hl : Cond.methodLink M.1.cls idx M'.1 ∈ gTbl) (hz : Z[i]? = some (.inr (.inr (c0, fs)))) (hcn : (vwCl[c0]?).map (fun q => q.1) = some M'.1.cls) (hc : cat1 [v1, v2] = true) (hle : Nat.ble 3 M'.2.2.1 = true) (hw : Nat.ble (st.map (fun v => match v with | .inr (.inl _) => 2 | _ => 1)).sum 8 = true) (hk : k ≤ mc) (hn : n ≤ ms)
    (he : EV X d M' [vr i, v1, v2] Z g (fun g' => AJ X (d + 1) M mc ms Q k n pc' ls st Z g')) : AJ X (d + 1) M mc ms Q k n pc ls (v2 :: v1 :: vr i :: st) Z g := r_vv (vs := [v1, v2]) hd hp hm hl hz hcn hc hle hw hk hn rfl he
theorem r_vv3 {idx i c0 : Nat} {v1 v2 v3 : VV} {fs : List (Option (Option Nat))} (hd : decode M.2.1 pc = .ok (.invokevirtual idx, 3)) (hp : pc + 3 = pc') (hm : mV M' 3) (hl : Cond.methodLink M.1.cls idx M'.1 ∈ gTbl) (hz : Z[i]? = some (.inr (.inr (c0, fs)))) (hcn : (vwCl[c0]?).map (fun q => q.1) = some M'.1.cls) (hc : cat1 [v1, v2, v3] = true) (hle : Nat.ble 4 M'.2.2.1 = true) (hw : Nat.ble (st.map (fun v => match v with | .inr (.inl _) => 2 | _ => 1)).sum 8 = true) (hk : k ≤ mc) (hn : n ≤ ms)
    (he : EV X d M' [vr i, v1, v2, v3] Z g (fun g' => AJ X (d + 1) M mc ms Q k n pc' ls st Z g')) : AJ X (d + 1) M mc ms Q k n pc ls (v3 :: v2 :: v1 :: vr i :: st) Z g := r_vv (vs := [v1, v2, v3]) hd hp hm hl hz hcn hc hle hw hk hn rfl he
theorem r_si1 {idx : Nat} {v1 : VV} (hd : decode M.2.1 pc = .ok (.invokestatic idx, 3)) (hp : pc + 3 = pc') (hm : mS M' 1) (hl : Cond.methodLink M.1.cls idx M'.1 ∈ gTbl) (hc : cat1 [v1] = true) (hle : Nat.ble 1 M'.2.2.1 = true) (hw : Nat.ble (st.map (fun v => match v with | .inr (.inl _) => 2 | _ => 1)).sum 8 = true) (hk : k ≤ mc) (hn : n ≤ ms)
    (he : EI X d M' [v1] Z g (fun v g' => AJ X (d + 1) M mc ms Q k n pc' ls (vi v :: st) Z g')) : AJ X (d + 1) M mc ms Q k n pc ls (v1 :: st) Z g := r_si (vs := [v1]) hd hp hm hl hc hle hw hk hn rfl he
theorem r_si2 {idx : Nat} {v1 v2 : VV} (hd : decode M.2.1 pc = .ok (.invokestatic idx, 3)) (hp : pc + 3 = pc') (hm : mS M' 2) (hl : Cond.methodLink M.1.cls idx M'.1 ∈ gTbl) (hc : cat1 [v1, v2] = true) (hle : Nat.ble 2 M'.2.2.1 = true) (hw : Nat.ble (st.map (fun v => match v with | .inr (.inl _) => 2 | _ => 1)).sum 8 = true) (hk : k ≤ mc) (hn : n ≤ ms)
    (he : EI X d M' [v1, v2] Z g (fun v g' => AJ X (d + 1) M mc ms Q k n pc' ls (vi v :: st) Z g')) : AJ X (d + 1) M mc ms Q k n pc ls (v2 :: v1 :: st) Z g := r_si (vs := [v1, v2]) hd hp hm hl hc hle hw hk hn rfl he
theorem r_si3 {idx : Nat} {v1 v2 v3 : VV} (hd : decode M.2.1 pc = .ok (.invokestatic idx, 3)) (hp : pc + 3 = pc') (hm : mS M' 3) (hl : Cond.methodLink M.1.cls idx M'.1 ∈ gTbl) (hc : cat1 [v1, v2, v3] = true) (hle : Nat.ble 3 M'.2.2.1 = true) (hw : Nat.ble (st.map (fun v => match v with | .inr (.inl _) => 2 | _ => 1)).sum 8 = true) (hk : k ≤ mc) (hn : n ≤ ms)
    (he : EI X d M' [v1, v2, v3] Z g (fun v g' => AJ X (d + 1) M mc ms Q k n pc' ls (vi v :: st) Z g')) : AJ X (d + 1) M mc ms Q k n pc ls (v3 :: v2 :: v1 :: st) Z g := r_si (vs := [v1, v2, v3]) hd hp hm hl hc hle hw hk hn rfl he
theorem r_si4 {idx : Nat} {v1 v2 v3 v4 : VV} (hd : decode M.2.1 pc = .ok (.invokestatic idx, 3)) (hp : pc + 3 = pc') (hm : mS M' 4) (hl : Cond.methodLink M.1.cls idx M'.1 ∈ gTbl) (hc : cat1 [v1, v2, v3, v4] = true) (hle : Nat.ble 4 M'.2.2.1 = true) (hw : Nat.ble (st.map (fun v => match v with | .inr (.inl _) => 2 | _ => 1)).sum 8 = true) (hk : k ≤ mc) (hn : n ≤ ms)
    (he : EI X d M' [v1, v2, v3, v4] Z g (fun v g' => AJ X (d + 1) M mc ms Q k n pc' ls (vi v :: st) Z g')) : AJ X (d + 1) M mc ms Q k n pc ls (v4 :: v3 :: v2 :: v1 :: st) Z g := r_si (vs := [v1, v2, v3, v4]) hd hp hm hl hc hle hw hk hn rfl he
theorem r_sv2 {idx : Nat} {v1 v2 : VV} (hd : decode M.2.1 pc = .ok (.invokestatic idx, 3)) (hp : pc + 3 = pc') (hm : mS M' 2) (hl : Cond.methodLink M.1.cls idx M'.1 ∈ gTbl) (hc : cat1 [v1, v2] = true) (hle : Nat.ble 2 M'.2.2.1 = true) (hw : Nat.ble (st.map (fun v => match v with | .inr (.inl _) => 2 | _ => 1)).sum 8 = true) (hk : k ≤ mc) (hn : n ≤ ms)
    (he : EV X d M' [v1, v2] Z g (fun g' => AJ X (d + 1) M mc ms Q k n pc' ls st Z g')) : AJ X (d + 1) M mc ms Q k n pc ls (v2 :: v1 :: st) Z g := r_sv (vs := [v1, v2]) hd hp hm hl hc hle hw hk hn rfl he
theorem r_sv4 {idx : Nat} {v1 v2 v3 v4 : VV} (hd : decode M.2.1 pc = .ok (.invokestatic idx, 3)) (hp : pc + 3 = pc') (hm : mS M' 4) (hl : Cond.methodLink M.1.cls idx M'.1 ∈ gTbl) (hc : cat1 [v1, v2, v3, v4] = true) (hle : Nat.ble 4 M'.2.2.1 = true) (hw : Nat.ble (st.map (fun v => match v with | .inr (.inl _) => 2 | _ => 1)).sum 8 = true) (hk : k ≤ mc) (hn : n ≤ ms)
    (he : EV X d M' [v1, v2, v3, v4] Z g (fun g' => AJ X (d + 1) M mc ms Q k n pc' ls st Z g')) : AJ X (d + 1) M mc ms Q k n pc ls (v4 :: v3 :: v2 :: v1 :: st) Z g := r_sv (vs := [v1, v2, v3, v4]) hd hp hm hl hc hle hw hk hn rfl he
theorem r_ni2 {idx : Nat} {v1 v2 : VV} {host : String} (hd : decode M.2.1 pc = .ok (.invokestatic idx, 3)) (hp : pc + 3 = pc') (hm : mS M' 2) (hl : (M.1.cls, idx, M'.1, host) ∈ nTbl) (hc : cat1 [v1, v2] = true) (hle : Nat.ble 2 M'.2.2.1 = true) (hw : Nat.ble (st.map (fun v => match v with | .inr (.inl _) => 2 | _ => 1)).sum 8 = true) (hk : k ≤ mc) (hn : n ≤ ms)
    (he : EI X d M' [v1, v2] Z g (fun v g' => AJ X (d + 1) M mc ms Q k n pc' ls (vi v :: st) Z g')) : AJ X (d + 1) M mc ms Q k n pc ls (v2 :: v1 :: st) Z g := r_ni (vs := [v1, v2]) hd hp hm hl hc hle hw hk hn rfl he
end Spec
-- copying rows
def mcpy (g : Mem) (i j : Nat) (sp dp n : Int) : Mem := fun r q => if r = j ∧ dp ≤ q ∧ q < dp + n then g i (sp + (q - dp)) else g r q
section Alloc
variable {X : CX} {d : Nat} {M M' : MI} {mc ms mc' ms' : Nat} {Q : Option VV → List Sh → Mem → Prop} {k n pc pc' : Nat} {ls : List (Option VV)} {st vs : List VV} {Z : List Sh} {g g' : Mem}
theorem r_copy {idx i j li lj : Nat} {sp dp z : Int} (hd : decode M.2.1 pc = .ok (.invokestatic idx, 3)) (hp : pc + 3 = pc') (hl : Cond.methodLink M.1.cls idx arraycopyName ∈ gTbl ∧ Cond.native arraycopyName ∈ gTbl ∧ Cond.static arraycopyName ∈ gTbl ∧ Cond.initialized "java/lang/System" ∈ gTbl) (hi : Z[i]? = some (.inl (0, li))) (hj : Z[j]? = some (.inl (0, lj))) (h1 : 0 ≤ sp) (h2 : 0 ≤ dp) (h3 : 0 ≤ z) (h4 : sp + z ≤ li) (h5 : dp + z ≤ lj) (hli : li < 2147483648) (hlj : lj < 2147483648) (hw : Nat.ble (st.map (fun v => match v with | .inr (.inl _) => 2 | _ => 1)).sum 8 = true) (hg : mcpy g i j sp dp z = g') (kk : AJ X (d + 1) M mc ms Q k n pc' ls st Z g') : AJ X (d + 1) M mc ms Q k n pc ls (vi z :: vi dp :: vr j :: vi sp :: vr i :: st) Z g := by
  intro p l e R s m args below meth c Qw A ρ0 n0 S H locs ρ arr D
  subst hp
  subst hg
  have e1 : (Int32.ofInt sp).toInt = sp := i32_toInt ⟨by omega, by omega⟩
  have e2 : (Int32.ofInt dp).toInt = dp := i32_toInt ⟨by omega, by omega⟩
  have e3 : (Int32.ofInt z).toInt = z := i32_toInt ⟨by omega, by omega⟩
  have f1 : (Int32.ofInt sp).toNatClampNeg = sp.toNat := by show (Int32.ofInt sp).toInt.toNat = _; rw [e1]
  have f2 : (Int32.ofInt dp).toNatClampNeg = dp.toNat := by show (Int32.ofInt dp).toInt.toNat = _; rw [e2]
  have f3 : (Int32.ofInt z).toNatClampNeg = z.toNat := by show (Int32.ofInt z).toInt.toNat = _; rw [e3]
  have nn : ∀ {x : Int}, (Int32.ofInt x).toInt = x → 0 ≤ x → ¬ Int32.ofInt x < 0 := fun {x} h1 h2 h => by
    rw [Int32.lt_iff_toInt_lt, h1] at h
    exact absurd (show x < 0 from h) (by omega)
  obtain ⟨r1, r2, -, -⟩ := S.rm
  refine va_copyi S.ex S.co (S.ml.trans D.l.1.symm) S.ow (S.ts _ hl.1) (S.ts _ hl.2.1) (S.ts _ hl.2.2.1) (S.ts _ hl.2.2.2) S.K D.P D.D D.S i j 0 0 (wd_get hi) (wd_get hj) (tys0 X) (tys0 X) rfl (nn e1 h1) (nn e2 h2) (nn e3 h3) (by rw [f1, f3]; omega) (by rw [f2, f3]; omega) (fun _ _ => rfl) (by omega) (Nat.le_trans (Nat.add_le_add_right (cat_le hw) _) (Nat.le_trans (Nat.le_of_ble_eq_true rfl : 8 + (nativeFrameWords "java/lang/System" "arraycopy" 5 + 11) ≤ 64) (by omega))) hd (fun H1 locs1 hP hD hS => ?_)
  have ew : (wd X ρ Z g).set j (ρ j, .inl (X.2.2.2.2 0, lj, .inl (va_cpy (fun q : Nat => Int32.ofInt (g i q)) (fun q : Nat => Int32.ofInt (g j q)) sp.toNat dp.toNat z.toNat))) = wd X ρ Z (mcpy g i j sp dp z) := by
    refine wd_set hj (fun r hr => ?_) ?_
    · funext q
      simp [mcpy, hr]
    · show Sum.inl (_, _, Sum.inl (fun q : Nat => Int32.ofInt (mcpy g i j sp dp z j q))) = _
      congr 4
      funext q
      by_cases hq : dp.toNat ≤ q ∧ q < dp.toNat + z.toNat
      · have e : sp + ((q : Int) - dp) = ((sp.toNat + (q - dp.toNat) : Nat) : Int) := by omega
        simp only [mcpy, va_cpy, if_pos hq]
        rw [if_pos (show _ ∧ _ from ⟨by trivial, by omega, by omega⟩), e]
      · simp only [mcpy, va_cpy, if_neg hq]
        rw [if_neg (fun h => hq ⟨by omega, by omega⟩)]
  rw [f1, f2, f3, ew] at hP hD
  exact kk p l e R s m args below meth c Qw A ρ0 n0 S H1 locs1 ρ arr (D.mem (wfs_t (wfs_t (wfs_t (wfs_t (wfs_t D.sk))))) hP hD hS)
end Alloc
end
