section
-- ===== PART A: goes FIRST, ahead of the names: the tables' words, and 'selects' of the private methods out of them =====
/-- a private method of a class that the tables say can be made, by its rows of tables_1 -/
def lw_okq (q : MethodName × Nat) : Prop := (q.1.cls ≠ "java/lang/invoke/MethodHandle" ∧ q.1.cls ≠ "java/lang/invoke/VarHandle") ∧ Cond.instantiable q.1.cls q.2 ∈ tables_1 ∧ Cond.privateMethod q.1 ∈ tables_1 ∧ Cond.instanceMethod q.1 ∈ tables_1
theorem lw_p0 : lw_okq (⟨"LuckyTickets", "bestRoll", "()I"⟩, 9) := ⟨⟨by decide +kernel, by decide +kernel⟩, List.mem_of_getElem? (i := 17) (by decide +kernel), List.mem_of_getElem? (i := 508) (by decide +kernel), List.mem_of_getElem? (i := 509) (by decide +kernel)⟩
theorem lw_p1 : lw_okq (⟨"LuckyTickets", "soonFrom", "(I)I"⟩, 9) := ⟨⟨by decide +kernel, by decide +kernel⟩, List.mem_of_getElem? (i := 17) (by decide +kernel), List.mem_of_getElem? (i := 512) (by decide +kernel), List.mem_of_getElem? (i := 513) (by decide +kernel)⟩
theorem lw_p2 : lw_okq (⟨"LuckyTickets", "whoGetsIt", "(I)I"⟩, 9) := ⟨⟨by decide +kernel, by decide +kernel⟩, List.mem_of_getElem? (i := 17) (by decide +kernel), List.mem_of_getElem? (i := 583) (by decide +kernel), List.mem_of_getElem? (i := 584) (by decide +kernel)⟩
theorem lw_p3 : lw_okq (⟨"LuckyTickets", "luckyLeft", "(I)I"⟩, 9) := ⟨⟨by decide +kernel, by decide +kernel⟩, List.mem_of_getElem? (i := 17) (by decide +kernel), List.mem_of_getElem? (i := 587) (by decide +kernel), List.mem_of_getElem? (i := 588) (by decide +kernel)⟩
theorem lw_p4 : lw_okq (⟨"LuckyTickets", "partDivisor", "(I)I"⟩, 9) := ⟨⟨by decide +kernel, by decide +kernel⟩, List.mem_of_getElem? (i := 17) (by decide +kernel), List.mem_of_getElem? (i := 591) (by decide +kernel), List.mem_of_getElem? (i := 592) (by decide +kernel)⟩
theorem lw_p5 : lw_okq (⟨"LuckyTickets", "sellOne", "(II)Z"⟩, 9) := ⟨⟨by decide +kernel, by decide +kernel⟩, List.mem_of_getElem? (i := 17) (by decide +kernel), List.mem_of_getElem? (i := 628) (by decide +kernel), List.mem_of_getElem? (i := 629) (by decide +kernel)⟩
theorem lw_p6 : lw_okq (⟨"LuckyTickets", "liveOneDay", "()V"⟩, 9) := ⟨⟨by decide +kernel, by decide +kernel⟩, List.mem_of_getElem? (i := 17) (by decide +kernel), List.mem_of_getElem? (i := 683) (by decide +kernel), List.mem_of_getElem? (i := 684) (by decide +kernel)⟩
theorem lw_p7 : lw_okq (⟨"LuckyTickets", "drawOf", "(I)I"⟩, 9) := ⟨⟨by decide +kernel, by decide +kernel⟩, List.mem_of_getElem? (i := 17) (by decide +kernel), List.mem_of_getElem? (i := 687) (by decide +kernel), List.mem_of_getElem? (i := 688) (by decide +kernel)⟩
theorem lw_p8 : lw_okq (⟨"LuckyTicketsModel", "here", "()I"⟩, 37) := ⟨⟨by decide +kernel, by decide +kernel⟩, List.mem_of_getElem? (i := 783) (by decide +kernel), List.mem_of_getElem? (i := 915) (by decide +kernel), List.mem_of_getElem? (i := 916) (by decide +kernel)⟩
theorem lw_p9 : lw_okq (⟨"LuckyTicketsModel", "takeClause", "()I"⟩, 37) := ⟨⟨by decide +kernel, by decide +kernel⟩, List.mem_of_getElem? (i := 783) (by decide +kernel), List.mem_of_getElem? (i := 919) (by decide +kernel), List.mem_of_getElem? (i := 920) (by decide +kernel)⟩
theorem lw_p10 : lw_okq (⟨"LuckyTicketsModel", "fails", "(II)I"⟩, 37) := ⟨⟨by decide +kernel, by decide +kernel⟩, List.mem_of_getElem? (i := 783) (by decide +kernel), List.mem_of_getElem? (i := 923) (by decide +kernel), List.mem_of_getElem? (i := 924) (by decide +kernel)⟩
theorem lw_p11 : lw_okq (⟨"LuckyTicketsModel", "isFull", "(I)Z"⟩, 37) := ⟨⟨by decide +kernel, by decide +kernel⟩, List.mem_of_getElem? (i := 783) (by decide +kernel), List.mem_of_getElem? (i := 927) (by decide +kernel), List.mem_of_getElem? (i := 928) (by decide +kernel)⟩
theorem lw_p12 : lw_okq (⟨"LuckyTicketsModel", "takeBody", "(I)I"⟩, 37) := ⟨⟨by decide +kernel, by decide +kernel⟩, List.mem_of_getElem? (i := 783) (by decide +kernel), List.mem_of_getElem? (i := 931) (by decide +kernel), List.mem_of_getElem? (i := 932) (by decide +kernel)⟩
theorem lw_p13 : lw_okq (⟨"LuckyTicketsModel", "takeFigures", "()I"⟩, 37) := ⟨⟨by decide +kernel, by decide +kernel⟩, List.mem_of_getElem? (i := 783) (by decide +kernel), List.mem_of_getElem? (i := 935) (by decide +kernel), List.mem_of_getElem? (i := 936) (by decide +kernel)⟩
theorem lw_p14 : lw_okq (⟨"LuckyTicketsModel", "takeNumber", "(II)I"⟩, 37) := ⟨⟨by decide +kernel, by decide +kernel⟩, List.mem_of_getElem? (i := 783) (by decide +kernel), List.mem_of_getElem? (i := 939) (by decide +kernel), List.mem_of_getElem? (i := 940) (by decide +kernel)⟩
theorem lw_p15 : lw_okq (⟨"LuckyTicketsModel", "takeMode", "()I"⟩, 37) := ⟨⟨by decide +kernel, by decide +kernel⟩, List.mem_of_getElem? (i := 783) (by decide +kernel), List.mem_of_getElem? (i := 946) (by decide +kernel), List.mem_of_getElem? (i := 947) (by decide +kernel)⟩
def lw_privs_1 : List (MethodName × Nat) := [(⟨"LuckyTickets", "bestRoll", "()I"⟩, 9), (⟨"LuckyTickets", "soonFrom", "(I)I"⟩, 9), (⟨"LuckyTickets", "whoGetsIt", "(I)I"⟩, 9), (⟨"LuckyTickets", "luckyLeft", "(I)I"⟩, 9), (⟨"LuckyTickets", "partDivisor", "(I)I"⟩, 9), (⟨"LuckyTickets", "sellOne", "(II)Z"⟩, 9), (⟨"LuckyTickets", "liveOneDay", "()V"⟩, 9), (⟨"LuckyTickets", "drawOf", "(I)I"⟩, 9), (⟨"LuckyTicketsModel", "here", "()I"⟩, 37), (⟨"LuckyTicketsModel", "takeClause", "()I"⟩, 37), (⟨"LuckyTicketsModel", "fails", "(II)I"⟩, 37), (⟨"LuckyTicketsModel", "isFull", "(I)Z"⟩, 37), (⟨"LuckyTicketsModel", "takeBody", "(I)I"⟩, 37), (⟨"LuckyTicketsModel", "takeFigures", "()I"⟩, 37), (⟨"LuckyTicketsModel", "takeNumber", "(II)I"⟩, 37), (⟨"LuckyTicketsModel", "takeMode", "()I"⟩, 37)]
theorem lw_r1 : ∀ q ∈ lw_privs_1, lw_okq q := List.forall_mem_cons.mpr ⟨lw_p0, List.forall_mem_cons.mpr ⟨lw_p1, List.forall_mem_cons.mpr ⟨lw_p2, List.forall_mem_cons.mpr ⟨lw_p3, List.forall_mem_cons.mpr ⟨lw_p4, List.forall_mem_cons.mpr ⟨lw_p5, List.forall_mem_cons.mpr ⟨lw_p6, List.forall_mem_cons.mpr ⟨lw_p7, List.forall_mem_cons.mpr ⟨lw_p8, List.forall_mem_cons.mpr ⟨lw_p9, List.forall_mem_cons.mpr ⟨lw_p10, List.forall_mem_cons.mpr ⟨lw_p11, List.forall_mem_cons.mpr ⟨lw_p12, List.forall_mem_cons.mpr ⟨lw_p13, List.forall_mem_cons.mpr ⟨lw_p14, List.forall_mem_cons.mpr ⟨lw_p15, fun _ h => absurd h List.not_mem_nil⟩⟩⟩⟩⟩⟩⟩⟩⟩⟩⟩⟩⟩⟩⟩⟩
theorem lw_p16 : lw_okq (⟨"LuckyTicketsModel", "takeRule", "()I"⟩, 37) := ⟨⟨by decide +kernel, by decide +kernel⟩, List.mem_of_getElem? (i := 783) (by decide +kernel), List.mem_of_getElem? (i := 950) (by decide +kernel), List.mem_of_getElem? (i := 951) (by decide +kernel)⟩
theorem lw_p17 : lw_okq (⟨"LuckyTicketsModel", "into", "([IIII)I"⟩, 37) := ⟨⟨by decide +kernel, by decide +kernel⟩, List.mem_of_getElem? (i := 783) (by decide +kernel), List.mem_of_getElem? (i := 954) (by decide +kernel), List.mem_of_getElem? (i := 955) (by decide +kernel)⟩
theorem lw_p18 : lw_okq (⟨"LuckyTicketsModel", "takeRoll", "()I"⟩, 37) := ⟨⟨by decide +kernel, by decide +kernel⟩, List.mem_of_getElem? (i := 783) (by decide +kernel), List.mem_of_getElem? (i := 967) (by decide +kernel), List.mem_of_getElem? (i := 968) (by decide +kernel)⟩
theorem lw_p19 : lw_okq (⟨"LuckyTicketsModel", "takeRider", "()I"⟩, 37) := ⟨⟨by decide +kernel, by decide +kernel⟩, List.mem_of_getElem? (i := 783) (by decide +kernel), List.mem_of_getElem? (i := 971) (by decide +kernel), List.mem_of_getElem? (i := 972) (by decide +kernel)⟩
theorem lw_p20 : lw_okq (⟨"LuckyTicketsModel", "takeRead", "()V"⟩, 37) := ⟨⟨by decide +kernel, by decide +kernel⟩, List.mem_of_getElem? (i := 783) (by decide +kernel), List.mem_of_getElem? (i := 975) (by decide +kernel), List.mem_of_getElem? (i := 976) (by decide +kernel)⟩
theorem lw_p21 : lw_okq (⟨"LuckyTicketsModel", "allLucky", "()I"⟩, 37) := ⟨⟨by decide +kernel, by decide +kernel⟩, List.mem_of_getElem? (i := 783) (by decide +kernel), List.mem_of_getElem? (i := 987) (by decide +kernel), List.mem_of_getElem? (i := 988) (by decide +kernel)⟩
theorem lw_p22 : lw_okq (⟨"LuckyTicketsModel", "manyBut", "(III)I"⟩, 37) := ⟨⟨by decide +kernel, by decide +kernel⟩, List.mem_of_getElem? (i := 783) (by decide +kernel), List.mem_of_getElem? (i := 991) (by decide +kernel), List.mem_of_getElem? (i := 992) (by decide +kernel)⟩
theorem lw_p23 : lw_okq (⟨"LuckyTicketsModel", "isLuckyBut", "(II)Z"⟩, 37) := ⟨⟨by decide +kernel, by decide +kernel⟩, List.mem_of_getElem? (i := 783) (by decide +kernel), List.mem_of_getElem? (i := 995) (by decide +kernel), List.mem_of_getElem? (i := 996) (by decide +kernel)⟩
theorem lw_p24 : lw_okq (⟨"LuckyTicketsModel", "isYes", "(II)Z"⟩, 37) := ⟨⟨by decide +kernel, by decide +kernel⟩, List.mem_of_getElem? (i := 783) (by decide +kernel), List.mem_of_getElem? (i := 999) (by decide +kernel), List.mem_of_getElem? (i := 1000) (by decide +kernel)⟩
theorem lw_p25 : lw_okq (⟨"LuckyTicketsModel", "saysYes", "(IIII)Z"⟩, 37) := ⟨⟨by decide +kernel, by decide +kernel⟩, List.mem_of_getElem? (i := 783) (by decide +kernel), List.mem_of_getElem? (i := 1003) (by decide +kernel), List.mem_of_getElem? (i := 1004) (by decide +kernel)⟩
theorem lw_p26 : lw_okq (⟨"LuckyTicketsModel", "halves", "(II)Z"⟩, 37) := ⟨⟨by decide +kernel, by decide +kernel⟩, List.mem_of_getElem? (i := 783) (by decide +kernel), List.mem_of_getElem? (i := 1007) (by decide +kernel), List.mem_of_getElem? (i := 1008) (by decide +kernel)⟩
theorem lw_p27 : lw_okq (⟨"LuckyTicketsModel", "figureOf", "(II)I"⟩, 37) := ⟨⟨by decide +kernel, by decide +kernel⟩, List.mem_of_getElem? (i := 783) (by decide +kernel), List.mem_of_getElem? (i := 1011) (by decide +kernel), List.mem_of_getElem? (i := 1012) (by decide +kernel)⟩
theorem lw_p28 : lw_okq (⟨"LuckyTicketsModel", "mirror", "(II)Z"⟩, 37) := ⟨⟨by decide +kernel, by decide +kernel⟩, List.mem_of_getElem? (i := 783) (by decide +kernel), List.mem_of_getElem? (i := 1015) (by decide +kernel), List.mem_of_getElem? (i := 1016) (by decide +kernel)⟩
theorem lw_p29 : lw_okq (⟨"LuckyTicketsModel", "counts", "(III)Z"⟩, 37) := ⟨⟨by decide +kernel, by decide +kernel⟩, List.mem_of_getElem? (i := 783) (by decide +kernel), List.mem_of_getElem? (i := 1019) (by decide +kernel), List.mem_of_getElem? (i := 1020) (by decide +kernel)⟩
theorem lw_p30 : lw_okq (⟨"LuckyTicketsModel", "rises", "(II)Z"⟩, 37) := ⟨⟨by decide +kernel, by decide +kernel⟩, List.mem_of_getElem? (i := 783) (by decide +kernel), List.mem_of_getElem? (i := 1023) (by decide +kernel), List.mem_of_getElem? (i := 1024) (by decide +kernel)⟩
theorem lw_p31 : lw_okq (⟨"LuckyTicketsModel", "bestRoll", "()I"⟩, 37) := ⟨⟨by decide +kernel, by decide +kernel⟩, List.mem_of_getElem? (i := 783) (by decide +kernel), List.mem_of_getElem? (i := 1027) (by decide +kernel), List.mem_of_getElem? (i := 1028) (by decide +kernel)⟩
def lw_privs_2 : List (MethodName × Nat) := [(⟨"LuckyTicketsModel", "takeRule", "()I"⟩, 37), (⟨"LuckyTicketsModel", "into", "([IIII)I"⟩, 37), (⟨"LuckyTicketsModel", "takeRoll", "()I"⟩, 37), (⟨"LuckyTicketsModel", "takeRider", "()I"⟩, 37), (⟨"LuckyTicketsModel", "takeRead", "()V"⟩, 37), (⟨"LuckyTicketsModel", "allLucky", "()I"⟩, 37), (⟨"LuckyTicketsModel", "manyBut", "(III)I"⟩, 37), (⟨"LuckyTicketsModel", "isLuckyBut", "(II)Z"⟩, 37), (⟨"LuckyTicketsModel", "isYes", "(II)Z"⟩, 37), (⟨"LuckyTicketsModel", "saysYes", "(IIII)Z"⟩, 37), (⟨"LuckyTicketsModel", "halves", "(II)Z"⟩, 37), (⟨"LuckyTicketsModel", "figureOf", "(II)I"⟩, 37), (⟨"LuckyTicketsModel", "mirror", "(II)Z"⟩, 37), (⟨"LuckyTicketsModel", "counts", "(III)Z"⟩, 37), (⟨"LuckyTicketsModel", "rises", "(II)Z"⟩, 37), (⟨"LuckyTicketsModel", "bestRoll", "()I"⟩, 37)]
theorem lw_r2 : ∀ q ∈ lw_privs_2, lw_okq q := List.forall_mem_cons.mpr ⟨lw_p16, List.forall_mem_cons.mpr ⟨lw_p17, List.forall_mem_cons.mpr ⟨lw_p18, List.forall_mem_cons.mpr ⟨lw_p19, List.forall_mem_cons.mpr ⟨lw_p20, List.forall_mem_cons.mpr ⟨lw_p21, List.forall_mem_cons.mpr ⟨lw_p22, List.forall_mem_cons.mpr ⟨lw_p23, List.forall_mem_cons.mpr ⟨lw_p24, List.forall_mem_cons.mpr ⟨lw_p25, List.forall_mem_cons.mpr ⟨lw_p26, List.forall_mem_cons.mpr ⟨lw_p27, List.forall_mem_cons.mpr ⟨lw_p28, List.forall_mem_cons.mpr ⟨lw_p29, List.forall_mem_cons.mpr ⟨lw_p30, List.forall_mem_cons.mpr ⟨lw_p31, fun _ h => absurd h List.not_mem_nil⟩⟩⟩⟩⟩⟩⟩⟩⟩⟩⟩⟩⟩⟩⟩⟩
theorem lw_p32 : lw_okq (⟨"LuckyTicketsModel", "soon", "(I)I"⟩, 37) := ⟨⟨by decide +kernel, by decide +kernel⟩, List.mem_of_getElem? (i := 783) (by decide +kernel), List.mem_of_getElem? (i := 1031) (by decide +kernel), List.mem_of_getElem? (i := 1032) (by decide +kernel)⟩
theorem lw_p33 : lw_okq (⟨"LuckyTicketsModel", "isLucky", "(I)Z"⟩, 37) := ⟨⟨by decide +kernel, by decide +kernel⟩, List.mem_of_getElem? (i := 783) (by decide +kernel), List.mem_of_getElem? (i := 1035) (by decide +kernel), List.mem_of_getElem? (i := 1036) (by decide +kernel)⟩
theorem lw_p34 : lw_okq (⟨"LuckyTicketsModel", "luckiest", "()I"⟩, 37) := ⟨⟨by decide +kernel, by decide +kernel⟩, List.mem_of_getElem? (i := 783) (by decide +kernel), List.mem_of_getElem? (i := 1039) (by decide +kernel), List.mem_of_getElem? (i := 1040) (by decide +kernel)⟩
theorem lw_p35 : lw_okq (⟨"LuckyTicketsModel", "manyCould", "()I"⟩, 37) := ⟨⟨by decide +kernel, by decide +kernel⟩, List.mem_of_getElem? (i := 783) (by decide +kernel), List.mem_of_getElem? (i := 1043) (by decide +kernel), List.mem_of_getElem? (i := 1044) (by decide +kernel)⟩
theorem lw_p36 : lw_okq (⟨"LuckyTicketsModel", "couldBe", "(I)Z"⟩, 37) := ⟨⟨by decide +kernel, by decide +kernel⟩, List.mem_of_getElem? (i := 783) (by decide +kernel), List.mem_of_getElem? (i := 1047) (by decide +kernel), List.mem_of_getElem? (i := 1048) (by decide +kernel)⟩
theorem lw_p37 : lw_okq (⟨"LuckyTicketsModel", "saysOf", "(II)Z"⟩, 37) := ⟨⟨by decide +kernel, by decide +kernel⟩, List.mem_of_getElem? (i := 783) (by decide +kernel), List.mem_of_getElem? (i := 1051) (by decide +kernel), List.mem_of_getElem? (i := 1052) (by decide +kernel)⟩
theorem lw_p38 : lw_okq (⟨"LuckyTicketsModel", "askNext", "()I"⟩, 37) := ⟨⟨by decide +kernel, by decide +kernel⟩, List.mem_of_getElem? (i := 783) (by decide +kernel), List.mem_of_getElem? (i := 1067) (by decide +kernel), List.mem_of_getElem? (i := 1068) (by decide +kernel)⟩
theorem lw_p39 : lw_okq (⟨"LuckyTicketsModel", "manyYes", "(I)I"⟩, 37) := ⟨⟨by decide +kernel, by decide +kernel⟩, List.mem_of_getElem? (i := 783) (by decide +kernel), List.mem_of_getElem? (i := 1071) (by decide +kernel), List.mem_of_getElem? (i := 1072) (by decide +kernel)⟩
theorem lw_p40 : lw_okq (⟨"LuckyTicketsModel", "isRule", "(I)Z"⟩, 37) := ⟨⟨by decide +kernel, by decide +kernel⟩, List.mem_of_getElem? (i := 783) (by decide +kernel), List.mem_of_getElem? (i := 1079) (by decide +kernel), List.mem_of_getElem? (i := 1080) (by decide +kernel)⟩
theorem lw_p41 : lw_okq (⟨"LuckyTicketsModel", "isRoll", "(I)Z"⟩, 37) := ⟨⟨by decide +kernel, by decide +kernel⟩, List.mem_of_getElem? (i := 783) (by decide +kernel), List.mem_of_getElem? (i := 1088) (by decide +kernel), List.mem_of_getElem? (i := 1089) (by decide +kernel)⟩
theorem lw_p42 : lw_okq (⟨"LuckyTicketsModel", "who", "(I)I"⟩, 37) := ⟨⟨by decide +kernel, by decide +kernel⟩, List.mem_of_getElem? (i := 783) (by decide +kernel), List.mem_of_getElem? (i := 1092) (by decide +kernel), List.mem_of_getElem? (i := 1093) (by decide +kernel)⟩
theorem lw_p43 : lw_okq (⟨"LuckyTicketsModel", "part", "(IZ)I"⟩, 37) := ⟨⟨by decide +kernel, by decide +kernel⟩, List.mem_of_getElem? (i := 783) (by decide +kernel), List.mem_of_getElem? (i := 1096) (by decide +kernel), List.mem_of_getElem? (i := 1097) (by decide +kernel)⟩
theorem lw_p44 : lw_okq (⟨"LuckyTicketsModel", "luckyLeft", "(I)I"⟩, 37) := ⟨⟨by decide +kernel, by decide +kernel⟩, List.mem_of_getElem? (i := 783) (by decide +kernel), List.mem_of_getElem? (i := 1100) (by decide +kernel), List.mem_of_getElem? (i := 1101) (by decide +kernel)⟩
theorem lw_p45 : lw_okq (⟨"LuckyTicketsModel", "isRider", "(I)Z"⟩, 37) := ⟨⟨by decide +kernel, by decide +kernel⟩, List.mem_of_getElem? (i := 783) (by decide +kernel), List.mem_of_getElem? (i := 1108) (by decide +kernel), List.mem_of_getElem? (i := 1109) (by decide +kernel)⟩
theorem lw_p46 : lw_okq (⟨"LuckyTicketsModel", "isNumber", "(I)Z"⟩, 37) := ⟨⟨by decide +kernel, by decide +kernel⟩, List.mem_of_getElem? (i := 783) (by decide +kernel), List.mem_of_getElem? (i := 1116) (by decide +kernel), List.mem_of_getElem? (i := 1117) (by decide +kernel)⟩
theorem lw_p47 : lw_okq (⟨"LuckyTicketsModel", "remember", "()V"⟩, 37) := ⟨⟨by decide +kernel, by decide +kernel⟩, List.mem_of_getElem? (i := 783) (by decide +kernel), List.mem_of_getElem? (i := 1125) (by decide +kernel), List.mem_of_getElem? (i := 1126) (by decide +kernel)⟩
def lw_privs_3 : List (MethodName × Nat) := [(⟨"LuckyTicketsModel", "soon", "(I)I"⟩, 37), (⟨"LuckyTicketsModel", "isLucky", "(I)Z"⟩, 37), (⟨"LuckyTicketsModel", "luckiest", "()I"⟩, 37), (⟨"LuckyTicketsModel", "manyCould", "()I"⟩, 37), (⟨"LuckyTicketsModel", "couldBe", "(I)Z"⟩, 37), (⟨"LuckyTicketsModel", "saysOf", "(II)Z"⟩, 37), (⟨"LuckyTicketsModel", "askNext", "()I"⟩, 37), (⟨"LuckyTicketsModel", "manyYes", "(I)I"⟩, 37), (⟨"LuckyTicketsModel", "isRule", "(I)Z"⟩, 37), (⟨"LuckyTicketsModel", "isRoll", "(I)Z"⟩, 37), (⟨"LuckyTicketsModel", "who", "(I)I"⟩, 37), (⟨"LuckyTicketsModel", "part", "(IZ)I"⟩, 37), (⟨"LuckyTicketsModel", "luckyLeft", "(I)I"⟩, 37), (⟨"LuckyTicketsModel", "isRider", "(I)Z"⟩, 37), (⟨"LuckyTicketsModel", "isNumber", "(I)Z"⟩, 37), (⟨"LuckyTicketsModel", "remember", "()V"⟩, 37)]
theorem lw_r3 : ∀ q ∈ lw_privs_3, lw_okq q := List.forall_mem_cons.mpr ⟨lw_p32, List.forall_mem_cons.mpr ⟨lw_p33, List.forall_mem_cons.mpr ⟨lw_p34, List.forall_mem_cons.mpr ⟨lw_p35, List.forall_mem_cons.mpr ⟨lw_p36, List.forall_mem_cons.mpr ⟨lw_p37, List.forall_mem_cons.mpr ⟨lw_p38, List.forall_mem_cons.mpr ⟨lw_p39, List.forall_mem_cons.mpr ⟨lw_p40, List.forall_mem_cons.mpr ⟨lw_p41, List.forall_mem_cons.mpr ⟨lw_p42, List.forall_mem_cons.mpr ⟨lw_p43, List.forall_mem_cons.mpr ⟨lw_p44, List.forall_mem_cons.mpr ⟨lw_p45, List.forall_mem_cons.mpr ⟨lw_p46, List.forall_mem_cons.mpr ⟨lw_p47, fun _ h => absurd h List.not_mem_nil⟩⟩⟩⟩⟩⟩⟩⟩⟩⟩⟩⟩⟩⟩⟩⟩
theorem lw_p48 : lw_okq (⟨"LuckyTicketsModel", "sellNow", "(II)I"⟩, 37) := ⟨⟨by decide +kernel, by decide +kernel⟩, List.mem_of_getElem? (i := 783) (by decide +kernel), List.mem_of_getElem? (i := 1129) (by decide +kernel), List.mem_of_getElem? (i := 1130) (by decide +kernel)⟩
theorem lw_p49 : lw_okq (⟨"LuckyTicketsModel", "more", "(I)V"⟩, 37) := ⟨⟨by decide +kernel, by decide +kernel⟩, List.mem_of_getElem? (i := 783) (by decide +kernel), List.mem_of_getElem? (i := 1133) (by decide +kernel), List.mem_of_getElem? (i := 1134) (by decide +kernel)⟩
theorem lw_p50 : lw_okq (⟨"LuckyTicketsModel", "chance", "()V"⟩, 37) := ⟨⟨by decide +kernel, by decide +kernel⟩, List.mem_of_getElem? (i := 783) (by decide +kernel), List.mem_of_getElem? (i := 1163) (by decide +kernel), List.mem_of_getElem? (i := 1164) (by decide +kernel)⟩
theorem lw_p51 : lw_okq (⟨"LuckyTicketsModel", "draw", "(I)I"⟩, 37) := ⟨⟨by decide +kernel, by decide +kernel⟩, List.mem_of_getElem? (i := 783) (by decide +kernel), List.mem_of_getElem? (i := 1167) (by decide +kernel), List.mem_of_getElem? (i := 1168) (by decide +kernel)⟩
def lw_privs_4 : List (MethodName × Nat) := [(⟨"LuckyTicketsModel", "sellNow", "(II)I"⟩, 37), (⟨"LuckyTicketsModel", "more", "(I)V"⟩, 37), (⟨"LuckyTicketsModel", "chance", "()V"⟩, 37), (⟨"LuckyTicketsModel", "draw", "(I)I"⟩, 37)]
theorem lw_r4 : ∀ q ∈ lw_privs_4, lw_okq q := List.forall_mem_cons.mpr ⟨lw_p48, List.forall_mem_cons.mpr ⟨lw_p49, List.forall_mem_cons.mpr ⟨lw_p50, List.forall_mem_cons.mpr ⟨lw_p51, fun _ h => absurd h List.not_mem_nil⟩⟩⟩⟩
def lw_privs : List (MethodName × Nat) := lw_privs_1 ++ (lw_privs_2 ++ (lw_privs_3 ++ (lw_privs_4)))
def lw_tbl : List Cond := k2_sels lw_privs ++ tables_1
theorem lw_privs_ok : ∀ q ∈ lw_privs, lw_okq q := by
  show ∀ q ∈ lw_privs_1 ++ (lw_privs_2 ++ (lw_privs_3 ++ (lw_privs_4))), lw_okq q
  exact List.forall_mem_append.mpr ⟨lw_r1, List.forall_mem_append.mpr ⟨lw_r2, List.forall_mem_append.mpr ⟨lw_r3, lw_r4⟩⟩⟩
end
section
/-! ===== BEGIN words of one list among another's, by their places ===== -/
theorem goodIn_r {big : List Cond} (ws : List Cond) (ps : List Nat) (hp : ws = ps.filterMap (fun i => big[i]?)) (h : ws.all goodWord = true) : GoodIn big ws := by
  intro w hw
  have h1 := List.all_eq_true.mp h w hw
  rw [hp] at hw
  obtain ⟨i, -, hi⟩ := List.mem_filterMap.mp hw
  have hm : w ∈ big := by first | exact List.mem_of_getElem? hi | exact List.getElem?_mem hi
  exact ⟨hm, good_of_word h1⟩
theorem goodIn_app {big a b : List Cond} (ha : GoodIn big a) (hb : GoodIn big b) : GoodIn big (a ++ b) := fun w h => (List.mem_append.mp h).elim (ha w) (hb w)
theorem goodIn_ca {big a b : List Cond} {c : Cond} (ha : GoodIn big (c :: a)) (hb : GoodIn big b) : GoodIn big (c :: (a ++ b)) := fun w h => (List.mem_cons.mp h).elim (fun e => ha w (List.mem_cons.mpr (Or.inl e))) (fun h => (List.mem_append.mp h).elim (fun h => ha w (List.mem_cons.mpr (Or.inr h))) (hb w))
theorem goodIn_sub {big ws : List Cond} (hm : ∀ w ∈ ws, w ∈ big) (h : ws.all goodWord = true) : GoodIn big ws := fun w hw => ⟨hm w hw, good_of_word (List.all_eq_true.mp h w hw)⟩
/-! ===== END ===== -/

/-! ===== BEGIN new T[n][m]: the outer array a place, the inner ones among the pooled ===== -/
/-- f, but v at every address of l -/
def vr_up {α : Type} (f : Nat → α) (l : List Nat) (v : α) : Nat → α := fun a => if a ∈ l then v else f a
theorem vr_up_in {α : Type} {f : Nat → α} {l : List Nat} {v : α} {a : Nat} (h : a ∈ l) : vr_up f l v a = v := if_pos h
theorem vr_up_ne {α : Type} {f : Nat → α} {l : List Nat} {v : α} {a : Nat} (h : a ∉ l) : vr_up f l v a = f a := if_neg h
theorem vr_rows {L l : List Nat} {f : Nat → va_E} {e : va_E} (h : ∀ a, a ∈ l → a ∉ L) : va_pl L f ++ l.map (fun a => (a, e)) = va_pl (L ++ l) (vr_up f l e) := by
  unfold va_pl
  rw [List.map_append]
  congr 1
  · apply List.map_congr_left
    intro a ha
    rw [vr_up_ne (fun q => h a q ha)]
  · apply List.map_congr_left
    intro a ha
    rw [vr_up_in ha]
theorem vr_lay {X rows : va_W} {x : Nat × va_E} {pl : va_W} {D : va_G} {cl : List vw_C} {H : Heap} (hP : va_P D cl (((X ++ pl) ++ [x]) ++ rows) H) : va_P D cl ((X ++ [x]) ++ (pl ++ rows)) H := by
  rw [List.append_assoc (X ++ pl)] at hP
  have h := va_P.swap hP
  rw [← List.append_assoc X] at h
  have h2 := va_P.swap h
  rw [List.append_assoc (X ++ [x])] at h2
  exact h2
theorem vr_layD {X rows : va_W} {x : Nat × va_E} {pl : va_W} {A : Nat → Prop} (hD : va_D A (((X ++ pl) ++ [x]) ++ rows)) : va_D A ((X ++ [x]) ++ (pl ++ rows)) := by
  rw [List.append_assoc (X ++ pl)] at hD
  have h := va_D.swap hD
  rw [← List.append_assoc X] at h
  have h2 := va_D.swap h
  rw [List.append_assoc (X ++ [x])] at h2
  exact h2
theorem vr_outer (c : ClassId) (N h0 : Nat) : ∀ i : Nat, Jvm.Free.Multi.outerC c N h0 i = arrV c N (fun j => va_rf (if j < i then some (h0 + 1 + j) else none))
  | 0 => by
    show ({ cls := c, slots := Array.replicate N .null, vm := .none } : Cell) = _
    rw [arrV_new]
    refine congrArg (arrV c N) (funext fun j => ?_)
    simp [va_rf]
  | i + 1 => by
    show (Jvm.Free.Multi.outerC c N h0 i).setSlot i (.ref (h0 + 1 + i)) = _
    rw [vr_outer c N h0 i, arrV_store]
    refine congrArg (arrV c N) (funext fun j => ?_)
    by_cases e : j = i
    · subst e
      simp [updV, va_rf]
    · by_cases h : j < i
      · simp [updV, e, h, Nat.lt_succ_of_lt h]
      · simp [updV, e, h, show ¬ j < i + 1 by omega]
section VGM
variable {p : Program} {l : Launch} {e : Env} {R : Room} {s : State} {m : MethodId} {args : Array Value} {below : List Frame} {meth : Method} {c : Code} {H : Heap} {locs : List Loc} {cells slots : Nat} {Q : State → Prop}
variable {cc : ByteArray} {pc : Nat} {ls : Array Slot} {rest : List Value} {D : va_G} {cl : List vw_C} {A : Nat → Prop} {a : Nat} {tys : List (ClassId × FieldType)} {ws : va_W} {H0 : Heap}
theorem va_mna {X : va_W} {L : List Nat} {f : Nat → va_E} {cc : ByteArray} (hexec : p.tables.exec = Jvm.exec) (hb : c.code = cc) {own : String} {index : Nat} {ty : FieldType} {cy : ClassId} (hown : s.vm.findClass own = some m.cls) (hclink : (Cond.classLink own index ("[" ++ (FieldType.array ty).toString)).before args s = true) (hover : (Cond.arrayOver (.array ty)).before args s = true) (harr : (Cond.arrayClass ty).before args s = true) (hcy : s.vm.findClass (FieldType.array ty).toString = some cy)
    (hK : va_K D cl tys s) (hP : va_P D cl (X ++ va_pl L f) H) (hD : va_D A (X ++ va_pl L f)) (hS : va_S A H0 H locs) (hA : ∀ q, H0.size ≤ q → A q) {n k : Int32} {N' K' : Nat} {z : vp_A} (hn : ¬ n < 0) (hk : ¬ k < 0) (hN : n.toNatClampNeg = N') (hM : k.toNatClampNeg = K')
    (hb1 : N' * 4 ≤ 536870912) (hb2 : K' * componentBytes ty ≤ 536870912) (hb3 : K' ≤ 536870912) (hdf : fits ty (defaultValue ty) = true) (hdd : (defaultValue ty).isDefault = true) (hcells : cells + (1 + N') ≤ R.cells) (hslots : slots + (N' + N' * K') ≤ R.slots) (hz : ∀ c : ClassId, Jvm.Free.Multi.innerC c K' (defaultValue ty) = vp_cell c z) (hdg : decode cc pc = .ok (.multianewarray index 2, 4))
    (kk : ∀ (q : Nat) (r : Nat → Nat) (cA : ClassId) (H1 : Heap), (∀ i j : Nat, i < N' → j < N' → r i = r j → i = j) → (∀ i : Nat, i < N' → r i ∉ L) → va_K D cl (tys ++ [(cA, .array ty)]) s →
      va_P D cl ((X ++ [(q, .inl (cA, N', .inr (.inr (.inr (.inr (fun i => if i < N' then some (r i) else none))))))]) ++ va_pl (L ++ (List.range N').map r) (vr_up f ((List.range N').map r) (.inl (cy, z)))) H1 → va_D A ((X ++ [(q, .inl (cA, N', .inr (.inr (.inr (.inr (fun i => if i < N' then some (r i) else none))))))]) ++ va_pl (L ++ (List.range N').map r) (vr_up f ((List.range N').map r) (.inl (cy, z)))) → va_S A H0 H1 locs →
      W p l e R s m args below meth c H1 locs (cells + 1 + N') (slots + N' + N' * K') Q (F0 m (pc + 4) ls (.ref q :: rest))) : W p l e R s m args below meth c H locs cells slots Q (F0 m pc ls (.int k :: .int n :: rest)) := by
  subst hN
  subst hM
  intro T hT Xs
  obtain ⟨vm₁, cA, comp, -, fA, fC, hO, -, X', step⟩ := Xs.multianewarray2F hexec hown hclink hover harr (g := F0 m pc ls (.int k :: .int n :: rest)) rfl (by rw [hb]; exact hdg) rfl hn hk hb1 hb2 hb3 hdf hdd hcells hslots
  have ec : some cy = some comp := hcy.symm.trans fC
  cases ec
  generalize hF : Jvm.Free.Multi.fill (T.setVm vm₁) cA cy n.toNatClampNeg k.toNatClampNeg (defaultValue ty) n.toNatClampNeg = F at X' step
  have hTh : (T.setVm vm₁).heap = H := hT
  obtain ⟨f1, f2, -, -⟩ := Jvm.Free.Multi.fill_facts (T.setVm vm₁) cA cy n.toNatClampNeg k.toNatClampNeg (defaultValue ty) n.toNatClampNeg
  rw [hF, hTh] at f1 f2
  have hold : ∀ x : Nat, x < H.size → F.heap[x]? = H[x]? := fun x hx => by
    have := Jvm.Free.Multi.fill_old (T.setVm vm₁) cA cy n.toNatClampNeg k.toNatClampNeg (defaultValue ty) (a := x) (by rw [hTh]; exact hx) n.toNatClampNeg
    rw [hF, hTh] at this
    exact this
  have hrow : ∀ j : Nat, j < n.toNatClampNeg → F.heap[H.size + 1 + j]? = some (vp_cell cy z) := fun j hj => by
    have := Jvm.Free.Multi.fill_inner (T.setVm vm₁) cA cy n.toNatClampNeg k.toNatClampNeg (defaultValue ty) n.toNatClampNeg j hj
    rw [hF, hTh, hz] at this
    exact this
  have hout : Jvm.Free.Multi.outerC cA n.toNatClampNeg H.size n.toNatClampNeg = vp_cell cA (n.toNatClampNeg, .inr (.inr (.inr (.inr (fun i => if i < n.toNatClampNeg then some (H.size + 1 + i) else none))))) := by
    rw [vp_cell_q]
    exact vr_outer cA n.toNatClampNeg H.size n.toNatClampNeg
  rw [hout] at f2
  have hlt : ∀ a, a ∈ L → a < H.size := fun a ha => by
    obtain ⟨k9, hk9⟩ := va_pl_get (X := X) (f := f) ha
    exact (hP k9 _ hk9).lt
  have hnl : ∀ i : Nat, i < n.toNatClampNeg → H.size + 1 + i ∉ L := fun i _ h => by
    have := hlt _ h
    omega
  have hnm : ∀ a, a ∈ (List.range n.toNatClampNeg).map (fun i => H.size + 1 + i) → a ∉ L := fun a ha h => by
    obtain ⟨i, -, rfl⟩ := List.mem_map.mp ha
    have := hlt _ h
    omega
  have hP0 : va_P D cl (X ++ va_pl L f) F.heap := hP.kept (fun k9 x hx => hold x.1 ((hP k9 x hx).lt))
  have hP1 : va_P D cl ((X ++ va_pl L f) ++ [(H.size, .inl (cA, n.toNatClampNeg, .inr (.inr (.inr (.inr (fun i => if i < n.toNatClampNeg then some (H.size + 1 + i) else none))))))]) F.heap := hP0.app (fun k9 x hx => by
    have h0 : k9 < 1 := (List.getElem?_eq_some_iff.mp hx).1
    rw [show k9 = 0 by omega] at hx
    cases hx
    exact f2)
  have hP2 : va_P D cl (((X ++ va_pl L f) ++ [(H.size, .inl (cA, n.toNatClampNeg, .inr (.inr (.inr (.inr (fun i => if i < n.toNatClampNeg then some (H.size + 1 + i) else none))))))]) ++ ((List.range n.toNatClampNeg).map (fun i => H.size + 1 + i)).map (fun a => (a, .inl (cy, z)))) F.heap := hP1.app (fun k9 x hx => by
    obtain ⟨a, ha, rfl⟩ := List.mem_map.mp (List.mem_of_getElem? hx)
    obtain ⟨i, hi, rfl⟩ := List.mem_map.mp ha
    exact hrow i (List.mem_range.mp hi))
  have hD2 : va_D A (((X ++ va_pl L f) ++ [(H.size, .inl (cA, n.toNatClampNeg, .inr (.inr (.inr (.inr (fun i => if i < n.toNatClampNeg then some (H.size + 1 + i) else none))))))]) ++ ((List.range n.toNatClampNeg).map (fun i => H.size + 1 + i)).map (fun a => (a, .inl (cy, z)))) := by
    have hD1 := hD.push (e := .inl (cA, n.toNatClampNeg, .inr (.inr (.inr (.inr (fun i => if i < n.toNatClampNeg then some (H.size + 1 + i) else none)))))) hP rfl (hA _ hS.1)
    generalize hW1 : (X ++ va_pl L f) ++ [(H.size, .inl (cA, n.toNatClampNeg, .inr (.inr (.inr (.inr (fun i => if i < n.toNatClampNeg then some (H.size + 1 + i) else none))))))] = W1 at hD1 hP1 ⊢
    have hle : ∀ (k9 : Nat) (x : Nat × va_E), W1[k9]? = some x → x.1 ≤ H.size := fun k9 x hx => by
      rw [← hW1] at hx
      by_cases hl : k9 < (X ++ va_pl L f).length
      · rw [List.getElem?_append_left hl] at hx
        exact Nat.le_of_lt ((hP k9 x hx).lt)
      · rw [List.getElem?_append_right (by omega)] at hx
        have h0 : k9 - (X ++ va_pl L f).length < 1 := (List.getElem?_eq_some_iff.mp hx).1
        rw [show k9 - (X ++ va_pl L f).length = 0 by omega] at hx
        cases hx
        exact Nat.le_refl _
    have hr : ∀ (k9 : Nat) (x : Nat × va_E), (((List.range n.toNatClampNeg).map (fun i => H.size + 1 + i)).map (fun a => ((a, .inl (cy, z)) : Nat × va_E)))[k9]? = some x → x.1 = H.size + 1 + k9 := fun k9 x hx => by
      rw [List.getElem?_map, List.getElem?_map] at hx
      by_cases h9 : k9 < n.toNatClampNeg
      · rw [List.getElem?_range h9] at hx
        cases hx
        rfl
      · have hn0 : (List.range n.toNatClampNeg)[k9]? = none := List.getElem?_eq_none (by rw [List.length_range]; omega)
        rw [hn0] at hx
        cases hx
    refine ⟨fun i j x y hi hj hxy => ?_, fun k9 x hx => ?_⟩
    · by_cases h1 : i < W1.length <;> by_cases h2 : j < W1.length
      · rw [List.getElem?_append_left h1] at hi
        rw [List.getElem?_append_left h2] at hj
        exact hD1.1 i j x y hi hj hxy
      · rw [List.getElem?_append_left h1] at hi
        rw [List.getElem?_append_right (by omega)] at hj
        have := hle _ _ hi
        have := hr _ _ hj
        omega
      · rw [List.getElem?_append_right (by omega)] at hi
        rw [List.getElem?_append_left h2] at hj
        have := hle _ _ hj
        have := hr _ _ hi
        omega
      · rw [List.getElem?_append_right (by omega)] at hi hj
        have := hr _ _ hi
        have := hr _ _ hj
        omega
    · by_cases h1 : k9 < W1.length
      · rw [List.getElem?_append_left h1] at hx
        exact hD1.2 k9 x hx
      · rw [List.getElem?_append_right (by omega)] at hx
        have := hr _ _ hx
        exact hA _ (by have := hS.1; omega)
  have hAr : ArrOfT s cA (.array ty) := fun N9 z9 => by
    obtain ⟨-, k9, hk9, cm9, hkk9⟩ := (hO 0 0 0).1
    exact ⟨(fun q hq => by cases hq), k9, hk9, cm9, hkk9⟩
  have hK2 : va_K D cl (tys ++ [(cA, .array ty)]) s := ⟨hK.1, fun k9 x hx => by
    by_cases hl : k9 < tys.length
    · rw [List.getElem?_append_left hl] at hx
      exact hK.2 k9 x hx
    · rw [List.getElem?_append_right (by omega)] at hx
      have h0 : k9 - tys.length < 1 := (List.getElem?_eq_some_iff.mp hx).1
      rw [show k9 - tys.length = 0 by omega] at hx
      cases hx
      exact ⟨hAr, fA⟩⟩
  obtain ⟨t, a1, b1⟩ := kk H.size (fun i => H.size + 1 + i) cA F.heap (fun i j _ _ h => by have h9 : H.size + 1 + i = H.size + 1 + j := h; omega) hnl hK2 (by rw [← vr_rows hnm]; exact vr_lay hP2) (by rw [← vr_rows hnm]; exact vr_layD hD2) ⟨by rw [f1]; have := hS.1; omega, fun x h1 h2 => (hold x (Nat.lt_of_lt_of_le h1 hS.1)).trans (hS.2.1 x h1 h2), hS.2.2⟩ F rfl X'
  refine ⟨t, step t ?_, b1⟩
  have e : T.heap.size = H.size := by rw [hT]
  rw [e]
  exact a1
end VGM
/-! ===== END ===== -/
end
section
/-! ===== BEGIN printed: names, fields, word lists, decode rows ===== -/
def RX0 : String := "LuckyTickets$Book"
def TX0 : u_T := fun k => match k with
  | 0 => ("LuckyTickets$Book", "numbers", "[I", true)
  | 1 => ("LuckyTickets$Book", "saidLucky", "[Z", true)
  | _ => ("LuckyTickets$Book", "count", "I", false)
def tyX0 : Nat → FieldType := fun k => match k with
  | 0 => .array .int
  | 1 => .array .boolean
  | _ => .int
abbrev wsX00 : List Cond := u_ws RX0 TX0 3
theorem nmX0 : ∀ a, a < 3 → ∀ b, b < 3 → a ≠ b → (TX0 a).2.1 ≠ (TX0 b).2.1 := by decide +kernel
theorem tyX0_ok : ∀ k, k < 3 → parseFieldDescriptor (TX0 k).2.2.1 = some (tyX0 k) := by decide +kernel
abbrev cX0_init : ByteArray := prog_2_method_1_code
def yX0_init : MethodName := ⟨RX0, "<init>", "()V"⟩
abbrev cX0_add : ByteArray := prog_2_method_2_code
def yX0_add : MethodName := ⟨RX0, "add", "(IZ)Z"⟩
def RX1 : String := "LuckyTickets$Guess"
def TX1 : u_T := fun k => match k with
  | 0 => ("LuckyTickets$Guess", "codes", "[I", true)
  | 1 => ("LuckyTickets$Guess", "ticket", "LLuckyTickets$Ticket;", true)
  | 2 => ("LuckyTickets$Guess", "count", "I", false)
  | 3 => ("LuckyTickets$Guess", "seen", "I", false)
  | 4 => ("LuckyTickets$Guess", "figures", "I", false)
  | 5 => ("LuckyTickets$Guess", "question", "I", false)
  | _ => ("LuckyTickets$Guess", "questionKnown", "Z", false)
def tyX1 : Nat → FieldType := fun k => match k with
  | 0 => .array .int
  | 1 => .object "LuckyTickets$Ticket"
  | 2 => .int
  | 3 => .int
  | 4 => .int
  | 5 => .int
  | _ => .boolean
abbrev wsX10 : List Cond := u_ws RX1 TX1 7
theorem nmX1 : ∀ a, a < 7 → ∀ b, b < 7 → a ≠ b → (TX1 a).2.1 ≠ (TX1 b).2.1 := by decide +kernel
theorem tyX1_ok : ∀ k, k < 7 → parseFieldDescriptor (TX1 k).2.2.1 = some (tyX1 k) := by decide +kernel
abbrev cX1_init : ByteArray := prog_3_method_1_code
def yX1_init : MethodName := ⟨RX1, "<init>", "()V"⟩
abbrev cX1_forget : ByteArray := prog_3_method_2_code
def yX1_forget : MethodName := ⟨RX1, "forget", "(I)V"⟩
abbrev cX1_addRules : ByteArray := prog_3_method_3_code
def yX1_addRules : MethodName := ⟨RX1, "addRules", "(II)V"⟩
abbrev cX1_takeIn : ByteArray := prog_3_method_4_code
def yX1_takeIn : MethodName := ⟨RX1, "takeIn", "(IZ)V"⟩
abbrev cX1_bestQuestion : ByteArray := prog_3_method_5_code
def yX1_bestQuestion : MethodName := ⟨RX1, "bestQuestion", "()I"⟩
abbrev cX1_findQuestion : ByteArray := prog_3_method_6_code
def yX1_findQuestion : MethodName := ⟨RX1, "findQuestion", "()I"⟩
abbrev cX1_greaterPart : ByteArray := prog_3_method_7_code
def yX1_greaterPart : MethodName := ⟨RX1, "greaterPart", "(I)I"⟩
def RX2 : String := "LuckyTickets$Image"
def TX2 : u_T := fun k => match k with
  | 0 => ("LuckyTickets$Image", "then", "LLuckyTickets$Tram;", true)
  | 1 => ("LuckyTickets$Image", "isKept", "Z", false)
  | _ => ("LuckyTickets$Image", "seedThen", "J", false)
def tyX2 : Nat → FieldType := fun k => match k with
  | 0 => .object "LuckyTickets$Tram"
  | 1 => .boolean
  | _ => .long
abbrev wsX20 : List Cond := u_ws RX2 TX2 3
theorem nmX2 : ∀ a, a < 3 → ∀ b, b < 3 → a ≠ b → (TX2 a).2.1 ≠ (TX2 b).2.1 := by decide +kernel
theorem tyX2_ok : ∀ k, k < 3 → parseFieldDescriptor (TX2 k).2.2.1 = some (tyX2 k) := by decide +kernel
abbrev cX2_init : ByteArray := prog_4_method_1_code
def yX2_init : MethodName := ⟨RX2, "<init>", "()V"⟩
def RX3 : String := "LuckyTickets$LuckyTable"
def TX3 : u_T := fun k => match k with
  | 0 => ("LuckyTickets$LuckyTable", "yes", "[[J", true)
  | 1 => ("LuckyTickets$LuckyTable", "codes", "[I", true)
  | 2 => ("LuckyTickets$LuckyTable", "luckyBits", "[J", true)
  | 3 => ("LuckyTickets$LuckyTable", "ticket", "LLuckyTickets$Ticket;", true)
  | 4 => ("LuckyTickets$LuckyTable", "figures", "I", false)
  | 5 => ("LuckyTickets$LuckyTable", "numbers", "I", false)
  | 6 => ("LuckyTickets$LuckyTable", "words", "I", false)
  | 7 => ("LuckyTickets$LuckyTable", "ruleCount", "I", false)
  | 8 => ("LuckyTickets$LuckyTable", "mode", "I", false)
  | _ => ("LuckyTickets$LuckyTable", "count", "I", false)
def tyX3 : Nat → FieldType := fun k => match k with
  | 0 => .array (.array .long)
  | 1 => .array .int
  | 2 => .array .long
  | 3 => .object "LuckyTickets$Ticket"
  | 4 => .int
  | 5 => .int
  | 6 => .int
  | 7 => .int
  | 8 => .int
  | _ => .int
abbrev wsX30 : List Cond := u_ws RX3 TX3 10
theorem nmX3 : ∀ a, a < 10 → ∀ b, b < 10 → a ≠ b → (TX3 a).2.1 ≠ (TX3 b).2.1 := by decide +kernel
theorem tyX3_ok : ∀ k, k < 10 → parseFieldDescriptor (TX3 k).2.2.1 = some (tyX3 k) := by decide +kernel
abbrev cX3_init : ByteArray := prog_5_method_1_code
def yX3_init : MethodName := ⟨RX3, "<init>", "()V"⟩
abbrev cX3_follow : ByteArray := prog_5_method_2_code
def yX3_follow : MethodName := ⟨RX3, "follow", "(LLuckyTickets$Tram;)V"⟩
abbrev cX3_fillRow : ByteArray := prog_5_method_3_code
def yX3_fillRow : MethodName := ⟨RX3, "fillRow", "(I)V"⟩
abbrev cX3_joinedWord : ByteArray := prog_5_method_4_code
def yX3_joinedWord : MethodName := ⟨RX3, "joinedWord", "(II)J"⟩
abbrev cX3_countWithout : ByteArray := prog_5_method_5_code
def yX3_countWithout : MethodName := ⟨RX3, "countWithout", "(I)I"⟩
abbrev cX3_isLucky : ByteArray := prog_5_method_6_code
def yX3_isLucky : MethodName := ⟨RX3, "isLucky", "(I)Z"⟩
abbrev cX3_rulesSayingYes : ByteArray := prog_5_method_7_code
def yX3_rulesSayingYes : MethodName := ⟨RX3, "rulesSayingYes", "(I)I"⟩
abbrev cX3_nextFrom : ByteArray := prog_5_method_8_code
def yX3_nextFrom : MethodName := ⟨RX3, "nextFrom", "(I)I"⟩
abbrev cX3_countBetween : ByteArray := prog_5_method_9_code
def yX3_countBetween : MethodName := ⟨RX3, "countBetween", "(II)I"⟩
abbrev cX3_numberAfter : ByteArray := prog_5_method_10_code
def yX3_numberAfter : MethodName := ⟨RX3, "numberAfter", "(I)I"⟩
abbrev cX3_lowerOfLongestWait : ByteArray := prog_5_method_11_code
def yX3_lowerOfLongestWait : MethodName := ⟨RX3, "lowerOfLongestWait", "()I"⟩
def RX4 : String := "LuckyTickets$Past"
def TX4 : u_T := fun k => match k with
  | 0 => ("LuckyTickets$Past", "ring", "[LLuckyTickets$Tram;", true)
  | 1 => ("LuckyTickets$Past", "newest", "I", false)
  | _ => ("LuckyTickets$Past", "count", "I", false)
def tyX4 : Nat → FieldType := fun k => match k with
  | 0 => .array (.object "LuckyTickets$Tram")
  | 1 => .int
  | _ => .int
abbrev wsX40 : List Cond := u_ws RX4 TX4 3
theorem nmX4 : ∀ a, a < 3 → ∀ b, b < 3 → a ≠ b → (TX4 a).2.1 ≠ (TX4 b).2.1 := by decide +kernel
theorem tyX4_ok : ∀ k, k < 3 → parseFieldDescriptor (TX4 k).2.2.1 = some (tyX4 k) := by decide +kernel
abbrev cX4_init : ByteArray := prog_6_method_1_code
def yX4_init : MethodName := ⟨RX4, "<init>", "()V"⟩
abbrev cX4_remember : ByteArray := prog_6_method_2_code
def yX4_remember : MethodName := ⟨RX4, "remember", "(LLuckyTickets$Tram;)V"⟩
abbrev cX4_takeBack : ByteArray := prog_6_method_3_code
def yX4_takeBack : MethodName := ⟨RX4, "takeBack", "(LLuckyTickets$Tram;)V"⟩
def RX5 : String := "LuckyTickets$Reader"
def TX5 : u_T := fun k => match k with
  | 0 => ("LuckyTickets$Reader", "text", "LLuckyTickets$Text;", true)
  | 1 => ("LuckyTickets$Reader", "out", "LLuckyTickets$Tram;", true)
  | 2 => ("LuckyTickets$Reader", "at", "I", false)
  | 3 => ("LuckyTickets$Reader", "numberAt", "I", false)
  | 4 => ("LuckyTickets$Reader", "faultKind", "I", false)
  | 5 => ("LuckyTickets$Reader", "faultAt", "I", false)
  | _ => ("LuckyTickets$Reader", "modeTold", "Z", false)
def tyX5 : Nat → FieldType := fun k => match k with
  | 0 => .object "LuckyTickets$Text"
  | 1 => .object "LuckyTickets$Tram"
  | 2 => .int
  | 3 => .int
  | 4 => .int
  | 5 => .int
  | _ => .boolean
abbrev wsX50 : List Cond := u_ws RX5 TX5 7
theorem nmX5 : ∀ a, a < 7 → ∀ b, b < 7 → a ≠ b → (TX5 a).2.1 ≠ (TX5 b).2.1 := by decide +kernel
theorem tyX5_ok : ∀ k, k < 7 → parseFieldDescriptor (TX5 k).2.2.1 = some (tyX5 k) := by decide +kernel
abbrev cX5_init : ByteArray := prog_7_method_1_code
def yX5_init : MethodName := ⟨RX5, "<init>", "()V"⟩
abbrev cX5_readText : ByteArray := prog_7_method_2_code
def yX5_readText : MethodName := ⟨RX5, "readText", "()V"⟩
abbrev cX5_setFault : ByteArray := prog_7_method_3_code
def yX5_setFault : MethodName := ⟨RX5, "setFault", "(II)V"⟩
abbrev cX5_skipBlanks : ByteArray := prog_7_method_4_code
def yX5_skipBlanks : MethodName := ⟨RX5, "skipBlanks", "()V"⟩
abbrev cX5_readClause : ByteArray := prog_7_method_5_code
def yX5_readClause : MethodName := ⟨RX5, "readClause", "()V"⟩
abbrev cX5_mayStand : ByteArray := prog_7_method_6_code
def yX5_mayStand : MethodName := ⟨RX5, "mayStand", "(C)Z"⟩
abbrev cX5_isOneTooMany : ByteArray := prog_7_method_7_code
def yX5_isOneTooMany : MethodName := ⟨RX5, "isOneTooMany", "(C)Z"⟩
abbrev cX5_readFigures : ByteArray := prog_7_method_8_code
def yX5_readFigures : MethodName := ⟨RX5, "readFigures", "()V"⟩
abbrev cX5_readMode : ByteArray := prog_7_method_9_code
def yX5_readMode : MethodName := ⟨RX5, "readMode", "()V"⟩
abbrev cX5_readRule : ByteArray := prog_7_method_10_code
def yX5_readRule : MethodName := ⟨RX5, "readRule", "()V"⟩
abbrev cX5_readRoll : ByteArray := prog_7_method_11_code
def yX5_readRoll : MethodName := ⟨RX5, "readRoll", "()V"⟩
abbrev cX5_readRider : ByteArray := prog_7_method_12_code
def yX5_readRider : MethodName := ⟨RX5, "readRider", "()V"⟩
abbrev cX5_readEnd : ByteArray := prog_7_method_13_code
def yX5_readEnd : MethodName := ⟨RX5, "readEnd", "()V"⟩
abbrev cX5_readNumber : ByteArray := prog_7_method_14_code
def yX5_readNumber : MethodName := ⟨RX5, "readNumber", "(II)I"⟩
abbrev cX5_isFigure : ByteArray := prog_7_method_15_code
def yX5_isFigure : MethodName := ⟨RX5, "isFigure", "(C)Z"⟩
def RX6 : String := "LuckyTickets$Rules"
def TX6 : u_T := fun k => match k with
  | _ => ("", "", "", false)
def tyX6 : Nat → FieldType := fun k => match k with
  | _ => .int
abbrev wsX60 : List Cond := u_ws RX6 TX6 0
theorem nmX6 : ∀ a, a < 0 → ∀ b, b < 0 → a ≠ b → (TX6 a).2.1 ≠ (TX6 b).2.1 := by decide +kernel
theorem tyX6_ok : ∀ k, k < 0 → parseFieldDescriptor (TX6 k).2.2.1 = some (tyX6 k) := by decide +kernel
abbrev cX6_code : ByteArray := prog_8_method_2_code
def yX6_code : MethodName := ⟨RX6, "code", "(III)I"⟩
abbrev cX6_kindOf : ByteArray := prog_8_method_3_code
def yX6_kindOf : MethodName := ⟨RX6, "kindOf", "(I)I"⟩
abbrev cX6_aOf : ByteArray := prog_8_method_4_code
def yX6_aOf : MethodName := ⟨RX6, "aOf", "(I)I"⟩
abbrev cX6_bOf : ByteArray := prog_8_method_5_code
def yX6_bOf : MethodName := ⟨RX6, "bOf", "(I)I"⟩
abbrev cX6_leastA : ByteArray := prog_8_method_6_code
def yX6_leastA : MethodName := ⟨RX6, "leastA", "(I)I"⟩
abbrev cX6_greatestA : ByteArray := prog_8_method_7_code
def yX6_greatestA : MethodName := ⟨RX6, "greatestA", "(I)I"⟩
abbrev cX6_greatestB : ByteArray := prog_8_method_8_code
def yX6_greatestB : MethodName := ⟨RX6, "greatestB", "(II)I"⟩
abbrev cX6_mayBeTold : ByteArray := prog_8_method_9_code
def yX6_mayBeTold : MethodName := ⟨RX6, "mayBeTold", "(III)Z"⟩
abbrev cX6_sayYes : ByteArray := prog_8_method_10_code
def yX6_sayYes : MethodName := ⟨RX6, "sayYes", "(ILLuckyTickets$Ticket;)Z"⟩
def RX7 : String := "LuckyTickets$Text"
def TX7 : u_T := fun k => match k with
  | 0 => ("LuckyTickets$Text", "letters", "[C", true)
  | _ => ("LuckyTickets$Text", "length", "I", false)
def tyX7 : Nat → FieldType := fun k => match k with
  | 0 => .array .char
  | _ => .int
abbrev wsX70 : List Cond := u_ws RX7 TX7 2
theorem nmX7 : ∀ a, a < 2 → ∀ b, b < 2 → a ≠ b → (TX7 a).2.1 ≠ (TX7 b).2.1 := by decide +kernel
theorem tyX7_ok : ∀ k, k < 2 → parseFieldDescriptor (TX7 k).2.2.1 = some (tyX7 k) := by decide +kernel
abbrev cX7_init : ByteArray := prog_9_method_1_code
def yX7_init : MethodName := ⟨RX7, "<init>", "()V"⟩
abbrev cX7_add : ByteArray := prog_9_method_2_code
def yX7_add : MethodName := ⟨RX7, "add", "(C)Z"⟩
abbrev cX7_letterAt : ByteArray := prog_9_method_3_code
def yX7_letterAt : MethodName := ⟨RX7, "letterAt", "(I)C"⟩
def RX8 : String := "LuckyTickets$Ticket"
def TX8 : u_T := fun k => match k with
  | 0 => ("LuckyTickets$Ticket", "row", "[I", true)
  | 1 => ("LuckyTickets$Ticket", "figures", "I", false)
  | _ => ("LuckyTickets$Ticket", "number", "I", false)
def tyX8 : Nat → FieldType := fun k => match k with
  | 0 => .array .int
  | 1 => .int
  | _ => .int
abbrev wsX80 : List Cond := u_ws RX8 TX8 3
theorem nmX8 : ∀ a, a < 3 → ∀ b, b < 3 → a ≠ b → (TX8 a).2.1 ≠ (TX8 b).2.1 := by decide +kernel
theorem tyX8_ok : ∀ k, k < 3 → parseFieldDescriptor (TX8 k).2.2.1 = some (tyX8 k) := by decide +kernel
abbrev cX8_init : ByteArray := prog_10_method_1_code
def yX8_init : MethodName := ⟨RX8, "<init>", "()V"⟩
abbrev cX8_spell : ByteArray := prog_10_method_2_code
def yX8_spell : MethodName := ⟨RX8, "spell", "(II)V"⟩
abbrev cX8_halvesApart : ByteArray := prog_10_method_3_code
def yX8_halvesApart : MethodName := ⟨RX8, "halvesApart", "()I"⟩
abbrev cX8_unlikePairs : ByteArray := prog_10_method_4_code
def yX8_unlikePairs : MethodName := ⟨RX8, "unlikePairs", "()I"⟩
abbrev cX8_timesThere : ByteArray := prog_10_method_5_code
def yX8_timesThere : MethodName := ⟨RX8, "timesThere", "(I)I"⟩
abbrev cX8_falls : ByteArray := prog_10_method_6_code
def yX8_falls : MethodName := ⟨RX8, "falls", "()I"⟩
def RX9 : String := "LuckyTickets$Tram"
def TX9 : u_T := fun k => match k with
  | 0 => ("LuckyTickets$Tram", "rules", "[I", true)
  | 1 => ("LuckyTickets$Tram", "rolls", "[I", true)
  | 2 => ("LuckyTickets$Tram", "riders", "[I", true)
  | 3 => ("LuckyTickets$Tram", "figures", "I", false)
  | 4 => ("LuckyTickets$Tram", "mode", "I", false)
  | 5 => ("LuckyTickets$Tram", "days", "I", false)
  | 6 => ("LuckyTickets$Tram", "ruleCount", "I", false)
  | 7 => ("LuckyTickets$Tram", "rollCount", "I", false)
  | _ => ("LuckyTickets$Tram", "riderCount", "I", false)
def tyX9 : Nat → FieldType := fun k => match k with
  | 0 => .array .int
  | 1 => .array .int
  | 2 => .array .int
  | 3 => .int
  | 4 => .int
  | 5 => .int
  | 6 => .int
  | 7 => .int
  | _ => .int
abbrev wsX90 : List Cond := u_ws RX9 TX9 9
theorem nmX9 : ∀ a, a < 9 → ∀ b, b < 9 → a ≠ b → (TX9 a).2.1 ≠ (TX9 b).2.1 := by decide +kernel
theorem tyX9_ok : ∀ k, k < 9 → parseFieldDescriptor (TX9 k).2.2.1 = some (tyX9 k) := by decide +kernel
abbrev cX9_init : ByteArray := prog_11_method_1_code
def yX9_init : MethodName := ⟨RX9, "<init>", "()V"⟩
abbrev cX9_clear : ByteArray := prog_11_method_2_code
def yX9_clear : MethodName := ⟨RX9, "clear", "()V"⟩
abbrev cX9_copyFrom : ByteArray := prog_11_method_3_code
def yX9_copyFrom : MethodName := ⟨RX9, "copyFrom", "(LLuckyTickets$Tram;)V"⟩
abbrev cX9_addRule : ByteArray := prog_11_method_4_code
def yX9_addRule : MethodName := ⟨RX9, "addRule", "(I)V"⟩
abbrev cX9_addRoll : ByteArray := prog_11_method_5_code
def yX9_addRoll : MethodName := ⟨RX9, "addRoll", "(II)V"⟩
abbrev cX9_addRider : ByteArray := prog_11_method_6_code
def yX9_addRider : MethodName := ⟨RX9, "addRider", "(I)V"⟩
abbrev cX9_numbers : ByteArray := prog_11_method_7_code
def yX9_numbers : MethodName := ⟨RX9, "numbers", "()I"⟩
abbrev cX9_hasNumber : ByteArray := prog_11_method_8_code
def yX9_hasNumber : MethodName := ⟨RX9, "hasNumber", "(I)Z"⟩
abbrev cX9_hasRule : ByteArray := prog_11_method_9_code
def yX9_hasRule : MethodName := ⟨RX9, "hasRule", "(I)Z"⟩
abbrev cX9_hasRoll : ByteArray := prog_11_method_10_code
def yX9_hasRoll : MethodName := ⟨RX9, "hasRoll", "(I)Z"⟩
abbrev cX9_hasRider : ByteArray := prog_11_method_11_code
def yX9_hasRider : MethodName := ⟨RX9, "hasRider", "(I)Z"⟩
abbrev cX9_nextTicket : ByteArray := prog_11_method_12_code
def yX9_nextTicket : MethodName := ⟨RX9, "nextTicket", "(I)I"⟩
abbrev cX9_ticketsLeft : ByteArray := prog_11_method_13_code
def yX9_ticketsLeft : MethodName := ⟨RX9, "ticketsLeft", "(I)I"⟩
abbrev cX9_riderCell : ByteArray := prog_11_method_14_code
def yX9_riderCell : MethodName := ⟨RX9, "riderCell", "(II)I"⟩
abbrev cX9_behind : ByteArray := prog_11_method_15_code
def yX9_behind : MethodName := ⟨RX9, "behind", "(I)I"⟩
abbrev cX9_putRoll : ByteArray := prog_11_method_16_code
def yX9_putRoll : MethodName := ⟨RX9, "putRoll", "(III)V"⟩
abbrev cX9_takeTicket : ByteArray := prog_11_method_17_code
def yX9_takeTicket : MethodName := ⟨RX9, "takeTicket", "(I)V"⟩
abbrev cX9_handOver : ByteArray := prog_11_method_18_code
def yX9_handOver : MethodName := ⟨RX9, "handOver", "(IZ)V"⟩
abbrev cX9_keepTicket : ByteArray := prog_11_method_19_code
def yX9_keepTicket : MethodName := ⟨RX9, "keepTicket", "(IZ)V"⟩
abbrev cX9_giveLucky : ByteArray := prog_11_method_20_code
def yX9_giveLucky : MethodName := ⟨RX9, "giveLucky", "(II)V"⟩
abbrev cX9_countOneMore : ByteArray := prog_11_method_21_code
def yX9_countOneMore : MethodName := ⟨RX9, "countOneMore", "(II)V"⟩
abbrev cX9_luckiestRider : ByteArray := prog_11_method_22_code
def yX9_luckiestRider : MethodName := ⟨RX9, "luckiestRider", "()I"⟩
def RX10 : String := "LuckyTickets"
def TX10 : u_T := fun k => match k with
  | 0 => ("LuckyTickets", "reader", "LLuckyTickets$Reader;", true)
  | 1 => ("LuckyTickets", "now", "LLuckyTickets$Tram;", true)
  | 2 => ("LuckyTickets", "table", "LLuckyTickets$LuckyTable;", true)
  | 3 => ("LuckyTickets", "past", "LLuckyTickets$Past;", true)
  | 4 => ("LuckyTickets", "guess", "LLuckyTickets$Guess;", true)
  | 5 => ("LuckyTickets", "book", "LLuckyTickets$Book;", true)
  | 6 => ("LuckyTickets", "images", "[LLuckyTickets$Image;", true)
  | 7 => ("LuckyTickets", "seedNow", "J", false)
  | _ => ("LuckyTickets", "faultAt", "I", false)
def tyX10 : Nat → FieldType := fun k => match k with
  | 0 => .object "LuckyTickets$Reader"
  | 1 => .object "LuckyTickets$Tram"
  | 2 => .object "LuckyTickets$LuckyTable"
  | 3 => .object "LuckyTickets$Past"
  | 4 => .object "LuckyTickets$Guess"
  | 5 => .object "LuckyTickets$Book"
  | 6 => .array (.object "LuckyTickets$Image")
  | 7 => .long
  | _ => .int
abbrev wsX100 : List Cond := u_ws RX10 TX10 9
theorem nmX10 : ∀ a, a < 9 → ∀ b, b < 9 → a ≠ b → (TX10 a).2.1 ≠ (TX10 b).2.1 := by decide +kernel
theorem tyX10_ok : ∀ k, k < 9 → parseFieldDescriptor (TX10 k).2.2.1 = some (tyX10 k) := by decide +kernel
abbrev cX10_init : ByteArray := prog_1_method_1_code
def yX10_init : MethodName := ⟨RX10, "<init>", "()V"⟩
abbrev cX10_feed : ByteArray := prog_1_method_2_code
def yX10_feed : MethodName := ⟨RX10, "feed", "(I)I"⟩
abbrev cX10_tram : ByteArray := prog_1_method_3_code
def yX10_tram : MethodName := ⟨RX10, "tram", "()I"⟩
abbrev cX10_fault : ByteArray := prog_1_method_4_code
def yX10_fault : MethodName := ⟨RX10, "fault", "()I"⟩
abbrev cX10_told : ByteArray := prog_1_method_5_code
def yX10_told : MethodName := ⟨RX10, "told", "(I)I"⟩
abbrev cX10_ruleOf : ByteArray := prog_1_method_6_code
def yX10_ruleOf : MethodName := ⟨RX10, "ruleOf", "(II)I"⟩
abbrev cX10_rollOf : ByteArray := prog_1_method_7_code
def yX10_rollOf : MethodName := ⟨RX10, "rollOf", "(II)I"⟩
abbrev cX10_rider : ByteArray := prog_1_method_8_code
def yX10_rider : MethodName := ⟨RX10, "rider", "(II)I"⟩
abbrev cX10_lucky : ByteArray := prog_1_method_9_code
def yX10_lucky : MethodName := ⟨RX10, "lucky", "(II)I"⟩
abbrev cX10_sell : ByteArray := prog_1_method_10_code
def yX10_sell : MethodName := ⟨RX10, "sell", "(II)I"⟩
abbrev cX10_line : ByteArray := prog_1_method_11_code
def yX10_line : MethodName := ⟨RX10, "line", "(II)I"⟩
abbrev cX10_give : ByteArray := prog_1_method_12_code
def yX10_give : MethodName := ⟨RX10, "give", "(II)I"⟩
abbrev cX10_rule : ByteArray := prog_1_method_13_code
def yX10_rule : MethodName := ⟨RX10, "rule", "(IIII)I"⟩
abbrev cX10_mode : ByteArray := prog_1_method_14_code
def yX10_mode : MethodName := ⟨RX10, "mode", "(I)I"⟩
abbrev cX10_roll : ByteArray := prog_1_method_15_code
def yX10_roll : MethodName := ⟨RX10, "roll", "(III)I"⟩
abbrev cX10_drift : ByteArray := prog_1_method_16_code
def yX10_drift : MethodName := ⟨RX10, "drift", "(I)I"⟩
abbrev cX10_undo : ByteArray := prog_1_method_17_code
def yX10_undo : MethodName := ⟨RX10, "undo", "()I"⟩
abbrev cX10_next : ByteArray := prog_1_method_18_code
def yX10_next : MethodName := ⟨RX10, "next", "(I)I"⟩
abbrev cX10_upTo : ByteArray := prog_1_method_19_code
def yX10_upTo : MethodName := ⟨RX10, "upTo", "(II)I"⟩
abbrev cX10_kth : ByteArray := prog_1_method_20_code
def yX10_kth : MethodName := ⟨RX10, "kth", "(I)I"⟩
abbrev cX10_waits : ByteArray := prog_1_method_21_code
def yX10_waits : MethodName := ⟨RX10, "waits", "(I)I"⟩
abbrev cX10_dry : ByteArray := prog_1_method_22_code
def yX10_dry : MethodName := ⟨RX10, "dry", "(II)I"⟩
abbrev cX10_see : ByteArray := prog_1_method_23_code
def yX10_see : MethodName := ⟨RX10, "see", "(IZ)I"⟩
abbrev cX10_could : ByteArray := prog_1_method_24_code
def yX10_could : MethodName := ⟨RX10, "could", "(II)I"⟩
abbrev cX10_write : ByteArray := prog_1_method_25_code
def yX10_write : MethodName := ⟨RX10, "write", "(IZ)I"⟩
abbrev cX10_tear : ByteArray := prog_1_method_26_code
def yX10_tear : MethodName := ⟨RX10, "tear", "()I"⟩
abbrev cX10_judge : ByteArray := prog_1_method_27_code
def yX10_judge : MethodName := ⟨RX10, "judge", "()I"⟩
abbrev cX10_seed : ByteArray := prog_1_method_28_code
def yX10_seed : MethodName := ⟨RX10, "seed", "(I)I"⟩
abbrev cX10_keep : ByteArray := prog_1_method_29_code
def yX10_keep : MethodName := ⟨RX10, "keep", "(I)I"⟩
abbrev cX10_goBack : ByteArray := prog_1_method_30_code
def yX10_goBack : MethodName := ⟨RX10, "goBack", "(I)I"⟩
abbrev cX10_sellOne : ByteArray := prog_1_method_31_code
def yX10_sellOne : MethodName := ⟨RX10, "sellOne", "(II)Z"⟩
abbrev cX10_liveOneDay : ByteArray := prog_1_method_32_code
def yX10_liveOneDay : MethodName := ⟨RX10, "liveOneDay", "()V"⟩
abbrev cX10_drawOf : ByteArray := prog_1_method_33_code
def yX10_drawOf : MethodName := ⟨RX10, "drawOf", "(I)I"⟩
abbrev cX10_soonFrom : ByteArray := prog_1_method_34_code
def yX10_soonFrom : MethodName := ⟨RX10, "soonFrom", "(I)I"⟩
abbrev cX10_whoGetsIt : ByteArray := prog_1_method_35_code
def yX10_whoGetsIt : MethodName := ⟨RX10, "whoGetsIt", "(I)I"⟩
abbrev cX10_bestRoll : ByteArray := prog_1_method_36_code
def yX10_bestRoll : MethodName := ⟨RX10, "bestRoll", "()I"⟩
abbrev cX10_luckyLeft : ByteArray := prog_1_method_37_code
def yX10_luckyLeft : MethodName := ⟨RX10, "luckyLeft", "(I)I"⟩
abbrev cX10_partDivisor : ByteArray := prog_1_method_38_code
def yX10_partDivisor : MethodName := ⟨RX10, "partDivisor", "(I)I"⟩
def RX11 : String := "LuckyTicketsModel"
def TX11 : u_T := fun k => match k with
  | 0 => ("LuckyTicketsModel", "figures", "I", false)
  | 1 => ("LuckyTicketsModel", "last", "I", false)
  | 2 => ("LuckyTicketsModel", "rules", "I", false)
  | 3 => ("LuckyTicketsModel", "rolls", "I", false)
  | 4 => ("LuckyTicketsModel", "riders", "I", false)
  | 5 => ("LuckyTicketsModel", "riderKind", "[I", true)
  | 6 => ("LuckyTicketsModel", "now", "[I", true)
  | 7 => ("LuckyTicketsModel", "seed", "I", false)
  | 8 => ("LuckyTicketsModel", "text", "[I", true)
  | 9 => ("LuckyTicketsModel", "texted", "I", false)
  | 10 => ("LuckyTicketsModel", "faultPlace", "I", false)
  | 11 => ("LuckyTicketsModel", "at0", "I", false)
  | 12 => ("LuckyTicketsModel", "number", "I", false)
  | 13 => ("LuckyTicketsModel", "numberAt", "I", false)
  | 14 => ("LuckyTicketsModel", "readFigures", "I", false)
  | 15 => ("LuckyTicketsModel", "readLast", "I", false)
  | 16 => ("LuckyTicketsModel", "hasMode", "Z", false)
  | 17 => ("LuckyTicketsModel", "readMode", "I", false)
  | 18 => ("LuckyTicketsModel", "readRules", "I", false)
  | 19 => ("LuckyTicketsModel", "readKind", "[I", true)
  | 20 => ("LuckyTicketsModel", "readA", "[I", true)
  | 21 => ("LuckyTicketsModel", "readB", "[I", true)
  | 22 => ("LuckyTicketsModel", "readRolls", "I", false)
  | 23 => ("LuckyTicketsModel", "readAt", "[I", true)
  | 24 => ("LuckyTicketsModel", "readLeft", "[I", true)
  | 25 => ("LuckyTicketsModel", "readRiders", "I", false)
  | 26 => ("LuckyTicketsModel", "readRider", "[I", true)
  | 27 => ("LuckyTicketsModel", "undos", "I", false)
  | 28 => ("LuckyTicketsModel", "past", "[I", true)
  | 29 => ("LuckyTicketsModel", "seen", "I", false)
  | 30 => ("LuckyTicketsModel", "seenAt", "[I", true)
  | 31 => ("LuckyTicketsModel", "seenSo", "[Z", true)
  | 32 => ("LuckyTicketsModel", "booked", "I", false)
  | 33 => ("LuckyTicketsModel", "bookOf", "[I", true)
  | 34 => ("LuckyTicketsModel", "bookSo", "[Z", true)
  | 35 => ("LuckyTicketsModel", "images", "[I", true)
  | _ => ("LuckyTicketsModel", "isKept", "[Z", true)
def tyX11 : Nat → FieldType := fun k => match k with
  | 0 => .int
  | 1 => .int
  | 2 => .int
  | 3 => .int
  | 4 => .int
  | 5 => .array .int
  | 6 => .array .int
  | 7 => .int
  | 8 => .array .int
  | 9 => .int
  | 10 => .int
  | 11 => .int
  | 12 => .int
  | 13 => .int
  | 14 => .int
  | 15 => .int
  | 16 => .boolean
  | 17 => .int
  | 18 => .int
  | 19 => .array .int
  | 20 => .array .int
  | 21 => .array .int
  | 22 => .int
  | 23 => .array .int
  | 24 => .array .int
  | 25 => .int
  | 26 => .array .int
  | 27 => .int
  | 28 => .array .int
  | 29 => .int
  | 30 => .array .int
  | 31 => .array .boolean
  | 32 => .int
  | 33 => .array .int
  | 34 => .array .boolean
  | 35 => .array .int
  | _ => .array .boolean
abbrev wsX110 : List Cond := u_ws RX11 TX11 37
theorem nmX11 : ∀ a, a < 37 → ∀ b, b < 37 → a ≠ b → (TX11 a).2.1 ≠ (TX11 b).2.1 := by decide +kernel
theorem tyX11_ok : ∀ k, k < 37 → parseFieldDescriptor (TX11 k).2.2.1 = some (tyX11 k) := by decide +kernel
abbrev cX11_init : ByteArray := prog_13_method_1_code
def yX11_init : MethodName := ⟨RX11, "<init>", "()V"⟩
abbrev cX11_in : ByteArray := prog_13_method_3_code
def yX11_in : MethodName := ⟨RX11, "in", "(JJJ)Z"⟩
abbrev cX11_isRule : ByteArray := prog_13_method_4_code
def yX11_isRule : MethodName := ⟨RX11, "isRule", "(I)Z"⟩
abbrev cX11_isRoll : ByteArray := prog_13_method_5_code
def yX11_isRoll : MethodName := ⟨RX11, "isRoll", "(I)Z"⟩
abbrev cX11_isRider : ByteArray := prog_13_method_6_code
def yX11_isRider : MethodName := ⟨RX11, "isRider", "(I)Z"⟩
abbrev cX11_isNumber : ByteArray := prog_13_method_7_code
def yX11_isNumber : MethodName := ⟨RX11, "isNumber", "(I)Z"⟩
abbrev cX11_areOf : ByteArray := prog_13_method_8_code
def yX11_areOf : MethodName := ⟨RX11, "areOf", "(III)Z"⟩
abbrev cX11_feed : ByteArray := prog_13_method_9_code
def yX11_feed : MethodName := ⟨RX11, "feed", "(I)I"⟩
abbrev cX11_here : ByteArray := prog_13_method_10_code
def yX11_here : MethodName := ⟨RX11, "here", "()I"⟩
abbrev cX11_fails : ByteArray := prog_13_method_11_code
def yX11_fails : MethodName := ⟨RX11, "fails", "(II)I"⟩
abbrev cX11_takeNumber : ByteArray := prog_13_method_12_code
def yX11_takeNumber : MethodName := ⟨RX11, "takeNumber", "(II)I"⟩
abbrev cX11_into : ByteArray := prog_13_method_13_code
def yX11_into : MethodName := ⟨RX11, "into", "([IIII)I"⟩
abbrev cX11_takeFigures : ByteArray := prog_13_method_14_code
def yX11_takeFigures : MethodName := ⟨RX11, "takeFigures", "()I"⟩
abbrev cX11_takeMode : ByteArray := prog_13_method_15_code
def yX11_takeMode : MethodName := ⟨RX11, "takeMode", "()I"⟩
abbrev cX11_takeRule : ByteArray := prog_13_method_16_code
def yX11_takeRule : MethodName := ⟨RX11, "takeRule", "()I"⟩
abbrev cX11_takeRoll : ByteArray := prog_13_method_17_code
def yX11_takeRoll : MethodName := ⟨RX11, "takeRoll", "()I"⟩
abbrev cX11_takeRider : ByteArray := prog_13_method_18_code
def yX11_takeRider : MethodName := ⟨RX11, "takeRider", "()I"⟩
abbrev cX11_isFull : ByteArray := prog_13_method_19_code
def yX11_isFull : MethodName := ⟨RX11, "isFull", "(I)Z"⟩
abbrev cX11_takeBody : ByteArray := prog_13_method_20_code
def yX11_takeBody : MethodName := ⟨RX11, "takeBody", "(I)I"⟩
abbrev cX11_takeClause : ByteArray := prog_13_method_21_code
def yX11_takeClause : MethodName := ⟨RX11, "takeClause", "()I"⟩
abbrev cX11_takeRead : ByteArray := prog_13_method_22_code
def yX11_takeRead : MethodName := ⟨RX11, "takeRead", "()V"⟩
abbrev cX11_tram : ByteArray := prog_13_method_23_code
def yX11_tram : MethodName := ⟨RX11, "tram", "()I"⟩
abbrev cX11_fault : ByteArray := prog_13_method_24_code
def yX11_fault : MethodName := ⟨RX11, "fault", "()I"⟩
abbrev cX11_figureOf : ByteArray := prog_13_method_25_code
def yX11_figureOf : MethodName := ⟨RX11, "figureOf", "(II)I"⟩
abbrev cX11_halves : ByteArray := prog_13_method_26_code
def yX11_halves : MethodName := ⟨RX11, "halves", "(II)Z"⟩
abbrev cX11_mirror : ByteArray := prog_13_method_27_code
def yX11_mirror : MethodName := ⟨RX11, "mirror", "(II)Z"⟩
abbrev cX11_counts : ByteArray := prog_13_method_28_code
def yX11_counts : MethodName := ⟨RX11, "counts", "(III)Z"⟩
abbrev cX11_rises : ByteArray := prog_13_method_29_code
def yX11_rises : MethodName := ⟨RX11, "rises", "(II)Z"⟩
abbrev cX11_saysYes : ByteArray := prog_13_method_30_code
def yX11_saysYes : MethodName := ⟨RX11, "saysYes", "(IIII)Z"⟩
abbrev cX11_isYes : ByteArray := prog_13_method_31_code
def yX11_isYes : MethodName := ⟨RX11, "isYes", "(II)Z"⟩
abbrev cX11_isLuckyBut : ByteArray := prog_13_method_32_code
def yX11_isLuckyBut : MethodName := ⟨RX11, "isLuckyBut", "(II)Z"⟩
abbrev cX11_isLucky : ByteArray := prog_13_method_33_code
def yX11_isLucky : MethodName := ⟨RX11, "isLucky", "(I)Z"⟩
abbrev cX11_manyBut : ByteArray := prog_13_method_34_code
def yX11_manyBut : MethodName := ⟨RX11, "manyBut", "(III)I"⟩
abbrev cX11_allLucky : ByteArray := prog_13_method_35_code
def yX11_allLucky : MethodName := ⟨RX11, "allLucky", "()I"⟩
abbrev cX11_soon : ByteArray := prog_13_method_36_code
def yX11_soon : MethodName := ⟨RX11, "soon", "(I)I"⟩
abbrev cX11_bestRoll : ByteArray := prog_13_method_37_code
def yX11_bestRoll : MethodName := ⟨RX11, "bestRoll", "()I"⟩
abbrev cX11_luckyLeft : ByteArray := prog_13_method_38_code
def yX11_luckyLeft : MethodName := ⟨RX11, "luckyLeft", "(I)I"⟩
abbrev cX11_part : ByteArray := prog_13_method_39_code
def yX11_part : MethodName := ⟨RX11, "part", "(IZ)I"⟩
abbrev cX11_luckiest : ByteArray := prog_13_method_40_code
def yX11_luckiest : MethodName := ⟨RX11, "luckiest", "()I"⟩
abbrev cX11_told : ByteArray := prog_13_method_41_code
def yX11_told : MethodName := ⟨RX11, "told", "(I)I"⟩
abbrev cX11_ruleOf : ByteArray := prog_13_method_42_code
def yX11_ruleOf : MethodName := ⟨RX11, "ruleOf", "(II)I"⟩
abbrev cX11_who : ByteArray := prog_13_method_43_code
def yX11_who : MethodName := ⟨RX11, "who", "(I)I"⟩
abbrev cX11_rollOf : ByteArray := prog_13_method_44_code
def yX11_rollOf : MethodName := ⟨RX11, "rollOf", "(II)I"⟩
abbrev cX11_rider : ByteArray := prog_13_method_45_code
def yX11_rider : MethodName := ⟨RX11, "rider", "(II)I"⟩
abbrev cX11_lucky : ByteArray := prog_13_method_46_code
def yX11_lucky : MethodName := ⟨RX11, "lucky", "(II)I"⟩
abbrev cX11_remember : ByteArray := prog_13_method_47_code
def yX11_remember : MethodName := ⟨RX11, "remember", "()V"⟩
abbrev cX11_more : ByteArray := prog_13_method_48_code
def yX11_more : MethodName := ⟨RX11, "more", "(I)V"⟩
abbrev cX11_sellNow : ByteArray := prog_13_method_49_code
def yX11_sellNow : MethodName := ⟨RX11, "sellNow", "(II)I"⟩
abbrev cX11_sell : ByteArray := prog_13_method_50_code
def yX11_sell : MethodName := ⟨RX11, "sell", "(II)I"⟩
abbrev cX11_line : ByteArray := prog_13_method_51_code
def yX11_line : MethodName := ⟨RX11, "line", "(II)I"⟩
abbrev cX11_give : ByteArray := prog_13_method_52_code
def yX11_give : MethodName := ⟨RX11, "give", "(II)I"⟩
abbrev cX11_rule : ByteArray := prog_13_method_53_code
def yX11_rule : MethodName := ⟨RX11, "rule", "(IIII)I"⟩
abbrev cX11_mode : ByteArray := prog_13_method_54_code
def yX11_mode : MethodName := ⟨RX11, "mode", "(I)I"⟩
abbrev cX11_roll : ByteArray := prog_13_method_55_code
def yX11_roll : MethodName := ⟨RX11, "roll", "(III)I"⟩
abbrev cX11_draw : ByteArray := prog_13_method_56_code
def yX11_draw : MethodName := ⟨RX11, "draw", "(I)I"⟩
abbrev cX11_chance : ByteArray := prog_13_method_57_code
def yX11_chance : MethodName := ⟨RX11, "chance", "()V"⟩
abbrev cX11_drift : ByteArray := prog_13_method_58_code
def yX11_drift : MethodName := ⟨RX11, "drift", "(I)I"⟩
abbrev cX11_undo : ByteArray := prog_13_method_59_code
def yX11_undo : MethodName := ⟨RX11, "undo", "()I"⟩
abbrev cX11_next : ByteArray := prog_13_method_60_code
def yX11_next : MethodName := ⟨RX11, "next", "(I)I"⟩
abbrev cX11_upTo : ByteArray := prog_13_method_61_code
def yX11_upTo : MethodName := ⟨RX11, "upTo", "(II)I"⟩
abbrev cX11_kth : ByteArray := prog_13_method_62_code
def yX11_kth : MethodName := ⟨RX11, "kth", "(I)I"⟩
abbrev cX11_waits : ByteArray := prog_13_method_63_code
def yX11_waits : MethodName := ⟨RX11, "waits", "(I)I"⟩
abbrev cX11_dry : ByteArray := prog_13_method_64_code
def yX11_dry : MethodName := ⟨RX11, "dry", "(II)I"⟩
abbrev cX11_see : ByteArray := prog_13_method_65_code
def yX11_see : MethodName := ⟨RX11, "see", "(IZ)I"⟩
abbrev cX11_kindOf : ByteArray := prog_13_method_66_code
def yX11_kindOf : MethodName := ⟨RX11, "kindOf", "(I)I"⟩
abbrev cX11_restOf : ByteArray := prog_13_method_67_code
def yX11_restOf : MethodName := ⟨RX11, "restOf", "(I)I"⟩
abbrev cX11_aOf : ByteArray := prog_13_method_68_code
def yX11_aOf : MethodName := ⟨RX11, "aOf", "(I)I"⟩
abbrev cX11_bOf : ByteArray := prog_13_method_69_code
def yX11_bOf : MethodName := ⟨RX11, "bOf", "(I)I"⟩
abbrev cX11_saysOf : ByteArray := prog_13_method_70_code
def yX11_saysOf : MethodName := ⟨RX11, "saysOf", "(II)Z"⟩
abbrev cX11_couldBe : ByteArray := prog_13_method_71_code
def yX11_couldBe : MethodName := ⟨RX11, "couldBe", "(I)Z"⟩
abbrev cX11_manyCould : ByteArray := prog_13_method_72_code
def yX11_manyCould : MethodName := ⟨RX11, "manyCould", "()I"⟩
abbrev cX11_could : ByteArray := prog_13_method_73_code
def yX11_could : MethodName := ⟨RX11, "could", "(II)I"⟩
abbrev cX11_manyYes : ByteArray := prog_13_method_74_code
def yX11_manyYes : MethodName := ⟨RX11, "manyYes", "(I)I"⟩
abbrev cX11_askNext : ByteArray := prog_13_method_75_code
def yX11_askNext : MethodName := ⟨RX11, "askNext", "()I"⟩
abbrev cX11_write : ByteArray := prog_13_method_76_code
def yX11_write : MethodName := ⟨RX11, "write", "(IZ)I"⟩
abbrev cX11_tear : ByteArray := prog_13_method_77_code
def yX11_tear : MethodName := ⟨RX11, "tear", "()I"⟩
abbrev cX11_judge : ByteArray := prog_13_method_78_code
def yX11_judge : MethodName := ⟨RX11, "judge", "()I"⟩
abbrev cX11_seed : ByteArray := prog_13_method_79_code
def yX11_seed : MethodName := ⟨RX11, "seed", "(I)I"⟩
abbrev cX11_keep : ByteArray := prog_13_method_80_code
def yX11_keep : MethodName := ⟨RX11, "keep", "(I)I"⟩
abbrev cX11_goBack : ByteArray := prog_13_method_81_code
def yX11_goBack : MethodName := ⟨RX11, "goBack", "(I)I"⟩
def RJ13 : String := "java/lang/Long"
def TJ13 : u_T := fun k => match k with
  | _ => ("", "", "", false)
def tyJ13 : Nat → FieldType := fun k => match k with
  | _ => .int
abbrev wsJ130 : List Cond := u_ws RJ13 TJ13 0
theorem nmJ13 : ∀ a, a < 0 → ∀ b, b < 0 → a ≠ b → (TJ13 a).2.1 ≠ (TJ13 b).2.1 := by decide +kernel
theorem tyJ13_ok : ∀ k, k < 0 → parseFieldDescriptor (TJ13 k).2.2.1 = some (tyJ13 k) := by decide +kernel
abbrev cJ13_bitCount_95d88 : ByteArray := prog_14_method_50_code
def yJ13_bitCount_95d88 : MethodName := ⟨RJ13, "bitCount", "(J)I"⟩
def RJ9 : String := "java/lang/Math"
def TJ9 : u_T := fun k => match k with
  | _ => ("", "", "", false)
def tyJ9 : Nat → FieldType := fun k => match k with
  | _ => .int
abbrev wsJ90 : List Cond := u_ws RJ9 TJ9 0
theorem nmJ9 : ∀ a, a < 0 → ∀ b, b < 0 → a ≠ b → (TJ9 a).2.1 ≠ (TJ9 b).2.1 := by decide +kernel
theorem tyJ9_ok : ∀ k, k < 0 → parseFieldDescriptor (TJ9 k).2.2.1 = some (tyJ9 k) := by decide +kernel
abbrev cJ9_abs_0f7a4 : ByteArray := prog_15_method_59_code
def yJ9_abs_0f7a4 : MethodName := ⟨RJ9, "abs", "(I)I"⟩
abbrev cJ9_max_7cf53 : ByteArray := prog_15_method_65_code
def yJ9_max_7cf53 : MethodName := ⟨RJ9, "max", "(II)I"⟩
abbrev cJ9_min_7cf53 : ByteArray := prog_15_method_69_code
def yJ9_min_7cf53 : MethodName := ⟨RJ9, "min", "(II)I"⟩
def RJ10 : String := "java/lang/System"
def TJ10 : u_T := fun k => match k with
  | _ => ("", "", "", false)
def tyJ10 : Nat → FieldType := fun k => match k with
  | _ => .int
abbrev wsJ100 : List Cond := u_ws RJ10 TJ10 0
theorem nmJ10 : ∀ a, a < 0 → ∀ b, b < 0 → a ≠ b → (TJ10 a).2.1 ≠ (TJ10 b).2.1 := by decide +kernel
theorem tyJ10_ok : ∀ k, k < 0 → parseFieldDescriptor (TJ10 k).2.2.1 = some (tyJ10 k) := by decide +kernel
def RL : String := "LuckyTicketsLaw"
abbrev cL_law : ByteArray := code
def yL_law : MethodName := ⟨RL, "law", "([I)Z"⟩
end
section
/-! THE MACHINE LAYER: a fixed world of cells, numbered; ints and longs of cell t at place k in a memory; judgements over the memory alone -/
/-- the words of the tables that a call hands on -/
def gm_tbl : List Cond := lw_tbl.filter goodWord
theorem gm_in_tbl {w : Cond} (k : Nat) (h : lw_tbl[k]? = some w) (hg : goodWord w = true) : w ∈ gm_tbl := List.mem_filter.mpr ⟨List.mem_of_getElem? h, hg⟩
abbrev gm_M : Type := (Nat → Nat → Int32) × (Nat → Nat → Int64)
abbrev gm_C : Type := va_G × (Nat → ClassId)
/-- of a cell: its kind (below 100 the class's number; 100 int, 101 char, 102 boolean, 103 long arrays; 104, 105, 106 arrays of rows, Trams, Images), its length, the first it refers to, the step -/
abbrev gm_H : Type := Nat → Nat × Nat × Nat × Nat
def gm_cls : List vw_C := [(RX0, TX0, 3), (RX1, TX1, 7), (RX2, TX2, 3), (RX3, TX3, 10), (RX4, TX4, 3), (RX5, TX5, 7), (RX6, TX6, 0), (RX7, TX7, 2), (RX8, TX8, 3), (RX9, TX9, 9), (RX10, TX10, 9), (RX11, TX11, 37)]
/-- of a class its fields: 0 an int, 1 a long, n + 2 the cell n behind this one -/
def gm_fd : Nat → List Nat
  | 0 => [3, 4, 0]
  | 1 => [3, 4, 0, 0, 0, 0, 0]
  | 2 => [3, 0, 1]
  | 3 => [3, 8, 9, 10, 0, 0, 0, 0, 0, 0]
  | 4 => [3, 0, 0]
  | 5 => [3, 5, 0, 0, 0, 0, 0]
  | 7 => [3, 0]
  | 8 => [3, 0, 0]
  | 9 => [3, 4, 5, 0, 0, 0, 0, 0, 0]
  | 10 => [3, 10, 14, 24, 90, 94, 97, 1, 0]
  | 11 => [0, 0, 0, 0, 0, 3, 4, 0, 5, 0, 0, 0, 0, 0, 0, 0, 0, 0, 0, 6, 7, 8, 0, 9, 10, 0, 11, 0, 12, 0, 13, 14, 0, 15, 16, 17, 18]
  | _ => []
def gm_tys (cf : gm_C) : List (ClassId × FieldType) := [(cf.2 0, .int), (cf.2 1, .char), (cf.2 2, .boolean), (cf.2 3, .long), (cf.2 4, .array .long), (cf.2 5, .object RX9), (cf.2 6, .object RX2)]
def gm_fv (ad : Nat → Nat) (I : Nat → Int32) (J : Nat → Int64) (t k d : Nat) : Value := match d with
  | 0 => .int (I k)
  | 1 => .long (J k)
  | n + 2 => .ref (ad (t + n))
def gm_fs (ad : Nat → Nat) (I : Nat → Int32) (J : Nat → Int64) (t : Nat) (ds : List Nat) : List Value := (List.range ds.length).map (fun k => gm_fv ad I J t k (ds.getD k 0))
def gm_cell (cf : gm_C) (ad : Nat → Nat) (sh : gm_H) (I : Nat → Int32) (J : Nat → Int64) (t : Nat) : va_E :=
  if (sh t).1 < 100 then .inr ((sh t).1, gm_fs ad I J t (gm_fd (sh t).1))
  else if (sh t).1 < 103 then .inl (cf.2 ((sh t).1 - 100), (sh t).2.1, .inl I)
  else if (sh t).1 = 103 then .inl (cf.2 3, (sh t).2.1, .inr (.inl J))
  else .inl (cf.2 ((sh t).1 - 100), (sh t).2.1, .inr (.inr (.inr (.inr (fun j => some (ad ((sh t).2.2.1 + (sh t).2.2.2 * j)))))))
def gm_W (cf : gm_C) (ad : Nat → Nat) (sh : gm_H) (N : Nat) (S : gm_M) : va_W := (List.range N).map (fun i => (ad i, gm_cell cf ad sh (S.1 i) (S.2 i) i))
def gm_A (ad : Nat → Nat) (N : Nat) : Nat → Prop := fun q => ∃ i, i < N ∧ ad i = q
def gm_ui (S : gm_M) (t k : Nat) (v : Int32) : gm_M := (va_up S.1 t (upd (S.1 t) k v), S.2)
def gm_uj (S : gm_M) (t k : Nat) (v : Int64) : gm_M := (S.1, va_up S.2 t (vp_updL (S.2 t) k v))
def gm_uf (S : gm_M) (t : Nat) (f : Nat → Int32) : gm_M := (va_up S.1 t f, S.2)
theorem gm_fs_at {ad : Nat → Nat} {I : Nat → Int32} {J : Nat → Int64} {t k d : Nat} {ds : List Nat} (h : ds[k]? = some d) : (gm_fs ad I J t ds)[k]? = some (gm_fv ad I J t k d) := by
  have hk : k < ds.length := (List.getElem?_eq_some_iff.mp h).1
  have hd : ds.getD k 0 = d := by rw [List.getD_eq_getElem?_getD, h]; rfl
  unfold gm_fs
  rw [List.getElem?_map, List.getElem?_range hk, Option.map_some, hd]
theorem gm_fs_len {ad : Nat → Nat} {I : Nat → Int32} {J : Nat → Int64} {t : Nat} {ds : List Nat} : (gm_fs ad I J t ds).length = ds.length := by
  simp [gm_fs]
theorem gm_fs_set {ad : Nat → Nat} {I I' : Nat → Int32} {J J' : Nat → Int64} {t k d : Nat} {ds : List Nat} (h : ds[k]? = some d) (hI : ∀ j, j ≠ k → I' j = I j) (hJ : ∀ j, j ≠ k → J' j = J j) : (gm_fs ad I J t ds).set k (gm_fv ad I' J' t k d) = gm_fs ad I' J' t ds := by
  have hk : k < ds.length := (List.getElem?_eq_some_iff.mp h).1
  have hd : ds.getD k 0 = d := by rw [List.getD_eq_getElem?_getD, h]; rfl
  apply List.ext_getElem?
  intro j
  by_cases hj : j < ds.length
  · by_cases e : k = j
    · subst e
      rw [List.getElem?_set_self (by rw [gm_fs_len]; exact hk), gm_fs_at h]
    · rw [List.getElem?_set_ne e]
      obtain ⟨dj, hdj⟩ : ∃ dj, ds[j]? = some dj := ⟨ds[j], List.getElem?_eq_getElem hj⟩
      rw [gm_fs_at hdj, gm_fs_at hdj]
      unfold gm_fv
      match dj with
      | 0 => simp only [hI j (Ne.symm e)]
      | 1 => simp only [hJ j (Ne.symm e)]
      | n + 2 => rfl
  · rw [List.getElem?_eq_none (by rw [List.length_set, gm_fs_len]; omega), List.getElem?_eq_none (by rw [gm_fs_len]; omega)]
theorem gm_at {cf : gm_C} {ad : Nat → Nat} {sh : gm_H} {N : Nat} {S : gm_M} {t : Nat} (h : t < N) : (gm_W cf ad sh N S)[t]? = some (ad t, gm_cell cf ad sh (S.1 t) (S.2 t) t) := by
  unfold gm_W
  rw [List.getElem?_map, List.getElem?_range h, Option.map_some]
theorem gm_set {cf : gm_C} {ad : Nat → Nat} {sh : gm_H} {N : Nat} {S S' : gm_M} {t : Nat} {e : va_E} (h : t < N) (he : e = gm_cell cf ad sh (S'.1 t) (S'.2 t) t) (h1 : ∀ j, j ≠ t → S'.1 j = S.1 j) (h2 : ∀ j, j ≠ t → S'.2 j = S.2 j) : (gm_W cf ad sh N S).set t (ad t, e) = gm_W cf ad sh N S' := by
  apply List.ext_getElem?
  intro j
  by_cases hj : j < N
  · by_cases e1 : t = j
    · subst e1
      rw [List.getElem?_set_self (by simp [gm_W]; exact h), gm_at h, he]
    · rw [List.getElem?_set_ne e1, gm_at hj, gm_at hj, h1 j (Ne.symm e1), h2 j (Ne.symm e1)]
  · rw [List.getElem?_eq_none (by rw [List.length_set]; simp [gm_W]; omega), List.getElem?_eq_none (by simp [gm_W]; omega)]
theorem gm_obj {cf : gm_C} {ad : Nat → Nat} {sh : gm_H} {I : Nat → Int32} {J : Nat → Int64} {t ci : Nat} (h : (sh t).1 = ci) (hc : ci < 100) : gm_cell cf ad sh I J t = .inr (ci, gm_fs ad I J t (gm_fd ci)) := by
  unfold gm_cell
  rw [h, if_pos hc]
theorem gm_iarr {cf : gm_C} {ad : Nat → Nat} {sh : gm_H} {I : Nat → Int32} {J : Nat → Int64} {t k n : Nat} (h : (sh t).1 = 100 + k) (hk : k < 3) (hn : (sh t).2.1 = n) : gm_cell cf ad sh I J t = .inl (cf.2 k, n, .inl I) := by
  unfold gm_cell
  rw [if_neg (by omega), if_pos (by omega), h, hn, Nat.add_sub_cancel_left]
theorem gm_larr {cf : gm_C} {ad : Nat → Nat} {sh : gm_H} {I : Nat → Int32} {J : Nat → Int64} {t n : Nat} (h : (sh t).1 = 103) (hn : (sh t).2.1 = n) : gm_cell cf ad sh I J t = .inl (cf.2 3, n, .inr (.inl J)) := by
  unfold gm_cell
  rw [if_neg (by omega), if_neg (by omega), if_pos h, hn]
theorem gm_rarr {cf : gm_C} {ad : Nat → Nat} {sh : gm_H} {I : Nat → Int32} {J : Nat → Int64} {t k n b d : Nat} (h : sh t = (100 + k, n, b, d)) (hk : 4 ≤ k) : gm_cell cf ad sh I J t = .inl (cf.2 k, n, .inr (.inr (.inr (.inr (fun j => some (ad (b + d * j))))))) := by
  unfold gm_cell
  rw [h]
  rw [if_neg (by omega), if_neg (by omega), if_neg (by omega), Nat.add_sub_cancel_left]
/-! the two static rows of the class Rules -/
def gm_la (j : Nat) : Int32 := ([0, 0, 0, 2, 0] : List Int32).getD j 0
def gm_ga (j : Nat) : Int32 := ([36, 2, 9, 12, 3] : List Int32).getD j 0
def gm_Z (A : Nat → Prop) (U : State) (H : Heap) : Prop := (∃ t : Nat, va_Z RX6 "LEAST_A" "[I" (.ref t) A U H ∧ va_T .int t 5 (fun j => .int (gm_la j)) A U H) ∧ (∃ t : Nat, va_Z RX6 "GREATEST_A" "[I" (.ref t) A U H ∧ va_T .int t 5 (fun j => .int (gm_ga j)) A U H)
theorem gm_Z.moved {A : Nat → Prop} {u U : State} {H : Heap} (hvm : u.vm.Alike U.vm) (h : gm_Z A u H) : gm_Z A U H := by
  obtain ⟨⟨t, h1, h2⟩, ⟨t', h3, h4⟩⟩ := h
  exact ⟨⟨t, h1.moved hvm, h2.moved hvm⟩, ⟨t', h3.moved hvm, h4.moved hvm⟩⟩
theorem gm_Z.kept {A : Nat → Prop} {U : State} {H H1 : Heap} (h : gm_Z A U H) (hq : ∀ a : Nat, a < H.size → ¬ A a → H1[a]? = H[a]?) : gm_Z A U H1 := by
  obtain ⟨⟨t, h1, h2⟩, ⟨t', h3, h4⟩⟩ := h
  exact ⟨⟨t, h1.kept hq, h2.kept hq⟩, ⟨t', h3.kept hq, h4.kept hq⟩⟩
theorem gm_Z.narrow {A B : Nat → Prop} {U : State} {H : Heap} (h : gm_Z A U H) (hAB : ∀ q, B q → A q) : gm_Z B U H := by
  obtain ⟨⟨t, h1, h2⟩, ⟨t', h3, h4⟩⟩ := h
  exact ⟨⟨t, h1.narrow hAB, h2.narrow hAB⟩, ⟨t', h3.narrow hAB, h4.narrow hAB⟩⟩
/-! contracts -/
def gm_P (cf : gm_C) (ad : Nat → Nat) (sh : gm_H) (N : Nat) (avs : List Value) (S : gm_M) : Array Value → State → Prop := fun v U => v = avs.toArray ∧ va_P cf.1 gm_cls (gm_W cf ad sh N S) U.heap ∧ va_K cf.1 gm_cls (gm_tys cf) U ∧ va_D (gm_A ad N) (gm_W cf ad sh N S) ∧ gm_Z (gm_A ad N) U U.heap
def gm_Q (cf : gm_C) (ad : Nat → Nat) (sh : gm_H) (N : Nat) (rv : Option Value) (S : gm_M) : Array Value → State → Outcome → State → Prop := fun _ st oc t => oc = .returned rv ∧ va_P cf.1 gm_cls (gm_W cf ad sh N S) t.heap ∧ va_D (gm_A ad N) (gm_W cf ad sh N S) ∧ va_F (gm_A ad N) st t
def gm_Met (l : Launch) (y : MethodName) (b : ByteArray) (maxL : Nat) (ret : Option FieldType) (fr lo : Nat) (cf : gm_C) (ad : Nat → Nat) (sh : gm_H) (N : Nat) (avs : List Value) (S : gm_M) (rv : Option Value) (S' : gm_M) : Prop :=
  Met l y (.code y b maxL ret :: gm_tbl) { frames := fr, cells := 0, slots := 0, locals := lo } (gm_P cf ad sh N avs S) (gm_Q cf ad sh N rv S') 0 0 (gm_A ad N)
theorem gm_P_blind {cf : gm_C} {ad : Nat → Nat} {sh : gm_H} {N : Nat} {avs : List Value} {S : gm_M} : FrameBlind (gm_P cf ad sh N avs S) := by
  intro a U g mk ⟨h1, h2, h3, h4, h5⟩
  exact ⟨h1, h2, va_K.moved (u := U) (U := U.calling g mk a) (Vm.Alike.refl U.vm) h3, h4, gm_Z.moved (u := U) (U := U.calling g mk a) (Vm.Alike.refl U.vm) h5⟩
/-- what holds all through a method's body -/
def gm_F (p : Program) (s : State) (m : MethodId) (args : Array Value) (meth : Method) (c : Code) (cf : gm_C) (ad : Nat → Nat) (N : Nat) (cc : ByteArray) (nL : Nat) (own : String) : Prop :=
  p.tables.exec = Jvm.exec ∧ c.code = cc ∧ c.maxLocals = nL ∧ s.vm.findClass own = some m.cls ∧ (∀ w ∈ gm_tbl, w.before args s = true) ∧ va_K cf.1 gm_cls (gm_tys cf) s ∧ meth.locks = false ∧ gm_Z (gm_A ad N) s s.heap
def gm_G (p : Program) (l : Launch) (e : Env) (R : Room) (s : State) (m : MethodId) (args : Array Value) (below : List Frame) (meth : Method) (c : Code) (Q : State → Prop) (cf : gm_C) (ad : Nat → Nat) (sh : gm_H) (N nL : Nat) (S : gm_M) (pc : Nat) (lv : List (Nat × Value)) (st : List Value) : Prop :=
  ∀ (H : Heap) (locs : List Loc) (ls : Array Slot), va_P cf.1 gm_cls (gm_W cf ad sh N S) H → va_D (gm_A ad N) (gm_W cf ad sh N S) → va_S (gm_A ad N) s.heap H locs → lv_has ls nL lv → W p l e R s m args below meth c H locs 0 0 Q (F0 m pc ls st)
theorem gm_met {l : Launch} {y : MethodName} {b : ByteArray} {maxL : Nat} {ret : Option FieldType} {fr lo : Nat} {cf : gm_C} {ad : Nat → Nat} {sh : gm_H} {N : Nat} {avs : List Value} {S S' : gm_M} {rv : Option Value} (hy : plainName y.cls = true) (hsz : (lg_sl avs).length ≤ maxL)
    (body : ∀ (p : Program) (e : Env) (s : State) (m : MethodId) (args : Array Value) (below : List Frame) (meth : Method) (c : Code), gm_F p s m args meth c cf ad N b maxL y.cls → meth.sig.returnType = ret → gm_G p l e { frames := fr, cells := 0, slots := 0, locals := lo } s m args below meth c (MQ below (gm_Q cf ad sh N rv S') args s 0 0 (gm_A ad N)) cf ad sh N maxL S 0 (lv_args 0 avs) []) :
    gm_Met l y b maxL ret fr lo cf ad sh N avs S rv S' := by
  refine Met.ofW (cc := b) (maxL := maxL) (ret := ret) hy rfl ?_
  intro p e s m args below meth c s₁ B hml hv
  obtain ⟨rfl, hP, hK, hD, hZ⟩ := hv
  have hts := atoms_spec (ws := .code y b maxL ret :: gm_tbl) B.pre
  have hown : s.vm.findClass y.cls = some m.cls := findClass_of_methodNamed B.named
  have hl := lv_entry avs (n := maxL) hsz
  rw [lg_entry_eq]
  exact body p e s m avs.toArray below meth c ⟨B.exec, B.bytes, hml, hown, fun w h => hts w (List.mem_cons_of_mem _ h), hK, B.notSynchronized, hZ⟩ B.returns s.heap [] _ hP hD va_S.rf hl
end
section
section GR
variable {p : Program} {l : Launch} {e : Env} {R : Room} {s : State} {m : MethodId} {args : Array Value} {below : List Frame} {meth : Method} {c : Code} {Q : State → Prop} {cf : gm_C} {ad : Nat → Nat} {sh : gm_H} {N nL : Nat} {S : gm_M} {pc : Nat} {lv : List (Nat × Value)} {st : List Value} {cc : ByteArray} {own : String}
theorem gm_iconst (C : gm_F p s m args meth c cf ad N cc nL own) {n : Int} {v : Int32} (hd : decode cc pc = .ok (.iconst n, 1)) (hv : Int32.ofInt n = v)
    (k : gm_G p l e R s m args below meth c Q cf ad sh N nL S (pc + 1) lv (.int v :: st)) : gm_G p l e R s m args below meth c Q cf ad sh N nL S pc lv (st) := fun H locs ls hP hD hS hl => lv_iconst C.1 C.2.1 hd hv (k H locs ls hP hD hS hl)
theorem gm_bipush (C : gm_F p s m args meth c cf ad N cc nL own) {n : Int} {v : Int32} (hd : decode cc pc = .ok (.bipush n, 2)) (hv : (Int8.ofInt n).toInt32 = v)
    (k : gm_G p l e R s m args below meth c Q cf ad sh N nL S (pc + 2) lv (.int v :: st)) : gm_G p l e R s m args below meth c Q cf ad sh N nL S pc lv (st) := fun H locs ls hP hD hS hl => lv_bipush C.1 C.2.1 hd hv (k H locs ls hP hD hS hl)
theorem gm_sipush (C : gm_F p s m args meth c cf ad N cc nL own) {n : Int} {v : Int32} (hd : decode cc pc = .ok (.sipush n, 3)) (hv : (Int16.ofInt n).toInt32 = v)
    (k : gm_G p l e R s m args below meth c Q cf ad sh N nL S (pc + 3) lv (.int v :: st)) : gm_G p l e R s m args below meth c Q cf ad sh N nL S pc lv (st) := fun H locs ls hP hD hS hl => lv_sipush C.1 C.2.1 hd hv (k H locs ls hP hD hS hl)
theorem gm_lconst (C : gm_F p s m args meth c cf ad N cc nL own) {n : Fin 2} {v : Int64} (hd : decode cc pc = .ok (.lconst n, 1)) (hv : Int64.ofNat (n : Nat) = v)
    (k : gm_G p l e R s m args below meth c Q cf ad sh N nL S (pc + 1) lv (.long v :: st)) : gm_G p l e R s m args below meth c Q cf ad sh N nL S pc lv (st) := fun H locs ls hP hD hS hl => lv_lconst C.1 C.2.1 hd hv (k H locs ls hP hD hS hl)
theorem gm_iload_n (C : gm_F p s m args meth c cf ad N cc nL own) {k : Fin 4} {i : Nat} {x : Int32} (hd : decode cc pc = .ok (.iload_n k, 1)) (hi : (k : Nat) = i) (j : Nat) (hj : lv[j]? = some (i, .int x))
    (k : gm_G p l e R s m args below meth c Q cf ad sh N nL S (pc + 1) lv (.int x :: st)) : gm_G p l e R s m args below meth c Q cf ad sh N nL S pc lv st := fun H locs ls hP hD hS hl => lv_iload_n C.1 C.2.1 hd hi (lv_at hl j hj) (k H locs ls hP hD hS hl)
theorem gm_iload (C : gm_F p s m args meth c cf ad N cc nL own) {i : Nat} {x : Int32} (hd : decode cc pc = .ok (.iload i, 2)) (j : Nat) (hj : lv[j]? = some (i, .int x))
    (k : gm_G p l e R s m args below meth c Q cf ad sh N nL S (pc + 2) lv (.int x :: st)) : gm_G p l e R s m args below meth c Q cf ad sh N nL S pc lv st := fun H locs ls hP hD hS hl => lv_iload C.1 C.2.1 hd (lv_at hl j hj) (k H locs ls hP hD hS hl)
theorem gm_lload_n (C : gm_F p s m args meth c cf ad N cc nL own) {k : Fin 4} {i : Nat} {x : Int64} (hd : decode cc pc = .ok (.lload_n k, 1)) (hi : (k : Nat) = i) (j : Nat) (hj : lv[j]? = some (i, .long x))
    (k : gm_G p l e R s m args below meth c Q cf ad sh N nL S (pc + 1) lv (.long x :: st)) : gm_G p l e R s m args below meth c Q cf ad sh N nL S pc lv st := fun H locs ls hP hD hS hl => lv_lload_n C.1 C.2.1 hd hi (lv_at hl j hj) (k H locs ls hP hD hS hl)
theorem gm_lload (C : gm_F p s m args meth c cf ad N cc nL own) {i : Nat} {x : Int64} (hd : decode cc pc = .ok (.lload i, 2)) (j : Nat) (hj : lv[j]? = some (i, .long x))
    (k : gm_G p l e R s m args below meth c Q cf ad sh N nL S (pc + 2) lv (.long x :: st)) : gm_G p l e R s m args below meth c Q cf ad sh N nL S pc lv st := fun H locs ls hP hD hS hl => lv_lload C.1 C.2.1 hd (lv_at hl j hj) (k H locs ls hP hD hS hl)
theorem gm_aload_n (C : gm_F p s m args meth c cf ad N cc nL own) {k : Fin 4} {i : Nat} {x : Nat} (hd : decode cc pc = .ok (.aload_n k, 1)) (hi : (k : Nat) = i) (j : Nat) (hj : lv[j]? = some (i, .ref x))
    (k : gm_G p l e R s m args below meth c Q cf ad sh N nL S (pc + 1) lv (.ref x :: st)) : gm_G p l e R s m args below meth c Q cf ad sh N nL S pc lv st := fun H locs ls hP hD hS hl => lv_aload_n C.1 C.2.1 hd hi (lv_at hl j hj) (k H locs ls hP hD hS hl)
theorem gm_aload (C : gm_F p s m args meth c cf ad N cc nL own) {i : Nat} {x : Nat} (hd : decode cc pc = .ok (.aload i, 2)) (j : Nat) (hj : lv[j]? = some (i, .ref x))
    (k : gm_G p l e R s m args below meth c Q cf ad sh N nL S (pc + 2) lv (.ref x :: st)) : gm_G p l e R s m args below meth c Q cf ad sh N nL S pc lv st := fun H locs ls hP hD hS hl => lv_aload C.1 C.2.1 hd (lv_at hl j hj) (k H locs ls hP hD hS hl)
theorem gm_istore_n (C : gm_F p s m args meth c cf ad N cc nL own) {k : Fin 4} {i : Nat} {x : Int32} {lv' : List (Nat × Value)} (hd : decode cc pc = .ok (.istore_n k, 1)) (hi : (k : Nat) = i) (hn : i < nL) (hl' : (i, Value.int x) :: lv.filter (fun q => !(q.1 == i) && !(q.1 + 1 == i && q.2.category == 2)) = lv')
    (k : gm_G p l e R s m args below meth c Q cf ad sh N nL S (pc + 1) lv' st) : gm_G p l e R s m args below meth c Q cf ad sh N nL S pc lv (.int x :: st) := fun H locs ls hP hD hS hl => lv_istore_n C.1 C.2.1 hd hi hl hn hl' (fun ls' hls => k H locs ls' hP hD hS hls)
theorem gm_istore (C : gm_F p s m args meth c cf ad N cc nL own) {i : Nat} {x : Int32} {lv' : List (Nat × Value)} (hd : decode cc pc = .ok (.istore i, 2)) (hn : i < nL) (hl' : (i, Value.int x) :: lv.filter (fun q => !(q.1 == i) && !(q.1 + 1 == i && q.2.category == 2)) = lv')
    (k : gm_G p l e R s m args below meth c Q cf ad sh N nL S (pc + 2) lv' st) : gm_G p l e R s m args below meth c Q cf ad sh N nL S pc lv (.int x :: st) := fun H locs ls hP hD hS hl => lv_istore C.1 C.2.1 hd hl hn hl' (fun ls' hls => k H locs ls' hP hD hS hls)
theorem gm_lstore_n (C : gm_F p s m args meth c cf ad N cc nL own) {k : Fin 4} {i : Nat} {x : Int64} {lv' : List (Nat × Value)} (hd : decode cc pc = .ok (.lstore_n k, 1)) (hi : (k : Nat) = i) (hn : i + 1 < nL) (hl' : (i, Value.long x) :: lv.filter (fun q => !(q.1 == i) && (!(q.1 == i + 1) && !(q.1 + 1 == i && q.2.category == 2))) = lv')
    (k : gm_G p l e R s m args below meth c Q cf ad sh N nL S (pc + 1) lv' st) : gm_G p l e R s m args below meth c Q cf ad sh N nL S pc lv (.long x :: st) := fun H locs ls hP hD hS hl => lv_lstore_n C.1 C.2.1 hd hi hl hn hl' (fun ls' hls => k H locs ls' hP hD hS hls)
theorem gm_lstore (C : gm_F p s m args meth c cf ad N cc nL own) {i : Nat} {x : Int64} {lv' : List (Nat × Value)} (hd : decode cc pc = .ok (.lstore i, 2)) (hn : i + 1 < nL) (hl' : (i, Value.long x) :: lv.filter (fun q => !(q.1 == i) && (!(q.1 == i + 1) && !(q.1 + 1 == i && q.2.category == 2))) = lv')
    (k : gm_G p l e R s m args below meth c Q cf ad sh N nL S (pc + 2) lv' st) : gm_G p l e R s m args below meth c Q cf ad sh N nL S pc lv (.long x :: st) := fun H locs ls hP hD hS hl => lv_lstore C.1 C.2.1 hd hl hn hl' (fun ls' hls => k H locs ls' hP hD hS hls)
theorem gm_astore_n (C : gm_F p s m args meth c cf ad N cc nL own) {k : Fin 4} {i : Nat} {x : Nat} {lv' : List (Nat × Value)} (hd : decode cc pc = .ok (.astore_n k, 1)) (hi : (k : Nat) = i) (hn : i < nL) (hl' : (i, Value.ref x) :: lv.filter (fun q => !(q.1 == i) && !(q.1 + 1 == i && q.2.category == 2)) = lv')
    (k : gm_G p l e R s m args below meth c Q cf ad sh N nL S (pc + 1) lv' st) : gm_G p l e R s m args below meth c Q cf ad sh N nL S pc lv (.ref x :: st) := fun H locs ls hP hD hS hl => lv_astore_n C.1 C.2.1 hd hi hl hn hl' (fun ls' hls => k H locs ls' hP hD hS hls)
theorem gm_astore (C : gm_F p s m args meth c cf ad N cc nL own) {i : Nat} {x : Nat} {lv' : List (Nat × Value)} (hd : decode cc pc = .ok (.astore i, 2)) (hn : i < nL) (hl' : (i, Value.ref x) :: lv.filter (fun q => !(q.1 == i) && !(q.1 + 1 == i && q.2.category == 2)) = lv')
    (k : gm_G p l e R s m args below meth c Q cf ad sh N nL S (pc + 2) lv' st) : gm_G p l e R s m args below meth c Q cf ad sh N nL S pc lv (.ref x :: st) := fun H locs ls hP hD hS hl => lv_astore C.1 C.2.1 hd hl hn hl' (fun ls' hls => k H locs ls' hP hD hS hls)
theorem gm_iinc (C : gm_F p s m args meth c cf ad N cc nL own) {i j : Nat} {n : Int} {x v : Int32} {lv' : List (Nat × Value)} (hd : decode cc pc = .ok (.iinc i n, 3)) (hj : lv[j]? = some (i, .int x)) (hv : v = x + Int32.ofInt n) (hn : i < nL) (hl' : (i, Value.int v) :: lv.filter (fun q => !(q.1 == i) && !(q.1 + 1 == i && q.2.category == 2)) = lv')
    (k : gm_G p l e R s m args below meth c Q cf ad sh N nL S (pc + 3) lv' st) : gm_G p l e R s m args below meth c Q cf ad sh N nL S pc lv st := fun H locs ls hP hD hS hl => lv_iinc C.1 C.2.1 hd hl hj hv.symm hn hl' (fun ls' hls => k H locs ls' hP hD hS hls)
theorem gm_iadd (C : gm_F p s m args meth c cf ad N cc nL own) {x y : Int32} (hd : decode cc pc = .ok (.iadd, 1)) 
    (k : gm_G p l e R s m args below meth c Q cf ad sh N nL S (pc + 1) lv (.int (x + y) :: st)) : gm_G p l e R s m args below meth c Q cf ad sh N nL S pc lv (.int y :: .int x :: st) := fun H locs ls hP hD hS hl => lv_iadd C.1 C.2.1 hd  (k H locs ls hP hD hS hl)
theorem gm_isub (C : gm_F p s m args meth c cf ad N cc nL own) {x y : Int32} (hd : decode cc pc = .ok (.isub, 1)) 
    (k : gm_G p l e R s m args below meth c Q cf ad sh N nL S (pc + 1) lv (.int (x - y) :: st)) : gm_G p l e R s m args below meth c Q cf ad sh N nL S pc lv (.int y :: .int x :: st) := fun H locs ls hP hD hS hl => lv_isub C.1 C.2.1 hd  (k H locs ls hP hD hS hl)
theorem gm_imul (C : gm_F p s m args meth c cf ad N cc nL own) {x y : Int32} (hd : decode cc pc = .ok (.imul, 1)) 
    (k : gm_G p l e R s m args below meth c Q cf ad sh N nL S (pc + 1) lv (.int (x * y) :: st)) : gm_G p l e R s m args below meth c Q cf ad sh N nL S pc lv (.int y :: .int x :: st) := fun H locs ls hP hD hS hl => lv_imul C.1 C.2.1 hd  (k H locs ls hP hD hS hl)
theorem gm_iand (C : gm_F p s m args meth c cf ad N cc nL own) {x y : Int32} (hd : decode cc pc = .ok (.iand, 1)) 
    (k : gm_G p l e R s m args below meth c Q cf ad sh N nL S (pc + 1) lv (.int (x &&& y) :: st)) : gm_G p l e R s m args below meth c Q cf ad sh N nL S pc lv (.int y :: .int x :: st) := fun H locs ls hP hD hS hl => lv_iand C.1 C.2.1 hd  (k H locs ls hP hD hS hl)
theorem gm_ior (C : gm_F p s m args meth c cf ad N cc nL own) {x y : Int32} (hd : decode cc pc = .ok (.ior, 1)) 
    (k : gm_G p l e R s m args below meth c Q cf ad sh N nL S (pc + 1) lv (.int (x ||| y) :: st)) : gm_G p l e R s m args below meth c Q cf ad sh N nL S pc lv (.int y :: .int x :: st) := fun H locs ls hP hD hS hl => lv_ior C.1 C.2.1 hd  (k H locs ls hP hD hS hl)
theorem gm_idiv (C : gm_F p s m args meth c cf ad N cc nL own) {x y : Int32} (hd : decode cc pc = .ok (.idiv, 1)) (hne : ¬ y = 0)
    (k : gm_G p l e R s m args below meth c Q cf ad sh N nL S (pc + 1) lv (.int (x / y) :: st)) : gm_G p l e R s m args below meth c Q cf ad sh N nL S pc lv (.int y :: .int x :: st) := fun H locs ls hP hD hS hl => lv_idiv C.1 C.2.1 hd hne (k H locs ls hP hD hS hl)
theorem gm_irem (C : gm_F p s m args meth c cf ad N cc nL own) {x y : Int32} (hd : decode cc pc = .ok (.irem, 1)) (hne : ¬ y = 0)
    (k : gm_G p l e R s m args below meth c Q cf ad sh N nL S (pc + 1) lv (.int (x - x / y * y) :: st)) : gm_G p l e R s m args below meth c Q cf ad sh N nL S pc lv (.int y :: .int x :: st) := fun H locs ls hP hD hS hl => lv_irem C.1 C.2.1 hd hne (k H locs ls hP hD hS hl)
theorem gm_ineg (C : gm_F p s m args meth c cf ad N cc nL own) {x : Int32} (hd : decode cc pc = .ok (.ineg, 1)) 
    (k : gm_G p l e R s m args below meth c Q cf ad sh N nL S (pc + 1) lv (.int (0 - x) :: st)) : gm_G p l e R s m args below meth c Q cf ad sh N nL S pc lv (.int x :: st) := fun H locs ls hP hD hS hl => lv_ineg C.1 C.2.1 hd  (k H locs ls hP hD hS hl)
theorem gm_ladd (C : gm_F p s m args meth c cf ad N cc nL own) {x y : Int64} (hd : decode cc pc = .ok (.ladd, 1)) 
    (k : gm_G p l e R s m args below meth c Q cf ad sh N nL S (pc + 1) lv (.long (x + y) :: st)) : gm_G p l e R s m args below meth c Q cf ad sh N nL S pc lv (.long y :: .long x :: st) := fun H locs ls hP hD hS hl => lv_ladd C.1 C.2.1 hd  (k H locs ls hP hD hS hl)
theorem gm_lsub (C : gm_F p s m args meth c cf ad N cc nL own) {x y : Int64} (hd : decode cc pc = .ok (.lsub, 1)) 
    (k : gm_G p l e R s m args below meth c Q cf ad sh N nL S (pc + 1) lv (.long (x - y) :: st)) : gm_G p l e R s m args below meth c Q cf ad sh N nL S pc lv (.long y :: .long x :: st) := fun H locs ls hP hD hS hl => lv_lsub C.1 C.2.1 hd  (k H locs ls hP hD hS hl)
theorem gm_lmul (C : gm_F p s m args meth c cf ad N cc nL own) {x y : Int64} (hd : decode cc pc = .ok (.lmul, 1)) 
    (k : gm_G p l e R s m args below meth c Q cf ad sh N nL S (pc + 1) lv (.long (x * y) :: st)) : gm_G p l e R s m args below meth c Q cf ad sh N nL S pc lv (.long y :: .long x :: st) := fun H locs ls hP hD hS hl => lv_lmul C.1 C.2.1 hd  (k H locs ls hP hD hS hl)
theorem gm_land (C : gm_F p s m args meth c cf ad N cc nL own) {x y : Int64} (hd : decode cc pc = .ok (.land, 1)) 
    (k : gm_G p l e R s m args below meth c Q cf ad sh N nL S (pc + 1) lv (.long (x &&& y) :: st)) : gm_G p l e R s m args below meth c Q cf ad sh N nL S pc lv (.long y :: .long x :: st) := fun H locs ls hP hD hS hl => lv_land C.1 C.2.1 hd  (k H locs ls hP hD hS hl)
theorem gm_lor (C : gm_F p s m args meth c cf ad N cc nL own) {x y : Int64} (hd : decode cc pc = .ok (.lor, 1)) 
    (k : gm_G p l e R s m args below meth c Q cf ad sh N nL S (pc + 1) lv (.long (x ||| y) :: st)) : gm_G p l e R s m args below meth c Q cf ad sh N nL S pc lv (.long y :: .long x :: st) := fun H locs ls hP hD hS hl => lv_lor C.1 C.2.1 hd  (k H locs ls hP hD hS hl)
theorem gm_ldiv (C : gm_F p s m args meth c cf ad N cc nL own) {x y : Int64} (hd : decode cc pc = .ok (.ldiv, 1)) (hne : ¬ y = 0)
    (k : gm_G p l e R s m args below meth c Q cf ad sh N nL S (pc + 1) lv (.long (x / y) :: st)) : gm_G p l e R s m args below meth c Q cf ad sh N nL S pc lv (.long y :: .long x :: st) := fun H locs ls hP hD hS hl => lv_ldiv C.1 C.2.1 hd hne (k H locs ls hP hD hS hl)
theorem gm_lrem (C : gm_F p s m args meth c cf ad N cc nL own) {x y : Int64} (hd : decode cc pc = .ok (.lrem, 1)) (hne : ¬ y = 0)
    (k : gm_G p l e R s m args below meth c Q cf ad sh N nL S (pc + 1) lv (.long (x - x / y * y) :: st)) : gm_G p l e R s m args below meth c Q cf ad sh N nL S pc lv (.long y :: .long x :: st) := fun H locs ls hP hD hS hl => lv_lrem C.1 C.2.1 hd hne (k H locs ls hP hD hS hl)
theorem gm_ishl (C : gm_F p s m args meth c cf ad N cc nL own) {x y : Int32} (hd : decode cc pc = .ok (.ishl, 1)) 
    (k : gm_G p l e R s m args below meth c Q cf ad sh N nL S (pc + 1) lv (.int (x <<< (y &&& 31)) :: st)) : gm_G p l e R s m args below meth c Q cf ad sh N nL S pc lv (.int y :: .int x :: st) := fun H locs ls hP hD hS hl => lv_ishl C.1 C.2.1 hd  (k H locs ls hP hD hS hl)
theorem gm_ishr (C : gm_F p s m args meth c cf ad N cc nL own) {x y : Int32} (hd : decode cc pc = .ok (.ishr, 1)) 
    (k : gm_G p l e R s m args below meth c Q cf ad sh N nL S (pc + 1) lv (.int (x >>> (y &&& 31)) :: st)) : gm_G p l e R s m args below meth c Q cf ad sh N nL S pc lv (.int y :: .int x :: st) := fun H locs ls hP hD hS hl => lv_ishr C.1 C.2.1 hd  (k H locs ls hP hD hS hl)
theorem gm_lushr (C : gm_F p s m args meth c cf ad N cc nL own) {x v : Int64} {y : Int32} (hd : decode cc pc = .ok (.lushr, 1)) (hv : (x.toUInt64 >>> (y.toInt64.toUInt64 &&& Int64.toUInt64 63)).toInt64 = v)
    (k : gm_G p l e R s m args below meth c Q cf ad sh N nL S (pc + 1) lv (.long v :: st)) : gm_G p l e R s m args below meth c Q cf ad sh N nL S pc lv (.int y :: .long x :: st) := fun H locs ls hP hD hS hl => lv_lushr C.1 C.2.1 hd hv (k H locs ls hP hD hS hl)
theorem gm_lshl (C : gm_F p s m args meth c cf ad N cc nL own) {x v : Int64} {y : Int32} (hd : decode cc pc = .ok (.lshl, 1)) (hv : x <<< (y.toInt64 &&& 63) = v)
    (k : gm_G p l e R s m args below meth c Q cf ad sh N nL S (pc + 1) lv (.long v :: st)) : gm_G p l e R s m args below meth c Q cf ad sh N nL S pc lv (.int y :: .long x :: st) := fun H locs ls hP hD hS hl => lv_lshl C.1 C.2.1 hd hv (k H locs ls hP hD hS hl)
theorem gm_lshr (C : gm_F p s m args meth c cf ad N cc nL own) {x v : Int64} {y : Int32} (hd : decode cc pc = .ok (.lshr, 1)) (hv : x >>> (y.toInt64 &&& 63) = v)
    (k : gm_G p l e R s m args below meth c Q cf ad sh N nL S (pc + 1) lv (.long v :: st)) : gm_G p l e R s m args below meth c Q cf ad sh N nL S pc lv (.int y :: .long x :: st) := fun H locs ls hP hD hS hl => lv_lshr C.1 C.2.1 hd hv (k H locs ls hP hD hS hl)
theorem gm_i2l (C : gm_F p s m args meth c cf ad N cc nL own) {x : Int32} {v : Int64} (hd : decode cc pc = .ok (.i2l, 1)) (hv : x.toInt64 = v)
    (k : gm_G p l e R s m args below meth c Q cf ad sh N nL S (pc + 1) lv (.long v :: st)) : gm_G p l e R s m args below meth c Q cf ad sh N nL S pc lv (.int x :: st) := fun H locs ls hP hD hS hl => lv_i2l C.1 C.2.1 hd hv (k H locs ls hP hD hS hl)
theorem gm_l2i (C : gm_F p s m args meth c cf ad N cc nL own) {x : Int64} {v : Int32} (hd : decode cc pc = .ok (.l2i, 1)) (hv : x.toInt32 = v)
    (k : gm_G p l e R s m args below meth c Q cf ad sh N nL S (pc + 1) lv (.int v :: st)) : gm_G p l e R s m args below meth c Q cf ad sh N nL S pc lv (.long x :: st) := fun H locs ls hP hD hS hl => lv_l2i C.1 C.2.1 hd hv (k H locs ls hP hD hS hl)
theorem gm_i2c (C : gm_F p s m args meth c cf ad N cc nL own) {x : Int32} {v : Int32} (hd : decode cc pc = .ok (.i2c, 1)) (hv : (x.toUInt32 % 65536).toInt32 = v)
    (k : gm_G p l e R s m args below meth c Q cf ad sh N nL S (pc + 1) lv (.int v :: st)) : gm_G p l e R s m args below meth c Q cf ad sh N nL S pc lv (.int x :: st) := fun H locs ls hP hD hS hl => lv_i2c C.1 C.2.1 hd hv (k H locs ls hP hD hS hl)
theorem gm_lcmp (C : gm_F p s m args meth c cf ad N cc nL own) {x y : Int64} (hd : decode cc pc = .ok (.lcmp, 1)) 
    (k : gm_G p l e R s m args below meth c Q cf ad sh N nL S (pc + 1) lv (.int (lg_cmp x y) :: st)) : gm_G p l e R s m args below meth c Q cf ad sh N nL S pc lv (.long y :: .long x :: st) := fun H locs ls hP hD hS hl => W.lcmp C.1 C.2.1 hd  (k H locs ls hP hD hS hl)
theorem gm_dup (C : gm_F p s m args meth c cf ad N cc nL own) {va : Value} (hd : decode cc pc = .ok (.dup, 1)) (hva : va.category = 1)
    (k : gm_G p l e R s m args below meth c Q cf ad sh N nL S (pc + 1) lv (va :: va :: st)) : gm_G p l e R s m args below meth c Q cf ad sh N nL S pc lv (va :: st) := fun H locs ls hP hD hS hl => lv_dup C.1 C.2.1 hd hva (k H locs ls hP hD hS hl)
theorem gm_pop (C : gm_F p s m args meth c cf ad N cc nL own) {va : Value} (hd : decode cc pc = .ok (.pop, 1)) (hva : va.category = 1)
    (k : gm_G p l e R s m args below meth c Q cf ad sh N nL S (pc + 1) lv (st)) : gm_G p l e R s m args below meth c Q cf ad sh N nL S pc lv (va :: st) := fun H locs ls hP hD hS hl => lv_pop C.1 C.2.1 hd hva (k H locs ls hP hD hS hl)
theorem gm_dup2_11 (C : gm_F p s m args meth c cf ad N cc nL own) {va vb : Value} (hd : decode cc pc = .ok (.dup2, 1)) (hva : va.category = 1) (hvb : vb.category = 1)
    (k : gm_G p l e R s m args below meth c Q cf ad sh N nL S (pc + 1) lv (va :: vb :: va :: vb :: st)) : gm_G p l e R s m args below meth c Q cf ad sh N nL S pc lv (va :: vb :: st) := fun H locs ls hP hD hS hl => lv_dup2_11 C.1 C.2.1 hd hva hvb (k H locs ls hP hD hS hl)
theorem gm_dup2_2 (C : gm_F p s m args meth c cf ad N cc nL own) {va : Value} (hd : decode cc pc = .ok (.dup2, 1)) (hva : va.category = 2)
    (k : gm_G p l e R s m args below meth c Q cf ad sh N nL S (pc + 1) lv (va :: va :: st)) : gm_G p l e R s m args below meth c Q cf ad sh N nL S pc lv (va :: st) := fun H locs ls hP hD hS hl => lv_dup2_2 C.1 C.2.1 hd hva (k H locs ls hP hD hS hl)
theorem gm_topi {x y : Int32} (h : y = x) (k : gm_G p l e R s m args below meth c Q cf ad sh N nL S pc lv (.int y :: st)) : gm_G p l e R s m args below meth c Q cf ad sh N nL S pc lv (.int x :: st) := h ▸ k
theorem gm_topl {x y : Int64} (h : y = x) (k : gm_G p l e R s m args below meth c Q cf ad sh N nL S pc lv (.long y :: st)) : gm_G p l e R s m args below meth c Q cf ad sh N nL S pc lv (.long x :: st) := h ▸ k
theorem gm_if_eq (C : gm_F p s m args meth c cf ad N cc nL own) {x : Int32} {off : Int} (tgt : Nat) (hd : decode cc pc = .ok (.ifCond .eq off, 3)) (ht : (pc : Int) + off = (tgt : Int))
    (kt : x = 0 → gm_G p l e R s m args below meth c Q cf ad sh N nL S tgt lv st) (kf : ¬ x = 0 → gm_G p l e R s m args below meth c Q cf ad sh N nL S (pc + 3) lv st) : gm_G p l e R s m args below meth c Q cf ad sh N nL S pc lv (.int x :: st) := fun H locs ls hP hD hS hl => lv_if_eq C.1 C.2.1 hd ht (fun h => kt h H locs ls hP hD hS hl) (fun h => kf h H locs ls hP hD hS hl)
theorem gm_icmp_eq (C : gm_F p s m args meth c cf ad N cc nL own) {x y : Int32} {off : Int} (tgt : Nat) (hd : decode cc pc = .ok (.if_icmp .eq off, 3)) (ht : (pc : Int) + off = (tgt : Int))
    (kt : x = y → gm_G p l e R s m args below meth c Q cf ad sh N nL S tgt lv st) (kf : ¬ x = y → gm_G p l e R s m args below meth c Q cf ad sh N nL S (pc + 3) lv st) : gm_G p l e R s m args below meth c Q cf ad sh N nL S pc lv (.int y :: .int x :: st) := fun H locs ls hP hD hS hl => lv_icmp_eq C.1 C.2.1 hd ht (fun h => kt h H locs ls hP hD hS hl) (fun h => kf h H locs ls hP hD hS hl)
theorem gm_if_lt (C : gm_F p s m args meth c cf ad N cc nL own) {x : Int32} {off : Int} (tgt : Nat) (hd : decode cc pc = .ok (.ifCond .lt off, 3)) (ht : (pc : Int) + off = (tgt : Int))
    (kt : x < 0 → gm_G p l e R s m args below meth c Q cf ad sh N nL S tgt lv st) (kf : ¬ x < 0 → gm_G p l e R s m args below meth c Q cf ad sh N nL S (pc + 3) lv st) : gm_G p l e R s m args below meth c Q cf ad sh N nL S pc lv (.int x :: st) := fun H locs ls hP hD hS hl => lv_if_lt C.1 C.2.1 hd ht (fun h => kt h H locs ls hP hD hS hl) (fun h => kf h H locs ls hP hD hS hl)
theorem gm_icmp_lt (C : gm_F p s m args meth c cf ad N cc nL own) {x y : Int32} {off : Int} (tgt : Nat) (hd : decode cc pc = .ok (.if_icmp .lt off, 3)) (ht : (pc : Int) + off = (tgt : Int))
    (kt : x < y → gm_G p l e R s m args below meth c Q cf ad sh N nL S tgt lv st) (kf : ¬ x < y → gm_G p l e R s m args below meth c Q cf ad sh N nL S (pc + 3) lv st) : gm_G p l e R s m args below meth c Q cf ad sh N nL S pc lv (.int y :: .int x :: st) := fun H locs ls hP hD hS hl => lv_icmp_lt C.1 C.2.1 hd ht (fun h => kt h H locs ls hP hD hS hl) (fun h => kf h H locs ls hP hD hS hl)
theorem gm_if_ge (C : gm_F p s m args meth c cf ad N cc nL own) {x : Int32} {off : Int} (tgt : Nat) (hd : decode cc pc = .ok (.ifCond .ge off, 3)) (ht : (pc : Int) + off = (tgt : Int))
    (kt : 0 ≤ x → gm_G p l e R s m args below meth c Q cf ad sh N nL S tgt lv st) (kf : ¬ 0 ≤ x → gm_G p l e R s m args below meth c Q cf ad sh N nL S (pc + 3) lv st) : gm_G p l e R s m args below meth c Q cf ad sh N nL S pc lv (.int x :: st) := fun H locs ls hP hD hS hl => lv_if_ge C.1 C.2.1 hd ht (fun h => kt h H locs ls hP hD hS hl) (fun h => kf h H locs ls hP hD hS hl)
theorem gm_icmp_ge (C : gm_F p s m args meth c cf ad N cc nL own) {x y : Int32} {off : Int} (tgt : Nat) (hd : decode cc pc = .ok (.if_icmp .ge off, 3)) (ht : (pc : Int) + off = (tgt : Int))
    (kt : y ≤ x → gm_G p l e R s m args below meth c Q cf ad sh N nL S tgt lv st) (kf : ¬ y ≤ x → gm_G p l e R s m args below meth c Q cf ad sh N nL S (pc + 3) lv st) : gm_G p l e R s m args below meth c Q cf ad sh N nL S pc lv (.int y :: .int x :: st) := fun H locs ls hP hD hS hl => lv_icmp_ge C.1 C.2.1 hd ht (fun h => kt h H locs ls hP hD hS hl) (fun h => kf h H locs ls hP hD hS hl)
theorem gm_if_gt (C : gm_F p s m args meth c cf ad N cc nL own) {x : Int32} {off : Int} (tgt : Nat) (hd : decode cc pc = .ok (.ifCond .gt off, 3)) (ht : (pc : Int) + off = (tgt : Int))
    (kt : 0 < x → gm_G p l e R s m args below meth c Q cf ad sh N nL S tgt lv st) (kf : ¬ 0 < x → gm_G p l e R s m args below meth c Q cf ad sh N nL S (pc + 3) lv st) : gm_G p l e R s m args below meth c Q cf ad sh N nL S pc lv (.int x :: st) := fun H locs ls hP hD hS hl => lv_if_gt C.1 C.2.1 hd ht (fun h => kt h H locs ls hP hD hS hl) (fun h => kf h H locs ls hP hD hS hl)
theorem gm_icmp_gt (C : gm_F p s m args meth c cf ad N cc nL own) {x y : Int32} {off : Int} (tgt : Nat) (hd : decode cc pc = .ok (.if_icmp .gt off, 3)) (ht : (pc : Int) + off = (tgt : Int))
    (kt : y < x → gm_G p l e R s m args below meth c Q cf ad sh N nL S tgt lv st) (kf : ¬ y < x → gm_G p l e R s m args below meth c Q cf ad sh N nL S (pc + 3) lv st) : gm_G p l e R s m args below meth c Q cf ad sh N nL S pc lv (.int y :: .int x :: st) := fun H locs ls hP hD hS hl => lv_icmp_gt C.1 C.2.1 hd ht (fun h => kt h H locs ls hP hD hS hl) (fun h => kf h H locs ls hP hD hS hl)
theorem gm_if_le (C : gm_F p s m args meth c cf ad N cc nL own) {x : Int32} {off : Int} (tgt : Nat) (hd : decode cc pc = .ok (.ifCond .le off, 3)) (ht : (pc : Int) + off = (tgt : Int))
    (kt : x ≤ 0 → gm_G p l e R s m args below meth c Q cf ad sh N nL S tgt lv st) (kf : ¬ x ≤ 0 → gm_G p l e R s m args below meth c Q cf ad sh N nL S (pc + 3) lv st) : gm_G p l e R s m args below meth c Q cf ad sh N nL S pc lv (.int x :: st) := fun H locs ls hP hD hS hl => lv_if_le C.1 C.2.1 hd ht (fun h => kt h H locs ls hP hD hS hl) (fun h => kf h H locs ls hP hD hS hl)
theorem gm_icmp_le (C : gm_F p s m args meth c cf ad N cc nL own) {x y : Int32} {off : Int} (tgt : Nat) (hd : decode cc pc = .ok (.if_icmp .le off, 3)) (ht : (pc : Int) + off = (tgt : Int))
    (kt : x ≤ y → gm_G p l e R s m args below meth c Q cf ad sh N nL S tgt lv st) (kf : ¬ x ≤ y → gm_G p l e R s m args below meth c Q cf ad sh N nL S (pc + 3) lv st) : gm_G p l e R s m args below meth c Q cf ad sh N nL S pc lv (.int y :: .int x :: st) := fun H locs ls hP hD hS hl => lv_icmp_le C.1 C.2.1 hd ht (fun h => kt h H locs ls hP hD hS hl) (fun h => kf h H locs ls hP hD hS hl)
theorem gm_if_ne (C : gm_F p s m args meth c cf ad N cc nL own) {x : Int32} {off : Int} (tgt : Nat) (hd : decode cc pc = .ok (.ifCond .ne off, 3)) (ht : (pc : Int) + off = (tgt : Int))
    (kt : ¬ x = 0 → gm_G p l e R s m args below meth c Q cf ad sh N nL S tgt lv st) (kf : x = 0 → gm_G p l e R s m args below meth c Q cf ad sh N nL S (pc + 3) lv st) : gm_G p l e R s m args below meth c Q cf ad sh N nL S pc lv (.int x :: st) := fun H locs ls hP hD hS hl => lv_if_ne C.1 C.2.1 hd ht (fun h => kt h H locs ls hP hD hS hl) (fun h => kf h H locs ls hP hD hS hl)
theorem gm_icmp_ne (C : gm_F p s m args meth c cf ad N cc nL own) {x y : Int32} {off : Int} (tgt : Nat) (hd : decode cc pc = .ok (.if_icmp .ne off, 3)) (ht : (pc : Int) + off = (tgt : Int))
    (kt : ¬ x = y → gm_G p l e R s m args below meth c Q cf ad sh N nL S tgt lv st) (kf : x = y → gm_G p l e R s m args below meth c Q cf ad sh N nL S (pc + 3) lv st) : gm_G p l e R s m args below meth c Q cf ad sh N nL S pc lv (.int y :: .int x :: st) := fun H locs ls hP hD hS hl => lv_icmp_ne C.1 C.2.1 hd ht (fun h => kt h H locs ls hP hD hS hl) (fun h => kf h H locs ls hP hD hS hl)
theorem gm_goto (C : gm_F p s m args meth c cf ad N cc nL own) {off : Int} (tgt : Nat) (hd : decode cc pc = .ok (.goto off, 3)) (ht : (pc : Int) + off = (tgt : Int)) (k : gm_G p l e R s m args below meth c Q cf ad sh N nL S tgt lv st) : gm_G p l e R s m args below meth c Q cf ad sh N nL S pc lv st := fun H locs ls hP hD hS hl => lv_goto C.1 C.2.1 hd ht (k H locs ls hP hD hS hl)
theorem gm_tableIn (C : gm_F p s m args meth c cf ad N cc nL own) {dflt lo hi : Int} {offs : Array Int} {len : Nat} {x : Int32} {off : Int} (tgt : Nat) (hd : decode cc pc = .ok (.tableswitch dflt lo hi offs, len)) (h1 : ¬ x.toInt < lo) (h2 : ¬ hi < x.toInt) (ho : offs[(x.toInt - lo).toNat]? = some off) (ht : (pc : Int) + off = (tgt : Int)) (k : gm_G p l e R s m args below meth c Q cf ad sh N nL S tgt lv st) : gm_G p l e R s m args below meth c Q cf ad sh N nL S pc lv (.int x :: st) := fun H locs ls hP hD hS hl => lv_tableIn C.1 C.2.1 hd h1 h2 ho ht (k H locs ls hP hD hS hl)
theorem gm_tableOut (C : gm_F p s m args meth c cf ad N cc nL own) {dflt lo hi : Int} {offs : Array Int} {len : Nat} {x : Int32} (tgt : Nat) (hd : decode cc pc = .ok (.tableswitch dflt lo hi offs, len)) (h : x.toInt < lo ∨ hi < x.toInt) (ht : (pc : Int) + dflt = (tgt : Int)) (k : gm_G p l e R s m args below meth c Q cf ad sh N nL S tgt lv st) : gm_G p l e R s m args below meth c Q cf ad sh N nL S pc lv (.int x :: st) := fun H locs ls hP hD hS hl => lv_tableOut C.1 C.2.1 hd h ht (k H locs ls hP hD hS hl)
theorem gm_lookup (C : gm_F p s m args meth c cf ad N cc nL own) {dflt : Int} {ps : Array (Int × Int)} {len : Nat} {x : Int32} {off : Int} (tgt : Nat) (hd : decode cc pc = .ok (.lookupswitch dflt ps, len)) (hp : (ps.toList.zip (ps.toList.drop 1)).all (fun (a, next) => a.1 < next.1) = true) (ho : Op.lookupswitch.offset ps.toList dflt x.toInt = off) (ht : (pc : Int) + off = (tgt : Int)) (k : gm_G p l e R s m args below meth c Q cf ad sh N nL S tgt lv st) : gm_G p l e R s m args below meth c Q cf ad sh N nL S pc lv (.int x :: st) := fun H locs ls hP hD hS hl => lv_lookup C.1 C.2.1 hd hp ho ht (k H locs ls hP hD hS hl)
theorem gm_ldc (C : gm_F p s m args meth c cf ad N cc nL own) {index : Nat} {v : Int32} (hw : Jvm.Cond.constant own index v ∈ gm_tbl) (hd : decode cc pc = .ok (.ldc index, 2)) (k : gm_G p l e R s m args below meth c Q cf ad sh N nL S (pc + 2) lv (.int v :: st)) : gm_G p l e R s m args below meth c Q cf ad sh N nL S pc lv st := fun H locs ls hP hD hS hl => lv_ldc C.1 C.2.1 C.2.2.2.1 (C.2.2.2.2.1 _ hw) hd (k H locs ls hP hD hS hl)
theorem gm_ldcw (C : gm_F p s m args meth c cf ad N cc nL own) {index : Nat} {v : Int32} (hw : Jvm.Cond.constant own index v ∈ gm_tbl) (hd : decode cc pc = .ok (.ldc_w index, 3)) (k : gm_G p l e R s m args below meth c Q cf ad sh N nL S (pc + 3) lv (.int v :: st)) : gm_G p l e R s m args below meth c Q cf ad sh N nL S pc lv st := fun H locs ls hP hD hS hl => lv_ldcw C.1 C.2.1 C.2.2.2.1 (C.2.2.2.2.1 _ hw) hd (k H locs ls hP hD hS hl)
theorem gm_ldc2 (C : gm_F p s m args meth c cf ad N cc nL own) {index : Nat} {v : Int64} (hw : Jvm.Cond.constantLong own index v ∈ gm_tbl) (hd : decode cc pc = .ok (.ldc2_w index, 3)) (k : gm_G p l e R s m args below meth c Q cf ad sh N nL S (pc + 3) lv (.long v :: st)) : gm_G p l e R s m args below meth c Q cf ad sh N nL S pc lv st := fun H locs ls hP hD hS hl => lv_ldc2 C.1 C.2.1 C.2.2.2.1 (C.2.2.2.2.1 _ hw) hd (k H locs ls hP hD hS hl)
/-- of the class of number ci: its name, its fields, how many, their types; what the tables say of them -/
def gm_kc (ci : Nat) (Cn : String) (T : u_T) (n : Nat) (ty : Nat → FieldType) : Prop := ci < 100 ∧ gm_cls[ci]? = some (Cn, T, n) ∧ (∀ w ∈ u_ws Cn T n, w ∈ gm_tbl) ∧ (∀ k, k < n → parseFieldDescriptor (T k).2.2.1 = some (ty k)) ∧ (∀ a, a < n → ∀ b, b < n → a ≠ b → (T a).2.1 ≠ (T b).2.1)
theorem gm_geti (C : gm_F p s m args meth c cf ad N cc nL own) {t ci n k : Nat} {Cn : String} {T : u_T} {ty : Nat → FieldType} {index : Nat} (hN : t < N) (hk : (sh t).1 = ci) (K : gm_kc ci Cn T n ty) (hf : (gm_fd ci)[k]? = some (0)) (hkn : k < n) (hr : (T k).1 = Cn) (hw : Cond.fieldLink own index Cn (T k).2.1 (T k).2.2.1 ∈ gm_tbl) (hd : decode cc pc = .ok (.getfield index, 3))
    (kk : gm_G p l e R s m args below meth c Q cf ad sh N nL S (pc + 3) lv (.int (S.1 t k) :: st)) : gm_G p l e R s m args below meth c Q cf ad sh N nL S pc lv (.ref (ad t) :: st) := by
  intro H locs ls hP hD hS hl
  refine va_get C.1 C.2.1 C.2.2.2.2.1 K.2.2.1 C.2.2.2.1 C.2.2.2.2.2.1 hP t (by rw [gm_at hN, gm_obj hk K.1]) K.2.1 k hkn (C.2.2.2.2.1 _ hw) (fun x h => by rw [← hr]; exact h) (gm_fs_at hf) hd ?_
  exact kk H locs ls hP hD hS hl
theorem gm_getl (C : gm_F p s m args meth c cf ad N cc nL own) {t ci n k : Nat} {Cn : String} {T : u_T} {ty : Nat → FieldType} {index : Nat} (hN : t < N) (hk : (sh t).1 = ci) (K : gm_kc ci Cn T n ty) (hf : (gm_fd ci)[k]? = some (1)) (hkn : k < n) (hr : (T k).1 = Cn) (hw : Cond.fieldLink own index Cn (T k).2.1 (T k).2.2.1 ∈ gm_tbl) (hd : decode cc pc = .ok (.getfield index, 3))
    (kk : gm_G p l e R s m args below meth c Q cf ad sh N nL S (pc + 3) lv (.long (S.2 t k) :: st)) : gm_G p l e R s m args below meth c Q cf ad sh N nL S pc lv (.ref (ad t) :: st) := by
  intro H locs ls hP hD hS hl
  refine va_get C.1 C.2.1 C.2.2.2.2.1 K.2.2.1 C.2.2.2.1 C.2.2.2.2.2.1 hP t (by rw [gm_at hN, gm_obj hk K.1]) K.2.1 k hkn (C.2.2.2.2.1 _ hw) (fun x h => by rw [← hr]; exact h) (gm_fs_at hf) hd ?_
  exact kk H locs ls hP hD hS hl
theorem gm_getr (C : gm_F p s m args meth c cf ad N cc nL own) {j u : Nat} {t ci n k : Nat} {Cn : String} {T : u_T} {ty : Nat → FieldType} {index : Nat} (hN : t < N) (hk : (sh t).1 = ci) (K : gm_kc ci Cn T n ty) (hf : (gm_fd ci)[k]? = some (j + 2)) (hkn : k < n) (hu : t + j = u) (hr : (T k).1 = Cn) (hw : Cond.fieldLink own index Cn (T k).2.1 (T k).2.2.1 ∈ gm_tbl) (hd : decode cc pc = .ok (.getfield index, 3))
    (kk : gm_G p l e R s m args below meth c Q cf ad sh N nL S (pc + 3) lv (.ref (ad u) :: st)) : gm_G p l e R s m args below meth c Q cf ad sh N nL S pc lv (.ref (ad t) :: st) := by
  intro H locs ls hP hD hS hl
  subst hu
  refine va_get C.1 C.2.1 C.2.2.2.2.1 K.2.2.1 C.2.2.2.1 C.2.2.2.2.2.1 hP t (by rw [gm_at hN, gm_obj hk K.1]) K.2.1 k hkn (C.2.2.2.2.1 _ hw) (fun x h => by rw [← hr]; exact h) (gm_fs_at hf) hd ?_
  exact kk H locs ls hP hD hS hl
theorem gm_puti (C : gm_F p s m args meth c cf ad N cc nL own) {v : Int32} {t ci n k : Nat} {Cn : String} {T : u_T} {ty : Nat → FieldType} {index : Nat} (hN : t < N) (hk : (sh t).1 = ci) (K : gm_kc ci Cn T n ty) (hf : (gm_fd ci)[k]? = some 0) (hkn : k < n) (hr : (T k).1 = Cn) (hfin : (T k).2.2.2 = false) {ty1 : FieldType} (hp : parseFieldDescriptor (T k).2.2.1 = some ty1) (hn : narrow ty1 (.int v) = .int v) (hfit : fits ty1 (.int v) = true) (hw : Cond.fieldLink own index Cn (T k).2.1 (T k).2.2.1 ∈ gm_tbl) (hd : decode cc pc = .ok (.putfield index, 3))
    (kk : gm_G p l e R s m args below meth c Q cf ad sh N nL (gm_ui S t k v) (pc + 3) lv st) : gm_G p l e R s m args below meth c Q cf ad sh N nL S pc lv (.int v :: .ref (ad t) :: st) := by
  intro H locs ls hP hD hS hl
  refine va_put C.1 C.2.1 C.2.2.2.2.1 K.2.2.1 ty K.2.2.2.1 K.2.2.2.2 C.2.2.2.1 C.2.2.2.2.2.1 hP hD hS t (by rw [gm_at hN, gm_obj hk K.1]) K.2.1 k hkn (C.2.2.2.2.1 _ hw) (fun x h => by rw [← hr]; exact h) hfin hp hn hfit (by rw [gm_fs_len]; exact (List.getElem?_eq_some_iff.mp hf).1) hd (fun H1 locs1 hP1 hD1 hS1 => ?_)
  have hs : (gm_fs ad (S.1 t) (S.2 t) t (gm_fd ci)).set k (.int v) = gm_fs ad (upd (S.1 t) k v) (S.2 t) t (gm_fd ci) := by
    rw [← gm_fs_set (I' := upd (S.1 t) k v) (J' := S.2 t) hf (fun j hj => pk_un hj) (fun _ _ => rfl)]
    simp only [gm_fv, pk_us]
  have he := gm_set (cf := cf) (ad := ad) (sh := sh) (S := S) (S' := gm_ui S t k v) (e := .inr (ci, (gm_fs ad (S.1 t) (S.2 t) t (gm_fd ci)).set k (.int v))) hN (by rw [gm_obj hk K.1, hs]; simp only [gm_ui, va_up_self]) (fun j hj => va_up_ne _ _ hj) (fun _ _ => rfl)
  rw [he] at hP1 hD1
  exact kk H1 locs1 ls hP1 hD1 hS1 hl
theorem gm_putl (C : gm_F p s m args meth c cf ad N cc nL own) {v : Int64} {t ci n k : Nat} {Cn : String} {T : u_T} {ty : Nat → FieldType} {index : Nat} (hN : t < N) (hk : (sh t).1 = ci) (K : gm_kc ci Cn T n ty) (hf : (gm_fd ci)[k]? = some 1) (hkn : k < n) (hr : (T k).1 = Cn) (hfin : (T k).2.2.2 = false) {ty1 : FieldType} (hp : parseFieldDescriptor (T k).2.2.1 = some ty1) (hn : narrow ty1 (.long v) = .long v) (hfit : fits ty1 (.long v) = true) (hw : Cond.fieldLink own index Cn (T k).2.1 (T k).2.2.1 ∈ gm_tbl) (hd : decode cc pc = .ok (.putfield index, 3))
    (kk : gm_G p l e R s m args below meth c Q cf ad sh N nL (gm_uj S t k v) (pc + 3) lv st) : gm_G p l e R s m args below meth c Q cf ad sh N nL S pc lv (.long v :: .ref (ad t) :: st) := by
  intro H locs ls hP hD hS hl
  refine va_put C.1 C.2.1 C.2.2.2.2.1 K.2.2.1 ty K.2.2.2.1 K.2.2.2.2 C.2.2.2.1 C.2.2.2.2.2.1 hP hD hS t (by rw [gm_at hN, gm_obj hk K.1]) K.2.1 k hkn (C.2.2.2.2.1 _ hw) (fun x h => by rw [← hr]; exact h) hfin hp hn hfit (by rw [gm_fs_len]; exact (List.getElem?_eq_some_iff.mp hf).1) hd (fun H1 locs1 hP1 hD1 hS1 => ?_)
  have hs : (gm_fs ad (S.1 t) (S.2 t) t (gm_fd ci)).set k (.long v) = gm_fs ad (S.1 t) (vp_updL (S.2 t) k v) t (gm_fd ci) := by
    rw [← gm_fs_set (I' := S.1 t) (J' := vp_updL (S.2 t) k v) hf (fun _ _ => rfl) (fun j hj => pk_uLn hj)]
    simp only [gm_fv, pk_uLs]
  have he := gm_set (cf := cf) (ad := ad) (sh := sh) (S := S) (S' := gm_uj S t k v) (e := .inr (ci, (gm_fs ad (S.1 t) (S.2 t) t (gm_fd ci)).set k (.long v))) hN (by rw [gm_obj hk K.1, hs]; simp only [gm_uj, va_up_self]) (fun _ _ => rfl) (fun j hj => va_up_ne _ _ hj)
  rw [he] at hP1 hD1
  exact kk H1 locs1 ls hP1 hD1 hS1 hl
theorem gm_iald (C : gm_F p s m args meth c cf ad N cc nL own) {t n : Nat} {i : Int32} (hN : t < N) (hk : (sh t).1 = 100) (hn : (sh t).2.1 = n) (hin : vp_in i n) (hd : decode cc pc = .ok (.iaload, 1))
    (kk : gm_G p l e R s m args below meth c Q cf ad sh N nL S (pc + 1) lv (.int (S.1 t i.toNatClampNeg) :: st)) : gm_G p l e R s m args below meth c Q cf ad sh N nL S pc lv (.int i :: .ref (ad t) :: st) := fun H locs ls hP hD hS hl => va_iald C.1 C.2.1 C.2.2.2.2.2.1 hP t 0 (by rw [gm_at hN, gm_iarr (k := 0) hk (by decide) hn]) rfl hin hd (kk H locs ls hP hD hS hl)
theorem gm_cald (C : gm_F p s m args meth c cf ad N cc nL own) {t n : Nat} {i : Int32} (hN : t < N) (hk : (sh t).1 = 101) (hn : (sh t).2.1 = n) (hin : vp_in i n) (hd : decode cc pc = .ok (.caload, 1))
    (kk : gm_G p l e R s m args below meth c Q cf ad sh N nL S (pc + 1) lv (.int (S.1 t i.toNatClampNeg) :: st)) : gm_G p l e R s m args below meth c Q cf ad sh N nL S pc lv (.int i :: .ref (ad t) :: st) := fun H locs ls hP hD hS hl => va_cald C.1 C.2.1 C.2.2.2.2.2.1 hP t 1 (by rw [gm_at hN, gm_iarr (k := 1) hk (by decide) hn]) rfl hin hd (kk H locs ls hP hD hS hl)
theorem gm_zald (C : gm_F p s m args meth c cf ad N cc nL own) {t n : Nat} {i : Int32} (hN : t < N) (hk : (sh t).1 = 102) (hn : (sh t).2.1 = n) (hin : vp_in i n) (hd : decode cc pc = .ok (.baload, 1))
    (kk : gm_G p l e R s m args below meth c Q cf ad sh N nL S (pc + 1) lv (.int (S.1 t i.toNatClampNeg) :: st)) : gm_G p l e R s m args below meth c Q cf ad sh N nL S pc lv (.int i :: .ref (ad t) :: st) := fun H locs ls hP hD hS hl => va_zald C.1 C.2.1 C.2.2.2.2.2.1 hP t 2 (by rw [gm_at hN, gm_iarr (k := 2) hk (by decide) hn]) rfl hin hd (kk H locs ls hP hD hS hl)
theorem gm_iast (C : gm_F p s m args meth c cf ad N cc nL own) {t n : Nat} {i x : Int32} (hN : t < N) (hk : (sh t).1 = 100) (hn : (sh t).2.1 = n) (hin : vp_in i n) (hd : decode cc pc = .ok (.iastore, 1))
    (kk : gm_G p l e R s m args below meth c Q cf ad sh N nL (gm_ui S t i.toNatClampNeg x) (pc + 1) lv st) : gm_G p l e R s m args below meth c Q cf ad sh N nL S pc lv (.int x :: .int i :: .ref (ad t) :: st) := by
  intro H locs ls hP hD hS hl
  refine va_iast C.1 C.2.1 C.2.2.2.2.2.1 hP hD hS t 0 (by rw [gm_at hN, gm_iarr (k := 0) hk (by decide) hn]) rfl hin hd (fun H1 locs1 hP1 hD1 hS1 => ?_)
  have he := gm_set (cf := cf) (ad := ad) (sh := sh) (S := S) (S' := gm_ui S t i.toNatClampNeg x) (e := .inl (cf.2 0, n, .inl (upd (S.1 t) i.toNatClampNeg x))) hN (by rw [gm_iarr (k := 0) hk (by decide) hn]; simp only [gm_ui, va_up_self]) (fun j hj => va_up_ne _ _ hj) (fun _ _ => rfl)
  rw [he] at hP1 hD1
  exact kk H1 locs1 ls hP1 hD1 hS1 hl
theorem gm_cast (C : gm_F p s m args meth c cf ad N cc nL own) {t n : Nat} {i x : Int32} (hN : t < N) (hk : (sh t).1 = 101) (hn : (sh t).2.1 = n) (hin : vp_in i n) (hd : decode cc pc = .ok (.castore, 1))
    (kk : gm_G p l e R s m args below meth c Q cf ad sh N nL (gm_ui S t i.toNatClampNeg (vp_nar .char x)) (pc + 1) lv st) : gm_G p l e R s m args below meth c Q cf ad sh N nL S pc lv (.int x :: .int i :: .ref (ad t) :: st) := by
  intro H locs ls hP hD hS hl
  refine va_cast C.1 C.2.1 C.2.2.2.2.2.1 hP hD hS t 1 (by rw [gm_at hN, gm_iarr (k := 1) hk (by decide) hn]) rfl hin hd (fun H1 locs1 hP1 hD1 hS1 => ?_)
  have he := gm_set (cf := cf) (ad := ad) (sh := sh) (S := S) (S' := gm_ui S t i.toNatClampNeg (vp_nar .char x)) (e := .inl (cf.2 1, n, .inl (upd (S.1 t) i.toNatClampNeg (vp_nar .char x)))) hN (by rw [gm_iarr (k := 1) hk (by decide) hn]; simp only [gm_ui, va_up_self]) (fun j hj => va_up_ne _ _ hj) (fun _ _ => rfl)
  rw [he] at hP1 hD1
  exact kk H1 locs1 ls hP1 hD1 hS1 hl
theorem gm_zast (C : gm_F p s m args meth c cf ad N cc nL own) {t n : Nat} {i x : Int32} (hN : t < N) (hk : (sh t).1 = 102) (hn : (sh t).2.1 = n) (hin : vp_in i n) (hd : decode cc pc = .ok (.bastore, 1))
    (kk : gm_G p l e R s m args below meth c Q cf ad sh N nL (gm_ui S t i.toNatClampNeg (vp_nar .boolean x)) (pc + 1) lv st) : gm_G p l e R s m args below meth c Q cf ad sh N nL S pc lv (.int x :: .int i :: .ref (ad t) :: st) := by
  intro H locs ls hP hD hS hl
  refine va_zast C.1 C.2.1 C.2.2.2.2.2.1 hP hD hS t 2 (by rw [gm_at hN, gm_iarr (k := 2) hk (by decide) hn]) rfl hin hd (fun H1 locs1 hP1 hD1 hS1 => ?_)
  have he := gm_set (cf := cf) (ad := ad) (sh := sh) (S := S) (S' := gm_ui S t i.toNatClampNeg (vp_nar .boolean x)) (e := .inl (cf.2 2, n, .inl (upd (S.1 t) i.toNatClampNeg (vp_nar .boolean x)))) hN (by rw [gm_iarr (k := 2) hk (by decide) hn]; simp only [gm_ui, va_up_self]) (fun j hj => va_up_ne _ _ hj) (fun _ _ => rfl)
  rw [he] at hP1 hD1
  exact kk H1 locs1 ls hP1 hD1 hS1 hl
theorem gm_lald (C : gm_F p s m args meth c cf ad N cc nL own) {t n : Nat} {i : Int32} (hN : t < N) (hk : (sh t).1 = 103) (hn : (sh t).2.1 = n) (hin : vp_in i n) (hd : decode cc pc = .ok (.laload, 1))
    (kk : gm_G p l e R s m args below meth c Q cf ad sh N nL S (pc + 1) lv (.long (S.2 t i.toNatClampNeg) :: st)) : gm_G p l e R s m args below meth c Q cf ad sh N nL S pc lv (.int i :: .ref (ad t) :: st) := fun H locs ls hP hD hS hl => va_lald C.1 C.2.1 C.2.2.2.2.2.1 hP t 3 (by rw [gm_at hN, gm_larr hk hn]) rfl hin hd (kk H locs ls hP hD hS hl)
theorem gm_last (C : gm_F p s m args meth c cf ad N cc nL own) {t n : Nat} {i : Int32} {x : Int64} (hN : t < N) (hk : (sh t).1 = 103) (hn : (sh t).2.1 = n) (hin : vp_in i n) (hd : decode cc pc = .ok (.lastore, 1))
    (kk : gm_G p l e R s m args below meth c Q cf ad sh N nL (gm_uj S t i.toNatClampNeg x) (pc + 1) lv st) : gm_G p l e R s m args below meth c Q cf ad sh N nL S pc lv (.long x :: .int i :: .ref (ad t) :: st) := by
  intro H locs ls hP hD hS hl
  refine va_last C.1 C.2.1 C.2.2.2.2.2.1 hP hD hS t 3 (by rw [gm_at hN, gm_larr hk hn]) rfl hin hd (fun H1 locs1 hP1 hD1 hS1 => ?_)
  have he := gm_set (cf := cf) (ad := ad) (sh := sh) (S := S) (S' := gm_uj S t i.toNatClampNeg x) (e := .inl (cf.2 3, n, .inr (.inl (vp_updL (S.2 t) i.toNatClampNeg x)))) hN (by rw [gm_larr hk hn]; simp only [gm_uj, va_up_self]) (fun _ _ => rfl) (fun j hj => va_up_ne _ _ hj)
  rw [he] at hP1 hD1
  exact kk H1 locs1 ls hP1 hD1 hS1 hl
theorem gm_aald (C : gm_F p s m args meth c cf ad N cc nL own) {t k n b d : Nat} {i : Int32} {ty : FieldType} (hN : t < N) (hk : sh t = (100 + k, n, b, d)) (h4 : 4 ≤ k) (hty : (gm_tys cf)[k]? = some (cf.2 k, ty)) (href : ty.isReference = true) (hin : vp_in i n) (hd : decode cc pc = .ok (.aaload, 1))
    (kk : gm_G p l e R s m args below meth c Q cf ad sh N nL S (pc + 1) lv (.ref (ad (b + d * i.toNatClampNeg)) :: st)) : gm_G p l e R s m args below meth c Q cf ad sh N nL S pc lv (.int i :: .ref (ad t) :: st) := by
  intro H locs ls hP hD hS hl
  have hlt : i.toNatClampNeg < n := Nat.not_le.mp fun q => hin (Or.inr q)
  have ha := gm_at (cf := cf) (ad := ad) (sh := sh) (S := S) hN
  rw [gm_rarr hk h4] at ha
  exact W.aald (v := va_rf (some (ad (b + d * i.toNatClampNeg)))) (ty := ty) C.1 C.2.1 (hP t _ ha) ((C.2.2.2.2.2.1.2 k _ hty).1 n (fun j => va_rf (some (ad (b + d * j))))) href (fun q => by cases q) (by show ¬ (i < 0 ∨ (arrV _ _ _).slots.size ≤ _); rw [arrV_size]; exact hin) (by show (arrV _ _ _).slots[_]? = _; rw [arrV_read _ _ hlt]) rfl rfl hd (kk H locs ls hP hD hS hl)
theorem gm_alen (C : gm_F p s m args meth c cf ad N cc nL own) {t n : Nat} {v : Int32} (hN : t < N) (hk : (sh t).1 = 100) (hn : (sh t).2.1 = n) (hv : Int32.ofNat n = v) (hd : decode cc pc = .ok (.arraylength, 1))
    (kk : gm_G p l e R s m args below meth c Q cf ad sh N nL S (pc + 1) lv (.int v :: st)) : gm_G p l e R s m args below meth c Q cf ad sh N nL S pc lv (.ref (ad t) :: st) := fun H locs ls hP hD hS hl => va_alen C.1 C.2.1 C.2.2.2.2.2.1 hP t 0 (by rw [gm_at hN, gm_iarr (k := 0) hk (by decide) hn]) rfl hv hd (kk H locs ls hP hD hS hl)
theorem gm_copy (C : gm_F p s m args meth c cf ad N cc nL own) {t0 t1 n : Nat} {index : Nat} {v : Int32} (hN0 : t0 < N) (hk0 : (sh t0).1 = 100) (hn0 : (sh t0).2.1 = n) (hN1 : t1 < N) (hk1 : (sh t1).1 = 100) (hn1 : (sh t1).2.1 = n) (h3 : ¬ v < 0) (hv : v.toNatClampNeg = n) (hw : Cond.methodLink own index arraycopyName ∈ gm_tbl) (hw2 : Cond.native arraycopyName ∈ gm_tbl) (hw3 : Cond.static arraycopyName ∈ gm_tbl) (hw4 : Cond.initialized "java/lang/System" ∈ gm_tbl) (hfr : 1 ≤ R.frames) (hlo : (st.map fun v => v.category).sum + (nativeFrameWords "java/lang/System" "arraycopy" 5 + 11) ≤ R.locals) (hd : decode cc pc = .ok (.invokestatic index, 3))
    (kk : gm_G p l e R s m args below meth c Q cf ad sh N nL (gm_uf S t1 (va_cpy (S.1 t0) (S.1 t1) 0 0 n)) (pc + 3) lv st) : gm_G p l e R s m args below meth c Q cf ad sh N nL S pc lv (.int v :: .int 0 :: .ref (ad t1) :: .int 0 :: .ref (ad t0) :: st) := by
  intro H locs ls hP hD hS hl
  refine va_copyi C.1 C.2.1 (C.2.2.1.trans hl.1.symm) C.2.2.2.1 (C.2.2.2.2.1 _ hw) (C.2.2.2.2.1 _ hw2) (C.2.2.2.2.1 _ hw3) (C.2.2.2.2.1 _ hw4) C.2.2.2.2.2.1 hP hD hS t0 t1 0 0 (by rw [gm_at hN0, gm_iarr (k := 0) hk0 (by decide) hn0]) (by rw [gm_at hN1, gm_iarr (k := 0) hk1 (by decide) hn1]) rfl rfl rfl (by decide) (by decide) h3 (by rw [hv, sb_cl0]; omega) (by rw [hv, sb_cl0]; omega) (fun _ _ => rfl) hfr hlo hd (fun H1 locs1 hP1 hD1 hS1 => ?_)
  rw [sb_cl0, hv] at hP1 hD1
  have he := gm_set (cf := cf) (ad := ad) (sh := sh) (S := S) (S' := gm_uf S t1 (va_cpy (S.1 t0) (S.1 t1) 0 0 n)) (e := .inl (cf.2 0, n, .inl (va_cpy (S.1 t0) (S.1 t1) 0 0 n))) hN1 (by rw [gm_iarr (k := 0) hk1 (by decide) hn1]; simp only [gm_uf, va_up_self]) (fun j hj => va_up_ne _ _ hj) (fun _ _ => rfl)
  rw [he] at hP1 hD1
  exact kk H1 locs1 ls hP1 hD1 hS1 hl
theorem gm_least (C : gm_F p s m args meth c cf ad N cc nL own) {index : Nat} (hw : Cond.fieldLink own index RX6 "LEAST_A" "[I" ∈ gm_tbl) (hd : decode cc pc = .ok (.getstatic index, 3)) (kk : ∀ t : Nat, va_T .int t 5 (fun j => .int (gm_la j)) (gm_A ad N) s s.heap → gm_G p l e R s m args below meth c Q cf ad sh N nL S (pc + 3) lv (.ref t :: st)) : gm_G p l e R s m args below meth c Q cf ad sh N nL S pc lv st := by
  intro H locs ls hP hD hS hl
  obtain ⟨t, h1, h2⟩ := C.2.2.2.2.2.2.2.1
  exact va_gets C.1 C.2.1 h1 hS C.2.2.2.1 (C.2.2.2.2.1 _ hw) (fun x h => h) hd (kk t h2 H locs ls hP hD hS hl)
theorem gm_great (C : gm_F p s m args meth c cf ad N cc nL own) {index : Nat} (hw : Cond.fieldLink own index RX6 "GREATEST_A" "[I" ∈ gm_tbl) (hd : decode cc pc = .ok (.getstatic index, 3)) (kk : ∀ t : Nat, va_T .int t 5 (fun j => .int (gm_ga j)) (gm_A ad N) s s.heap → gm_G p l e R s m args below meth c Q cf ad sh N nL S (pc + 3) lv (.ref t :: st)) : gm_G p l e R s m args below meth c Q cf ad sh N nL S pc lv st := by
  intro H locs ls hP hD hS hl
  obtain ⟨t, h1, h2⟩ := C.2.2.2.2.2.2.2.2
  exact va_gets C.1 C.2.1 h1 hS C.2.2.2.1 (C.2.2.2.2.1 _ hw) (fun x h => h) hd (kk t h2 H locs ls hP hD hS hl)
theorem gm_tald (C : gm_F p s m args meth c cf ad N cc nL own) {t n : Nat} {f : Nat → Int32} {i : Int32} (hT : va_T .int t n (fun j => .int (f j)) (gm_A ad N) s s.heap) (hin : vp_in i n) (hd : decode cc pc = .ok (.iaload, 1)) (kk : gm_G p l e R s m args below meth c Q cf ad sh N nL S (pc + 1) lv (.int (f i.toNatClampNeg) :: st)) : gm_G p l e R s m args below meth c Q cf ad sh N nL S pc lv (.int i :: .ref t :: st) := fun H locs ls hP hD hS hl => va_ti C.1 C.2.1 hT hS hin rfl hd (kk H locs ls hP hD hS hl)
theorem gm_mmax (C : gm_F p s m args meth c cf ad N cc nL own) {index : Nat} {x y : Int32} (hw : Cond.methodLink own index Lib.Math.max.name ∈ gm_tbl) (hw2 : Cond.static Lib.Math.max.name ∈ gm_tbl) (hw3 : Cond.initialized "java/lang/Math" ∈ gm_tbl) (hw4 : Cond.code Lib.Math.max.name Lib.Math.max.code 2 (some .int) ∈ gm_tbl) (hfr : 1 ≤ R.frames) (hlo : (st.map fun v => v.category).sum + 13 ≤ R.locals) (hd : decode cc pc = .ok (.invokestatic index, 3)) (kk : gm_G p l e R s m args below meth c Q cf ad sh N nL S (pc + 3) lv (.int (if x < y then y else x) :: st)) : gm_G p l e R s m args below meth c Q cf ad sh N nL S pc lv (.int y :: .int x :: st) := fun H locs ls hP hD hS hl => va_mmax C.1 C.2.1 (C.2.2.1.trans hl.1.symm) C.2.2.2.1 (C.2.2.2.2.1 _ hw) (C.2.2.2.2.1 _ hw2) (C.2.2.2.2.1 _ hw3) (C.2.2.2.2.1 _ hw4) hfr hlo (Nat.zero_le _) (Nat.zero_le _) hd (kk H locs ls hP hD hS hl)
theorem gm_mmin (C : gm_F p s m args meth c cf ad N cc nL own) {index : Nat} {x y : Int32} (hw : Cond.methodLink own index Lib.Math.min.name ∈ gm_tbl) (hw2 : Cond.static Lib.Math.min.name ∈ gm_tbl) (hw3 : Cond.initialized "java/lang/Math" ∈ gm_tbl) (hw4 : Cond.code Lib.Math.min.name Lib.Math.min.code 2 (some .int) ∈ gm_tbl) (hfr : 1 ≤ R.frames) (hlo : (st.map fun v => v.category).sum + 13 ≤ R.locals) (hd : decode cc pc = .ok (.invokestatic index, 3)) (kk : gm_G p l e R s m args below meth c Q cf ad sh N nL S (pc + 3) lv (.int (if y < x then y else x) :: st)) : gm_G p l e R s m args below meth c Q cf ad sh N nL S pc lv (.int y :: .int x :: st) := fun H locs ls hP hD hS hl => va_mmin C.1 C.2.1 (C.2.2.1.trans hl.1.symm) C.2.2.2.1 (C.2.2.2.2.1 _ hw) (C.2.2.2.2.1 _ hw2) (C.2.2.2.2.1 _ hw3) (C.2.2.2.2.1 _ hw4) hfr hlo (Nat.zero_le _) (Nat.zero_le _) hd (kk H locs ls hP hD hS hl)
theorem gm_mabs (C : gm_F p s m args meth c cf ad N cc nL own) {index : Nat} {x : Int32} (hw : Cond.methodLink own index Lib.Math.abs.name ∈ gm_tbl) (hw2 : Cond.static Lib.Math.abs.name ∈ gm_tbl) (hw3 : Cond.initialized "java/lang/Math" ∈ gm_tbl) (hw4 : Cond.code Lib.Math.abs.name Lib.Math.abs.code 1 (some .int) ∈ gm_tbl) (hfr : 1 ≤ R.frames) (hlo : (st.map fun v => v.category).sum + 13 ≤ R.locals) (hd : decode cc pc = .ok (.invokestatic index, 3)) (kk : gm_G p l e R s m args below meth c Q cf ad sh N nL S (pc + 3) lv (.int (if 0 ≤ x then x else 0 - x) :: st)) : gm_G p l e R s m args below meth c Q cf ad sh N nL S pc lv (.int x :: st) := fun H locs ls hP hD hS hl => va_mabs C.1 C.2.1 (C.2.2.1.trans hl.1.symm) C.2.2.2.1 (C.2.2.2.2.1 _ hw) (C.2.2.2.2.1 _ hw2) (C.2.2.2.2.1 _ hw3) (C.2.2.2.2.1 _ hw4) hfr hlo (Nat.zero_le _) (Nat.zero_le _) hd (kk H locs ls hP hD hS hl)
end GR
section GE
variable {p : Program} {l : Launch} {e : Env} {R : Room} {s : State} {m : MethodId} {args : Array Value} {below : List Frame} {meth : Method} {c : Code} {cf : gm_C} {ad : Nat → Nat} {sh : gm_H} {N nL : Nat} {S S' : gm_M} {pc : Nat} {lv : List (Nat × Value)} {cc : ByteArray} {own : String}
theorem gm_iret (C : gm_F p s m args meth c cf ad N cc nL own) {v r : Int32} {ty : FieldType} (hr : meth.sig.returnType = some ty) (hn : narrow ty (.int v) = .int v) (hd : decode cc pc = .ok (.ireturn, 1)) (hf : some (v, S) = some (r, S')) : gm_G p l e R s m args below meth c (MQ below (gm_Q cf ad sh N (some (.int r)) S') args s 0 0 (gm_A ad N)) cf ad sh N nL S pc lv [.int v] := by
  cases hf
  intro H locs ls hP hD hS hl
  exact W.zret C.1 C.2.1 hr hn (fun t ht hW => ⟨rfl, by rw [ht]; exact hP, hD, hS.F ht⟩) hS.2.2 hd C.2.2.2.2.2.2.1
theorem gm_lret (C : gm_F p s m args meth c cf ad N cc nL own) {v r : Int64} (hr : meth.sig.returnType = some .long) (hd : decode cc pc = .ok (.lreturn, 1)) (hf : some (v, S) = some (r, S')) : gm_G p l e R s m args below meth c (MQ below (gm_Q cf ad sh N (some (.long r)) S') args s 0 0 (gm_A ad N)) cf ad sh N nL S pc lv [.long v] := by
  cases hf
  intro H locs ls hP hD hS hl
  exact W.lret C.1 C.2.1 hr (fun t ht hW => ⟨rfl, by rw [ht]; exact hP, hD, hS.F ht⟩) hS.2.2 hd C.2.2.2.2.2.2.1
theorem gm_vret (C : gm_F p s m args meth c cf ad N cc nL own) (hr : meth.sig.returnType = none) (hd : decode cc pc = .ok (.return_, 1)) (hf : some S = some S') : gm_G p l e R s m args below meth c (MQ below (gm_Q cf ad sh N none S') args s 0 0 (gm_A ad N)) cf ad sh N nL S pc lv [] := by
  cases hf
  intro H locs ls hP hD hS hl
  exact W.vret C.1 C.2.1 hr (fun t ht hW => ⟨rfl, by rw [ht]; exact hP, hD, hS.F ht⟩) hS.2.2 hd C.2.2.2.2.2.2.1
end GE
theorem gm_good : ∀ w ∈ gm_tbl, (w.onTables && w.keeps) = true ∨ ∃ ty, w = .arrayClass ty := fun w h => good_of_word (List.mem_filter.mp h).2
theorem gm_goodIn {ws : List Cond} (h : ∀ w ∈ ws, w ∈ gm_tbl) : GoodIn gm_tbl ws := fun w hw => ⟨h w hw, gm_good w (h w hw)⟩
/-- what the tables say of a method that is called -/
def gm_y (y : MethodName) (b : ByteArray) (maxL : Nat) (ret : Option FieldType) (n : Nat) : Prop := Cond.code y b maxL ret ∈ gm_tbl ∧ Cond.initialized y.cls ∈ gm_tbl ∧ y.cls ≠ "java/lang/invoke/MethodHandle" ∧ y.cls ≠ "java/lang/invoke/VarHandle" ∧ (parseMethodDescriptor y.desc).map (fun d => d.parameters.length) = some n
def gm_yv (y : MethodName) (b : ByteArray) (maxL : Nat) (ret : Option FieldType) (n : Nat) : Prop := gm_y y b maxL ret n ∧ Cond.instanceMethod y ∈ gm_tbl ∧ Cond.selects y.cls y y ∈ gm_tbl
def gm_ys (y : MethodName) (b : ByteArray) (maxL : Nat) (ret : Option FieldType) (n : Nat) : Prop := gm_y y b maxL ret n ∧ Cond.static y ∈ gm_tbl
section GC
variable {p : Program} {l : Launch} {e : Env} {R : Room} {s : State} {m : MethodId} {args : Array Value} {below : List Frame} {meth : Method} {c : Code} {Q : State → Prop} {cf : gm_C} {ad : Nat → Nat} {sh : gm_H} {N nL : Nat} {S S1 : gm_M} {pc : Nat} {lv : List (Nat × Value)} {st rest : List Value} {cc : ByteArray} {own : String} {y : MethodName} {b : ByteArray} {maxL n index fr lo : Nat} {ret : Option FieldType} {As : List Value} {rv : Option Value}
/-- behind a call: the callee's memory -/
theorem gm_after {H : Heap} {locs : List Loc} {ls : Array Slot} {avs : Array Value} (hl : lv_has ls nL lv) (hS : va_S (gm_A ad N) s.heap H locs) (hr : va_Run p l e R s m args below meth c H locs 0 0 0 0 (F0 m pc ls st) rest (gm_Q cf ad sh N rv S1 avs) (gm_A ad N))
    (kk : gm_G p l e R s m args below meth c Q cf ad sh N nL S1 (pc + 3) lv (rv.toList ++ rest)) : W p l e R s m args below meth c H locs 0 0 Q (F0 m pc ls st) := by
  intro T hT X
  obtain ⟨v, st₀, t, T', L, h0, X', hL, e1, e2, ⟨hv, hP1, hD1, hz, hk⟩, go⟩ := hr T hT X
  cases hv
  rw [h0] at hz hk
  rw [← e1] at hP1 hz hk
  obtain ⟨t2, a1, b1⟩ := kk T'.heap (locs ++ L) ls hP1 hD1 ⟨Nat.le_trans hS.1 hz, fun q h1 h2 => by rw [hk q (Nat.lt_of_lt_of_le h1 hS.1) h2]; exact hS.2.1 q h1 h2, fun q hq => by
      rcases List.mem_append.mp hq with h | h
      · exact hS.2.2 q h
      · exact hL q h⟩ hl T' rfl X'
  exact ⟨t2, go t2 a1, b1⟩
theorem gm_pre {H : Heap} {locs : List Loc} {avs : List Value} (hK : va_K cf.1 gm_cls (gm_tys cf) s) (hZ : gm_Z (gm_A ad N) s s.heap) (hP : va_P cf.1 gm_cls (gm_W cf ad sh N S) H) (hD : va_D (gm_A ad N) (gm_W cf ad sh N S)) (hS : va_S (gm_A ad N) s.heap H locs) : ∀ U : State, U.heap = H → s.WarmedH U.vm → gm_P cf ad sh N avs S avs.toArray U := by
  intro U hU hW
  refine ⟨rfl, by rw [hU]; exact hP, va_K.moved hW.alike hK, hD, ?_⟩
  rw [hU]
  exact (hZ.kept hS.2.1).moved hW.alike
theorem gm_callV (C : gm_F p s m args meth c cf ad N cc nL own) {t ci : Nat} {Cn : String} {T : u_T} {nf : Nat} {ty : Nat → FieldType} (hM : gm_Met l y b maxL ret fr lo cf ad sh N (.ref (ad t) :: As) S rv S1) (hN : t < N) (hk : (sh t).1 = ci) (K : gm_kc ci Cn T nf ty) (hy : gm_yv y b maxL ret n) (hc : y.cls = Cn) (hw : Cond.methodLink own index y ∈ gm_tbl) (hn : As.length = n) (hR : fr + 1 ≤ R.frames ∧ 8 + (maxL + 11) + lo ≤ R.locals) (hst : st = As.reverse ++ .ref (ad t) :: rest) (hro : (rest.map fun v => v.category).sum ≤ 8) (hd : decode cc pc = .ok (.invokevirtual index, 3))
    (kk : gm_G p l e R s m args below meth c Q cf ad sh N nL S1 (pc + 3) lv (rv.toList ++ rest)) : gm_G p l e R s m args below meth c Q cf ad sh N nL S pc lv st := by
  intro H locs ls hP hD hS hl
  subst hst
  subst hc
  have he := gm_at (cf := cf) (ad := ad) (sh := sh) (S := S) hN
  rw [gm_obj hk K.1] at he
  refine gm_after hl hS (va_runV (Ts := gm_tbl) (own := own) (C := y.cls) ⟨C.1, C.2.1, C.2.2.1, C.2.2.2.1, C.2.2.2.2.1⟩ hM (cwV n C.2.2.2.2.1 (gm_goodIn (fun w h => ?_)) rfl rfl rfl ⟨rfl, hy.1.2.2⟩ hR) ⟨gm_P_blind, va_recv C.2.2.2.2.2.1 hP K.2.1 he, gm_pre C.2.2.2.2.2.1 C.2.2.2.2.2.2.2 hP hD hS⟩ rfl hn hl.1 rfl (lv_room hro) hd ⟨Nat.zero_le _, Nat.zero_le _⟩) kk
  unfold wsV at h
  rcases List.mem_append.mp h with h | h
  · rcases List.mem_cons.mp h with h | h
    · rw [h]; exact hw
    rcases List.mem_cons.mp h with h | h
    · rw [h]; exact hy.2.1
    rcases List.mem_cons.mp h with h | h
    · rw [h]; exact hy.2.2
    rw [List.mem_singleton.mp h]; exact hy.1.2.1
  · rcases List.mem_cons.mp h with h | h
    · rw [h]; exact hy.1.1
    · exact h
theorem gm_callS (C : gm_F p s m args meth c cf ad N cc nL own) (hM : gm_Met l y b maxL ret fr lo cf ad sh N As S rv S1) (hy : gm_ys y b maxL ret n) (hw : Cond.methodLink own index y ∈ gm_tbl) (hn : As.length = n) (hR : fr + 1 ≤ R.frames ∧ 8 + (maxL + 11) + lo ≤ R.locals) (hst : st = As.reverse ++ rest) (hro : (rest.map fun v => v.category).sum ≤ 8) (hd : decode cc pc = .ok (.invokestatic index, 3))
    (kk : gm_G p l e R s m args below meth c Q cf ad sh N nL S1 (pc + 3) lv (rv.toList ++ rest)) : gm_G p l e R s m args below meth c Q cf ad sh N nL S pc lv st := by
  intro H locs ls hP hD hS hl
  subst hst
  refine gm_after hl hS (va_runS (Ts := gm_tbl) (own := own) ⟨C.1, C.2.1, C.2.2.1, C.2.2.2.1, C.2.2.2.2.1⟩ hM (va_cwS n C.2.2.2.2.1 (gm_goodIn (fun w h => ?_)) rfl rfl rfl hy.1.2.2 hR) ⟨gm_P_blind, gm_pre C.2.2.2.2.2.1 C.2.2.2.2.2.2.2 hP hD hS⟩ rfl hn hl.1 rfl (lv_room hro) hd ⟨Nat.zero_le _, Nat.zero_le _⟩) kk
  unfold va_wsS at h
  rcases List.mem_append.mp h with h | h
  · rcases List.mem_cons.mp h with h | h
    · rw [h]; exact hw
    rcases List.mem_cons.mp h with h | h
    · rw [h]; exact hy.2
    rw [List.mem_singleton.mp h]; exact hy.1.2.1
  · rcases List.mem_cons.mp h with h | h
    · rw [h]; exact hy.1.1
    · exact h
end GC
/-! words of the pure programs -/
def gm_lt {α β : Type} (x : α) (k : α → Option β) : Option β := k x
def gm_ck {β : Type} (i : Int32) (n : Nat) (k : Option β) : Option β := if 0 ≤ i.toInt ∧ i.toInt < n then k else none
def gm_b1 {β : Type} (x : Option Int32) (k : Int32 → Option β) : Option β := match x with
  | none => none
  | some v => k v
def gm_b2 {β : Type} (x : Option (Int32 × gm_M)) (k : Int32 → gm_M → Option β) : Option β := match x with
  | none => none
  | some v => k v.1 v.2
def gm_b3 {β : Type} (x : Option gm_M) (k : gm_M → Option β) : Option β := match x with
  | none => none
  | some v => k v
def gm_b4 {β : Type} (x : Option Int64) (k : Int64 → Option β) : Option β := match x with
  | none => none
  | some v => k v
theorem gm_lt_s {α β : Type} {x : α} {k : α → Option β} {r : β} (h : gm_lt x k = some r) : ∃ y, y = x ∧ k y = some r := ⟨x, rfl, h⟩
theorem gm_ck_s {β : Type} {i : Int32} {n : Nat} {k : Option β} {r : β} (h : gm_ck i n k = some r) : vp_in i n ∧ k = some r := by
  unfold gm_ck at h
  by_cases c : 0 ≤ i.toInt ∧ i.toInt < n
  · rw [if_pos c] at h
    exact ⟨vp_in_iff.mpr c, h⟩
  · rw [if_neg c] at h
    cases h
theorem gm_b1_s {β : Type} {x : Option Int32} {k : Int32 → Option β} {r : β} (h : gm_b1 x k = some r) : ∃ v, x = some v ∧ k v = some r := by
  cases x with
  | none => cases h
  | some v => exact ⟨v, rfl, h⟩
theorem gm_b2_s {β : Type} {x : Option (Int32 × gm_M)} {k : Int32 → gm_M → Option β} {r : β} (h : gm_b2 x k = some r) : ∃ v S1, x = some (v, S1) ∧ k v S1 = some r := by
  cases x with
  | none => cases h
  | some v => exact ⟨v.1, v.2, rfl, h⟩
theorem gm_b3_s {β : Type} {x : Option gm_M} {k : gm_M → Option β} {r : β} (h : gm_b3 x k = some r) : ∃ S1, x = some S1 ∧ k S1 = some r := by
  cases x with
  | none => cases h
  | some v => exact ⟨v, rfl, h⟩
theorem gm_b4_s {β : Type} {x : Option Int64} {k : Int64 → Option β} {r : β} (h : gm_b4 x k = some r) : ∃ v, x = some v ∧ k v = some r := by
  cases x with
  | none => cases h
  | some v => exact ⟨v, rfl, h⟩
theorem gm_it {c : Prop} (dc : Decidable c) {β : Type} {a b : β} {r : β} (hc : c) (h : (@ite β c dc a b) = r) : a = r := by rw [if_pos hc] at h; exact h
theorem gm_if {c : Prop} (dc : Decidable c) {β : Type} {a b : β} {r : β} (hc : ¬ c) (h : (@ite β c dc a b) = r) : b = r := by rw [if_neg hc] at h; exact h
theorem gm_in {c : Prop} (dc : Decidable c) {β : Type} {a : Option β} {r : β} (h : (@ite (Option β) c dc a none) = some r) : c ∧ a = some r := by
  by_cases hc : c
  · rw [if_pos hc] at h; exact ⟨hc, h⟩
  · rw [if_neg hc] at h; cases h
theorem gm_iz {c : Prop} (dc : Decidable c) {β : Type} {a : Option β} {r : β} (h : (@ite (Option β) c dc none a) = some r) : ¬ c ∧ a = some r := by
  by_cases hc : c
  · rw [if_pos hc] at h; cases h
  · rw [if_neg hc] at h; exact ⟨hc, h⟩
theorem gm_nt {x y : Int32} (h : ¬ x = y) : x.toInt ≠ y.toInt := fun q => h (Int32.toInt_inj.mp q)
theorem gm_zb {v : Int32} (h : vp_nar .boolean v = v) : narrow .boolean (.int v) = .int v := by
  have : narrow .boolean (.int v) = .int (vp_nar .boolean v) := by simp [vp_nar, narrow]
  rw [this, h]
theorem gm_zc {v : Int32} (h : vp_nar .char v = v) : narrow .char (.int v) = .int v := by
  have : narrow .char (.int v) = .int (vp_nar .char v) := by simp [vp_nar, narrow]
  rw [this, h]
end
section
/-! more words of the pure programs; the shapes of the two worlds -/
abbrev gm_rm (x y : Int32) : Int32 := x - x / y * y
abbrev gm_rml (x y : Int64) : Int64 := x - x / y * y
def gm_bp1 {α1 β : Type} (x : Option (α1)) (k : α1 → Option β) : Option β := match x with
  | none => none
  | some v => k v
theorem gm_bp1_s {α1 β : Type} {x : Option (α1)} {k : α1 → Option β} {r : β} (h : gm_bp1 x k = some r) : ∃ a1, x = some a1 ∧ k a1 = some r := by
  cases x with
  | none => cases h
  | some v => exact ⟨v, rfl, h⟩
theorem gm_bp1_e {α1 β : Type} {x : Option (α1)} {k : α1 → Option β} {a1 : α1} (h : x = some a1) : gm_bp1 x k = k a1 := by rw [h]; rfl
def gm_bp2 {α1 α2 β : Type} (x : Option (α1 × α2)) (k : α1 → α2 → Option β) : Option β := match x with
  | none => none
  | some v => k v.1 v.2
theorem gm_bp2_s {α1 α2 β : Type} {x : Option (α1 × α2)} {k : α1 → α2 → Option β} {r : β} (h : gm_bp2 x k = some r) : ∃ a1 a2, x = some (a1, a2) ∧ k a1 a2 = some r := by
  cases x with
  | none => cases h
  | some v => exact ⟨v.1, v.2, rfl, h⟩
theorem gm_bp2_e {α1 α2 β : Type} {x : Option (α1 × α2)} {k : α1 → α2 → Option β} {a1 : α1} {a2 : α2} (h : x = some (a1, a2)) : gm_bp2 x k = k a1 a2 := by rw [h]; rfl
def gm_bp3 {α1 α2 α3 β : Type} (x : Option (α1 × α2 × α3)) (k : α1 → α2 → α3 → Option β) : Option β := match x with
  | none => none
  | some v => k v.1 v.2.1 v.2.2
theorem gm_bp3_s {α1 α2 α3 β : Type} {x : Option (α1 × α2 × α3)} {k : α1 → α2 → α3 → Option β} {r : β} (h : gm_bp3 x k = some r) : ∃ a1 a2 a3, x = some (a1, a2, a3) ∧ k a1 a2 a3 = some r := by
  cases x with
  | none => cases h
  | some v => exact ⟨v.1, v.2.1, v.2.2, rfl, h⟩
theorem gm_bp3_e {α1 α2 α3 β : Type} {x : Option (α1 × α2 × α3)} {k : α1 → α2 → α3 → Option β} {a1 : α1} {a2 : α2} {a3 : α3} (h : x = some (a1, a2, a3)) : gm_bp3 x k = k a1 a2 a3 := by rw [h]; rfl
def gm_bp4 {α1 α2 α3 α4 β : Type} (x : Option (α1 × α2 × α3 × α4)) (k : α1 → α2 → α3 → α4 → Option β) : Option β := match x with
  | none => none
  | some v => k v.1 v.2.1 v.2.2.1 v.2.2.2
theorem gm_bp4_s {α1 α2 α3 α4 β : Type} {x : Option (α1 × α2 × α3 × α4)} {k : α1 → α2 → α3 → α4 → Option β} {r : β} (h : gm_bp4 x k = some r) : ∃ a1 a2 a3 a4, x = some (a1, a2, a3, a4) ∧ k a1 a2 a3 a4 = some r := by
  cases x with
  | none => cases h
  | some v => exact ⟨v.1, v.2.1, v.2.2.1, v.2.2.2, rfl, h⟩
theorem gm_bp4_e {α1 α2 α3 α4 β : Type} {x : Option (α1 × α2 × α3 × α4)} {k : α1 → α2 → α3 → α4 → Option β} {a1 : α1} {a2 : α2} {a3 : α3} {a4 : α4} (h : x = some (a1, a2, a3, a4)) : gm_bp4 x k = k a1 a2 a3 a4 := by rw [h]; rfl
def gm_bp5 {α1 α2 α3 α4 α5 β : Type} (x : Option (α1 × α2 × α3 × α4 × α5)) (k : α1 → α2 → α3 → α4 → α5 → Option β) : Option β := match x with
  | none => none
  | some v => k v.1 v.2.1 v.2.2.1 v.2.2.2.1 v.2.2.2.2
theorem gm_bp5_s {α1 α2 α3 α4 α5 β : Type} {x : Option (α1 × α2 × α3 × α4 × α5)} {k : α1 → α2 → α3 → α4 → α5 → Option β} {r : β} (h : gm_bp5 x k = some r) : ∃ a1 a2 a3 a4 a5, x = some (a1, a2, a3, a4, a5) ∧ k a1 a2 a3 a4 a5 = some r := by
  cases x with
  | none => cases h
  | some v => exact ⟨v.1, v.2.1, v.2.2.1, v.2.2.2.1, v.2.2.2.2, rfl, h⟩
theorem gm_bp5_e {α1 α2 α3 α4 α5 β : Type} {x : Option (α1 × α2 × α3 × α4 × α5)} {k : α1 → α2 → α3 → α4 → α5 → Option β} {a1 : α1} {a2 : α2} {a3 : α3} {a4 : α4} {a5 : α5} (h : x = some (a1, a2, a3, a4, a5)) : gm_bp5 x k = k a1 a2 a3 a4 a5 := by rw [h]; rfl
def gm_bp6 {α1 α2 α3 α4 α5 α6 β : Type} (x : Option (α1 × α2 × α3 × α4 × α5 × α6)) (k : α1 → α2 → α3 → α4 → α5 → α6 → Option β) : Option β := match x with
  | none => none
  | some v => k v.1 v.2.1 v.2.2.1 v.2.2.2.1 v.2.2.2.2.1 v.2.2.2.2.2
theorem gm_bp6_s {α1 α2 α3 α4 α5 α6 β : Type} {x : Option (α1 × α2 × α3 × α4 × α5 × α6)} {k : α1 → α2 → α3 → α4 → α5 → α6 → Option β} {r : β} (h : gm_bp6 x k = some r) : ∃ a1 a2 a3 a4 a5 a6, x = some (a1, a2, a3, a4, a5, a6) ∧ k a1 a2 a3 a4 a5 a6 = some r := by
  cases x with
  | none => cases h
  | some v => exact ⟨v.1, v.2.1, v.2.2.1, v.2.2.2.1, v.2.2.2.2.1, v.2.2.2.2.2, rfl, h⟩
theorem gm_bp6_e {α1 α2 α3 α4 α5 α6 β : Type} {x : Option (α1 × α2 × α3 × α4 × α5 × α6)} {k : α1 → α2 → α3 → α4 → α5 → α6 → Option β} {a1 : α1} {a2 : α2} {a3 : α3} {a4 : α4} {a5 : α5} {a6 : α6} (h : x = some (a1, a2, a3, a4, a5, a6)) : gm_bp6 x k = k a1 a2 a3 a4 a5 a6 := by rw [h]; rfl
section GP
variable {p : Program} {l : Launch} {e : Env} {R : Room} {s : State} {m : MethodId} {args : Array Value} {below : List Frame} {meth : Method} {c : Code} {Q : State → Prop} {cf : gm_C} {ad : Nat → Nat} {sh : gm_H} {N nL : Nat} {S S' S1 : gm_M} {pc : Nat} {lv lv' : List (Nat × Value)} {st rest : List Value} {cc : ByteArray} {own : String} {y : MethodName} {b : ByteArray} {maxL n index fr lo : Nat} {ret : Option FieldType} {As : List Value}
theorem gm_topm (h : S' = S) (k : gm_G p l e R s m args below meth c Q cf ad sh N nL S' pc lv st) : gm_G p l e R s m args below meth c Q cf ad sh N nL S pc lv st := h ▸ k
theorem gm_lve (h : lv = lv') (k : gm_G p l e R s m args below meth c Q cf ad sh N nL S pc lv' st) : gm_G p l e R s m args below meth c Q cf ad sh N nL S pc lv st := h ▸ k
theorem gm_lvp (ks : List Nat) (h : lv_pick lv ks = lv') (k : gm_G p l e R s m args below meth c Q cf ad sh N nL S pc lv' st) : gm_G p l e R s m args below meth c Q cf ad sh N nL S pc lv st := fun H locs ls hP hD hS hl => k H locs ls hP hD hS (lv_sub hl ks h)
theorem gm_iretK (C : gm_F p s m args meth c cf ad N cc nL own) {v r : Int32} {ty : FieldType} (hr : meth.sig.returnType = some ty) (hn : narrow ty (.int v) = .int v) (hd : decode cc pc = .ok (.ireturn, 1)) (hf : some v = some r) : gm_G p l e R s m args below meth c (MQ below (gm_Q cf ad sh N (some (.int r)) S) args s 0 0 (gm_A ad N)) cf ad sh N nL S pc lv [.int v] := gm_iret C hr hn hd (by rw [Option.some.inj hf])
theorem gm_lretK (C : gm_F p s m args meth c cf ad N cc nL own) {v r : Int64} (hr : meth.sig.returnType = some .long) (hd : decode cc pc = .ok (.lreturn, 1)) (hf : some v = some r) : gm_G p l e R s m args below meth c (MQ below (gm_Q cf ad sh N (some (.long r)) S) args s 0 0 (gm_A ad N)) cf ad sh N nL S pc lv [.long v] := gm_lret C hr hd (by rw [Option.some.inj hf])
theorem gm_callVi (C : gm_F p s m args meth c cf ad N cc nL own) {r : Int32} {t ci : Nat} {Cn : String} {T : u_T} {nf : Nat} {ty : Nat → FieldType} (hM : gm_Met l y b maxL ret fr lo cf ad sh N (.ref (ad t) :: As) S (some (.int r)) S1) (hN : t < N) (hk : (sh t).1 = ci) (K : gm_kc ci Cn T nf ty) (hy : gm_yv y b maxL ret n) (hc : y.cls = Cn) (hw : Cond.methodLink own index y ∈ gm_tbl) (hn : As.length = n) (hR : fr + 1 ≤ R.frames ∧ 8 + (maxL + 11) + lo ≤ R.locals) (hst : st = As.reverse ++ .ref (ad t) :: rest) (hro : (rest.map fun v => v.category).sum ≤ 8) (hd : decode cc pc = .ok (.invokevirtual index, 3))
    (kk : gm_G p l e R s m args below meth c Q cf ad sh N nL S1 (pc + 3) lv (.int r :: rest)) : gm_G p l e R s m args below meth c Q cf ad sh N nL S pc lv st := gm_callV C hM hN hk K hy hc hw hn hR hst hro hd kk
theorem gm_callSi (C : gm_F p s m args meth c cf ad N cc nL own) {r : Int32} (hM : gm_Met l y b maxL ret fr lo cf ad sh N As S (some (.int r)) S1) (hy : gm_ys y b maxL ret n) (hw : Cond.methodLink own index y ∈ gm_tbl) (hn : As.length = n) (hR : fr + 1 ≤ R.frames ∧ 8 + (maxL + 11) + lo ≤ R.locals) (hst : st = As.reverse ++ rest) (hro : (rest.map fun v => v.category).sum ≤ 8) (hd : decode cc pc = .ok (.invokestatic index, 3))
    (kk : gm_G p l e R s m args below meth c Q cf ad sh N nL S1 (pc + 3) lv (.int r :: rest)) : gm_G p l e R s m args below meth c Q cf ad sh N nL S pc lv st := gm_callS C hM hy hw hn hR hst hro hd kk
theorem gm_callVl (C : gm_F p s m args meth c cf ad N cc nL own) {r : Int64} {t ci : Nat} {Cn : String} {T : u_T} {nf : Nat} {ty : Nat → FieldType} (hM : gm_Met l y b maxL ret fr lo cf ad sh N (.ref (ad t) :: As) S (some (.long r)) S1) (hN : t < N) (hk : (sh t).1 = ci) (K : gm_kc ci Cn T nf ty) (hy : gm_yv y b maxL ret n) (hc : y.cls = Cn) (hw : Cond.methodLink own index y ∈ gm_tbl) (hn : As.length = n) (hR : fr + 1 ≤ R.frames ∧ 8 + (maxL + 11) + lo ≤ R.locals) (hst : st = As.reverse ++ .ref (ad t) :: rest) (hro : (rest.map fun v => v.category).sum ≤ 8) (hd : decode cc pc = .ok (.invokevirtual index, 3))
    (kk : gm_G p l e R s m args below meth c Q cf ad sh N nL S1 (pc + 3) lv (.long r :: rest)) : gm_G p l e R s m args below meth c Q cf ad sh N nL S pc lv st := gm_callV C hM hN hk K hy hc hw hn hR hst hro hd kk
theorem gm_callSl (C : gm_F p s m args meth c cf ad N cc nL own) {r : Int64} (hM : gm_Met l y b maxL ret fr lo cf ad sh N As S (some (.long r)) S1) (hy : gm_ys y b maxL ret n) (hw : Cond.methodLink own index y ∈ gm_tbl) (hn : As.length = n) (hR : fr + 1 ≤ R.frames ∧ 8 + (maxL + 11) + lo ≤ R.locals) (hst : st = As.reverse ++ rest) (hro : (rest.map fun v => v.category).sum ≤ 8) (hd : decode cc pc = .ok (.invokestatic index, 3))
    (kk : gm_G p l e R s m args below meth c Q cf ad sh N nL S1 (pc + 3) lv (.long r :: rest)) : gm_G p l e R s m args below meth c Q cf ad sh N nL S pc lv st := gm_callS C hM hy hw hn hR hst hro hd kk
theorem gm_callVv (C : gm_F p s m args meth c cf ad N cc nL own) {t ci : Nat} {Cn : String} {T : u_T} {nf : Nat} {ty : Nat → FieldType} (hM : gm_Met l y b maxL ret fr lo cf ad sh N (.ref (ad t) :: As) S none S1) (hN : t < N) (hk : (sh t).1 = ci) (K : gm_kc ci Cn T nf ty) (hy : gm_yv y b maxL ret n) (hc : y.cls = Cn) (hw : Cond.methodLink own index y ∈ gm_tbl) (hn : As.length = n) (hR : fr + 1 ≤ R.frames ∧ 8 + (maxL + 11) + lo ≤ R.locals) (hst : st = As.reverse ++ .ref (ad t) :: rest) (hro : (rest.map fun v => v.category).sum ≤ 8) (hd : decode cc pc = .ok (.invokevirtual index, 3))
    (kk : gm_G p l e R s m args below meth c Q cf ad sh N nL S1 (pc + 3) lv (rest)) : gm_G p l e R s m args below meth c Q cf ad sh N nL S pc lv st := gm_callV C hM hN hk K hy hc hw hn hR hst hro hd kk
theorem gm_callSv (C : gm_F p s m args meth c cf ad N cc nL own) (hM : gm_Met l y b maxL ret fr lo cf ad sh N As S none S1) (hy : gm_ys y b maxL ret n) (hw : Cond.methodLink own index y ∈ gm_tbl) (hn : As.length = n) (hR : fr + 1 ≤ R.frames ∧ 8 + (maxL + 11) + lo ≤ R.locals) (hst : st = As.reverse ++ rest) (hro : (rest.map fun v => v.category).sum ≤ 8) (hd : decode cc pc = .ok (.invokestatic index, 3))
    (kk : gm_G p l e R s m args below meth c Q cf ad sh N nL S1 (pc + 3) lv (rest)) : gm_G p l e R s m args below meth c Q cf ad sh N nL S pc lv st := gm_callS C hM hy hw hn hR hst hro hd kk
end GP
def gm_lC : List (Nat × Nat × Nat × Nat) := [(10, 0, 0, 0), (5, 0, 0, 0), (7, 0, 0, 0), (101, 240, 0, 0), (9, 0, 0, 0), (100, 4, 0, 0), (100, 8, 0, 0), (100, 25, 0, 0), (9, 0, 0, 0), (100, 4, 0, 0), (100, 8, 0, 0), (100, 25, 0, 0), (3, 0, 0, 0), (104, 4, 14, 1), (103, 157, 0, 0), (103, 157, 0, 0), (103, 157, 0, 0), (103, 157, 0, 0), (100, 4, 0, 0), (103, 157, 0, 0), (8, 0, 0, 0), (100, 4, 0, 0), (4, 0, 0, 0), (105, 16, 24, 4), (9, 0, 0, 0), (100, 4, 0, 0), (100, 8, 0, 0), (100, 25, 0, 0), (9, 0, 0, 0), (100, 4, 0, 0), (100, 8, 0, 0), (100, 25, 0, 0), (9, 0, 0, 0), (100, 4, 0, 0), (100, 8, 0, 0), (100, 25, 0, 0), (9, 0, 0, 0), (100, 4, 0, 0), (100, 8, 0, 0), (100, 25, 0, 0), (9, 0, 0, 0), (100, 4, 0, 0), (100, 8, 0, 0), (100, 25, 0, 0), (9, 0, 0, 0), (100, 4, 0, 0), (100, 8, 0, 0), (100, 25, 0, 0), (9, 0, 0, 0), (100, 4, 0, 0), (100, 8, 0, 0), (100, 25, 0, 0), (9, 0, 0, 0), (100, 4, 0, 0), (100, 8, 0, 0), (100, 25, 0, 0), (9, 0, 0, 0), (100, 4, 0, 0), (100, 8, 0, 0), (100, 25, 0, 0), (9, 0, 0, 0), (100, 4, 0, 0), (100, 8, 0, 0), (100, 25, 0, 0), (9, 0, 0, 0), (100, 4, 0, 0), (100, 8, 0, 0), (100, 25, 0, 0), (9, 0, 0, 0), (100, 4, 0, 0), (100, 8, 0, 0), (100, 25, 0, 0), (9, 0, 0, 0), (100, 4, 0, 0), (100, 8, 0, 0), (100, 25, 0, 0), (9, 0, 0, 0), (100, 4, 0, 0), (100, 8, 0, 0), (100, 25, 0, 0), (9, 0, 0, 0), (100, 4, 0, 0), (100, 8, 0, 0), (100, 25, 0, 0), (9, 0, 0, 0), (100, 4, 0, 0), (100, 8, 0, 0), (100, 25, 0, 0), (1, 0, 0, 0), (100, 171, 0, 0), (8, 0, 0, 0), (100, 4, 0, 0), (0, 0, 0, 0), (100, 15, 0, 0), (102, 15, 0, 0), (106, 2, 96, 5), (2, 0, 0, 0), (9, 0, 0, 0), (100, 4, 0, 0), (100, 8, 0, 0), (100, 25, 0, 0), (2, 0, 0, 0), (9, 0, 0, 0), (100, 4, 0, 0), (100, 8, 0, 0), (100, 25, 0, 0)]
def gm_sC : gm_H := fun t => gm_lC.getD t (99, 0, 0, 0)
def gm_lM : List (Nat × Nat × Nat × Nat) := [(11, 0, 0, 0), (100, 5, 0, 0), (100, 42, 0, 0), (100, 240, 0, 0), (100, 4, 0, 0), (100, 4, 0, 0), (100, 4, 0, 0), (100, 4, 0, 0), (100, 4, 0, 0), (100, 5, 0, 0), (100, 672, 0, 0), (100, 8, 0, 0), (102, 8, 0, 0), (100, 15, 0, 0), (102, 15, 0, 0), (100, 86, 0, 0), (102, 2, 0, 0)]
def gm_sM : gm_H := fun t => gm_lM.getD t (99, 0, 0, 0)
abbrev gm_isTr (t : Nat) : Prop := t + 3 < 106 ∧ gm_sC t = (9, 0, 0, 0) ∧ gm_sC (t + 1) = (100, 4, 0, 0) ∧ gm_sC (t + 2) = (100, 8, 0, 0) ∧ gm_sC (t + 3) = (100, 25, 0, 0)
abbrev gm_isTk (t : Nat) : Prop := t + 1 < 106 ∧ gm_sC t = (8, 0, 0, 0) ∧ gm_sC (t + 1) = (100, 4, 0, 0)
abbrev gm_isIm (t : Nat) : Prop := t + 4 < 106 ∧ gm_sC t = (2, 0, 0, 0) ∧ gm_isTr (t + 1)
abbrev gm_isRw (t : Nat) : Prop := t < 106 ∧ gm_sC t = (103, 157, 0, 0)
abbrev gm_isW (w : Nat) : Prop := w < 17 ∧ (gm_sM w).1 = 100
theorem gm_tr_l0 {t : Nat} (h : gm_isTr t) : t < 106 := by have := h.1; omega
theorem gm_tr_k0 {t : Nat} (h : gm_isTr t) : (gm_sC t).1 = 9 := by rw [h.2.1]
theorem gm_tr_l1 {t : Nat} (h : gm_isTr t) : t + 1 < 106 := by have := h.1; omega
theorem gm_tr_k1 {t : Nat} (h : gm_isTr t) : (gm_sC (t + 1)).1 = 100 := by rw [h.2.2.1]
theorem gm_tr_n1 {t : Nat} (h : gm_isTr t) : (gm_sC (t + 1)).2.1 = 4 := by rw [h.2.2.1]
theorem gm_tr_l2 {t : Nat} (h : gm_isTr t) : t + 2 < 106 := by have := h.1; omega
theorem gm_tr_k2 {t : Nat} (h : gm_isTr t) : (gm_sC (t + 2)).1 = 100 := by rw [h.2.2.2.1]
theorem gm_tr_n2 {t : Nat} (h : gm_isTr t) : (gm_sC (t + 2)).2.1 = 8 := by rw [h.2.2.2.1]
theorem gm_tr_l3 {t : Nat} (h : gm_isTr t) : t + 3 < 106 := by have := h.1; omega
theorem gm_tr_k3 {t : Nat} (h : gm_isTr t) : (gm_sC (t + 3)).1 = 100 := by rw [h.2.2.2.2]
theorem gm_tr_n3 {t : Nat} (h : gm_isTr t) : (gm_sC (t + 3)).2.1 = 25 := by rw [h.2.2.2.2]
theorem gm_tk_l0 {t : Nat} (h : gm_isTk t) : t < 106 := by have := h.1; omega
theorem gm_tk_k0 {t : Nat} (h : gm_isTk t) : (gm_sC t).1 = 8 := by rw [h.2.1]
theorem gm_tk_l1 {t : Nat} (h : gm_isTk t) : t + 1 < 106 := by have := h.1; omega
theorem gm_tk_k1 {t : Nat} (h : gm_isTk t) : (gm_sC (t + 1)).1 = 100 := by rw [h.2.2]
theorem gm_tk_n1 {t : Nat} (h : gm_isTk t) : (gm_sC (t + 1)).2.1 = 4 := by rw [h.2.2]
theorem gm_im_l0 {t : Nat} (h : gm_isIm t) : t < 106 := by have := h.1; omega
theorem gm_im_k0 {t : Nat} (h : gm_isIm t) : (gm_sC t).1 = 2 := by rw [h.2.1]
theorem gm_im_tr {t : Nat} (h : gm_isIm t) : gm_isTr (t + 1) := h.2.2
theorem gm_rw_l0 {t : Nat} (h : gm_isRw t) : t < 106 := h.1
theorem gm_rw_k0 {t : Nat} (h : gm_isRw t) : (gm_sC t).1 = 103 := by rw [h.2]
theorem gm_rw_n0 {t : Nat} (h : gm_isRw t) : (gm_sC t).2.1 = 157 := by rw [h.2]
theorem gm_tr_ring : ∀ j, j < 16 → gm_isTr (24 + 4 * j) := by decide +kernel
theorem gm_im_a1 : ∀ j, j < 2 → gm_sC (96 + 5 * j) = (2, 0, 0, 0) := by decide +kernel
theorem gm_im_a2 : ∀ j, j < 2 → gm_isTr (96 + 5 * j + 1) := by decide +kernel
theorem gm_im_all : ∀ j, j < 2 → gm_isIm (96 + 5 * j) := fun j hj => ⟨by omega, gm_im_a1 j hj, gm_im_a2 j hj⟩
theorem gm_rw_all : ∀ j, j < 4 → gm_isRw (14 + 1 * j) := by decide +kernel
theorem gm_of_tr {i : Int32} (h : vp_in i 16) : gm_isTr (24 + 4 * i.toNatClampNeg) := gm_tr_ring _ (Nat.not_le.mp fun q => h (Or.inr q))
theorem gm_of_im {i : Int32} (h : vp_in i 2) : gm_isIm (96 + 5 * i.toNatClampNeg) := gm_im_all _ (Nat.not_le.mp fun q => h (Or.inr q))
theorem gm_of_rw {i : Int32} (h : vp_in i 4) : gm_isRw (14 + 1 * i.toNatClampNeg) := gm_rw_all _ (Nat.not_le.mp fun q => h (Or.inr q))
theorem gm_tr_4 : gm_isTr 4 := by decide +kernel
theorem gm_tr_8 : gm_isTr 8 := by decide +kernel
theorem gm_tk_20 : gm_isTk 20 := by decide +kernel
theorem gm_tk_90 : gm_isTk 90 := by decide +kernel
theorem gm_w_4 : gm_isW 4 := by decide +kernel
theorem gm_w_5 : gm_isW 5 := by decide +kernel
theorem gm_w_6 : gm_isW 6 := by decide +kernel
theorem gm_w_7 : gm_isW 7 := by decide +kernel
theorem gm_w_8 : gm_isW 8 := by decide +kernel
theorem gm_w_9 : gm_isW 9 := by decide +kernel
end
section
/-! words of the tables, by their places; classes; methods that are called -/
theorem wl_88 : Cond.fieldLink RX7 9 RX7 (TX7 0).2.1 (TX7 0).2.2.1 ∈ gm_tbl := gm_in_tbl 88 (by decide +kernel) (by decide +kernel)
theorem wl_89 : Cond.fieldLink RX7 15 RX7 (TX7 1).2.1 (TX7 1).2.2.1 ∈ gm_tbl := gm_in_tbl 89 (by decide +kernel) (by decide +kernel)
theorem wl_90 : Cond.fieldLink RX10 73 RX7 (TX7 1).2.1 (TX7 1).2.2.1 ∈ gm_tbl := gm_in_tbl 90 (by decide +kernel) (by decide +kernel)
theorem wl_91 : Cond.fieldLink RX5 45 RX7 (TX7 1).2.1 (TX7 1).2.2.1 ∈ gm_tbl := gm_in_tbl 91 (by decide +kernel) (by decide +kernel)
theorem wl_104 : Cond.fieldLink RX9 9 RX9 (TX9 0).2.1 (TX9 0).2.2.1 ∈ gm_tbl := gm_in_tbl 104 (by decide +kernel) (by decide +kernel)
theorem wl_105 : Cond.fieldLink RX3 57 RX9 (TX9 0).2.1 (TX9 0).2.2.1 ∈ gm_tbl := gm_in_tbl 105 (by decide +kernel) (by decide +kernel)
theorem wl_106 : Cond.fieldLink RX10 144 RX9 (TX9 0).2.1 (TX9 0).2.2.1 ∈ gm_tbl := gm_in_tbl 106 (by decide +kernel) (by decide +kernel)
theorem wl_107 : Cond.fieldLink RX9 15 RX9 (TX9 1).2.1 (TX9 1).2.2.1 ∈ gm_tbl := gm_in_tbl 107 (by decide +kernel) (by decide +kernel)
theorem wl_108 : Cond.fieldLink RX9 18 RX9 (TX9 2).2.1 (TX9 2).2.2.1 ∈ gm_tbl := gm_in_tbl 108 (by decide +kernel) (by decide +kernel)
theorem wl_109 : Cond.fieldLink RX9 21 RX9 (TX9 3).2.1 (TX9 3).2.2.1 ∈ gm_tbl := gm_in_tbl 109 (by decide +kernel) (by decide +kernel)
theorem wl_110 : Cond.fieldLink RX3 35 RX9 (TX9 3).2.1 (TX9 3).2.2.1 ∈ gm_tbl := gm_in_tbl 110 (by decide +kernel) (by decide +kernel)
theorem wl_111 : Cond.fieldLink RX10 97 RX9 (TX9 3).2.1 (TX9 3).2.2.1 ∈ gm_tbl := gm_in_tbl 111 (by decide +kernel) (by decide +kernel)
theorem wl_112 : Cond.fieldLink RX5 84 RX9 (TX9 3).2.1 (TX9 3).2.2.1 ∈ gm_tbl := gm_in_tbl 112 (by decide +kernel) (by decide +kernel)
theorem wl_113 : Cond.fieldLink RX9 25 RX9 (TX9 4).2.1 (TX9 4).2.2.1 ∈ gm_tbl := gm_in_tbl 113 (by decide +kernel) (by decide +kernel)
theorem wl_114 : Cond.fieldLink RX3 64 RX9 (TX9 4).2.1 (TX9 4).2.2.1 ∈ gm_tbl := gm_in_tbl 114 (by decide +kernel) (by decide +kernel)
theorem wl_115 : Cond.fieldLink RX10 112 RX9 (TX9 4).2.1 (TX9 4).2.2.1 ∈ gm_tbl := gm_in_tbl 115 (by decide +kernel) (by decide +kernel)
theorem wl_116 : Cond.fieldLink RX5 100 RX9 (TX9 4).2.1 (TX9 4).2.2.1 ∈ gm_tbl := gm_in_tbl 116 (by decide +kernel) (by decide +kernel)
theorem wl_117 : Cond.fieldLink RX9 28 RX9 (TX9 5).2.1 (TX9 5).2.2.1 ∈ gm_tbl := gm_in_tbl 117 (by decide +kernel) (by decide +kernel)
theorem wl_118 : Cond.fieldLink RX10 121 RX9 (TX9 5).2.1 (TX9 5).2.2.1 ∈ gm_tbl := gm_in_tbl 118 (by decide +kernel) (by decide +kernel)
theorem wl_119 : Cond.fieldLink RX9 31 RX9 (TX9 6).2.1 (TX9 6).2.2.1 ∈ gm_tbl := gm_in_tbl 119 (by decide +kernel) (by decide +kernel)
theorem wl_120 : Cond.fieldLink RX3 53 RX9 (TX9 6).2.1 (TX9 6).2.2.1 ∈ gm_tbl := gm_in_tbl 120 (by decide +kernel) (by decide +kernel)
theorem wl_121 : Cond.fieldLink RX10 115 RX9 (TX9 6).2.1 (TX9 6).2.2.1 ∈ gm_tbl := gm_in_tbl 121 (by decide +kernel) (by decide +kernel)
theorem wl_122 : Cond.fieldLink RX5 87 RX9 (TX9 6).2.1 (TX9 6).2.2.1 ∈ gm_tbl := gm_in_tbl 122 (by decide +kernel) (by decide +kernel)
theorem wl_123 : Cond.fieldLink RX9 34 RX9 (TX9 7).2.1 (TX9 7).2.2.1 ∈ gm_tbl := gm_in_tbl 123 (by decide +kernel) (by decide +kernel)
theorem wl_124 : Cond.fieldLink RX10 118 RX9 (TX9 7).2.1 (TX9 7).2.2.1 ∈ gm_tbl := gm_in_tbl 124 (by decide +kernel) (by decide +kernel)
theorem wl_125 : Cond.fieldLink RX5 90 RX9 (TX9 7).2.1 (TX9 7).2.2.1 ∈ gm_tbl := gm_in_tbl 125 (by decide +kernel) (by decide +kernel)
theorem wl_126 : Cond.fieldLink RX9 37 RX9 (TX9 8).2.1 (TX9 8).2.2.1 ∈ gm_tbl := gm_in_tbl 126 (by decide +kernel) (by decide +kernel)
theorem wl_127 : Cond.fieldLink RX10 109 RX9 (TX9 8).2.1 (TX9 8).2.2.1 ∈ gm_tbl := gm_in_tbl 127 (by decide +kernel) (by decide +kernel)
theorem wl_128 : Cond.fieldLink RX5 93 RX9 (TX9 8).2.1 (TX9 8).2.2.1 ∈ gm_tbl := gm_in_tbl 128 (by decide +kernel) (by decide +kernel)
theorem wl_149 : Cond.fieldLink RX5 12 RX5 (TX5 0).2.1 (TX5 0).2.2.1 ∈ gm_tbl := gm_in_tbl 149 (by decide +kernel) (by decide +kernel)
theorem wl_150 : Cond.fieldLink RX10 63 RX5 (TX5 0).2.1 (TX5 0).2.2.1 ∈ gm_tbl := gm_in_tbl 150 (by decide +kernel) (by decide +kernel)
theorem wl_151 : Cond.fieldLink RX5 21 RX5 (TX5 1).2.1 (TX5 1).2.2.1 ∈ gm_tbl := gm_in_tbl 151 (by decide +kernel) (by decide +kernel)
theorem wl_152 : Cond.fieldLink RX10 84 RX5 (TX5 1).2.1 (TX5 1).2.2.1 ∈ gm_tbl := gm_in_tbl 152 (by decide +kernel) (by decide +kernel)
theorem wl_153 : Cond.fieldLink RX5 28 RX5 (TX5 2).2.1 (TX5 2).2.2.1 ∈ gm_tbl := gm_in_tbl 153 (by decide +kernel) (by decide +kernel)
theorem wl_154 : Cond.fieldLink RX5 105 RX5 (TX5 3).2.1 (TX5 3).2.2.1 ∈ gm_tbl := gm_in_tbl 154 (by decide +kernel) (by decide +kernel)
theorem wl_155 : Cond.fieldLink RX5 32 RX5 (TX5 4).2.1 (TX5 4).2.2.1 ∈ gm_tbl := gm_in_tbl 155 (by decide +kernel) (by decide +kernel)
theorem wl_156 : Cond.fieldLink RX10 80 RX5 (TX5 4).2.1 (TX5 4).2.2.1 ∈ gm_tbl := gm_in_tbl 156 (by decide +kernel) (by decide +kernel)
theorem wl_157 : Cond.fieldLink RX5 35 RX5 (TX5 5).2.1 (TX5 5).2.2.1 ∈ gm_tbl := gm_in_tbl 157 (by decide +kernel) (by decide +kernel)
theorem wl_158 : Cond.fieldLink RX10 83 RX5 (TX5 5).2.1 (TX5 5).2.2.1 ∈ gm_tbl := gm_in_tbl 158 (by decide +kernel) (by decide +kernel)
theorem wl_159 : Cond.fieldLink RX5 38 RX5 (TX5 6).2.1 (TX5 6).2.2.1 ∈ gm_tbl := gm_in_tbl 159 (by decide +kernel) (by decide +kernel)
theorem wl_191 : Cond.fieldLink RX8 7 RX8 (TX8 0).2.1 (TX8 0).2.2.1 ∈ gm_tbl := gm_in_tbl 191 (by decide +kernel) (by decide +kernel)
theorem wl_192 : Cond.fieldLink RX8 19 RX8 (TX8 1).2.1 (TX8 1).2.2.1 ∈ gm_tbl := gm_in_tbl 192 (by decide +kernel) (by decide +kernel)
theorem wl_193 : Cond.fieldLink RX8 23 RX8 (TX8 2).2.1 (TX8 2).2.2.1 ∈ gm_tbl := gm_in_tbl 193 (by decide +kernel) (by decide +kernel)
theorem wl_194 : Cond.fieldLink RX6 50 RX8 (TX8 2).2.1 (TX8 2).2.2.1 ∈ gm_tbl := gm_in_tbl 194 (by decide +kernel) (by decide +kernel)
theorem wl_203 : Cond.fieldLink RX3 11 RX3 (TX3 0).2.1 (TX3 0).2.2.1 ∈ gm_tbl := gm_in_tbl 203 (by decide +kernel) (by decide +kernel)
theorem wl_204 : Cond.fieldLink RX3 16 RX3 (TX3 1).2.1 (TX3 1).2.2.1 ∈ gm_tbl := gm_in_tbl 204 (by decide +kernel) (by decide +kernel)
theorem wl_205 : Cond.fieldLink RX3 20 RX3 (TX3 2).2.1 (TX3 2).2.2.1 ∈ gm_tbl := gm_in_tbl 205 (by decide +kernel) (by decide +kernel)
theorem wl_206 : Cond.fieldLink RX3 27 RX3 (TX3 3).2.1 (TX3 3).2.2.1 ∈ gm_tbl := gm_in_tbl 206 (by decide +kernel) (by decide +kernel)
theorem wl_207 : Cond.fieldLink RX3 31 RX3 (TX3 4).2.1 (TX3 4).2.2.1 ∈ gm_tbl := gm_in_tbl 207 (by decide +kernel) (by decide +kernel)
theorem wl_208 : Cond.fieldLink RX3 42 RX3 (TX3 5).2.1 (TX3 5).2.2.1 ∈ gm_tbl := gm_in_tbl 208 (by decide +kernel) (by decide +kernel)
theorem wl_209 : Cond.fieldLink RX3 50 RX3 (TX3 6).2.1 (TX3 6).2.2.1 ∈ gm_tbl := gm_in_tbl 209 (by decide +kernel) (by decide +kernel)
theorem wl_210 : Cond.fieldLink RX3 56 RX3 (TX3 7).2.1 (TX3 7).2.2.1 ∈ gm_tbl := gm_in_tbl 210 (by decide +kernel) (by decide +kernel)
theorem wl_211 : Cond.fieldLink RX3 67 RX3 (TX3 8).2.1 (TX3 8).2.2.1 ∈ gm_tbl := gm_in_tbl 211 (by decide +kernel) (by decide +kernel)
theorem wl_212 : Cond.fieldLink RX3 68 RX3 (TX3 9).2.1 (TX3 9).2.2.1 ∈ gm_tbl := gm_in_tbl 212 (by decide +kernel) (by decide +kernel)
theorem wl_213 : Cond.fieldLink RX10 124 RX3 (TX3 9).2.1 (TX3 9).2.2.1 ∈ gm_tbl := gm_in_tbl 213 (by decide +kernel) (by decide +kernel)
theorem wl_244 : Cond.fieldLink RX4 11 RX4 (TX4 0).2.1 (TX4 0).2.2.1 ∈ gm_tbl := gm_in_tbl 244 (by decide +kernel) (by decide +kernel)
theorem wl_245 : Cond.fieldLink RX4 18 RX4 (TX4 1).2.1 (TX4 1).2.2.1 ∈ gm_tbl := gm_in_tbl 245 (by decide +kernel) (by decide +kernel)
theorem wl_246 : Cond.fieldLink RX4 26 RX4 (TX4 2).2.1 (TX4 2).2.2.1 ∈ gm_tbl := gm_in_tbl 246 (by decide +kernel) (by decide +kernel)
theorem wl_247 : Cond.fieldLink RX10 94 RX4 (TX4 2).2.1 (TX4 2).2.2.1 ∈ gm_tbl := gm_in_tbl 247 (by decide +kernel) (by decide +kernel)
theorem wl_263 : Cond.fieldLink RX1 11 RX1 (TX1 0).2.1 (TX1 0).2.2.1 ∈ gm_tbl := gm_in_tbl 263 (by decide +kernel) (by decide +kernel)
theorem wl_264 : Cond.fieldLink RX10 251 RX1 (TX1 0).2.1 (TX1 0).2.2.1 ∈ gm_tbl := gm_in_tbl 264 (by decide +kernel) (by decide +kernel)
theorem wl_265 : Cond.fieldLink RX1 20 RX1 (TX1 1).2.1 (TX1 1).2.2.1 ∈ gm_tbl := gm_in_tbl 265 (by decide +kernel) (by decide +kernel)
theorem wl_266 : Cond.fieldLink RX1 34 RX1 (TX1 2).2.1 (TX1 2).2.2.1 ∈ gm_tbl := gm_in_tbl 266 (by decide +kernel) (by decide +kernel)
theorem wl_267 : Cond.fieldLink RX10 135 RX1 (TX1 2).2.1 (TX1 2).2.2.1 ∈ gm_tbl := gm_in_tbl 267 (by decide +kernel) (by decide +kernel)
theorem wl_268 : Cond.fieldLink RX1 31 RX1 (TX1 3).2.1 (TX1 3).2.2.1 ∈ gm_tbl := gm_in_tbl 268 (by decide +kernel) (by decide +kernel)
theorem wl_269 : Cond.fieldLink RX10 132 RX1 (TX1 3).2.1 (TX1 3).2.2.1 ∈ gm_tbl := gm_in_tbl 269 (by decide +kernel) (by decide +kernel)
theorem wl_270 : Cond.fieldLink RX1 28 RX1 (TX1 4).2.1 (TX1 4).2.2.1 ∈ gm_tbl := gm_in_tbl 270 (by decide +kernel) (by decide +kernel)
theorem wl_271 : Cond.fieldLink RX1 24 RX1 (TX1 5).2.1 (TX1 5).2.2.1 ∈ gm_tbl := gm_in_tbl 271 (by decide +kernel) (by decide +kernel)
theorem wl_272 : Cond.fieldLink RX1 37 RX1 (TX1 6).2.1 (TX1 6).2.2.1 ∈ gm_tbl := gm_in_tbl 272 (by decide +kernel) (by decide +kernel)
theorem wl_294 : Cond.fieldLink RX0 9 RX0 (TX0 0).2.1 (TX0 0).2.2.1 ∈ gm_tbl := gm_in_tbl 294 (by decide +kernel) (by decide +kernel)
theorem wl_295 : Cond.fieldLink RX10 257 RX0 (TX0 0).2.1 (TX0 0).2.2.1 ∈ gm_tbl := gm_in_tbl 295 (by decide +kernel) (by decide +kernel)
theorem wl_296 : Cond.fieldLink RX0 15 RX0 (TX0 1).2.1 (TX0 1).2.2.1 ∈ gm_tbl := gm_in_tbl 296 (by decide +kernel) (by decide +kernel)
theorem wl_297 : Cond.fieldLink RX10 260 RX0 (TX0 1).2.1 (TX0 1).2.2.1 ∈ gm_tbl := gm_in_tbl 297 (by decide +kernel) (by decide +kernel)
theorem wl_298 : Cond.fieldLink RX0 19 RX0 (TX0 2).2.1 (TX0 2).2.2.1 ∈ gm_tbl := gm_in_tbl 298 (by decide +kernel) (by decide +kernel)
theorem wl_299 : Cond.fieldLink RX10 104 RX0 (TX0 2).2.1 (TX0 2).2.2.1 ∈ gm_tbl := gm_in_tbl 299 (by decide +kernel) (by decide +kernel)
theorem wl_318 : Cond.fieldLink RX10 271 RX2 (TX2 0).2.1 (TX2 0).2.2.1 ∈ gm_tbl := gm_in_tbl 318 (by decide +kernel) (by decide +kernel)
theorem wl_319 : Cond.fieldLink RX10 105 RX2 (TX2 1).2.1 (TX2 1).2.2.1 ∈ gm_tbl := gm_in_tbl 319 (by decide +kernel) (by decide +kernel)
theorem wl_320 : Cond.fieldLink RX10 268 RX2 (TX2 2).2.1 (TX2 2).2.2.1 ∈ gm_tbl := gm_in_tbl 320 (by decide +kernel) (by decide +kernel)
theorem wl_328 : Cond.fieldLink RX10 10 RX10 (TX10 0).2.1 (TX10 0).2.2.1 ∈ gm_tbl := gm_in_tbl 328 (by decide +kernel) (by decide +kernel)
theorem wl_329 : Cond.fieldLink RX10 19 RX10 (TX10 1).2.1 (TX10 1).2.2.1 ∈ gm_tbl := gm_in_tbl 329 (by decide +kernel) (by decide +kernel)
theorem wl_330 : Cond.fieldLink RX10 26 RX10 (TX10 2).2.1 (TX10 2).2.2.1 ∈ gm_tbl := gm_in_tbl 330 (by decide +kernel) (by decide +kernel)
theorem wl_331 : Cond.fieldLink RX10 33 RX10 (TX10 3).2.1 (TX10 3).2.2.1 ∈ gm_tbl := gm_in_tbl 331 (by decide +kernel) (by decide +kernel)
theorem wl_332 : Cond.fieldLink RX10 40 RX10 (TX10 4).2.1 (TX10 4).2.2.1 ∈ gm_tbl := gm_in_tbl 332 (by decide +kernel) (by decide +kernel)
theorem wl_333 : Cond.fieldLink RX10 47 RX10 (TX10 5).2.1 (TX10 5).2.2.1 ∈ gm_tbl := gm_in_tbl 333 (by decide +kernel) (by decide +kernel)
theorem wl_334 : Cond.fieldLink RX10 53 RX10 (TX10 6).2.1 (TX10 6).2.2.1 ∈ gm_tbl := gm_in_tbl 334 (by decide +kernel) (by decide +kernel)
theorem wl_335 : Cond.fieldLink RX10 264 RX10 (TX10 7).2.1 (TX10 7).2.2.1 ∈ gm_tbl := gm_in_tbl 335 (by decide +kernel) (by decide +kernel)
theorem wl_336 : Cond.fieldLink RX10 57 RX10 (TX10 8).2.1 (TX10 8).2.2.1 ∈ gm_tbl := gm_in_tbl 336 (by decide +kernel) (by decide +kernel)
theorem wl_360 : Cond.constant RX10 62 (-1000000002) ∈ gm_tbl := gm_in_tbl 360 (by decide +kernel) (by decide +kernel)
theorem wl_361 : Cond.methodLink RX10 67 yX7_add ∈ gm_tbl := gm_in_tbl 361 (by decide +kernel) (by decide +kernel)
theorem wl_365 : Cond.constant RX10 76 (-1000000004) ∈ gm_tbl := gm_in_tbl 365 (by decide +kernel) (by decide +kernel)
theorem wl_370 : Cond.methodLink RX10 77 yX5_readText ∈ gm_tbl := gm_in_tbl 370 (by decide +kernel) (by decide +kernel)
theorem wl_374 : Cond.methodLink RX5 25 yX9_clear ∈ gm_tbl := gm_in_tbl 374 (by decide +kernel) (by decide +kernel)
theorem wl_378 : Cond.methodLink RX5 42 yX5_skipBlanks ∈ gm_tbl := gm_in_tbl 378 (by decide +kernel) (by decide +kernel)
theorem wl_382 : Cond.methodLink RX5 51 yX7_letterAt ∈ gm_tbl := gm_in_tbl 382 (by decide +kernel) (by decide +kernel)
theorem wl_386 : Cond.methodLink RX5 48 yX5_readClause ∈ gm_tbl := gm_in_tbl 386 (by decide +kernel) (by decide +kernel)
theorem wl_390 : Cond.methodLink RX5 55 yX5_mayStand ∈ gm_tbl := gm_in_tbl 390 (by decide +kernel) (by decide +kernel)
theorem wl_394 : Cond.methodLink RX5 59 yX5_setFault ∈ gm_tbl := gm_in_tbl 394 (by decide +kernel) (by decide +kernel)
theorem wl_398 : Cond.methodLink RX5 63 yX5_isOneTooMany ∈ gm_tbl := gm_in_tbl 398 (by decide +kernel) (by decide +kernel)
theorem wl_402 : Cond.methodLink RX5 66 yX5_readFigures ∈ gm_tbl := gm_in_tbl 402 (by decide +kernel) (by decide +kernel)
theorem wl_406 : Cond.methodLink RX5 96 yX5_readNumber ∈ gm_tbl := gm_in_tbl 406 (by decide +kernel) (by decide +kernel)
theorem wl_410 : Cond.methodLink RX5 130 yX5_isFigure ∈ gm_tbl := gm_in_tbl 410 (by decide +kernel) (by decide +kernel)
theorem wl_414 : Cond.methodLink RX5 69 yX5_readMode ∈ gm_tbl := gm_in_tbl 414 (by decide +kernel) (by decide +kernel)
theorem wl_418 : Cond.methodLink RX5 72 yX5_readRule ∈ gm_tbl := gm_in_tbl 418 (by decide +kernel) (by decide +kernel)
theorem wl_422 : Cond.methodLink RX5 108 yX6_mayBeTold ∈ gm_tbl := gm_in_tbl 422 (by decide +kernel) (by decide +kernel)
theorem wl_425 : Cond.methodLink RX6 18 yX6_leastA ∈ gm_tbl := gm_in_tbl 425 (by decide +kernel) (by decide +kernel)
theorem wl_428 : Cond.fieldLink RX6 11 RX6 "LEAST_A" "[I" ∈ gm_tbl := gm_in_tbl 428 (by decide +kernel) (by decide +kernel)
theorem wl_430 : Cond.methodLink RX6 22 yX6_greatestA ∈ gm_tbl := gm_in_tbl 430 (by decide +kernel) (by decide +kernel)
theorem wl_433 : Cond.fieldLink RX6 15 RX6 "GREATEST_A" "[I" ∈ gm_tbl := gm_in_tbl 433 (by decide +kernel) (by decide +kernel)
theorem wl_435 : Cond.methodLink RX6 25 yX6_greatestB ∈ gm_tbl := gm_in_tbl 435 (by decide +kernel) (by decide +kernel)
theorem wl_438 : Cond.methodLink RX5 112 yX6_code ∈ gm_tbl := gm_in_tbl 438 (by decide +kernel) (by decide +kernel)
theorem wl_441 : Cond.methodLink RX5 116 yX9_addRule ∈ gm_tbl := gm_in_tbl 441 (by decide +kernel) (by decide +kernel)
theorem wl_445 : Cond.methodLink RX5 75 yX5_readRoll ∈ gm_tbl := gm_in_tbl 445 (by decide +kernel) (by decide +kernel)
theorem wl_449 : Cond.methodLink RX5 120 yX9_numbers ∈ gm_tbl := gm_in_tbl 449 (by decide +kernel) (by decide +kernel)
theorem wl_453 : Cond.methodLink RX5 124 yX9_addRoll ∈ gm_tbl := gm_in_tbl 453 (by decide +kernel) (by decide +kernel)
theorem wl_457 : Cond.methodLink RX9 46 yX9_putRoll ∈ gm_tbl := gm_in_tbl 457 (by decide +kernel) (by decide +kernel)
theorem wl_461 : Cond.methodLink RX5 78 yX5_readRider ∈ gm_tbl := gm_in_tbl 461 (by decide +kernel) (by decide +kernel)
theorem wl_465 : Cond.methodLink RX5 127 yX9_addRider ∈ gm_tbl := gm_in_tbl 465 (by decide +kernel) (by decide +kernel)
theorem wl_469 : Cond.methodLink RX5 81 yX5_readEnd ∈ gm_tbl := gm_in_tbl 469 (by decide +kernel) (by decide +kernel)
theorem wl_473 : Cond.methodLink RX10 87 yX9_copyFrom ∈ gm_tbl := gm_in_tbl 473 (by decide +kernel) (by decide +kernel)
theorem wl_477 : Cond.methodLink RX9 40 arraycopyName ∈ gm_tbl := gm_in_tbl 477 (by decide +kernel) (by decide +kernel)
theorem wl_480 : Cond.methodLink RX10 91 yX3_follow ∈ gm_tbl := gm_in_tbl 480 (by decide +kernel) (by decide +kernel)
theorem wl_484 : Cond.methodLink RX3 38 yX9_numbers ∈ gm_tbl := gm_in_tbl 484 (by decide +kernel) (by decide +kernel)
theorem wl_485 : Cond.methodLink RX3 44 Lib.Math.min.name ∈ gm_tbl := gm_in_tbl 485 (by decide +kernel) (by decide +kernel)
theorem wl_488 : Cond.methodLink RX3 60 yX3_fillRow ∈ gm_tbl := gm_in_tbl 488 (by decide +kernel) (by decide +kernel)
theorem wl_492 : Cond.methodLink RX3 81 yX8_spell ∈ gm_tbl := gm_in_tbl 492 (by decide +kernel) (by decide +kernel)
theorem wl_496 : Cond.methodLink RX8 13 Lib.Math.min.name ∈ gm_tbl := gm_in_tbl 496 (by decide +kernel) (by decide +kernel)
theorem wl_497 : Cond.methodLink RX3 85 yX6_sayYes ∈ gm_tbl := gm_in_tbl 497 (by decide +kernel) (by decide +kernel)
theorem wl_500 : Cond.methodLink RX6 29 yX6_aOf ∈ gm_tbl := gm_in_tbl 500 (by decide +kernel) (by decide +kernel)
theorem wl_503 : Cond.methodLink RX6 32 yX6_bOf ∈ gm_tbl := gm_in_tbl 503 (by decide +kernel) (by decide +kernel)
theorem wl_506 : Cond.methodLink RX6 35 yX6_kindOf ∈ gm_tbl := gm_in_tbl 506 (by decide +kernel) (by decide +kernel)
theorem wl_509 : Cond.methodLink RX6 38 yX8_halvesApart ∈ gm_tbl := gm_in_tbl 509 (by decide +kernel) (by decide +kernel)
theorem wl_513 : Cond.methodLink RX8 26 Lib.Math.abs.name ∈ gm_tbl := gm_in_tbl 513 (by decide +kernel) (by decide +kernel)
theorem wl_516 : Cond.methodLink RX6 44 yX8_unlikePairs ∈ gm_tbl := gm_in_tbl 516 (by decide +kernel) (by decide +kernel)
theorem wl_520 : Cond.methodLink RX6 47 yX8_timesThere ∈ gm_tbl := gm_in_tbl 520 (by decide +kernel) (by decide +kernel)
theorem wl_524 : Cond.methodLink RX6 54 yX8_falls ∈ gm_tbl := gm_in_tbl 524 (by decide +kernel) (by decide +kernel)
theorem wl_528 : Cond.methodLink RX3 71 yX3_joinedWord ∈ gm_tbl := gm_in_tbl 528 (by decide +kernel) (by decide +kernel)
theorem wl_532 : Cond.constantLong RX3 91 (-1) ∈ gm_tbl := gm_in_tbl 532 (by decide +kernel) (by decide +kernel)
theorem wl_533 : Cond.methodLink RX3 75 yJ13_bitCount_95d88 ∈ gm_tbl := gm_in_tbl 533 (by decide +kernel) (by decide +kernel)
theorem wl_536 : Cond.constantLong RJ13 314 6148914691236517205 ∈ gm_tbl := gm_in_tbl 536 (by decide +kernel) (by decide +kernel)
theorem wl_537 : Cond.constantLong RJ13 316 3689348814741910323 ∈ gm_tbl := gm_in_tbl 537 (by decide +kernel) (by decide +kernel)
theorem wl_538 : Cond.constantLong RJ13 318 1085102592571150095 ∈ gm_tbl := gm_in_tbl 538 (by decide +kernel) (by decide +kernel)
theorem wl_539 : Cond.methodLink RX10 100 yX1_forget ∈ gm_tbl := gm_in_tbl 539 (by decide +kernel) (by decide +kernel)
theorem wl_543 : Cond.methodLink RX1 41 yX6_leastA ∈ gm_tbl := gm_in_tbl 543 (by decide +kernel) (by decide +kernel)
theorem wl_544 : Cond.methodLink RX1 45 yX6_greatestA ∈ gm_tbl := gm_in_tbl 544 (by decide +kernel) (by decide +kernel)
theorem wl_545 : Cond.methodLink RX1 48 yX1_addRules ∈ gm_tbl := gm_in_tbl 545 (by decide +kernel) (by decide +kernel)
theorem wl_549 : Cond.methodLink RX1 52 yX6_greatestB ∈ gm_tbl := gm_in_tbl 549 (by decide +kernel) (by decide +kernel)
theorem wl_550 : Cond.methodLink RX1 56 yX6_code ∈ gm_tbl := gm_in_tbl 550 (by decide +kernel) (by decide +kernel)
theorem wl_559 : Cond.methodLink RX10 125 yX10_bestRoll ∈ gm_tbl := gm_in_tbl 559 (by decide +kernel) (by decide +kernel)
theorem wl_563 : Cond.methodLink RX10 173 yX10_soonFrom ∈ gm_tbl := gm_in_tbl 563 (by decide +kernel) (by decide +kernel)
theorem wl_567 : Cond.methodLink RX10 170 yX9_ticketsLeft ∈ gm_tbl := gm_in_tbl 567 (by decide +kernel) (by decide +kernel)
theorem wl_571 : Cond.methodLink RX10 167 yX9_nextTicket ∈ gm_tbl := gm_in_tbl 571 (by decide +kernel) (by decide +kernel)
theorem wl_575 : Cond.methodLink RX10 198 yX3_isLucky ∈ gm_tbl := gm_in_tbl 575 (by decide +kernel) (by decide +kernel)
theorem wl_579 : Cond.methodLink RX10 293 yX9_behind ∈ gm_tbl := gm_in_tbl 579 (by decide +kernel) (by decide +kernel)
theorem wl_583 : Cond.methodLink RX9 50 yX9_numbers ∈ gm_tbl := gm_in_tbl 583 (by decide +kernel) (by decide +kernel)
theorem wl_584 : Cond.methodLink RX10 129 yX9_luckiestRider ∈ gm_tbl := gm_in_tbl 584 (by decide +kernel) (by decide +kernel)
theorem wl_588 : Cond.methodLink RX9 64 yX9_riderCell ∈ gm_tbl := gm_in_tbl 588 (by decide +kernel) (by decide +kernel)
theorem wl_592 : Cond.methodLink RX10 136 yX1_bestQuestion ∈ gm_tbl := gm_in_tbl 592 (by decide +kernel) (by decide +kernel)
theorem wl_596 : Cond.methodLink RX1 67 yX1_findQuestion ∈ gm_tbl := gm_in_tbl 596 (by decide +kernel) (by decide +kernel)
theorem wl_600 : Cond.methodLink RX1 71 yX1_greaterPart ∈ gm_tbl := gm_in_tbl 600 (by decide +kernel) (by decide +kernel)
theorem wl_604 : Cond.methodLink RX1 60 yX8_spell ∈ gm_tbl := gm_in_tbl 604 (by decide +kernel) (by decide +kernel)
theorem wl_605 : Cond.methodLink RX1 63 yX6_sayYes ∈ gm_tbl := gm_in_tbl 605 (by decide +kernel) (by decide +kernel)
theorem wl_606 : Cond.methodLink RX1 74 Lib.Math.max.name ∈ gm_tbl := gm_in_tbl 606 (by decide +kernel) (by decide +kernel)
theorem wl_613 : Cond.methodLink RX10 139 yX9_hasRule ∈ gm_tbl := gm_in_tbl 613 (by decide +kernel) (by decide +kernel)
theorem wl_617 : Cond.constant RX10 143 (-1000000001) ∈ gm_tbl := gm_in_tbl 617 (by decide +kernel) (by decide +kernel)
theorem wl_618 : Cond.methodLink RX10 148 yX6_kindOf ∈ gm_tbl := gm_in_tbl 618 (by decide +kernel) (by decide +kernel)
theorem wl_619 : Cond.methodLink RX10 154 yX6_aOf ∈ gm_tbl := gm_in_tbl 619 (by decide +kernel) (by decide +kernel)
theorem wl_620 : Cond.methodLink RX10 157 yX6_bOf ∈ gm_tbl := gm_in_tbl 620 (by decide +kernel) (by decide +kernel)
theorem wl_621 : Cond.constant RX10 160 100000 ∈ gm_tbl := gm_in_tbl 621 (by decide +kernel) (by decide +kernel)
theorem wl_622 : Cond.methodLink RX10 161 yX3_countWithout ∈ gm_tbl := gm_in_tbl 622 (by decide +kernel) (by decide +kernel)
theorem wl_630 : Cond.methodLink RX10 164 yX9_hasRoll ∈ gm_tbl := gm_in_tbl 630 (by decide +kernel) (by decide +kernel)
theorem wl_634 : Cond.methodLink RX10 176 yX10_whoGetsIt ∈ gm_tbl := gm_in_tbl 634 (by decide +kernel) (by decide +kernel)
theorem wl_638 : Cond.methodLink RX10 179 yX10_luckyLeft ∈ gm_tbl := gm_in_tbl 638 (by decide +kernel) (by decide +kernel)
theorem wl_642 : Cond.methodLink RX10 182 yX10_partDivisor ∈ gm_tbl := gm_in_tbl 642 (by decide +kernel) (by decide +kernel)
theorem wl_646 : Cond.methodLink RX10 296 Lib.Math.max.name ∈ gm_tbl := gm_in_tbl 646 (by decide +kernel) (by decide +kernel)
theorem wl_651 : Cond.methodLink RX10 185 yX9_hasRider ∈ gm_tbl := gm_in_tbl 651 (by decide +kernel) (by decide +kernel)
theorem wl_655 : Cond.methodLink RX10 188 yX9_riderCell ∈ gm_tbl := gm_in_tbl 655 (by decide +kernel) (by decide +kernel)
theorem wl_660 : Cond.methodLink RX10 192 yX9_hasNumber ∈ gm_tbl := gm_in_tbl 660 (by decide +kernel) (by decide +kernel)
theorem wl_664 : Cond.methodLink RX10 195 yX3_rulesSayingYes ∈ gm_tbl := gm_in_tbl 664 (by decide +kernel) (by decide +kernel)
theorem wl_672 : Cond.constant RX10 201 (-1000000003) ∈ gm_tbl := gm_in_tbl 672 (by decide +kernel) (by decide +kernel)
theorem wl_673 : Cond.methodLink RX10 202 yX4_remember ∈ gm_tbl := gm_in_tbl 673 (by decide +kernel) (by decide +kernel)
theorem wl_677 : Cond.methodLink RX4 22 yX9_copyFrom ∈ gm_tbl := gm_in_tbl 677 (by decide +kernel) (by decide +kernel)
theorem wl_678 : Cond.methodLink RX4 29 Lib.Math.min.name ∈ gm_tbl := gm_in_tbl 678 (by decide +kernel) (by decide +kernel)
theorem wl_679 : Cond.methodLink RX10 205 yX10_sellOne ∈ gm_tbl := gm_in_tbl 679 (by decide +kernel) (by decide +kernel)
theorem wl_683 : Cond.methodLink RX10 274 yX9_takeTicket ∈ gm_tbl := gm_in_tbl 683 (by decide +kernel) (by decide +kernel)
theorem wl_687 : Cond.methodLink RX9 54 yX9_nextTicket ∈ gm_tbl := gm_in_tbl 687 (by decide +kernel) (by decide +kernel)
theorem wl_688 : Cond.methodLink RX9 58 yX9_behind ∈ gm_tbl := gm_in_tbl 688 (by decide +kernel) (by decide +kernel)
theorem wl_689 : Cond.methodLink RX9 61 yX9_ticketsLeft ∈ gm_tbl := gm_in_tbl 689 (by decide +kernel) (by decide +kernel)
theorem wl_690 : Cond.methodLink RX10 277 yX9_handOver ∈ gm_tbl := gm_in_tbl 690 (by decide +kernel) (by decide +kernel)
theorem wl_694 : Cond.methodLink RX9 68 yX9_countOneMore ∈ gm_tbl := gm_in_tbl 694 (by decide +kernel) (by decide +kernel)
theorem wl_698 : Cond.methodLink RX9 76 Lib.Math.min.name ∈ gm_tbl := gm_in_tbl 698 (by decide +kernel) (by decide +kernel)
theorem wl_699 : Cond.methodLink RX9 72 yX9_keepTicket ∈ gm_tbl := gm_in_tbl 699 (by decide +kernel) (by decide +kernel)
theorem wl_711 : Cond.methodLink RX10 209 yX9_giveLucky ∈ gm_tbl := gm_in_tbl 711 (by decide +kernel) (by decide +kernel)
theorem wl_719 : Cond.methodLink RX10 213 yX6_mayBeTold ∈ gm_tbl := gm_in_tbl 719 (by decide +kernel) (by decide +kernel)
theorem wl_720 : Cond.methodLink RX10 217 yX6_code ∈ gm_tbl := gm_in_tbl 720 (by decide +kernel) (by decide +kernel)
theorem wl_729 : Cond.methodLink RX10 221 yX9_putRoll ∈ gm_tbl := gm_in_tbl 729 (by decide +kernel) (by decide +kernel)
theorem wl_734 : Cond.methodLink RX10 225 yX10_liveOneDay ∈ gm_tbl := gm_in_tbl 734 (by decide +kernel) (by decide +kernel)
theorem wl_738 : Cond.methodLink RX10 280 yX10_drawOf ∈ gm_tbl := gm_in_tbl 738 (by decide +kernel) (by decide +kernel)
theorem wl_742 : Cond.constantLong RX10 285 1103515245 ∈ gm_tbl := gm_in_tbl 742 (by decide +kernel) (by decide +kernel)
theorem wl_743 : Cond.constantLong RX10 287 12345 ∈ gm_tbl := gm_in_tbl 743 (by decide +kernel) (by decide +kernel)
theorem wl_744 : Cond.constantLong RX10 289 2147483648 ∈ gm_tbl := gm_in_tbl 744 (by decide +kernel) (by decide +kernel)
theorem wl_745 : Cond.constantLong RX10 291 65536 ∈ gm_tbl := gm_in_tbl 745 (by decide +kernel) (by decide +kernel)
theorem wl_746 : Cond.methodLink RX10 283 yX9_numbers ∈ gm_tbl := gm_in_tbl 746 (by decide +kernel) (by decide +kernel)
theorem wl_751 : Cond.methodLink RX10 228 yX4_takeBack ∈ gm_tbl := gm_in_tbl 751 (by decide +kernel) (by decide +kernel)
theorem wl_759 : Cond.methodLink RX10 231 yX3_nextFrom ∈ gm_tbl := gm_in_tbl 759 (by decide +kernel) (by decide +kernel)
theorem wl_763 : Cond.methodLink RX3 93 yX3_isLucky ∈ gm_tbl := gm_in_tbl 763 (by decide +kernel) (by decide +kernel)
theorem wl_768 : Cond.methodLink RX10 234 yX3_countBetween ∈ gm_tbl := gm_in_tbl 768 (by decide +kernel) (by decide +kernel)
theorem wl_776 : Cond.methodLink RX10 237 yX3_numberAfter ∈ gm_tbl := gm_in_tbl 776 (by decide +kernel) (by decide +kernel)
theorem wl_784 : Cond.methodLink RX10 240 yX3_lowerOfLongestWait ∈ gm_tbl := gm_in_tbl 784 (by decide +kernel) (by decide +kernel)
theorem wl_792 : Cond.constantLong RX10 243 1000000000 ∈ gm_tbl := gm_in_tbl 792 (by decide +kernel) (by decide +kernel)
theorem wl_793 : Cond.constantLong RX10 245 100 ∈ gm_tbl := gm_in_tbl 793 (by decide +kernel) (by decide +kernel)
theorem wl_798 : Cond.methodLink RX10 247 yX1_takeIn ∈ gm_tbl := gm_in_tbl 798 (by decide +kernel) (by decide +kernel)
theorem wl_810 : Cond.methodLink RX10 254 yX0_add ∈ gm_tbl := gm_in_tbl 810 (by decide +kernel) (by decide +kernel)
theorem wl_840 : Cond.fieldLink RX11 63 RX11 (TX11 0).2.1 (TX11 0).2.2.1 ∈ gm_tbl := gm_in_tbl 840 (by decide +kernel) (by decide +kernel)
theorem wl_841 : Cond.fieldLink RX11 79 RX11 (TX11 1).2.1 (TX11 1).2.2.1 ∈ gm_tbl := gm_in_tbl 841 (by decide +kernel) (by decide +kernel)
theorem wl_842 : Cond.fieldLink RX11 66 RX11 (TX11 2).2.1 (TX11 2).2.2.1 ∈ gm_tbl := gm_in_tbl 842 (by decide +kernel) (by decide +kernel)
theorem wl_843 : Cond.fieldLink RX11 73 RX11 (TX11 3).2.1 (TX11 3).2.2.1 ∈ gm_tbl := gm_in_tbl 843 (by decide +kernel) (by decide +kernel)
theorem wl_844 : Cond.fieldLink RX11 76 RX11 (TX11 4).2.1 (TX11 4).2.2.1 ∈ gm_tbl := gm_in_tbl 844 (by decide +kernel) (by decide +kernel)
theorem wl_845 : Cond.fieldLink RX11 7 RX11 (TX11 5).2.1 (TX11 5).2.2.1 ∈ gm_tbl := gm_in_tbl 845 (by decide +kernel) (by decide +kernel)
theorem wl_846 : Cond.fieldLink RX11 13 RX11 (TX11 6).2.1 (TX11 6).2.2.1 ∈ gm_tbl := gm_in_tbl 846 (by decide +kernel) (by decide +kernel)
theorem wl_847 : Cond.fieldLink RX11 283 RX11 (TX11 7).2.1 (TX11 7).2.2.1 ∈ gm_tbl := gm_in_tbl 847 (by decide +kernel) (by decide +kernel)
theorem wl_848 : Cond.fieldLink RX11 16 RX11 (TX11 8).2.1 (TX11 8).2.2.1 ∈ gm_tbl := gm_in_tbl 848 (by decide +kernel) (by decide +kernel)
theorem wl_849 : Cond.fieldLink RX11 97 RX11 (TX11 9).2.1 (TX11 9).2.2.1 ∈ gm_tbl := gm_in_tbl 849 (by decide +kernel) (by decide +kernel)
theorem wl_850 : Cond.fieldLink RX11 19 RX11 (TX11 10).2.1 (TX11 10).2.2.1 ∈ gm_tbl := gm_in_tbl 850 (by decide +kernel) (by decide +kernel)
theorem wl_851 : Cond.fieldLink RX11 101 RX11 (TX11 11).2.1 (TX11 11).2.2.1 ∈ gm_tbl := gm_in_tbl 851 (by decide +kernel) (by decide +kernel)
theorem wl_852 : Cond.fieldLink RX11 119 RX11 (TX11 12).2.1 (TX11 12).2.2.1 ∈ gm_tbl := gm_in_tbl 852 (by decide +kernel) (by decide +kernel)
theorem wl_853 : Cond.fieldLink RX11 116 RX11 (TX11 13).2.1 (TX11 13).2.2.1 ∈ gm_tbl := gm_in_tbl 853 (by decide +kernel) (by decide +kernel)
theorem wl_854 : Cond.fieldLink RX11 126 RX11 (TX11 14).2.1 (TX11 14).2.2.1 ∈ gm_tbl := gm_in_tbl 854 (by decide +kernel) (by decide +kernel)
theorem wl_855 : Cond.fieldLink RX11 129 RX11 (TX11 15).2.1 (TX11 15).2.2.1 ∈ gm_tbl := gm_in_tbl 855 (by decide +kernel) (by decide +kernel)
theorem wl_856 : Cond.fieldLink RX11 132 RX11 (TX11 16).2.1 (TX11 16).2.2.1 ∈ gm_tbl := gm_in_tbl 856 (by decide +kernel) (by decide +kernel)
theorem wl_857 : Cond.fieldLink RX11 136 RX11 (TX11 17).2.1 (TX11 17).2.2.1 ∈ gm_tbl := gm_in_tbl 857 (by decide +kernel) (by decide +kernel)
theorem wl_858 : Cond.fieldLink RX11 139 RX11 (TX11 18).2.1 (TX11 18).2.2.1 ∈ gm_tbl := gm_in_tbl 858 (by decide +kernel) (by decide +kernel)
theorem wl_859 : Cond.fieldLink RX11 23 RX11 (TX11 19).2.1 (TX11 19).2.2.1 ∈ gm_tbl := gm_in_tbl 859 (by decide +kernel) (by decide +kernel)
theorem wl_860 : Cond.fieldLink RX11 26 RX11 (TX11 20).2.1 (TX11 20).2.2.1 ∈ gm_tbl := gm_in_tbl 860 (by decide +kernel) (by decide +kernel)
theorem wl_861 : Cond.fieldLink RX11 29 RX11 (TX11 21).2.1 (TX11 21).2.2.1 ∈ gm_tbl := gm_in_tbl 861 (by decide +kernel) (by decide +kernel)
theorem wl_862 : Cond.fieldLink RX11 150 RX11 (TX11 22).2.1 (TX11 22).2.2.1 ∈ gm_tbl := gm_in_tbl 862 (by decide +kernel) (by decide +kernel)
theorem wl_863 : Cond.fieldLink RX11 32 RX11 (TX11 23).2.1 (TX11 23).2.2.1 ∈ gm_tbl := gm_in_tbl 863 (by decide +kernel) (by decide +kernel)
theorem wl_864 : Cond.fieldLink RX11 35 RX11 (TX11 24).2.1 (TX11 24).2.2.1 ∈ gm_tbl := gm_in_tbl 864 (by decide +kernel) (by decide +kernel)
theorem wl_865 : Cond.fieldLink RX11 153 RX11 (TX11 25).2.1 (TX11 25).2.2.1 ∈ gm_tbl := gm_in_tbl 865 (by decide +kernel) (by decide +kernel)
theorem wl_866 : Cond.fieldLink RX11 38 RX11 (TX11 26).2.1 (TX11 26).2.2.1 ∈ gm_tbl := gm_in_tbl 866 (by decide +kernel) (by decide +kernel)
theorem wl_867 : Cond.fieldLink RX11 191 RX11 (TX11 27).2.1 (TX11 27).2.2.1 ∈ gm_tbl := gm_in_tbl 867 (by decide +kernel) (by decide +kernel)
theorem wl_868 : Cond.fieldLink RX11 41 RX11 (TX11 28).2.1 (TX11 28).2.2.1 ∈ gm_tbl := gm_in_tbl 868 (by decide +kernel) (by decide +kernel)
theorem wl_869 : Cond.fieldLink RX11 185 RX11 (TX11 29).2.1 (TX11 29).2.2.1 ∈ gm_tbl := gm_in_tbl 869 (by decide +kernel) (by decide +kernel)
theorem wl_870 : Cond.fieldLink RX11 44 RX11 (TX11 30).2.1 (TX11 30).2.2.1 ∈ gm_tbl := gm_in_tbl 870 (by decide +kernel) (by decide +kernel)
theorem wl_871 : Cond.fieldLink RX11 47 RX11 (TX11 31).2.1 (TX11 31).2.2.1 ∈ gm_tbl := gm_in_tbl 871 (by decide +kernel) (by decide +kernel)
theorem wl_872 : Cond.fieldLink RX11 188 RX11 (TX11 32).2.1 (TX11 32).2.2.1 ∈ gm_tbl := gm_in_tbl 872 (by decide +kernel) (by decide +kernel)
theorem wl_873 : Cond.fieldLink RX11 51 RX11 (TX11 33).2.1 (TX11 33).2.2.1 ∈ gm_tbl := gm_in_tbl 873 (by decide +kernel) (by decide +kernel)
theorem wl_874 : Cond.fieldLink RX11 54 RX11 (TX11 34).2.1 (TX11 34).2.2.1 ∈ gm_tbl := gm_in_tbl 874 (by decide +kernel) (by decide +kernel)
theorem wl_875 : Cond.fieldLink RX11 57 RX11 (TX11 35).2.1 (TX11 35).2.2.1 ∈ gm_tbl := gm_in_tbl 875 (by decide +kernel) (by decide +kernel)
theorem wl_876 : Cond.fieldLink RX11 60 RX11 (TX11 36).2.1 (TX11 36).2.2.1 ∈ gm_tbl := gm_in_tbl 876 (by decide +kernel) (by decide +kernel)
theorem wl_956 : Cond.constantLong RX11 94 255 ∈ gm_tbl := gm_in_tbl 956 (by decide +kernel) (by decide +kernel)
theorem wl_957 : Cond.methodLink RX11 69 yX11_in ∈ gm_tbl := gm_in_tbl 957 (by decide +kernel) (by decide +kernel)
theorem wl_960 : Cond.constant RX11 96 (-1000000002) ∈ gm_tbl := gm_in_tbl 960 (by decide +kernel) (by decide +kernel)
theorem wl_961 : Cond.constant RX11 100 (-1000000004) ∈ gm_tbl := gm_in_tbl 961 (by decide +kernel) (by decide +kernel)
theorem wl_966 : Cond.methodLink RX11 104 yX11_here ∈ gm_tbl := gm_in_tbl 966 (by decide +kernel) (by decide +kernel)
theorem wl_970 : Cond.methodLink RX11 179 yX11_takeClause ∈ gm_tbl := gm_in_tbl 970 (by decide +kernel) (by decide +kernel)
theorem wl_974 : Cond.methodLink RX11 112 yX11_fails ∈ gm_tbl := gm_in_tbl 974 (by decide +kernel) (by decide +kernel)
theorem wl_978 : Cond.methodLink RX11 171 yX11_isFull ∈ gm_tbl := gm_in_tbl 978 (by decide +kernel) (by decide +kernel)
theorem wl_982 : Cond.methodLink RX11 175 yX11_takeBody ∈ gm_tbl := gm_in_tbl 982 (by decide +kernel) (by decide +kernel)
theorem wl_986 : Cond.methodLink RX11 156 yX11_takeFigures ∈ gm_tbl := gm_in_tbl 986 (by decide +kernel) (by decide +kernel)
theorem wl_990 : Cond.methodLink RX11 123 yX11_takeNumber ∈ gm_tbl := gm_in_tbl 990 (by decide +kernel) (by decide +kernel)
theorem wl_994 : Cond.constantLong RX11 108 48 ∈ gm_tbl := gm_in_tbl 994 (by decide +kernel) (by decide +kernel)
theorem wl_995 : Cond.constantLong RX11 110 57 ∈ gm_tbl := gm_in_tbl 995 (by decide +kernel) (by decide +kernel)
theorem wl_996 : Cond.constant RX11 122 100000 ∈ gm_tbl := gm_in_tbl 996 (by decide +kernel) (by decide +kernel)
theorem wl_997 : Cond.methodLink RX11 159 yX11_takeMode ∈ gm_tbl := gm_in_tbl 997 (by decide +kernel) (by decide +kernel)
theorem wl_1001 : Cond.methodLink RX11 162 yX11_takeRule ∈ gm_tbl := gm_in_tbl 1001 (by decide +kernel) (by decide +kernel)
theorem wl_1005 : Cond.methodLink RX11 142 yX11_into ∈ gm_tbl := gm_in_tbl 1005 (by decide +kernel) (by decide +kernel)
theorem wl_1009 : Cond.methodLink RX11 146 yX11_areOf ∈ gm_tbl := gm_in_tbl 1009 (by decide +kernel) (by decide +kernel)
theorem wl_1012 : Cond.constantLong RX11 82 36 ∈ gm_tbl := gm_in_tbl 1012 (by decide +kernel) (by decide +kernel)
theorem wl_1013 : Cond.constantLong RX11 84 2 ∈ gm_tbl := gm_in_tbl 1013 (by decide +kernel) (by decide +kernel)
theorem wl_1014 : Cond.constantLong RX11 86 9 ∈ gm_tbl := gm_in_tbl 1014 (by decide +kernel) (by decide +kernel)
theorem wl_1015 : Cond.constantLong RX11 88 4 ∈ gm_tbl := gm_in_tbl 1015 (by decide +kernel) (by decide +kernel)
theorem wl_1016 : Cond.constantLong RX11 90 12 ∈ gm_tbl := gm_in_tbl 1016 (by decide +kernel) (by decide +kernel)
theorem wl_1017 : Cond.constantLong RX11 92 3 ∈ gm_tbl := gm_in_tbl 1017 (by decide +kernel) (by decide +kernel)
theorem wl_1018 : Cond.methodLink RX11 165 yX11_takeRoll ∈ gm_tbl := gm_in_tbl 1018 (by decide +kernel) (by decide +kernel)
theorem wl_1022 : Cond.methodLink RX11 168 yX11_takeRider ∈ gm_tbl := gm_in_tbl 1022 (by decide +kernel) (by decide +kernel)
theorem wl_1026 : Cond.methodLink RX11 182 yX11_takeRead ∈ gm_tbl := gm_in_tbl 1026 (by decide +kernel) (by decide +kernel)
theorem wl_1038 : Cond.methodLink RX11 233 yX11_allLucky ∈ gm_tbl := gm_in_tbl 1038 (by decide +kernel) (by decide +kernel)
theorem wl_1042 : Cond.methodLink RX11 220 yX11_manyBut ∈ gm_tbl := gm_in_tbl 1042 (by decide +kernel) (by decide +kernel)
theorem wl_1046 : Cond.methodLink RX11 217 yX11_isLuckyBut ∈ gm_tbl := gm_in_tbl 1046 (by decide +kernel) (by decide +kernel)
theorem wl_1050 : Cond.methodLink RX11 214 yX11_isYes ∈ gm_tbl := gm_in_tbl 1050 (by decide +kernel) (by decide +kernel)
theorem wl_1054 : Cond.methodLink RX11 210 yX11_saysYes ∈ gm_tbl := gm_in_tbl 1054 (by decide +kernel) (by decide +kernel)
theorem wl_1058 : Cond.methodLink RX11 197 yX11_halves ∈ gm_tbl := gm_in_tbl 1058 (by decide +kernel) (by decide +kernel)
theorem wl_1062 : Cond.methodLink RX11 194 yX11_figureOf ∈ gm_tbl := gm_in_tbl 1062 (by decide +kernel) (by decide +kernel)
theorem wl_1066 : Cond.methodLink RX11 201 yX11_mirror ∈ gm_tbl := gm_in_tbl 1066 (by decide +kernel) (by decide +kernel)
theorem wl_1070 : Cond.methodLink RX11 204 yX11_counts ∈ gm_tbl := gm_in_tbl 1070 (by decide +kernel) (by decide +kernel)
theorem wl_1074 : Cond.methodLink RX11 207 yX11_rises ∈ gm_tbl := gm_in_tbl 1074 (by decide +kernel) (by decide +kernel)
theorem wl_1078 : Cond.methodLink RX11 236 yX11_bestRoll ∈ gm_tbl := gm_in_tbl 1078 (by decide +kernel) (by decide +kernel)
theorem wl_1082 : Cond.methodLink RX11 227 yX11_soon ∈ gm_tbl := gm_in_tbl 1082 (by decide +kernel) (by decide +kernel)
theorem wl_1086 : Cond.methodLink RX11 224 yX11_isLucky ∈ gm_tbl := gm_in_tbl 1086 (by decide +kernel) (by decide +kernel)
theorem wl_1090 : Cond.methodLink RX11 239 yX11_luckiest ∈ gm_tbl := gm_in_tbl 1090 (by decide +kernel) (by decide +kernel)
theorem wl_1094 : Cond.methodLink RX11 242 yX11_manyCould ∈ gm_tbl := gm_in_tbl 1094 (by decide +kernel) (by decide +kernel)
theorem wl_1098 : Cond.methodLink RX11 318 yX11_couldBe ∈ gm_tbl := gm_in_tbl 1098 (by decide +kernel) (by decide +kernel)
theorem wl_1102 : Cond.methodLink RX11 315 yX11_saysOf ∈ gm_tbl := gm_in_tbl 1102 (by decide +kernel) (by decide +kernel)
theorem wl_1106 : Cond.methodLink RX11 303 yX11_kindOf ∈ gm_tbl := gm_in_tbl 1106 (by decide +kernel) (by decide +kernel)
theorem wl_1109 : Cond.methodLink RX11 309 yX11_aOf ∈ gm_tbl := gm_in_tbl 1109 (by decide +kernel) (by decide +kernel)
theorem wl_1112 : Cond.methodLink RX11 306 yX11_restOf ∈ gm_tbl := gm_in_tbl 1112 (by decide +kernel) (by decide +kernel)
theorem wl_1115 : Cond.methodLink RX11 312 yX11_bOf ∈ gm_tbl := gm_in_tbl 1115 (by decide +kernel) (by decide +kernel)
theorem wl_1118 : Cond.methodLink RX11 245 yX11_askNext ∈ gm_tbl := gm_in_tbl 1118 (by decide +kernel) (by decide +kernel)
theorem wl_1122 : Cond.methodLink RX11 321 yX11_manyYes ∈ gm_tbl := gm_in_tbl 1122 (by decide +kernel) (by decide +kernel)
theorem wl_1130 : Cond.methodLink RX11 248 yX11_isRule ∈ gm_tbl := gm_in_tbl 1130 (by decide +kernel) (by decide +kernel)
theorem wl_1134 : Cond.constant RX11 251 (-1000000001) ∈ gm_tbl := gm_in_tbl 1134 (by decide +kernel) (by decide +kernel)
theorem wl_1139 : Cond.methodLink RX11 252 yX11_isRoll ∈ gm_tbl := gm_in_tbl 1139 (by decide +kernel) (by decide +kernel)
theorem wl_1143 : Cond.methodLink RX11 255 yX11_who ∈ gm_tbl := gm_in_tbl 1143 (by decide +kernel) (by decide +kernel)
theorem wl_1147 : Cond.methodLink RX11 258 yX11_part ∈ gm_tbl := gm_in_tbl 1147 (by decide +kernel) (by decide +kernel)
theorem wl_1151 : Cond.methodLink RX11 230 yX11_luckyLeft ∈ gm_tbl := gm_in_tbl 1151 (by decide +kernel) (by decide +kernel)
theorem wl_1159 : Cond.methodLink RX11 262 yX11_isRider ∈ gm_tbl := gm_in_tbl 1159 (by decide +kernel) (by decide +kernel)
theorem wl_1167 : Cond.methodLink RX11 265 yX11_isNumber ∈ gm_tbl := gm_in_tbl 1167 (by decide +kernel) (by decide +kernel)
theorem wl_1175 : Cond.constant RX11 272 (-1000000003) ∈ gm_tbl := gm_in_tbl 1175 (by decide +kernel) (by decide +kernel)
theorem wl_1176 : Cond.methodLink RX11 273 yX11_remember ∈ gm_tbl := gm_in_tbl 1176 (by decide +kernel) (by decide +kernel)
theorem wl_1180 : Cond.methodLink RX11 276 yX11_sellNow ∈ gm_tbl := gm_in_tbl 1180 (by decide +kernel) (by decide +kernel)
theorem wl_1184 : Cond.methodLink RX11 268 yX11_more ∈ gm_tbl := gm_in_tbl 1184 (by decide +kernel) (by decide +kernel)
theorem wl_1192 : Cond.constantLong RX11 279 60 ∈ gm_tbl := gm_in_tbl 1192 (by decide +kernel) (by decide +kernel)
theorem wl_1209 : Cond.constantLong RX11 281 200 ∈ gm_tbl := gm_in_tbl 1209 (by decide +kernel) (by decide +kernel)
theorem wl_1214 : Cond.methodLink RX11 296 yX11_chance ∈ gm_tbl := gm_in_tbl 1214 (by decide +kernel) (by decide +kernel)
theorem wl_1218 : Cond.methodLink RX11 293 yX11_draw ∈ gm_tbl := gm_in_tbl 1218 (by decide +kernel) (by decide +kernel)
theorem wl_1222 : Cond.constantLong RX11 286 1103515245 ∈ gm_tbl := gm_in_tbl 1222 (by decide +kernel) (by decide +kernel)
theorem wl_1223 : Cond.constantLong RX11 288 12345 ∈ gm_tbl := gm_in_tbl 1223 (by decide +kernel) (by decide +kernel)
theorem wl_1224 : Cond.constantLong RX11 290 2147483648 ∈ gm_tbl := gm_in_tbl 1224 (by decide +kernel) (by decide +kernel)
theorem wl_1225 : Cond.constant RX11 292 65536 ∈ gm_tbl := gm_in_tbl 1225 (by decide +kernel) (by decide +kernel)
theorem wl_1250 : Cond.constantLong RX11 299 100 ∈ gm_tbl := gm_in_tbl 1250 (by decide +kernel) (by decide +kernel)
theorem wl_1251 : Cond.constantLong RX11 301 1000000000 ∈ gm_tbl := gm_in_tbl 1251 (by decide +kernel) (by decide +kernel)
theorem wm_max : Cond.static Lib.Math.max.name ∈ gm_tbl ∧ Cond.initialized "java/lang/Math" ∈ gm_tbl ∧ Cond.code Lib.Math.max.name Lib.Math.max.code 2 (some .int) ∈ gm_tbl := ⟨gm_in_tbl 607 (by decide +kernel) (by decide +kernel), gm_in_tbl 66 (by decide +kernel) (by decide +kernel), gm_in_tbl 608 (by decide +kernel) (by decide +kernel)⟩
theorem wm_min : Cond.static Lib.Math.min.name ∈ gm_tbl ∧ Cond.initialized "java/lang/Math" ∈ gm_tbl ∧ Cond.code Lib.Math.min.name Lib.Math.min.code 2 (some .int) ∈ gm_tbl := ⟨gm_in_tbl 486 (by decide +kernel) (by decide +kernel), gm_in_tbl 66 (by decide +kernel) (by decide +kernel), gm_in_tbl 487 (by decide +kernel) (by decide +kernel)⟩
theorem wm_abs : Cond.static Lib.Math.abs.name ∈ gm_tbl ∧ Cond.initialized "java/lang/Math" ∈ gm_tbl ∧ Cond.code Lib.Math.abs.name Lib.Math.abs.code 1 (some .int) ∈ gm_tbl := ⟨gm_in_tbl 514 (by decide +kernel) (by decide +kernel), gm_in_tbl 66 (by decide +kernel) (by decide +kernel), gm_in_tbl 515 (by decide +kernel) (by decide +kernel)⟩
theorem wm_copy : Cond.native arraycopyName ∈ gm_tbl ∧ Cond.static arraycopyName ∈ gm_tbl ∧ Cond.initialized "java/lang/System" ∈ gm_tbl := ⟨gm_in_tbl 479 (by decide +kernel) (by decide +kernel), gm_in_tbl 478 (by decide +kernel) (by decide +kernel), gm_in_tbl 65 (by decide +kernel) (by decide +kernel)⟩
theorem kc_0 : gm_kc 0 RX0 TX0 3 tyX0 := ⟨by decide, rfl, fun w h => (by decide +kernel : ∀ w ∈ u_ws RX0 TX0 3, w ∈ gm_tbl) w h, tyX0_ok, nmX0⟩
theorem kc_1 : gm_kc 1 RX1 TX1 7 tyX1 := ⟨by decide, rfl, fun w h => (by decide +kernel : ∀ w ∈ u_ws RX1 TX1 7, w ∈ gm_tbl) w h, tyX1_ok, nmX1⟩
theorem kc_2 : gm_kc 2 RX2 TX2 3 tyX2 := ⟨by decide, rfl, fun w h => (by decide +kernel : ∀ w ∈ u_ws RX2 TX2 3, w ∈ gm_tbl) w h, tyX2_ok, nmX2⟩
theorem kc_3 : gm_kc 3 RX3 TX3 10 tyX3 := ⟨by decide, rfl, fun w h => (by decide +kernel : ∀ w ∈ u_ws RX3 TX3 10, w ∈ gm_tbl) w h, tyX3_ok, nmX3⟩
theorem kc_4 : gm_kc 4 RX4 TX4 3 tyX4 := ⟨by decide, rfl, fun w h => (by decide +kernel : ∀ w ∈ u_ws RX4 TX4 3, w ∈ gm_tbl) w h, tyX4_ok, nmX4⟩
theorem kc_5 : gm_kc 5 RX5 TX5 7 tyX5 := ⟨by decide, rfl, fun w h => (by decide +kernel : ∀ w ∈ u_ws RX5 TX5 7, w ∈ gm_tbl) w h, tyX5_ok, nmX5⟩
theorem kc_7 : gm_kc 7 RX7 TX7 2 tyX7 := ⟨by decide, rfl, fun w h => (by decide +kernel : ∀ w ∈ u_ws RX7 TX7 2, w ∈ gm_tbl) w h, tyX7_ok, nmX7⟩
theorem kc_8 : gm_kc 8 RX8 TX8 3 tyX8 := ⟨by decide, rfl, fun w h => (by decide +kernel : ∀ w ∈ u_ws RX8 TX8 3, w ∈ gm_tbl) w h, tyX8_ok, nmX8⟩
theorem kc_9 : gm_kc 9 RX9 TX9 9 tyX9 := ⟨by decide, rfl, fun w h => (by decide +kernel : ∀ w ∈ u_ws RX9 TX9 9, w ∈ gm_tbl) w h, tyX9_ok, nmX9⟩
theorem kc_10 : gm_kc 10 RX10 TX10 9 tyX10 := ⟨by decide, rfl, fun w h => (by decide +kernel : ∀ w ∈ u_ws RX10 TX10 9, w ∈ gm_tbl) w h, tyX10_ok, nmX10⟩
theorem kc_11 : gm_kc 11 RX11 TX11 37 tyX11 := ⟨by decide, rfl, fun w h => (by decide +kernel : ∀ w ∈ u_ws RX11 TX11 37, w ∈ gm_tbl) w h, tyX11_ok, nmX11⟩
theorem wy_Tx_add : gm_yv yX7_add cX7_add 2 (some .boolean) 1 := ⟨⟨gm_in_tbl (w := Cond.code yX7_add cX7_add 2 (some .boolean)) 364 (by decide +kernel) (by decide +kernel), gm_in_tbl (w := Cond.initialized RX7) 55 (by decide +kernel) (by decide +kernel), by decide +kernel, by decide +kernel, by decide +kernel⟩, gm_in_tbl (w := Cond.instanceMethod yX7_add) 362 (by decide +kernel) (by decide +kernel), gm_in_tbl (w := Cond.selects RX7 yX7_add yX7_add) 363 (by decide +kernel) (by decide +kernel)⟩
theorem wy_Lt_feed : gm_yv yX10_feed cX10_feed 2 (some .int) 1 := ⟨⟨gm_in_tbl (w := Cond.code yX10_feed cX10_feed 2 (some .int)) 359 (by decide +kernel) (by decide +kernel), gm_in_tbl (w := Cond.initialized RX10) 53 (by decide +kernel) (by decide +kernel), by decide +kernel, by decide +kernel, by decide +kernel⟩, gm_in_tbl (w := Cond.instanceMethod yX10_feed) 357 (by decide +kernel) (by decide +kernel), gm_in_tbl (w := Cond.selects RX10 yX10_feed yX10_feed) 358 (by decide +kernel) (by decide +kernel)⟩
theorem wy_Tr_clear : gm_yv yX9_clear cX9_clear 1 none 0 := ⟨⟨gm_in_tbl (w := Cond.code yX9_clear cX9_clear 1 none) 377 (by decide +kernel) (by decide +kernel), gm_in_tbl (w := Cond.initialized RX9) 56 (by decide +kernel) (by decide +kernel), by decide +kernel, by decide +kernel, by decide +kernel⟩, gm_in_tbl (w := Cond.instanceMethod yX9_clear) 375 (by decide +kernel) (by decide +kernel), gm_in_tbl (w := Cond.selects RX9 yX9_clear yX9_clear) 376 (by decide +kernel) (by decide +kernel)⟩
theorem wy_Tx_letterAt : gm_yv yX7_letterAt cX7_letterAt 2 (some .char) 1 := ⟨⟨gm_in_tbl (w := Cond.code yX7_letterAt cX7_letterAt 2 (some .char)) 385 (by decide +kernel) (by decide +kernel), gm_in_tbl (w := Cond.initialized RX7) 55 (by decide +kernel) (by decide +kernel), by decide +kernel, by decide +kernel, by decide +kernel⟩, gm_in_tbl (w := Cond.instanceMethod yX7_letterAt) 383 (by decide +kernel) (by decide +kernel), gm_in_tbl (w := Cond.selects RX7 yX7_letterAt yX7_letterAt) 384 (by decide +kernel) (by decide +kernel)⟩
theorem wy_Rd_skipBlanks : gm_yv yX5_skipBlanks cX5_skipBlanks 2 none 0 := ⟨⟨gm_in_tbl (w := Cond.code yX5_skipBlanks cX5_skipBlanks 2 none) 381 (by decide +kernel) (by decide +kernel), gm_in_tbl (w := Cond.initialized RX5) 54 (by decide +kernel) (by decide +kernel), by decide +kernel, by decide +kernel, by decide +kernel⟩, gm_in_tbl (w := Cond.instanceMethod yX5_skipBlanks) 379 (by decide +kernel) (by decide +kernel), gm_in_tbl (w := Cond.selects RX5 yX5_skipBlanks yX5_skipBlanks) 380 (by decide +kernel) (by decide +kernel)⟩
theorem wy_Rd_mayStand : gm_yv yX5_mayStand cX5_mayStand 2 (some .boolean) 1 := ⟨⟨gm_in_tbl (w := Cond.code yX5_mayStand cX5_mayStand 2 (some .boolean)) 393 (by decide +kernel) (by decide +kernel), gm_in_tbl (w := Cond.initialized RX5) 54 (by decide +kernel) (by decide +kernel), by decide +kernel, by decide +kernel, by decide +kernel⟩, gm_in_tbl (w := Cond.instanceMethod yX5_mayStand) 391 (by decide +kernel) (by decide +kernel), gm_in_tbl (w := Cond.selects RX5 yX5_mayStand yX5_mayStand) 392 (by decide +kernel) (by decide +kernel)⟩
theorem wy_Rd_setFault : gm_yv yX5_setFault cX5_setFault 3 none 2 := ⟨⟨gm_in_tbl (w := Cond.code yX5_setFault cX5_setFault 3 none) 397 (by decide +kernel) (by decide +kernel), gm_in_tbl (w := Cond.initialized RX5) 54 (by decide +kernel) (by decide +kernel), by decide +kernel, by decide +kernel, by decide +kernel⟩, gm_in_tbl (w := Cond.instanceMethod yX5_setFault) 395 (by decide +kernel) (by decide +kernel), gm_in_tbl (w := Cond.selects RX5 yX5_setFault yX5_setFault) 396 (by decide +kernel) (by decide +kernel)⟩
theorem wy_Rd_isOneTooMany : gm_yv yX5_isOneTooMany cX5_isOneTooMany 2 (some .boolean) 1 := ⟨⟨gm_in_tbl (w := Cond.code yX5_isOneTooMany cX5_isOneTooMany 2 (some .boolean)) 401 (by decide +kernel) (by decide +kernel), gm_in_tbl (w := Cond.initialized RX5) 54 (by decide +kernel) (by decide +kernel), by decide +kernel, by decide +kernel, by decide +kernel⟩, gm_in_tbl (w := Cond.instanceMethod yX5_isOneTooMany) 399 (by decide +kernel) (by decide +kernel), gm_in_tbl (w := Cond.selects RX5 yX5_isOneTooMany yX5_isOneTooMany) 400 (by decide +kernel) (by decide +kernel)⟩
theorem wy_Rd_isFigure : gm_yv yX5_isFigure cX5_isFigure 2 (some .boolean) 1 := ⟨⟨gm_in_tbl (w := Cond.code yX5_isFigure cX5_isFigure 2 (some .boolean)) 413 (by decide +kernel) (by decide +kernel), gm_in_tbl (w := Cond.initialized RX5) 54 (by decide +kernel) (by decide +kernel), by decide +kernel, by decide +kernel, by decide +kernel⟩, gm_in_tbl (w := Cond.instanceMethod yX5_isFigure) 411 (by decide +kernel) (by decide +kernel), gm_in_tbl (w := Cond.selects RX5 yX5_isFigure yX5_isFigure) 412 (by decide +kernel) (by decide +kernel)⟩
theorem wy_Rd_readNumber : gm_yv yX5_readNumber cX5_readNumber 5 (some .int) 2 := ⟨⟨gm_in_tbl (w := Cond.code yX5_readNumber cX5_readNumber 5 (some .int)) 409 (by decide +kernel) (by decide +kernel), gm_in_tbl (w := Cond.initialized RX5) 54 (by decide +kernel) (by decide +kernel), by decide +kernel, by decide +kernel, by decide +kernel⟩, gm_in_tbl (w := Cond.instanceMethod yX5_readNumber) 407 (by decide +kernel) (by decide +kernel), gm_in_tbl (w := Cond.selects RX5 yX5_readNumber yX5_readNumber) 408 (by decide +kernel) (by decide +kernel)⟩
theorem wy_Rd_readFigures : gm_yv yX5_readFigures cX5_readFigures 2 none 0 := ⟨⟨gm_in_tbl (w := Cond.code yX5_readFigures cX5_readFigures 2 none) 405 (by decide +kernel) (by decide +kernel), gm_in_tbl (w := Cond.initialized RX5) 54 (by decide +kernel) (by decide +kernel), by decide +kernel, by decide +kernel, by decide +kernel⟩, gm_in_tbl (w := Cond.instanceMethod yX5_readFigures) 403 (by decide +kernel) (by decide +kernel), gm_in_tbl (w := Cond.selects RX5 yX5_readFigures yX5_readFigures) 404 (by decide +kernel) (by decide +kernel)⟩
theorem wy_Rd_readMode : gm_yv yX5_readMode cX5_readMode 1 none 0 := ⟨⟨gm_in_tbl (w := Cond.code yX5_readMode cX5_readMode 1 none) 417 (by decide +kernel) (by decide +kernel), gm_in_tbl (w := Cond.initialized RX5) 54 (by decide +kernel) (by decide +kernel), by decide +kernel, by decide +kernel, by decide +kernel⟩, gm_in_tbl (w := Cond.instanceMethod yX5_readMode) 415 (by decide +kernel) (by decide +kernel), gm_in_tbl (w := Cond.selects RX5 yX5_readMode yX5_readMode) 416 (by decide +kernel) (by decide +kernel)⟩
theorem wy_Ru_leastA : gm_ys yX6_leastA cX6_leastA 1 (some .int) 1 := ⟨⟨gm_in_tbl (w := Cond.code yX6_leastA cX6_leastA 1 (some .int)) 427 (by decide +kernel) (by decide +kernel), gm_in_tbl (w := Cond.initialized RX6) 64 (by decide +kernel) (by decide +kernel), by decide +kernel, by decide +kernel, by decide +kernel⟩, gm_in_tbl (w := Cond.static yX6_leastA) 426 (by decide +kernel) (by decide +kernel)⟩
theorem wy_Ru_greatestA : gm_ys yX6_greatestA cX6_greatestA 1 (some .int) 1 := ⟨⟨gm_in_tbl (w := Cond.code yX6_greatestA cX6_greatestA 1 (some .int)) 432 (by decide +kernel) (by decide +kernel), gm_in_tbl (w := Cond.initialized RX6) 64 (by decide +kernel) (by decide +kernel), by decide +kernel, by decide +kernel, by decide +kernel⟩, gm_in_tbl (w := Cond.static yX6_greatestA) 431 (by decide +kernel) (by decide +kernel)⟩
theorem wy_Ru_greatestB : gm_ys yX6_greatestB cX6_greatestB 2 (some .int) 2 := ⟨⟨gm_in_tbl (w := Cond.code yX6_greatestB cX6_greatestB 2 (some .int)) 437 (by decide +kernel) (by decide +kernel), gm_in_tbl (w := Cond.initialized RX6) 64 (by decide +kernel) (by decide +kernel), by decide +kernel, by decide +kernel, by decide +kernel⟩, gm_in_tbl (w := Cond.static yX6_greatestB) 436 (by decide +kernel) (by decide +kernel)⟩
theorem wy_Ru_mayBeTold : gm_ys yX6_mayBeTold cX6_mayBeTold 3 (some .boolean) 3 := ⟨⟨gm_in_tbl (w := Cond.code yX6_mayBeTold cX6_mayBeTold 3 (some .boolean)) 424 (by decide +kernel) (by decide +kernel), gm_in_tbl (w := Cond.initialized RX6) 64 (by decide +kernel) (by decide +kernel), by decide +kernel, by decide +kernel, by decide +kernel⟩, gm_in_tbl (w := Cond.static yX6_mayBeTold) 423 (by decide +kernel) (by decide +kernel)⟩
theorem wy_Ru_code : gm_ys yX6_code cX6_code 3 (some .int) 3 := ⟨⟨gm_in_tbl (w := Cond.code yX6_code cX6_code 3 (some .int)) 440 (by decide +kernel) (by decide +kernel), gm_in_tbl (w := Cond.initialized RX6) 64 (by decide +kernel) (by decide +kernel), by decide +kernel, by decide +kernel, by decide +kernel⟩, gm_in_tbl (w := Cond.static yX6_code) 439 (by decide +kernel) (by decide +kernel)⟩
theorem wy_Tr_addRule : gm_yv yX9_addRule cX9_addRule 2 none 1 := ⟨⟨gm_in_tbl (w := Cond.code yX9_addRule cX9_addRule 2 none) 444 (by decide +kernel) (by decide +kernel), gm_in_tbl (w := Cond.initialized RX9) 56 (by decide +kernel) (by decide +kernel), by decide +kernel, by decide +kernel, by decide +kernel⟩, gm_in_tbl (w := Cond.instanceMethod yX9_addRule) 442 (by decide +kernel) (by decide +kernel), gm_in_tbl (w := Cond.selects RX9 yX9_addRule yX9_addRule) 443 (by decide +kernel) (by decide +kernel)⟩
theorem wy_Rd_readRule : gm_yv yX5_readRule cX5_readRule 5 none 0 := ⟨⟨gm_in_tbl (w := Cond.code yX5_readRule cX5_readRule 5 none) 421 (by decide +kernel) (by decide +kernel), gm_in_tbl (w := Cond.initialized RX5) 54 (by decide +kernel) (by decide +kernel), by decide +kernel, by decide +kernel, by decide +kernel⟩, gm_in_tbl (w := Cond.instanceMethod yX5_readRule) 419 (by decide +kernel) (by decide +kernel), gm_in_tbl (w := Cond.selects RX5 yX5_readRule yX5_readRule) 420 (by decide +kernel) (by decide +kernel)⟩
theorem wy_Tr_numbers : gm_yv yX9_numbers cX9_numbers 3 (some .int) 0 := ⟨⟨gm_in_tbl (w := Cond.code yX9_numbers cX9_numbers 3 (some .int)) 452 (by decide +kernel) (by decide +kernel), gm_in_tbl (w := Cond.initialized RX9) 56 (by decide +kernel) (by decide +kernel), by decide +kernel, by decide +kernel, by decide +kernel⟩, gm_in_tbl (w := Cond.instanceMethod yX9_numbers) 450 (by decide +kernel) (by decide +kernel), gm_in_tbl (w := Cond.selects RX9 yX9_numbers yX9_numbers) 451 (by decide +kernel) (by decide +kernel)⟩
theorem wy_Tr_putRoll : gm_yv yX9_putRoll cX9_putRoll 4 none 3 := ⟨⟨gm_in_tbl (w := Cond.code yX9_putRoll cX9_putRoll 4 none) 460 (by decide +kernel) (by decide +kernel), gm_in_tbl (w := Cond.initialized RX9) 56 (by decide +kernel) (by decide +kernel), by decide +kernel, by decide +kernel, by decide +kernel⟩, gm_in_tbl (w := Cond.instanceMethod yX9_putRoll) 458 (by decide +kernel) (by decide +kernel), gm_in_tbl (w := Cond.selects RX9 yX9_putRoll yX9_putRoll) 459 (by decide +kernel) (by decide +kernel)⟩
theorem wy_Tr_addRoll : gm_yv yX9_addRoll cX9_addRoll 3 none 2 := ⟨⟨gm_in_tbl (w := Cond.code yX9_addRoll cX9_addRoll 3 none) 456 (by decide +kernel) (by decide +kernel), gm_in_tbl (w := Cond.initialized RX9) 56 (by decide +kernel) (by decide +kernel), by decide +kernel, by decide +kernel, by decide +kernel⟩, gm_in_tbl (w := Cond.instanceMethod yX9_addRoll) 454 (by decide +kernel) (by decide +kernel), gm_in_tbl (w := Cond.selects RX9 yX9_addRoll yX9_addRoll) 455 (by decide +kernel) (by decide +kernel)⟩
theorem wy_Rd_readRoll : gm_yv yX5_readRoll cX5_readRoll 3 none 0 := ⟨⟨gm_in_tbl (w := Cond.code yX5_readRoll cX5_readRoll 3 none) 448 (by decide +kernel) (by decide +kernel), gm_in_tbl (w := Cond.initialized RX5) 54 (by decide +kernel) (by decide +kernel), by decide +kernel, by decide +kernel, by decide +kernel⟩, gm_in_tbl (w := Cond.instanceMethod yX5_readRoll) 446 (by decide +kernel) (by decide +kernel), gm_in_tbl (w := Cond.selects RX5 yX5_readRoll yX5_readRoll) 447 (by decide +kernel) (by decide +kernel)⟩
theorem wy_Tr_addRider : gm_yv yX9_addRider cX9_addRider 4 none 1 := ⟨⟨gm_in_tbl (w := Cond.code yX9_addRider cX9_addRider 4 none) 468 (by decide +kernel) (by decide +kernel), gm_in_tbl (w := Cond.initialized RX9) 56 (by decide +kernel) (by decide +kernel), by decide +kernel, by decide +kernel, by decide +kernel⟩, gm_in_tbl (w := Cond.instanceMethod yX9_addRider) 466 (by decide +kernel) (by decide +kernel), gm_in_tbl (w := Cond.selects RX9 yX9_addRider yX9_addRider) 467 (by decide +kernel) (by decide +kernel)⟩
theorem wy_Rd_readRider : gm_yv yX5_readRider cX5_readRider 2 none 0 := ⟨⟨gm_in_tbl (w := Cond.code yX5_readRider cX5_readRider 2 none) 464 (by decide +kernel) (by decide +kernel), gm_in_tbl (w := Cond.initialized RX5) 54 (by decide +kernel) (by decide +kernel), by decide +kernel, by decide +kernel, by decide +kernel⟩, gm_in_tbl (w := Cond.instanceMethod yX5_readRider) 462 (by decide +kernel) (by decide +kernel), gm_in_tbl (w := Cond.selects RX5 yX5_readRider yX5_readRider) 463 (by decide +kernel) (by decide +kernel)⟩
theorem wy_Rd_readEnd : gm_yv yX5_readEnd cX5_readEnd 1 none 0 := ⟨⟨gm_in_tbl (w := Cond.code yX5_readEnd cX5_readEnd 1 none) 472 (by decide +kernel) (by decide +kernel), gm_in_tbl (w := Cond.initialized RX5) 54 (by decide +kernel) (by decide +kernel), by decide +kernel, by decide +kernel, by decide +kernel⟩, gm_in_tbl (w := Cond.instanceMethod yX5_readEnd) 470 (by decide +kernel) (by decide +kernel), gm_in_tbl (w := Cond.selects RX5 yX5_readEnd yX5_readEnd) 471 (by decide +kernel) (by decide +kernel)⟩
theorem wy_Rd_readClause : gm_yv yX5_readClause cX5_readClause 2 none 0 := ⟨⟨gm_in_tbl (w := Cond.code yX5_readClause cX5_readClause 2 none) 389 (by decide +kernel) (by decide +kernel), gm_in_tbl (w := Cond.initialized RX5) 54 (by decide +kernel) (by decide +kernel), by decide +kernel, by decide +kernel, by decide +kernel⟩, gm_in_tbl (w := Cond.instanceMethod yX5_readClause) 387 (by decide +kernel) (by decide +kernel), gm_in_tbl (w := Cond.selects RX5 yX5_readClause yX5_readClause) 388 (by decide +kernel) (by decide +kernel)⟩
theorem wy_Rd_readText : gm_yv yX5_readText cX5_readText 2 none 0 := ⟨⟨gm_in_tbl (w := Cond.code yX5_readText cX5_readText 2 none) 373 (by decide +kernel) (by decide +kernel), gm_in_tbl (w := Cond.initialized RX5) 54 (by decide +kernel) (by decide +kernel), by decide +kernel, by decide +kernel, by decide +kernel⟩, gm_in_tbl (w := Cond.instanceMethod yX5_readText) 371 (by decide +kernel) (by decide +kernel), gm_in_tbl (w := Cond.selects RX5 yX5_readText yX5_readText) 372 (by decide +kernel) (by decide +kernel)⟩
theorem wy_Tr_copyFrom : gm_yv yX9_copyFrom cX9_copyFrom 2 none 1 := ⟨⟨gm_in_tbl (w := Cond.code yX9_copyFrom cX9_copyFrom 2 none) 476 (by decide +kernel) (by decide +kernel), gm_in_tbl (w := Cond.initialized RX9) 56 (by decide +kernel) (by decide +kernel), by decide +kernel, by decide +kernel, by decide +kernel⟩, gm_in_tbl (w := Cond.instanceMethod yX9_copyFrom) 474 (by decide +kernel) (by decide +kernel), gm_in_tbl (w := Cond.selects RX9 yX9_copyFrom yX9_copyFrom) 475 (by decide +kernel) (by decide +kernel)⟩
theorem wy_Tk_spell : gm_yv yX8_spell cX8_spell 5 none 2 := ⟨⟨gm_in_tbl (w := Cond.code yX8_spell cX8_spell 5 none) 495 (by decide +kernel) (by decide +kernel), gm_in_tbl (w := Cond.initialized RX8) 58 (by decide +kernel) (by decide +kernel), by decide +kernel, by decide +kernel, by decide +kernel⟩, gm_in_tbl (w := Cond.instanceMethod yX8_spell) 493 (by decide +kernel) (by decide +kernel), gm_in_tbl (w := Cond.selects RX8 yX8_spell yX8_spell) 494 (by decide +kernel) (by decide +kernel)⟩
theorem wy_Ru_aOf : gm_ys yX6_aOf cX6_aOf 1 (some .int) 1 := ⟨⟨gm_in_tbl (w := Cond.code yX6_aOf cX6_aOf 1 (some .int)) 502 (by decide +kernel) (by decide +kernel), gm_in_tbl (w := Cond.initialized RX6) 64 (by decide +kernel) (by decide +kernel), by decide +kernel, by decide +kernel, by decide +kernel⟩, gm_in_tbl (w := Cond.static yX6_aOf) 501 (by decide +kernel) (by decide +kernel)⟩
theorem wy_Ru_bOf : gm_ys yX6_bOf cX6_bOf 1 (some .int) 1 := ⟨⟨gm_in_tbl (w := Cond.code yX6_bOf cX6_bOf 1 (some .int)) 505 (by decide +kernel) (by decide +kernel), gm_in_tbl (w := Cond.initialized RX6) 64 (by decide +kernel) (by decide +kernel), by decide +kernel, by decide +kernel, by decide +kernel⟩, gm_in_tbl (w := Cond.static yX6_bOf) 504 (by decide +kernel) (by decide +kernel)⟩
theorem wy_Ru_kindOf : gm_ys yX6_kindOf cX6_kindOf 1 (some .int) 1 := ⟨⟨gm_in_tbl (w := Cond.code yX6_kindOf cX6_kindOf 1 (some .int)) 508 (by decide +kernel) (by decide +kernel), gm_in_tbl (w := Cond.initialized RX6) 64 (by decide +kernel) (by decide +kernel), by decide +kernel, by decide +kernel, by decide +kernel⟩, gm_in_tbl (w := Cond.static yX6_kindOf) 507 (by decide +kernel) (by decide +kernel)⟩
theorem wy_Tk_halvesApart : gm_yv yX8_halvesApart cX8_halvesApart 3 (some .int) 0 := ⟨⟨gm_in_tbl (w := Cond.code yX8_halvesApart cX8_halvesApart 3 (some .int)) 512 (by decide +kernel) (by decide +kernel), gm_in_tbl (w := Cond.initialized RX8) 58 (by decide +kernel) (by decide +kernel), by decide +kernel, by decide +kernel, by decide +kernel⟩, gm_in_tbl (w := Cond.instanceMethod yX8_halvesApart) 510 (by decide +kernel) (by decide +kernel), gm_in_tbl (w := Cond.selects RX8 yX8_halvesApart yX8_halvesApart) 511 (by decide +kernel) (by decide +kernel)⟩
theorem wy_Tk_unlikePairs : gm_yv yX8_unlikePairs cX8_unlikePairs 3 (some .int) 0 := ⟨⟨gm_in_tbl (w := Cond.code yX8_unlikePairs cX8_unlikePairs 3 (some .int)) 519 (by decide +kernel) (by decide +kernel), gm_in_tbl (w := Cond.initialized RX8) 58 (by decide +kernel) (by decide +kernel), by decide +kernel, by decide +kernel, by decide +kernel⟩, gm_in_tbl (w := Cond.instanceMethod yX8_unlikePairs) 517 (by decide +kernel) (by decide +kernel), gm_in_tbl (w := Cond.selects RX8 yX8_unlikePairs yX8_unlikePairs) 518 (by decide +kernel) (by decide +kernel)⟩
theorem wy_Tk_timesThere : gm_yv yX8_timesThere cX8_timesThere 4 (some .int) 1 := ⟨⟨gm_in_tbl (w := Cond.code yX8_timesThere cX8_timesThere 4 (some .int)) 523 (by decide +kernel) (by decide +kernel), gm_in_tbl (w := Cond.initialized RX8) 58 (by decide +kernel) (by decide +kernel), by decide +kernel, by decide +kernel, by decide +kernel⟩, gm_in_tbl (w := Cond.instanceMethod yX8_timesThere) 521 (by decide +kernel) (by decide +kernel), gm_in_tbl (w := Cond.selects RX8 yX8_timesThere yX8_timesThere) 522 (by decide +kernel) (by decide +kernel)⟩
theorem wy_Tk_falls : gm_yv yX8_falls cX8_falls 3 (some .int) 0 := ⟨⟨gm_in_tbl (w := Cond.code yX8_falls cX8_falls 3 (some .int)) 527 (by decide +kernel) (by decide +kernel), gm_in_tbl (w := Cond.initialized RX8) 58 (by decide +kernel) (by decide +kernel), by decide +kernel, by decide +kernel, by decide +kernel⟩, gm_in_tbl (w := Cond.instanceMethod yX8_falls) 525 (by decide +kernel) (by decide +kernel), gm_in_tbl (w := Cond.selects RX8 yX8_falls yX8_falls) 526 (by decide +kernel) (by decide +kernel)⟩
theorem wy_Ru_sayYes : gm_ys yX6_sayYes cX6_sayYes 4 (some .boolean) 2 := ⟨⟨gm_in_tbl (w := Cond.code yX6_sayYes cX6_sayYes 4 (some .boolean)) 499 (by decide +kernel) (by decide +kernel), gm_in_tbl (w := Cond.initialized RX6) 64 (by decide +kernel) (by decide +kernel), by decide +kernel, by decide +kernel, by decide +kernel⟩, gm_in_tbl (w := Cond.static yX6_sayYes) 498 (by decide +kernel) (by decide +kernel)⟩
theorem wy_Tb_fillRow : gm_yv yX3_fillRow cX3_fillRow 3 none 1 := ⟨⟨gm_in_tbl (w := Cond.code yX3_fillRow cX3_fillRow 3 none) 491 (by decide +kernel) (by decide +kernel), gm_in_tbl (w := Cond.initialized RX3) 57 (by decide +kernel) (by decide +kernel), by decide +kernel, by decide +kernel, by decide +kernel⟩, gm_in_tbl (w := Cond.instanceMethod yX3_fillRow) 489 (by decide +kernel) (by decide +kernel), gm_in_tbl (w := Cond.selects RX3 yX3_fillRow yX3_fillRow) 490 (by decide +kernel) (by decide +kernel)⟩
theorem wy_Tb_joinedWord : gm_yv yX3_joinedWord cX3_joinedWord 9 (some .long) 2 := ⟨⟨gm_in_tbl (w := Cond.code yX3_joinedWord cX3_joinedWord 9 (some .long)) 531 (by decide +kernel) (by decide +kernel), gm_in_tbl (w := Cond.initialized RX3) 57 (by decide +kernel) (by decide +kernel), by decide +kernel, by decide +kernel, by decide +kernel⟩, gm_in_tbl (w := Cond.instanceMethod yX3_joinedWord) 529 (by decide +kernel) (by decide +kernel), gm_in_tbl (w := Cond.selects RX3 yX3_joinedWord yX3_joinedWord) 530 (by decide +kernel) (by decide +kernel)⟩
theorem wy_Lg_bitCount : gm_ys yJ13_bitCount_95d88 cJ13_bitCount_95d88 2 (some .int) 1 := ⟨⟨gm_in_tbl (w := Cond.code yJ13_bitCount_95d88 cJ13_bitCount_95d88 2 (some .int)) 535 (by decide +kernel) (by decide +kernel), gm_in_tbl (w := Cond.initialized RJ13) 67 (by decide +kernel) (by decide +kernel), by decide +kernel, by decide +kernel, by decide +kernel⟩, gm_in_tbl (w := Cond.static yJ13_bitCount_95d88) 534 (by decide +kernel) (by decide +kernel)⟩
theorem wy_Tb_follow : gm_yv yX3_follow cX3_follow 4 none 1 := ⟨⟨gm_in_tbl (w := Cond.code yX3_follow cX3_follow 4 none) 483 (by decide +kernel) (by decide +kernel), gm_in_tbl (w := Cond.initialized RX3) 57 (by decide +kernel) (by decide +kernel), by decide +kernel, by decide +kernel, by decide +kernel⟩, gm_in_tbl (w := Cond.instanceMethod yX3_follow) 481 (by decide +kernel) (by decide +kernel), gm_in_tbl (w := Cond.selects RX3 yX3_follow yX3_follow) 482 (by decide +kernel) (by decide +kernel)⟩
theorem wy_Gs_addRules : gm_yv yX1_addRules cX1_addRules 4 none 2 := ⟨⟨gm_in_tbl (w := Cond.code yX1_addRules cX1_addRules 4 none) 548 (by decide +kernel) (by decide +kernel), gm_in_tbl (w := Cond.initialized RX1) 60 (by decide +kernel) (by decide +kernel), by decide +kernel, by decide +kernel, by decide +kernel⟩, gm_in_tbl (w := Cond.instanceMethod yX1_addRules) 546 (by decide +kernel) (by decide +kernel), gm_in_tbl (w := Cond.selects RX1 yX1_addRules yX1_addRules) 547 (by decide +kernel) (by decide +kernel)⟩
theorem wy_Gs_forget : gm_yv yX1_forget cX1_forget 4 none 1 := ⟨⟨gm_in_tbl (w := Cond.code yX1_forget cX1_forget 4 none) 542 (by decide +kernel) (by decide +kernel), gm_in_tbl (w := Cond.initialized RX1) 60 (by decide +kernel) (by decide +kernel), by decide +kernel, by decide +kernel, by decide +kernel⟩, gm_in_tbl (w := Cond.instanceMethod yX1_forget) 540 (by decide +kernel) (by decide +kernel), gm_in_tbl (w := Cond.selects RX1 yX1_forget yX1_forget) 541 (by decide +kernel) (by decide +kernel)⟩
theorem wy_Lt_tram : gm_yv yX10_tram cX10_tram 2 (some .int) 0 := ⟨⟨gm_in_tbl (w := Cond.code yX10_tram cX10_tram 2 (some .int)) 369 (by decide +kernel) (by decide +kernel), gm_in_tbl (w := Cond.initialized RX10) 53 (by decide +kernel) (by decide +kernel), by decide +kernel, by decide +kernel, by decide +kernel⟩, gm_in_tbl (w := Cond.instanceMethod yX10_tram) 367 (by decide +kernel) (by decide +kernel), gm_in_tbl (w := Cond.selects RX10 yX10_tram yX10_tram) 368 (by decide +kernel) (by decide +kernel)⟩
theorem wy_Lt_fault : gm_yv yX10_fault cX10_fault 1 (some .int) 0 := ⟨⟨gm_in_tbl (w := Cond.code yX10_fault cX10_fault 1 (some .int)) 554 (by decide +kernel) (by decide +kernel), gm_in_tbl (w := Cond.initialized RX10) 53 (by decide +kernel) (by decide +kernel), by decide +kernel, by decide +kernel, by decide +kernel⟩, gm_in_tbl (w := Cond.instanceMethod yX10_fault) 552 (by decide +kernel) (by decide +kernel), gm_in_tbl (w := Cond.selects RX10 yX10_fault yX10_fault) 553 (by decide +kernel) (by decide +kernel)⟩
theorem wy_Tr_ticketsLeft : gm_yv yX9_ticketsLeft cX9_ticketsLeft 2 (some .int) 1 := ⟨⟨gm_in_tbl (w := Cond.code yX9_ticketsLeft cX9_ticketsLeft 2 (some .int)) 570 (by decide +kernel) (by decide +kernel), gm_in_tbl (w := Cond.initialized RX9) 56 (by decide +kernel) (by decide +kernel), by decide +kernel, by decide +kernel, by decide +kernel⟩, gm_in_tbl (w := Cond.instanceMethod yX9_ticketsLeft) 568 (by decide +kernel) (by decide +kernel), gm_in_tbl (w := Cond.selects RX9 yX9_ticketsLeft yX9_ticketsLeft) 569 (by decide +kernel) (by decide +kernel)⟩
theorem wy_Tr_nextTicket : gm_yv yX9_nextTicket cX9_nextTicket 2 (some .int) 1 := ⟨⟨gm_in_tbl (w := Cond.code yX9_nextTicket cX9_nextTicket 2 (some .int)) 574 (by decide +kernel) (by decide +kernel), gm_in_tbl (w := Cond.initialized RX9) 56 (by decide +kernel) (by decide +kernel), by decide +kernel, by decide +kernel, by decide +kernel⟩, gm_in_tbl (w := Cond.instanceMethod yX9_nextTicket) 572 (by decide +kernel) (by decide +kernel), gm_in_tbl (w := Cond.selects RX9 yX9_nextTicket yX9_nextTicket) 573 (by decide +kernel) (by decide +kernel)⟩
theorem wy_Tb_isLucky : gm_yv yX3_isLucky cX3_isLucky 2 (some .boolean) 1 := ⟨⟨gm_in_tbl (w := Cond.code yX3_isLucky cX3_isLucky 2 (some .boolean)) 578 (by decide +kernel) (by decide +kernel), gm_in_tbl (w := Cond.initialized RX3) 57 (by decide +kernel) (by decide +kernel), by decide +kernel, by decide +kernel, by decide +kernel⟩, gm_in_tbl (w := Cond.instanceMethod yX3_isLucky) 576 (by decide +kernel) (by decide +kernel), gm_in_tbl (w := Cond.selects RX3 yX3_isLucky yX3_isLucky) 577 (by decide +kernel) (by decide +kernel)⟩
theorem wy_Tr_behind : gm_yv yX9_behind cX9_behind 2 (some .int) 1 := ⟨⟨gm_in_tbl (w := Cond.code yX9_behind cX9_behind 2 (some .int)) 582 (by decide +kernel) (by decide +kernel), gm_in_tbl (w := Cond.initialized RX9) 56 (by decide +kernel) (by decide +kernel), by decide +kernel, by decide +kernel, by decide +kernel⟩, gm_in_tbl (w := Cond.instanceMethod yX9_behind) 580 (by decide +kernel) (by decide +kernel), gm_in_tbl (w := Cond.selects RX9 yX9_behind yX9_behind) 581 (by decide +kernel) (by decide +kernel)⟩
theorem wy_Lt_soonFrom : gm_yv yX10_soonFrom cX10_soonFrom 5 (some .int) 1 := ⟨⟨gm_in_tbl (w := Cond.code yX10_soonFrom cX10_soonFrom 5 (some .int)) 566 (by decide +kernel) (by decide +kernel), gm_in_tbl (w := Cond.initialized RX10) 53 (by decide +kernel) (by decide +kernel), by decide +kernel, by decide +kernel, by decide +kernel⟩, gm_in_tbl (w := Cond.instanceMethod yX10_soonFrom) 565 (by decide +kernel) (by decide +kernel), gm_in_tbl (w := Cond.selects RX10 yX10_soonFrom yX10_soonFrom) 1 (by decide +kernel) (by decide +kernel)⟩
theorem wy_Lt_bestRoll : gm_yv yX10_bestRoll cX10_bestRoll 5 (some .int) 0 := ⟨⟨gm_in_tbl (w := Cond.code yX10_bestRoll cX10_bestRoll 5 (some .int)) 562 (by decide +kernel) (by decide +kernel), gm_in_tbl (w := Cond.initialized RX10) 53 (by decide +kernel) (by decide +kernel), by decide +kernel, by decide +kernel, by decide +kernel⟩, gm_in_tbl (w := Cond.instanceMethod yX10_bestRoll) 561 (by decide +kernel) (by decide +kernel), gm_in_tbl (w := Cond.selects RX10 yX10_bestRoll yX10_bestRoll) 0 (by decide +kernel) (by decide +kernel)⟩
theorem wy_Tr_riderCell : gm_yv yX9_riderCell cX9_riderCell 3 (some .int) 2 := ⟨⟨gm_in_tbl (w := Cond.code yX9_riderCell cX9_riderCell 3 (some .int)) 591 (by decide +kernel) (by decide +kernel), gm_in_tbl (w := Cond.initialized RX9) 56 (by decide +kernel) (by decide +kernel), by decide +kernel, by decide +kernel, by decide +kernel⟩, gm_in_tbl (w := Cond.instanceMethod yX9_riderCell) 589 (by decide +kernel) (by decide +kernel), gm_in_tbl (w := Cond.selects RX9 yX9_riderCell yX9_riderCell) 590 (by decide +kernel) (by decide +kernel)⟩
theorem wy_Tr_luckiestRider : gm_yv yX9_luckiestRider cX9_luckiestRider 5 (some .int) 0 := ⟨⟨gm_in_tbl (w := Cond.code yX9_luckiestRider cX9_luckiestRider 5 (some .int)) 587 (by decide +kernel) (by decide +kernel), gm_in_tbl (w := Cond.initialized RX9) 56 (by decide +kernel) (by decide +kernel), by decide +kernel, by decide +kernel, by decide +kernel⟩, gm_in_tbl (w := Cond.instanceMethod yX9_luckiestRider) 585 (by decide +kernel) (by decide +kernel), gm_in_tbl (w := Cond.selects RX9 yX9_luckiestRider yX9_luckiestRider) 586 (by decide +kernel) (by decide +kernel)⟩
theorem wy_Gs_greaterPart : gm_yv yX1_greaterPart cX1_greaterPart 4 (some .int) 1 := ⟨⟨gm_in_tbl (w := Cond.code yX1_greaterPart cX1_greaterPart 4 (some .int)) 603 (by decide +kernel) (by decide +kernel), gm_in_tbl (w := Cond.initialized RX1) 60 (by decide +kernel) (by decide +kernel), by decide +kernel, by decide +kernel, by decide +kernel⟩, gm_in_tbl (w := Cond.instanceMethod yX1_greaterPart) 601 (by decide +kernel) (by decide +kernel), gm_in_tbl (w := Cond.selects RX1 yX1_greaterPart yX1_greaterPart) 602 (by decide +kernel) (by decide +kernel)⟩
theorem wy_Gs_findQuestion : gm_yv yX1_findQuestion cX1_findQuestion 5 (some .int) 0 := ⟨⟨gm_in_tbl (w := Cond.code yX1_findQuestion cX1_findQuestion 5 (some .int)) 599 (by decide +kernel) (by decide +kernel), gm_in_tbl (w := Cond.initialized RX1) 60 (by decide +kernel) (by decide +kernel), by decide +kernel, by decide +kernel, by decide +kernel⟩, gm_in_tbl (w := Cond.instanceMethod yX1_findQuestion) 597 (by decide +kernel) (by decide +kernel), gm_in_tbl (w := Cond.selects RX1 yX1_findQuestion yX1_findQuestion) 598 (by decide +kernel) (by decide +kernel)⟩
theorem wy_Gs_bestQuestion : gm_yv yX1_bestQuestion cX1_bestQuestion 1 (some .int) 0 := ⟨⟨gm_in_tbl (w := Cond.code yX1_bestQuestion cX1_bestQuestion 1 (some .int)) 595 (by decide +kernel) (by decide +kernel), gm_in_tbl (w := Cond.initialized RX1) 60 (by decide +kernel) (by decide +kernel), by decide +kernel, by decide +kernel, by decide +kernel⟩, gm_in_tbl (w := Cond.instanceMethod yX1_bestQuestion) 593 (by decide +kernel) (by decide +kernel), gm_in_tbl (w := Cond.selects RX1 yX1_bestQuestion yX1_bestQuestion) 594 (by decide +kernel) (by decide +kernel)⟩
theorem wy_Lt_told : gm_yv yX10_told cX10_told 2 (some .int) 1 := ⟨⟨gm_in_tbl (w := Cond.code yX10_told cX10_told 2 (some .int)) 558 (by decide +kernel) (by decide +kernel), gm_in_tbl (w := Cond.initialized RX10) 53 (by decide +kernel) (by decide +kernel), by decide +kernel, by decide +kernel, by decide +kernel⟩, gm_in_tbl (w := Cond.instanceMethod yX10_told) 556 (by decide +kernel) (by decide +kernel), gm_in_tbl (w := Cond.selects RX10 yX10_told yX10_told) 557 (by decide +kernel) (by decide +kernel)⟩
theorem wy_Tr_hasRule : gm_yv yX9_hasRule cX9_hasRule 2 (some .boolean) 1 := ⟨⟨gm_in_tbl (w := Cond.code yX9_hasRule cX9_hasRule 2 (some .boolean)) 616 (by decide +kernel) (by decide +kernel), gm_in_tbl (w := Cond.initialized RX9) 56 (by decide +kernel) (by decide +kernel), by decide +kernel, by decide +kernel, by decide +kernel⟩, gm_in_tbl (w := Cond.instanceMethod yX9_hasRule) 614 (by decide +kernel) (by decide +kernel), gm_in_tbl (w := Cond.selects RX9 yX9_hasRule yX9_hasRule) 615 (by decide +kernel) (by decide +kernel)⟩
theorem wy_Tb_countWithout : gm_yv yX3_countWithout cX3_countWithout 4 (some .int) 1 := ⟨⟨gm_in_tbl (w := Cond.code yX3_countWithout cX3_countWithout 4 (some .int)) 625 (by decide +kernel) (by decide +kernel), gm_in_tbl (w := Cond.initialized RX3) 57 (by decide +kernel) (by decide +kernel), by decide +kernel, by decide +kernel, by decide +kernel⟩, gm_in_tbl (w := Cond.instanceMethod yX3_countWithout) 623 (by decide +kernel) (by decide +kernel), gm_in_tbl (w := Cond.selects RX3 yX3_countWithout yX3_countWithout) 624 (by decide +kernel) (by decide +kernel)⟩
theorem wy_Lt_ruleOf : gm_yv yX10_ruleOf cX10_ruleOf 3 (some .int) 2 := ⟨⟨gm_in_tbl (w := Cond.code yX10_ruleOf cX10_ruleOf 3 (some .int)) 612 (by decide +kernel) (by decide +kernel), gm_in_tbl (w := Cond.initialized RX10) 53 (by decide +kernel) (by decide +kernel), by decide +kernel, by decide +kernel, by decide +kernel⟩, gm_in_tbl (w := Cond.instanceMethod yX10_ruleOf) 610 (by decide +kernel) (by decide +kernel), gm_in_tbl (w := Cond.selects RX10 yX10_ruleOf yX10_ruleOf) 611 (by decide +kernel) (by decide +kernel)⟩
theorem wy_Tr_hasRoll : gm_yv yX9_hasRoll cX9_hasRoll 2 (some .boolean) 1 := ⟨⟨gm_in_tbl (w := Cond.code yX9_hasRoll cX9_hasRoll 2 (some .boolean)) 633 (by decide +kernel) (by decide +kernel), gm_in_tbl (w := Cond.initialized RX9) 56 (by decide +kernel) (by decide +kernel), by decide +kernel, by decide +kernel, by decide +kernel⟩, gm_in_tbl (w := Cond.instanceMethod yX9_hasRoll) 631 (by decide +kernel) (by decide +kernel), gm_in_tbl (w := Cond.selects RX9 yX9_hasRoll yX9_hasRoll) 632 (by decide +kernel) (by decide +kernel)⟩
theorem wy_Lt_whoGetsIt : gm_yv yX10_whoGetsIt cX10_whoGetsIt 3 (some .int) 1 := ⟨⟨gm_in_tbl (w := Cond.code yX10_whoGetsIt cX10_whoGetsIt 3 (some .int)) 637 (by decide +kernel) (by decide +kernel), gm_in_tbl (w := Cond.initialized RX10) 53 (by decide +kernel) (by decide +kernel), by decide +kernel, by decide +kernel, by decide +kernel⟩, gm_in_tbl (w := Cond.instanceMethod yX10_whoGetsIt) 636 (by decide +kernel) (by decide +kernel), gm_in_tbl (w := Cond.selects RX10 yX10_whoGetsIt yX10_whoGetsIt) 2 (by decide +kernel) (by decide +kernel)⟩
theorem wy_Lt_luckyLeft : gm_yv yX10_luckyLeft cX10_luckyLeft 6 (some .int) 1 := ⟨⟨gm_in_tbl (w := Cond.code yX10_luckyLeft cX10_luckyLeft 6 (some .int)) 641 (by decide +kernel) (by decide +kernel), gm_in_tbl (w := Cond.initialized RX10) 53 (by decide +kernel) (by decide +kernel), by decide +kernel, by decide +kernel, by decide +kernel⟩, gm_in_tbl (w := Cond.instanceMethod yX10_luckyLeft) 640 (by decide +kernel) (by decide +kernel), gm_in_tbl (w := Cond.selects RX10 yX10_luckyLeft yX10_luckyLeft) 3 (by decide +kernel) (by decide +kernel)⟩
theorem wy_Lt_partDivisor : gm_yv yX10_partDivisor cX10_partDivisor 6 (some .int) 1 := ⟨⟨gm_in_tbl (w := Cond.code yX10_partDivisor cX10_partDivisor 6 (some .int)) 645 (by decide +kernel) (by decide +kernel), gm_in_tbl (w := Cond.initialized RX10) 53 (by decide +kernel) (by decide +kernel), by decide +kernel, by decide +kernel, by decide +kernel⟩, gm_in_tbl (w := Cond.instanceMethod yX10_partDivisor) 644 (by decide +kernel) (by decide +kernel), gm_in_tbl (w := Cond.selects RX10 yX10_partDivisor yX10_partDivisor) 4 (by decide +kernel) (by decide +kernel)⟩
theorem wy_Lt_rollOf : gm_yv yX10_rollOf cX10_rollOf 3 (some .int) 2 := ⟨⟨gm_in_tbl (w := Cond.code yX10_rollOf cX10_rollOf 3 (some .int)) 629 (by decide +kernel) (by decide +kernel), gm_in_tbl (w := Cond.initialized RX10) 53 (by decide +kernel) (by decide +kernel), by decide +kernel, by decide +kernel, by decide +kernel⟩, gm_in_tbl (w := Cond.instanceMethod yX10_rollOf) 627 (by decide +kernel) (by decide +kernel), gm_in_tbl (w := Cond.selects RX10 yX10_rollOf yX10_rollOf) 628 (by decide +kernel) (by decide +kernel)⟩
theorem wy_Tr_hasRider : gm_yv yX9_hasRider cX9_hasRider 2 (some .boolean) 1 := ⟨⟨gm_in_tbl (w := Cond.code yX9_hasRider cX9_hasRider 2 (some .boolean)) 654 (by decide +kernel) (by decide +kernel), gm_in_tbl (w := Cond.initialized RX9) 56 (by decide +kernel) (by decide +kernel), by decide +kernel, by decide +kernel, by decide +kernel⟩, gm_in_tbl (w := Cond.instanceMethod yX9_hasRider) 652 (by decide +kernel) (by decide +kernel), gm_in_tbl (w := Cond.selects RX9 yX9_hasRider yX9_hasRider) 653 (by decide +kernel) (by decide +kernel)⟩
theorem wy_Lt_rider : gm_yv yX10_rider cX10_rider 3 (some .int) 2 := ⟨⟨gm_in_tbl (w := Cond.code yX10_rider cX10_rider 3 (some .int)) 650 (by decide +kernel) (by decide +kernel), gm_in_tbl (w := Cond.initialized RX10) 53 (by decide +kernel) (by decide +kernel), by decide +kernel, by decide +kernel, by decide +kernel⟩, gm_in_tbl (w := Cond.instanceMethod yX10_rider) 648 (by decide +kernel) (by decide +kernel), gm_in_tbl (w := Cond.selects RX10 yX10_rider yX10_rider) 649 (by decide +kernel) (by decide +kernel)⟩
theorem wy_Tr_hasNumber : gm_yv yX9_hasNumber cX9_hasNumber 2 (some .boolean) 1 := ⟨⟨gm_in_tbl (w := Cond.code yX9_hasNumber cX9_hasNumber 2 (some .boolean)) 663 (by decide +kernel) (by decide +kernel), gm_in_tbl (w := Cond.initialized RX9) 56 (by decide +kernel) (by decide +kernel), by decide +kernel, by decide +kernel, by decide +kernel⟩, gm_in_tbl (w := Cond.instanceMethod yX9_hasNumber) 661 (by decide +kernel) (by decide +kernel), gm_in_tbl (w := Cond.selects RX9 yX9_hasNumber yX9_hasNumber) 662 (by decide +kernel) (by decide +kernel)⟩
theorem wy_Tb_rulesSayingYes : gm_yv yX3_rulesSayingYes cX3_rulesSayingYes 4 (some .int) 1 := ⟨⟨gm_in_tbl (w := Cond.code yX3_rulesSayingYes cX3_rulesSayingYes 4 (some .int)) 667 (by decide +kernel) (by decide +kernel), gm_in_tbl (w := Cond.initialized RX3) 57 (by decide +kernel) (by decide +kernel), by decide +kernel, by decide +kernel, by decide +kernel⟩, gm_in_tbl (w := Cond.instanceMethod yX3_rulesSayingYes) 665 (by decide +kernel) (by decide +kernel), gm_in_tbl (w := Cond.selects RX3 yX3_rulesSayingYes yX3_rulesSayingYes) 666 (by decide +kernel) (by decide +kernel)⟩
theorem wy_Lt_lucky : gm_yv yX10_lucky cX10_lucky 3 (some .int) 2 := ⟨⟨gm_in_tbl (w := Cond.code yX10_lucky cX10_lucky 3 (some .int)) 659 (by decide +kernel) (by decide +kernel), gm_in_tbl (w := Cond.initialized RX10) 53 (by decide +kernel) (by decide +kernel), by decide +kernel, by decide +kernel, by decide +kernel⟩, gm_in_tbl (w := Cond.instanceMethod yX10_lucky) 657 (by decide +kernel) (by decide +kernel), gm_in_tbl (w := Cond.selects RX10 yX10_lucky yX10_lucky) 658 (by decide +kernel) (by decide +kernel)⟩
theorem wy_Ps_remember : gm_yv yX4_remember cX4_remember 2 none 1 := ⟨⟨gm_in_tbl (w := Cond.code yX4_remember cX4_remember 2 none) 676 (by decide +kernel) (by decide +kernel), gm_in_tbl (w := Cond.initialized RX4) 59 (by decide +kernel) (by decide +kernel), by decide +kernel, by decide +kernel, by decide +kernel⟩, gm_in_tbl (w := Cond.instanceMethod yX4_remember) 674 (by decide +kernel) (by decide +kernel), gm_in_tbl (w := Cond.selects RX4 yX4_remember yX4_remember) 675 (by decide +kernel) (by decide +kernel)⟩
theorem wy_Tr_takeTicket : gm_yv yX9_takeTicket cX9_takeTicket 2 none 1 := ⟨⟨gm_in_tbl (w := Cond.code yX9_takeTicket cX9_takeTicket 2 none) 686 (by decide +kernel) (by decide +kernel), gm_in_tbl (w := Cond.initialized RX9) 56 (by decide +kernel) (by decide +kernel), by decide +kernel, by decide +kernel, by decide +kernel⟩, gm_in_tbl (w := Cond.instanceMethod yX9_takeTicket) 684 (by decide +kernel) (by decide +kernel), gm_in_tbl (w := Cond.selects RX9 yX9_takeTicket yX9_takeTicket) 685 (by decide +kernel) (by decide +kernel)⟩
theorem wy_Tr_countOneMore : gm_yv yX9_countOneMore cX9_countOneMore 4 none 2 := ⟨⟨gm_in_tbl (w := Cond.code yX9_countOneMore cX9_countOneMore 4 none) 697 (by decide +kernel) (by decide +kernel), gm_in_tbl (w := Cond.initialized RX9) 56 (by decide +kernel) (by decide +kernel), by decide +kernel, by decide +kernel, by decide +kernel⟩, gm_in_tbl (w := Cond.instanceMethod yX9_countOneMore) 695 (by decide +kernel) (by decide +kernel), gm_in_tbl (w := Cond.selects RX9 yX9_countOneMore yX9_countOneMore) 696 (by decide +kernel) (by decide +kernel)⟩
theorem wy_Tr_keepTicket : gm_yv yX9_keepTicket cX9_keepTicket 3 none 2 := ⟨⟨gm_in_tbl (w := Cond.code yX9_keepTicket cX9_keepTicket 3 none) 702 (by decide +kernel) (by decide +kernel), gm_in_tbl (w := Cond.initialized RX9) 56 (by decide +kernel) (by decide +kernel), by decide +kernel, by decide +kernel, by decide +kernel⟩, gm_in_tbl (w := Cond.instanceMethod yX9_keepTicket) 700 (by decide +kernel) (by decide +kernel), gm_in_tbl (w := Cond.selects RX9 yX9_keepTicket yX9_keepTicket) 701 (by decide +kernel) (by decide +kernel)⟩
theorem wy_Tr_handOver : gm_yv yX9_handOver cX9_handOver 4 none 2 := ⟨⟨gm_in_tbl (w := Cond.code yX9_handOver cX9_handOver 4 none) 693 (by decide +kernel) (by decide +kernel), gm_in_tbl (w := Cond.initialized RX9) 56 (by decide +kernel) (by decide +kernel), by decide +kernel, by decide +kernel, by decide +kernel⟩, gm_in_tbl (w := Cond.instanceMethod yX9_handOver) 691 (by decide +kernel) (by decide +kernel), gm_in_tbl (w := Cond.selects RX9 yX9_handOver yX9_handOver) 692 (by decide +kernel) (by decide +kernel)⟩
theorem wy_Lt_sellOne : gm_yv yX10_sellOne cX10_sellOne 4 (some .boolean) 2 := ⟨⟨gm_in_tbl (w := Cond.code yX10_sellOne cX10_sellOne 4 (some .boolean)) 682 (by decide +kernel) (by decide +kernel), gm_in_tbl (w := Cond.initialized RX10) 53 (by decide +kernel) (by decide +kernel), by decide +kernel, by decide +kernel, by decide +kernel⟩, gm_in_tbl (w := Cond.instanceMethod yX10_sellOne) 681 (by decide +kernel) (by decide +kernel), gm_in_tbl (w := Cond.selects RX10 yX10_sellOne yX10_sellOne) 5 (by decide +kernel) (by decide +kernel)⟩
theorem wy_Lt_sell : gm_yv yX10_sell cX10_sell 4 (some .int) 2 := ⟨⟨gm_in_tbl (w := Cond.code yX10_sell cX10_sell 4 (some .int)) 671 (by decide +kernel) (by decide +kernel), gm_in_tbl (w := Cond.initialized RX10) 53 (by decide +kernel) (by decide +kernel), by decide +kernel, by decide +kernel, by decide +kernel⟩, gm_in_tbl (w := Cond.instanceMethod yX10_sell) 669 (by decide +kernel) (by decide +kernel), gm_in_tbl (w := Cond.selects RX10 yX10_sell yX10_sell) 670 (by decide +kernel) (by decide +kernel)⟩
theorem wy_Lt_line : gm_yv yX10_line cX10_line 5 (some .int) 2 := ⟨⟨gm_in_tbl (w := Cond.code yX10_line cX10_line 5 (some .int)) 706 (by decide +kernel) (by decide +kernel), gm_in_tbl (w := Cond.initialized RX10) 53 (by decide +kernel) (by decide +kernel), by decide +kernel, by decide +kernel, by decide +kernel⟩, gm_in_tbl (w := Cond.instanceMethod yX10_line) 704 (by decide +kernel) (by decide +kernel), gm_in_tbl (w := Cond.selects RX10 yX10_line yX10_line) 705 (by decide +kernel) (by decide +kernel)⟩
theorem wy_Tr_giveLucky : gm_yv yX9_giveLucky cX9_giveLucky 3 none 2 := ⟨⟨gm_in_tbl (w := Cond.code yX9_giveLucky cX9_giveLucky 3 none) 714 (by decide +kernel) (by decide +kernel), gm_in_tbl (w := Cond.initialized RX9) 56 (by decide +kernel) (by decide +kernel), by decide +kernel, by decide +kernel, by decide +kernel⟩, gm_in_tbl (w := Cond.instanceMethod yX9_giveLucky) 712 (by decide +kernel) (by decide +kernel), gm_in_tbl (w := Cond.selects RX9 yX9_giveLucky yX9_giveLucky) 713 (by decide +kernel) (by decide +kernel)⟩
theorem wy_Lt_give : gm_yv yX10_give cX10_give 3 (some .int) 2 := ⟨⟨gm_in_tbl (w := Cond.code yX10_give cX10_give 3 (some .int)) 710 (by decide +kernel) (by decide +kernel), gm_in_tbl (w := Cond.initialized RX10) 53 (by decide +kernel) (by decide +kernel), by decide +kernel, by decide +kernel, by decide +kernel⟩, gm_in_tbl (w := Cond.instanceMethod yX10_give) 708 (by decide +kernel) (by decide +kernel), gm_in_tbl (w := Cond.selects RX10 yX10_give yX10_give) 709 (by decide +kernel) (by decide +kernel)⟩
theorem wy_Lt_rule : gm_yv yX10_rule cX10_rule 5 (some .int) 4 := ⟨⟨gm_in_tbl (w := Cond.code yX10_rule cX10_rule 5 (some .int)) 718 (by decide +kernel) (by decide +kernel), gm_in_tbl (w := Cond.initialized RX10) 53 (by decide +kernel) (by decide +kernel), by decide +kernel, by decide +kernel, by decide +kernel⟩, gm_in_tbl (w := Cond.instanceMethod yX10_rule) 716 (by decide +kernel) (by decide +kernel), gm_in_tbl (w := Cond.selects RX10 yX10_rule yX10_rule) 717 (by decide +kernel) (by decide +kernel)⟩
theorem wy_Lt_mode : gm_yv yX10_mode cX10_mode 2 (some .int) 1 := ⟨⟨gm_in_tbl (w := Cond.code yX10_mode cX10_mode 2 (some .int)) 724 (by decide +kernel) (by decide +kernel), gm_in_tbl (w := Cond.initialized RX10) 53 (by decide +kernel) (by decide +kernel), by decide +kernel, by decide +kernel, by decide +kernel⟩, gm_in_tbl (w := Cond.instanceMethod yX10_mode) 722 (by decide +kernel) (by decide +kernel), gm_in_tbl (w := Cond.selects RX10 yX10_mode yX10_mode) 723 (by decide +kernel) (by decide +kernel)⟩
theorem wy_Lt_roll : gm_yv yX10_roll cX10_roll 5 (some .int) 3 := ⟨⟨gm_in_tbl (w := Cond.code yX10_roll cX10_roll 5 (some .int)) 728 (by decide +kernel) (by decide +kernel), gm_in_tbl (w := Cond.initialized RX10) 53 (by decide +kernel) (by decide +kernel), by decide +kernel, by decide +kernel, by decide +kernel⟩, gm_in_tbl (w := Cond.instanceMethod yX10_roll) 726 (by decide +kernel) (by decide +kernel), gm_in_tbl (w := Cond.selects RX10 yX10_roll yX10_roll) 727 (by decide +kernel) (by decide +kernel)⟩
theorem wy_Lt_drawOf : gm_yv yX10_drawOf cX10_drawOf 2 (some .int) 1 := ⟨⟨gm_in_tbl (w := Cond.code yX10_drawOf cX10_drawOf 2 (some .int)) 741 (by decide +kernel) (by decide +kernel), gm_in_tbl (w := Cond.initialized RX10) 53 (by decide +kernel) (by decide +kernel), by decide +kernel, by decide +kernel, by decide +kernel⟩, gm_in_tbl (w := Cond.instanceMethod yX10_drawOf) 740 (by decide +kernel) (by decide +kernel), gm_in_tbl (w := Cond.selects RX10 yX10_drawOf yX10_drawOf) 7 (by decide +kernel) (by decide +kernel)⟩
theorem wy_Lt_liveOneDay : gm_yv yX10_liveOneDay cX10_liveOneDay 4 none 0 := ⟨⟨gm_in_tbl (w := Cond.code yX10_liveOneDay cX10_liveOneDay 4 none) 737 (by decide +kernel) (by decide +kernel), gm_in_tbl (w := Cond.initialized RX10) 53 (by decide +kernel) (by decide +kernel), by decide +kernel, by decide +kernel, by decide +kernel⟩, gm_in_tbl (w := Cond.instanceMethod yX10_liveOneDay) 736 (by decide +kernel) (by decide +kernel), gm_in_tbl (w := Cond.selects RX10 yX10_liveOneDay yX10_liveOneDay) 6 (by decide +kernel) (by decide +kernel)⟩
theorem wy_Lt_drift : gm_yv yX10_drift cX10_drift 3 (some .int) 1 := ⟨⟨gm_in_tbl (w := Cond.code yX10_drift cX10_drift 3 (some .int)) 733 (by decide +kernel) (by decide +kernel), gm_in_tbl (w := Cond.initialized RX10) 53 (by decide +kernel) (by decide +kernel), by decide +kernel, by decide +kernel, by decide +kernel⟩, gm_in_tbl (w := Cond.instanceMethod yX10_drift) 731 (by decide +kernel) (by decide +kernel), gm_in_tbl (w := Cond.selects RX10 yX10_drift yX10_drift) 732 (by decide +kernel) (by decide +kernel)⟩
theorem wy_Ps_takeBack : gm_yv yX4_takeBack cX4_takeBack 2 none 1 := ⟨⟨gm_in_tbl (w := Cond.code yX4_takeBack cX4_takeBack 2 none) 754 (by decide +kernel) (by decide +kernel), gm_in_tbl (w := Cond.initialized RX4) 59 (by decide +kernel) (by decide +kernel), by decide +kernel, by decide +kernel, by decide +kernel⟩, gm_in_tbl (w := Cond.instanceMethod yX4_takeBack) 752 (by decide +kernel) (by decide +kernel), gm_in_tbl (w := Cond.selects RX4 yX4_takeBack yX4_takeBack) 753 (by decide +kernel) (by decide +kernel)⟩
theorem wy_Lt_undo : gm_yv yX10_undo cX10_undo 1 (some .int) 0 := ⟨⟨gm_in_tbl (w := Cond.code yX10_undo cX10_undo 1 (some .int)) 750 (by decide +kernel) (by decide +kernel), gm_in_tbl (w := Cond.initialized RX10) 53 (by decide +kernel) (by decide +kernel), by decide +kernel, by decide +kernel, by decide +kernel⟩, gm_in_tbl (w := Cond.instanceMethod yX10_undo) 748 (by decide +kernel) (by decide +kernel), gm_in_tbl (w := Cond.selects RX10 yX10_undo yX10_undo) 749 (by decide +kernel) (by decide +kernel)⟩
theorem wy_Tb_nextFrom : gm_yv yX3_nextFrom cX3_nextFrom 3 (some .int) 1 := ⟨⟨gm_in_tbl (w := Cond.code yX3_nextFrom cX3_nextFrom 3 (some .int)) 762 (by decide +kernel) (by decide +kernel), gm_in_tbl (w := Cond.initialized RX3) 57 (by decide +kernel) (by decide +kernel), by decide +kernel, by decide +kernel, by decide +kernel⟩, gm_in_tbl (w := Cond.instanceMethod yX3_nextFrom) 760 (by decide +kernel) (by decide +kernel), gm_in_tbl (w := Cond.selects RX3 yX3_nextFrom yX3_nextFrom) 761 (by decide +kernel) (by decide +kernel)⟩
theorem wy_Lt_next : gm_yv yX10_next cX10_next 2 (some .int) 1 := ⟨⟨gm_in_tbl (w := Cond.code yX10_next cX10_next 2 (some .int)) 758 (by decide +kernel) (by decide +kernel), gm_in_tbl (w := Cond.initialized RX10) 53 (by decide +kernel) (by decide +kernel), by decide +kernel, by decide +kernel, by decide +kernel⟩, gm_in_tbl (w := Cond.instanceMethod yX10_next) 756 (by decide +kernel) (by decide +kernel), gm_in_tbl (w := Cond.selects RX10 yX10_next yX10_next) 757 (by decide +kernel) (by decide +kernel)⟩
theorem wy_Tb_countBetween : gm_yv yX3_countBetween cX3_countBetween 5 (some .int) 2 := ⟨⟨gm_in_tbl (w := Cond.code yX3_countBetween cX3_countBetween 5 (some .int)) 771 (by decide +kernel) (by decide +kernel), gm_in_tbl (w := Cond.initialized RX3) 57 (by decide +kernel) (by decide +kernel), by decide +kernel, by decide +kernel, by decide +kernel⟩, gm_in_tbl (w := Cond.instanceMethod yX3_countBetween) 769 (by decide +kernel) (by decide +kernel), gm_in_tbl (w := Cond.selects RX3 yX3_countBetween yX3_countBetween) 770 (by decide +kernel) (by decide +kernel)⟩
theorem wy_Lt_upTo : gm_yv yX10_upTo cX10_upTo 3 (some .int) 2 := ⟨⟨gm_in_tbl (w := Cond.code yX10_upTo cX10_upTo 3 (some .int)) 767 (by decide +kernel) (by decide +kernel), gm_in_tbl (w := Cond.initialized RX10) 53 (by decide +kernel) (by decide +kernel), by decide +kernel, by decide +kernel, by decide +kernel⟩, gm_in_tbl (w := Cond.instanceMethod yX10_upTo) 765 (by decide +kernel) (by decide +kernel), gm_in_tbl (w := Cond.selects RX10 yX10_upTo yX10_upTo) 766 (by decide +kernel) (by decide +kernel)⟩
theorem wy_Tb_numberAfter : gm_yv yX3_numberAfter cX3_numberAfter 4 (some .int) 1 := ⟨⟨gm_in_tbl (w := Cond.code yX3_numberAfter cX3_numberAfter 4 (some .int)) 779 (by decide +kernel) (by decide +kernel), gm_in_tbl (w := Cond.initialized RX3) 57 (by decide +kernel) (by decide +kernel), by decide +kernel, by decide +kernel, by decide +kernel⟩, gm_in_tbl (w := Cond.instanceMethod yX3_numberAfter) 777 (by decide +kernel) (by decide +kernel), gm_in_tbl (w := Cond.selects RX3 yX3_numberAfter yX3_numberAfter) 778 (by decide +kernel) (by decide +kernel)⟩
theorem wy_Lt_kth : gm_yv yX10_kth cX10_kth 2 (some .int) 1 := ⟨⟨gm_in_tbl (w := Cond.code yX10_kth cX10_kth 2 (some .int)) 775 (by decide +kernel) (by decide +kernel), gm_in_tbl (w := Cond.initialized RX10) 53 (by decide +kernel) (by decide +kernel), by decide +kernel, by decide +kernel, by decide +kernel⟩, gm_in_tbl (w := Cond.instanceMethod yX10_kth) 773 (by decide +kernel) (by decide +kernel), gm_in_tbl (w := Cond.selects RX10 yX10_kth yX10_kth) 774 (by decide +kernel) (by decide +kernel)⟩
theorem wy_Tb_lowerOfLongestWait : gm_yv yX3_lowerOfLongestWait cX3_lowerOfLongestWait 5 (some .int) 0 := ⟨⟨gm_in_tbl (w := Cond.code yX3_lowerOfLongestWait cX3_lowerOfLongestWait 5 (some .int)) 787 (by decide +kernel) (by decide +kernel), gm_in_tbl (w := Cond.initialized RX3) 57 (by decide +kernel) (by decide +kernel), by decide +kernel, by decide +kernel, by decide +kernel⟩, gm_in_tbl (w := Cond.instanceMethod yX3_lowerOfLongestWait) 785 (by decide +kernel) (by decide +kernel), gm_in_tbl (w := Cond.selects RX3 yX3_lowerOfLongestWait yX3_lowerOfLongestWait) 786 (by decide +kernel) (by decide +kernel)⟩
theorem wy_Lt_waits : gm_yv yX10_waits cX10_waits 3 (some .int) 1 := ⟨⟨gm_in_tbl (w := Cond.code yX10_waits cX10_waits 3 (some .int)) 783 (by decide +kernel) (by decide +kernel), gm_in_tbl (w := Cond.initialized RX10) 53 (by decide +kernel) (by decide +kernel), by decide +kernel, by decide +kernel, by decide +kernel⟩, gm_in_tbl (w := Cond.instanceMethod yX10_waits) 781 (by decide +kernel) (by decide +kernel), gm_in_tbl (w := Cond.selects RX10 yX10_waits yX10_waits) 782 (by decide +kernel) (by decide +kernel)⟩
theorem wy_Lt_dry : gm_yv yX10_dry cX10_dry 6 (some .int) 2 := ⟨⟨gm_in_tbl (w := Cond.code yX10_dry cX10_dry 6 (some .int)) 791 (by decide +kernel) (by decide +kernel), gm_in_tbl (w := Cond.initialized RX10) 53 (by decide +kernel) (by decide +kernel), by decide +kernel, by decide +kernel, by decide +kernel⟩, gm_in_tbl (w := Cond.instanceMethod yX10_dry) 789 (by decide +kernel) (by decide +kernel), gm_in_tbl (w := Cond.selects RX10 yX10_dry yX10_dry) 790 (by decide +kernel) (by decide +kernel)⟩
theorem wy_Gs_takeIn : gm_yv yX1_takeIn cX1_takeIn 5 none 2 := ⟨⟨gm_in_tbl (w := Cond.code yX1_takeIn cX1_takeIn 5 none) 801 (by decide +kernel) (by decide +kernel), gm_in_tbl (w := Cond.initialized RX1) 60 (by decide +kernel) (by decide +kernel), by decide +kernel, by decide +kernel, by decide +kernel⟩, gm_in_tbl (w := Cond.instanceMethod yX1_takeIn) 799 (by decide +kernel) (by decide +kernel), gm_in_tbl (w := Cond.selects RX1 yX1_takeIn yX1_takeIn) 800 (by decide +kernel) (by decide +kernel)⟩
theorem wy_Lt_see : gm_yv yX10_see cX10_see 3 (some .int) 2 := ⟨⟨gm_in_tbl (w := Cond.code yX10_see cX10_see 3 (some .int)) 797 (by decide +kernel) (by decide +kernel), gm_in_tbl (w := Cond.initialized RX10) 53 (by decide +kernel) (by decide +kernel), by decide +kernel, by decide +kernel, by decide +kernel⟩, gm_in_tbl (w := Cond.instanceMethod yX10_see) 795 (by decide +kernel) (by decide +kernel), gm_in_tbl (w := Cond.selects RX10 yX10_see yX10_see) 796 (by decide +kernel) (by decide +kernel)⟩
theorem wy_Lt_could : gm_yv yX10_could cX10_could 4 (some .int) 2 := ⟨⟨gm_in_tbl (w := Cond.code yX10_could cX10_could 4 (some .int)) 805 (by decide +kernel) (by decide +kernel), gm_in_tbl (w := Cond.initialized RX10) 53 (by decide +kernel) (by decide +kernel), by decide +kernel, by decide +kernel, by decide +kernel⟩, gm_in_tbl (w := Cond.instanceMethod yX10_could) 803 (by decide +kernel) (by decide +kernel), gm_in_tbl (w := Cond.selects RX10 yX10_could yX10_could) 804 (by decide +kernel) (by decide +kernel)⟩
theorem wy_Bk_add : gm_yv yX0_add cX0_add 3 (some .boolean) 2 := ⟨⟨gm_in_tbl (w := Cond.code yX0_add cX0_add 3 (some .boolean)) 813 (by decide +kernel) (by decide +kernel), gm_in_tbl (w := Cond.initialized RX0) 61 (by decide +kernel) (by decide +kernel), by decide +kernel, by decide +kernel, by decide +kernel⟩, gm_in_tbl (w := Cond.instanceMethod yX0_add) 811 (by decide +kernel) (by decide +kernel), gm_in_tbl (w := Cond.selects RX0 yX0_add yX0_add) 812 (by decide +kernel) (by decide +kernel)⟩
theorem wy_Lt_write : gm_yv yX10_write cX10_write 3 (some .int) 2 := ⟨⟨gm_in_tbl (w := Cond.code yX10_write cX10_write 3 (some .int)) 809 (by decide +kernel) (by decide +kernel), gm_in_tbl (w := Cond.initialized RX10) 53 (by decide +kernel) (by decide +kernel), by decide +kernel, by decide +kernel, by decide +kernel⟩, gm_in_tbl (w := Cond.instanceMethod yX10_write) 807 (by decide +kernel) (by decide +kernel), gm_in_tbl (w := Cond.selects RX10 yX10_write yX10_write) 808 (by decide +kernel) (by decide +kernel)⟩
theorem wy_Lt_tear : gm_yv yX10_tear cX10_tear 2 (some .int) 0 := ⟨⟨gm_in_tbl (w := Cond.code yX10_tear cX10_tear 2 (some .int)) 817 (by decide +kernel) (by decide +kernel), gm_in_tbl (w := Cond.initialized RX10) 53 (by decide +kernel) (by decide +kernel), by decide +kernel, by decide +kernel, by decide +kernel⟩, gm_in_tbl (w := Cond.instanceMethod yX10_tear) 815 (by decide +kernel) (by decide +kernel), gm_in_tbl (w := Cond.selects RX10 yX10_tear yX10_tear) 816 (by decide +kernel) (by decide +kernel)⟩
theorem wy_Lt_judge : gm_yv yX10_judge cX10_judge 2 (some .int) 0 := ⟨⟨gm_in_tbl (w := Cond.code yX10_judge cX10_judge 2 (some .int)) 821 (by decide +kernel) (by decide +kernel), gm_in_tbl (w := Cond.initialized RX10) 53 (by decide +kernel) (by decide +kernel), by decide +kernel, by decide +kernel, by decide +kernel⟩, gm_in_tbl (w := Cond.instanceMethod yX10_judge) 819 (by decide +kernel) (by decide +kernel), gm_in_tbl (w := Cond.selects RX10 yX10_judge yX10_judge) 820 (by decide +kernel) (by decide +kernel)⟩
theorem wy_Lt_seed : gm_yv yX10_seed cX10_seed 3 (some .int) 1 := ⟨⟨gm_in_tbl (w := Cond.code yX10_seed cX10_seed 3 (some .int)) 825 (by decide +kernel) (by decide +kernel), gm_in_tbl (w := Cond.initialized RX10) 53 (by decide +kernel) (by decide +kernel), by decide +kernel, by decide +kernel, by decide +kernel⟩, gm_in_tbl (w := Cond.instanceMethod yX10_seed) 823 (by decide +kernel) (by decide +kernel), gm_in_tbl (w := Cond.selects RX10 yX10_seed yX10_seed) 824 (by decide +kernel) (by decide +kernel)⟩
theorem wy_Lt_keep : gm_yv yX10_keep cX10_keep 2 (some .int) 1 := ⟨⟨gm_in_tbl (w := Cond.code yX10_keep cX10_keep 2 (some .int)) 829 (by decide +kernel) (by decide +kernel), gm_in_tbl (w := Cond.initialized RX10) 53 (by decide +kernel) (by decide +kernel), by decide +kernel, by decide +kernel, by decide +kernel⟩, gm_in_tbl (w := Cond.instanceMethod yX10_keep) 827 (by decide +kernel) (by decide +kernel), gm_in_tbl (w := Cond.selects RX10 yX10_keep yX10_keep) 828 (by decide +kernel) (by decide +kernel)⟩
theorem wy_Lt_goBack : gm_yv yX10_goBack cX10_goBack 2 (some .int) 1 := ⟨⟨gm_in_tbl (w := Cond.code yX10_goBack cX10_goBack 2 (some .int)) 833 (by decide +kernel) (by decide +kernel), gm_in_tbl (w := Cond.initialized RX10) 53 (by decide +kernel) (by decide +kernel), by decide +kernel, by decide +kernel, by decide +kernel⟩, gm_in_tbl (w := Cond.instanceMethod yX10_goBack) 831 (by decide +kernel) (by decide +kernel), gm_in_tbl (w := Cond.selects RX10 yX10_goBack yX10_goBack) 832 (by decide +kernel) (by decide +kernel)⟩
theorem wy_Mo_in : gm_ys yX11_in cX11_in 6 (some .boolean) 3 := ⟨⟨gm_in_tbl (w := Cond.code yX11_in cX11_in 6 (some .boolean)) 959 (by decide +kernel) (by decide +kernel), gm_in_tbl (w := Cond.initialized RX11) 63 (by decide +kernel) (by decide +kernel), by decide +kernel, by decide +kernel, by decide +kernel⟩, gm_in_tbl (w := Cond.static yX11_in) 958 (by decide +kernel) (by decide +kernel)⟩
theorem wy_Mo_feed : gm_yv yX11_feed cX11_feed 2 (some .int) 1 := ⟨⟨gm_in_tbl (w := Cond.code yX11_feed cX11_feed 2 (some .int)) 955 (by decide +kernel) (by decide +kernel), gm_in_tbl (w := Cond.initialized RX11) 63 (by decide +kernel) (by decide +kernel), by decide +kernel, by decide +kernel, by decide +kernel⟩, gm_in_tbl (w := Cond.instanceMethod yX11_feed) 953 (by decide +kernel) (by decide +kernel), gm_in_tbl (w := Cond.selects RX11 yX11_feed yX11_feed) 954 (by decide +kernel) (by decide +kernel)⟩
theorem wy_Mo_here : gm_yv yX11_here cX11_here 1 (some .int) 0 := ⟨⟨gm_in_tbl (w := Cond.code yX11_here cX11_here 1 (some .int)) 969 (by decide +kernel) (by decide +kernel), gm_in_tbl (w := Cond.initialized RX11) 63 (by decide +kernel) (by decide +kernel), by decide +kernel, by decide +kernel, by decide +kernel⟩, gm_in_tbl (w := Cond.instanceMethod yX11_here) 968 (by decide +kernel) (by decide +kernel), gm_in_tbl (w := Cond.selects RX11 yX11_here yX11_here) 8 (by decide +kernel) (by decide +kernel)⟩
theorem wy_Mo_fails : gm_yv yX11_fails cX11_fails 3 (some .int) 2 := ⟨⟨gm_in_tbl (w := Cond.code yX11_fails cX11_fails 3 (some .int)) 977 (by decide +kernel) (by decide +kernel), gm_in_tbl (w := Cond.initialized RX11) 63 (by decide +kernel) (by decide +kernel), by decide +kernel, by decide +kernel, by decide +kernel⟩, gm_in_tbl (w := Cond.instanceMethod yX11_fails) 976 (by decide +kernel) (by decide +kernel), gm_in_tbl (w := Cond.selects RX11 yX11_fails yX11_fails) 10 (by decide +kernel) (by decide +kernel)⟩
theorem wy_Mo_isFull : gm_yv yX11_isFull cX11_isFull 2 (some .boolean) 1 := ⟨⟨gm_in_tbl (w := Cond.code yX11_isFull cX11_isFull 2 (some .boolean)) 981 (by decide +kernel) (by decide +kernel), gm_in_tbl (w := Cond.initialized RX11) 63 (by decide +kernel) (by decide +kernel), by decide +kernel, by decide +kernel, by decide +kernel⟩, gm_in_tbl (w := Cond.instanceMethod yX11_isFull) 980 (by decide +kernel) (by decide +kernel), gm_in_tbl (w := Cond.selects RX11 yX11_isFull yX11_isFull) 11 (by decide +kernel) (by decide +kernel)⟩
theorem wy_Mo_takeNumber : gm_yv yX11_takeNumber cX11_takeNumber 4 (some .int) 2 := ⟨⟨gm_in_tbl (w := Cond.code yX11_takeNumber cX11_takeNumber 4 (some .int)) 993 (by decide +kernel) (by decide +kernel), gm_in_tbl (w := Cond.initialized RX11) 63 (by decide +kernel) (by decide +kernel), by decide +kernel, by decide +kernel, by decide +kernel⟩, gm_in_tbl (w := Cond.instanceMethod yX11_takeNumber) 992 (by decide +kernel) (by decide +kernel), gm_in_tbl (w := Cond.selects RX11 yX11_takeNumber yX11_takeNumber) 14 (by decide +kernel) (by decide +kernel)⟩
theorem wy_Mo_takeFigures : gm_yv yX11_takeFigures cX11_takeFigures 2 (some .int) 0 := ⟨⟨gm_in_tbl (w := Cond.code yX11_takeFigures cX11_takeFigures 2 (some .int)) 989 (by decide +kernel) (by decide +kernel), gm_in_tbl (w := Cond.initialized RX11) 63 (by decide +kernel) (by decide +kernel), by decide +kernel, by decide +kernel, by decide +kernel⟩, gm_in_tbl (w := Cond.instanceMethod yX11_takeFigures) 988 (by decide +kernel) (by decide +kernel), gm_in_tbl (w := Cond.selects RX11 yX11_takeFigures yX11_takeFigures) 13 (by decide +kernel) (by decide +kernel)⟩
theorem wy_Mo_takeMode : gm_yv yX11_takeMode cX11_takeMode 2 (some .int) 0 := ⟨⟨gm_in_tbl (w := Cond.code yX11_takeMode cX11_takeMode 2 (some .int)) 1000 (by decide +kernel) (by decide +kernel), gm_in_tbl (w := Cond.initialized RX11) 63 (by decide +kernel) (by decide +kernel), by decide +kernel, by decide +kernel, by decide +kernel⟩, gm_in_tbl (w := Cond.instanceMethod yX11_takeMode) 999 (by decide +kernel) (by decide +kernel), gm_in_tbl (w := Cond.selects RX11 yX11_takeMode yX11_takeMode) 15 (by decide +kernel) (by decide +kernel)⟩
theorem wy_Mo_into : gm_yv yX11_into cX11_into 6 (some .int) 4 := ⟨⟨gm_in_tbl (w := Cond.code yX11_into cX11_into 6 (some .int)) 1008 (by decide +kernel) (by decide +kernel), gm_in_tbl (w := Cond.initialized RX11) 63 (by decide +kernel) (by decide +kernel), by decide +kernel, by decide +kernel, by decide +kernel⟩, gm_in_tbl (w := Cond.instanceMethod yX11_into) 1007 (by decide +kernel) (by decide +kernel), gm_in_tbl (w := Cond.selects RX11 yX11_into yX11_into) 17 (by decide +kernel) (by decide +kernel)⟩
theorem wy_Mo_areOf : gm_ys yX11_areOf cX11_areOf 3 (some .boolean) 3 := ⟨⟨gm_in_tbl (w := Cond.code yX11_areOf cX11_areOf 3 (some .boolean)) 1011 (by decide +kernel) (by decide +kernel), gm_in_tbl (w := Cond.initialized RX11) 63 (by decide +kernel) (by decide +kernel), by decide +kernel, by decide +kernel, by decide +kernel⟩, gm_in_tbl (w := Cond.static yX11_areOf) 1010 (by decide +kernel) (by decide +kernel)⟩
theorem wy_Mo_takeRule : gm_yv yX11_takeRule cX11_takeRule 4 (some .int) 0 := ⟨⟨gm_in_tbl (w := Cond.code yX11_takeRule cX11_takeRule 4 (some .int)) 1004 (by decide +kernel) (by decide +kernel), gm_in_tbl (w := Cond.initialized RX11) 63 (by decide +kernel) (by decide +kernel), by decide +kernel, by decide +kernel, by decide +kernel⟩, gm_in_tbl (w := Cond.instanceMethod yX11_takeRule) 1003 (by decide +kernel) (by decide +kernel), gm_in_tbl (w := Cond.selects RX11 yX11_takeRule yX11_takeRule) 16 (by decide +kernel) (by decide +kernel)⟩
theorem wy_Mo_takeRoll : gm_yv yX11_takeRoll cX11_takeRoll 3 (some .int) 0 := ⟨⟨gm_in_tbl (w := Cond.code yX11_takeRoll cX11_takeRoll 3 (some .int)) 1021 (by decide +kernel) (by decide +kernel), gm_in_tbl (w := Cond.initialized RX11) 63 (by decide +kernel) (by decide +kernel), by decide +kernel, by decide +kernel, by decide +kernel⟩, gm_in_tbl (w := Cond.instanceMethod yX11_takeRoll) 1020 (by decide +kernel) (by decide +kernel), gm_in_tbl (w := Cond.selects RX11 yX11_takeRoll yX11_takeRoll) 18 (by decide +kernel) (by decide +kernel)⟩
theorem wy_Mo_takeRider : gm_yv yX11_takeRider cX11_takeRider 2 (some .int) 0 := ⟨⟨gm_in_tbl (w := Cond.code yX11_takeRider cX11_takeRider 2 (some .int)) 1025 (by decide +kernel) (by decide +kernel), gm_in_tbl (w := Cond.initialized RX11) 63 (by decide +kernel) (by decide +kernel), by decide +kernel, by decide +kernel, by decide +kernel⟩, gm_in_tbl (w := Cond.instanceMethod yX11_takeRider) 1024 (by decide +kernel) (by decide +kernel), gm_in_tbl (w := Cond.selects RX11 yX11_takeRider yX11_takeRider) 19 (by decide +kernel) (by decide +kernel)⟩
theorem wy_Mo_takeBody : gm_yv yX11_takeBody cX11_takeBody 2 (some .int) 1 := ⟨⟨gm_in_tbl (w := Cond.code yX11_takeBody cX11_takeBody 2 (some .int)) 985 (by decide +kernel) (by decide +kernel), gm_in_tbl (w := Cond.initialized RX11) 63 (by decide +kernel) (by decide +kernel), by decide +kernel, by decide +kernel, by decide +kernel⟩, gm_in_tbl (w := Cond.instanceMethod yX11_takeBody) 984 (by decide +kernel) (by decide +kernel), gm_in_tbl (w := Cond.selects RX11 yX11_takeBody yX11_takeBody) 12 (by decide +kernel) (by decide +kernel)⟩
theorem wy_Mo_takeClause : gm_yv yX11_takeClause cX11_takeClause 4 (some .int) 0 := ⟨⟨gm_in_tbl (w := Cond.code yX11_takeClause cX11_takeClause 4 (some .int)) 973 (by decide +kernel) (by decide +kernel), gm_in_tbl (w := Cond.initialized RX11) 63 (by decide +kernel) (by decide +kernel), by decide +kernel, by decide +kernel, by decide +kernel⟩, gm_in_tbl (w := Cond.instanceMethod yX11_takeClause) 972 (by decide +kernel) (by decide +kernel), gm_in_tbl (w := Cond.selects RX11 yX11_takeClause yX11_takeClause) 9 (by decide +kernel) (by decide +kernel)⟩
theorem wy_Mo_takeRead : gm_yv yX11_takeRead cX11_takeRead 2 none 0 := ⟨⟨gm_in_tbl (w := Cond.code yX11_takeRead cX11_takeRead 2 none) 1029 (by decide +kernel) (by decide +kernel), gm_in_tbl (w := Cond.initialized RX11) 63 (by decide +kernel) (by decide +kernel), by decide +kernel, by decide +kernel, by decide +kernel⟩, gm_in_tbl (w := Cond.instanceMethod yX11_takeRead) 1028 (by decide +kernel) (by decide +kernel), gm_in_tbl (w := Cond.selects RX11 yX11_takeRead yX11_takeRead) 20 (by decide +kernel) (by decide +kernel)⟩
theorem wy_Mo_tram : gm_yv yX11_tram cX11_tram 2 (some .int) 0 := ⟨⟨gm_in_tbl (w := Cond.code yX11_tram cX11_tram 2 (some .int)) 965 (by decide +kernel) (by decide +kernel), gm_in_tbl (w := Cond.initialized RX11) 63 (by decide +kernel) (by decide +kernel), by decide +kernel, by decide +kernel, by decide +kernel⟩, gm_in_tbl (w := Cond.instanceMethod yX11_tram) 963 (by decide +kernel) (by decide +kernel), gm_in_tbl (w := Cond.selects RX11 yX11_tram yX11_tram) 964 (by decide +kernel) (by decide +kernel)⟩
theorem wy_Mo_fault : gm_yv yX11_fault cX11_fault 1 (some .int) 0 := ⟨⟨gm_in_tbl (w := Cond.code yX11_fault cX11_fault 1 (some .int)) 1033 (by decide +kernel) (by decide +kernel), gm_in_tbl (w := Cond.initialized RX11) 63 (by decide +kernel) (by decide +kernel), by decide +kernel, by decide +kernel, by decide +kernel⟩, gm_in_tbl (w := Cond.instanceMethod yX11_fault) 1031 (by decide +kernel) (by decide +kernel), gm_in_tbl (w := Cond.selects RX11 yX11_fault yX11_fault) 1032 (by decide +kernel) (by decide +kernel)⟩
theorem wy_Mo_figureOf : gm_yv yX11_figureOf cX11_figureOf 5 (some .int) 2 := ⟨⟨gm_in_tbl (w := Cond.code yX11_figureOf cX11_figureOf 5 (some .int)) 1065 (by decide +kernel) (by decide +kernel), gm_in_tbl (w := Cond.initialized RX11) 63 (by decide +kernel) (by decide +kernel), by decide +kernel, by decide +kernel, by decide +kernel⟩, gm_in_tbl (w := Cond.instanceMethod yX11_figureOf) 1064 (by decide +kernel) (by decide +kernel), gm_in_tbl (w := Cond.selects RX11 yX11_figureOf yX11_figureOf) 27 (by decide +kernel) (by decide +kernel)⟩
theorem wy_Mo_halves : gm_yv yX11_halves cX11_halves 5 (some .boolean) 2 := ⟨⟨gm_in_tbl (w := Cond.code yX11_halves cX11_halves 5 (some .boolean)) 1061 (by decide +kernel) (by decide +kernel), gm_in_tbl (w := Cond.initialized RX11) 63 (by decide +kernel) (by decide +kernel), by decide +kernel, by decide +kernel, by decide +kernel⟩, gm_in_tbl (w := Cond.instanceMethod yX11_halves) 1060 (by decide +kernel) (by decide +kernel), gm_in_tbl (w := Cond.selects RX11 yX11_halves yX11_halves) 26 (by decide +kernel) (by decide +kernel)⟩
theorem wy_Mo_mirror : gm_yv yX11_mirror cX11_mirror 5 (some .boolean) 2 := ⟨⟨gm_in_tbl (w := Cond.code yX11_mirror cX11_mirror 5 (some .boolean)) 1069 (by decide +kernel) (by decide +kernel), gm_in_tbl (w := Cond.initialized RX11) 63 (by decide +kernel) (by decide +kernel), by decide +kernel, by decide +kernel, by decide +kernel⟩, gm_in_tbl (w := Cond.instanceMethod yX11_mirror) 1068 (by decide +kernel) (by decide +kernel), gm_in_tbl (w := Cond.selects RX11 yX11_mirror yX11_mirror) 28 (by decide +kernel) (by decide +kernel)⟩
theorem wy_Mo_counts : gm_yv yX11_counts cX11_counts 6 (some .boolean) 3 := ⟨⟨gm_in_tbl (w := Cond.code yX11_counts cX11_counts 6 (some .boolean)) 1073 (by decide +kernel) (by decide +kernel), gm_in_tbl (w := Cond.initialized RX11) 63 (by decide +kernel) (by decide +kernel), by decide +kernel, by decide +kernel, by decide +kernel⟩, gm_in_tbl (w := Cond.instanceMethod yX11_counts) 1072 (by decide +kernel) (by decide +kernel), gm_in_tbl (w := Cond.selects RX11 yX11_counts yX11_counts) 29 (by decide +kernel) (by decide +kernel)⟩
theorem wy_Mo_rises : gm_yv yX11_rises cX11_rises 5 (some .boolean) 2 := ⟨⟨gm_in_tbl (w := Cond.code yX11_rises cX11_rises 5 (some .boolean)) 1077 (by decide +kernel) (by decide +kernel), gm_in_tbl (w := Cond.initialized RX11) 63 (by decide +kernel) (by decide +kernel), by decide +kernel, by decide +kernel, by decide +kernel⟩, gm_in_tbl (w := Cond.instanceMethod yX11_rises) 1076 (by decide +kernel) (by decide +kernel), gm_in_tbl (w := Cond.selects RX11 yX11_rises yX11_rises) 30 (by decide +kernel) (by decide +kernel)⟩
theorem wy_Mo_saysYes : gm_yv yX11_saysYes cX11_saysYes 5 (some .boolean) 4 := ⟨⟨gm_in_tbl (w := Cond.code yX11_saysYes cX11_saysYes 5 (some .boolean)) 1057 (by decide +kernel) (by decide +kernel), gm_in_tbl (w := Cond.initialized RX11) 63 (by decide +kernel) (by decide +kernel), by decide +kernel, by decide +kernel, by decide +kernel⟩, gm_in_tbl (w := Cond.instanceMethod yX11_saysYes) 1056 (by decide +kernel) (by decide +kernel), gm_in_tbl (w := Cond.selects RX11 yX11_saysYes yX11_saysYes) 25 (by decide +kernel) (by decide +kernel)⟩
theorem wy_Mo_isYes : gm_yv yX11_isYes cX11_isYes 3 (some .boolean) 2 := ⟨⟨gm_in_tbl (w := Cond.code yX11_isYes cX11_isYes 3 (some .boolean)) 1053 (by decide +kernel) (by decide +kernel), gm_in_tbl (w := Cond.initialized RX11) 63 (by decide +kernel) (by decide +kernel), by decide +kernel, by decide +kernel, by decide +kernel⟩, gm_in_tbl (w := Cond.instanceMethod yX11_isYes) 1052 (by decide +kernel) (by decide +kernel), gm_in_tbl (w := Cond.selects RX11 yX11_isYes yX11_isYes) 24 (by decide +kernel) (by decide +kernel)⟩
theorem wy_Mo_isLuckyBut : gm_yv yX11_isLuckyBut cX11_isLuckyBut 6 (some .boolean) 2 := ⟨⟨gm_in_tbl (w := Cond.code yX11_isLuckyBut cX11_isLuckyBut 6 (some .boolean)) 1049 (by decide +kernel) (by decide +kernel), gm_in_tbl (w := Cond.initialized RX11) 63 (by decide +kernel) (by decide +kernel), by decide +kernel, by decide +kernel, by decide +kernel⟩, gm_in_tbl (w := Cond.instanceMethod yX11_isLuckyBut) 1048 (by decide +kernel) (by decide +kernel), gm_in_tbl (w := Cond.selects RX11 yX11_isLuckyBut yX11_isLuckyBut) 23 (by decide +kernel) (by decide +kernel)⟩
theorem wy_Mo_manyBut : gm_yv yX11_manyBut cX11_manyBut 6 (some .int) 3 := ⟨⟨gm_in_tbl (w := Cond.code yX11_manyBut cX11_manyBut 6 (some .int)) 1045 (by decide +kernel) (by decide +kernel), gm_in_tbl (w := Cond.initialized RX11) 63 (by decide +kernel) (by decide +kernel), by decide +kernel, by decide +kernel, by decide +kernel⟩, gm_in_tbl (w := Cond.instanceMethod yX11_manyBut) 1044 (by decide +kernel) (by decide +kernel), gm_in_tbl (w := Cond.selects RX11 yX11_manyBut yX11_manyBut) 22 (by decide +kernel) (by decide +kernel)⟩
theorem wy_Mo_allLucky : gm_yv yX11_allLucky cX11_allLucky 1 (some .int) 0 := ⟨⟨gm_in_tbl (w := Cond.code yX11_allLucky cX11_allLucky 1 (some .int)) 1041 (by decide +kernel) (by decide +kernel), gm_in_tbl (w := Cond.initialized RX11) 63 (by decide +kernel) (by decide +kernel), by decide +kernel, by decide +kernel, by decide +kernel⟩, gm_in_tbl (w := Cond.instanceMethod yX11_allLucky) 1040 (by decide +kernel) (by decide +kernel), gm_in_tbl (w := Cond.selects RX11 yX11_allLucky yX11_allLucky) 21 (by decide +kernel) (by decide +kernel)⟩
theorem wy_Mo_isLucky : gm_yv yX11_isLucky cX11_isLucky 2 (some .boolean) 1 := ⟨⟨gm_in_tbl (w := Cond.code yX11_isLucky cX11_isLucky 2 (some .boolean)) 1089 (by decide +kernel) (by decide +kernel), gm_in_tbl (w := Cond.initialized RX11) 63 (by decide +kernel) (by decide +kernel), by decide +kernel, by decide +kernel, by decide +kernel⟩, gm_in_tbl (w := Cond.instanceMethod yX11_isLucky) 1088 (by decide +kernel) (by decide +kernel), gm_in_tbl (w := Cond.selects RX11 yX11_isLucky yX11_isLucky) 33 (by decide +kernel) (by decide +kernel)⟩
theorem wy_Mo_soon : gm_yv yX11_soon cX11_soon 3 (some .int) 1 := ⟨⟨gm_in_tbl (w := Cond.code yX11_soon cX11_soon 3 (some .int)) 1085 (by decide +kernel) (by decide +kernel), gm_in_tbl (w := Cond.initialized RX11) 63 (by decide +kernel) (by decide +kernel), by decide +kernel, by decide +kernel, by decide +kernel⟩, gm_in_tbl (w := Cond.instanceMethod yX11_soon) 1084 (by decide +kernel) (by decide +kernel), gm_in_tbl (w := Cond.selects RX11 yX11_soon yX11_soon) 32 (by decide +kernel) (by decide +kernel)⟩
theorem wy_Mo_bestRoll : gm_yv yX11_bestRoll cX11_bestRoll 6 (some .int) 0 := ⟨⟨gm_in_tbl (w := Cond.code yX11_bestRoll cX11_bestRoll 6 (some .int)) 1081 (by decide +kernel) (by decide +kernel), gm_in_tbl (w := Cond.initialized RX11) 63 (by decide +kernel) (by decide +kernel), by decide +kernel, by decide +kernel, by decide +kernel⟩, gm_in_tbl (w := Cond.instanceMethod yX11_bestRoll) 1080 (by decide +kernel) (by decide +kernel), gm_in_tbl (w := Cond.selects RX11 yX11_bestRoll yX11_bestRoll) 31 (by decide +kernel) (by decide +kernel)⟩
theorem wy_Mo_luckiest : gm_yv yX11_luckiest cX11_luckiest 5 (some .int) 0 := ⟨⟨gm_in_tbl (w := Cond.code yX11_luckiest cX11_luckiest 5 (some .int)) 1093 (by decide +kernel) (by decide +kernel), gm_in_tbl (w := Cond.initialized RX11) 63 (by decide +kernel) (by decide +kernel), by decide +kernel, by decide +kernel, by decide +kernel⟩, gm_in_tbl (w := Cond.instanceMethod yX11_luckiest) 1092 (by decide +kernel) (by decide +kernel), gm_in_tbl (w := Cond.selects RX11 yX11_luckiest yX11_luckiest) 34 (by decide +kernel) (by decide +kernel)⟩
theorem wy_Mo_kindOf : gm_ys yX11_kindOf cX11_kindOf 1 (some .int) 1 := ⟨⟨gm_in_tbl (w := Cond.code yX11_kindOf cX11_kindOf 1 (some .int)) 1108 (by decide +kernel) (by decide +kernel), gm_in_tbl (w := Cond.initialized RX11) 63 (by decide +kernel) (by decide +kernel), by decide +kernel, by decide +kernel, by decide +kernel⟩, gm_in_tbl (w := Cond.static yX11_kindOf) 1107 (by decide +kernel) (by decide +kernel)⟩
theorem wy_Mo_restOf : gm_ys yX11_restOf cX11_restOf 3 (some .int) 1 := ⟨⟨gm_in_tbl (w := Cond.code yX11_restOf cX11_restOf 3 (some .int)) 1114 (by decide +kernel) (by decide +kernel), gm_in_tbl (w := Cond.initialized RX11) 63 (by decide +kernel) (by decide +kernel), by decide +kernel, by decide +kernel, by decide +kernel⟩, gm_in_tbl (w := Cond.static yX11_restOf) 1113 (by decide +kernel) (by decide +kernel)⟩
theorem wy_Mo_aOf : gm_ys yX11_aOf cX11_aOf 1 (some .int) 1 := ⟨⟨gm_in_tbl (w := Cond.code yX11_aOf cX11_aOf 1 (some .int)) 1111 (by decide +kernel) (by decide +kernel), gm_in_tbl (w := Cond.initialized RX11) 63 (by decide +kernel) (by decide +kernel), by decide +kernel, by decide +kernel, by decide +kernel⟩, gm_in_tbl (w := Cond.static yX11_aOf) 1110 (by decide +kernel) (by decide +kernel)⟩
theorem wy_Mo_bOf : gm_ys yX11_bOf cX11_bOf 2 (some .int) 1 := ⟨⟨gm_in_tbl (w := Cond.code yX11_bOf cX11_bOf 2 (some .int)) 1117 (by decide +kernel) (by decide +kernel), gm_in_tbl (w := Cond.initialized RX11) 63 (by decide +kernel) (by decide +kernel), by decide +kernel, by decide +kernel, by decide +kernel⟩, gm_in_tbl (w := Cond.static yX11_bOf) 1116 (by decide +kernel) (by decide +kernel)⟩
theorem wy_Mo_saysOf : gm_yv yX11_saysOf cX11_saysOf 3 (some .boolean) 2 := ⟨⟨gm_in_tbl (w := Cond.code yX11_saysOf cX11_saysOf 3 (some .boolean)) 1105 (by decide +kernel) (by decide +kernel), gm_in_tbl (w := Cond.initialized RX11) 63 (by decide +kernel) (by decide +kernel), by decide +kernel, by decide +kernel, by decide +kernel⟩, gm_in_tbl (w := Cond.instanceMethod yX11_saysOf) 1104 (by decide +kernel) (by decide +kernel), gm_in_tbl (w := Cond.selects RX11 yX11_saysOf yX11_saysOf) 37 (by decide +kernel) (by decide +kernel)⟩
theorem wy_Mo_couldBe : gm_yv yX11_couldBe cX11_couldBe 4 (some .boolean) 1 := ⟨⟨gm_in_tbl (w := Cond.code yX11_couldBe cX11_couldBe 4 (some .boolean)) 1101 (by decide +kernel) (by decide +kernel), gm_in_tbl (w := Cond.initialized RX11) 63 (by decide +kernel) (by decide +kernel), by decide +kernel, by decide +kernel, by decide +kernel⟩, gm_in_tbl (w := Cond.instanceMethod yX11_couldBe) 1100 (by decide +kernel) (by decide +kernel), gm_in_tbl (w := Cond.selects RX11 yX11_couldBe yX11_couldBe) 36 (by decide +kernel) (by decide +kernel)⟩
theorem wy_Mo_manyCould : gm_yv yX11_manyCould cX11_manyCould 3 (some .int) 0 := ⟨⟨gm_in_tbl (w := Cond.code yX11_manyCould cX11_manyCould 3 (some .int)) 1097 (by decide +kernel) (by decide +kernel), gm_in_tbl (w := Cond.initialized RX11) 63 (by decide +kernel) (by decide +kernel), by decide +kernel, by decide +kernel, by decide +kernel⟩, gm_in_tbl (w := Cond.instanceMethod yX11_manyCould) 1096 (by decide +kernel) (by decide +kernel), gm_in_tbl (w := Cond.selects RX11 yX11_manyCould yX11_manyCould) 35 (by decide +kernel) (by decide +kernel)⟩
theorem wy_Mo_manyYes : gm_yv yX11_manyYes cX11_manyYes 4 (some .int) 1 := ⟨⟨gm_in_tbl (w := Cond.code yX11_manyYes cX11_manyYes 4 (some .int)) 1125 (by decide +kernel) (by decide +kernel), gm_in_tbl (w := Cond.initialized RX11) 63 (by decide +kernel) (by decide +kernel), by decide +kernel, by decide +kernel, by decide +kernel⟩, gm_in_tbl (w := Cond.instanceMethod yX11_manyYes) 1124 (by decide +kernel) (by decide +kernel), gm_in_tbl (w := Cond.selects RX11 yX11_manyYes yX11_manyYes) 39 (by decide +kernel) (by decide +kernel)⟩
theorem wy_Mo_askNext : gm_yv yX11_askNext cX11_askNext 7 (some .int) 0 := ⟨⟨gm_in_tbl (w := Cond.code yX11_askNext cX11_askNext 7 (some .int)) 1121 (by decide +kernel) (by decide +kernel), gm_in_tbl (w := Cond.initialized RX11) 63 (by decide +kernel) (by decide +kernel), by decide +kernel, by decide +kernel, by decide +kernel⟩, gm_in_tbl (w := Cond.instanceMethod yX11_askNext) 1120 (by decide +kernel) (by decide +kernel), gm_in_tbl (w := Cond.selects RX11 yX11_askNext yX11_askNext) 38 (by decide +kernel) (by decide +kernel)⟩
theorem wy_Mo_told : gm_yv yX11_told cX11_told 2 (some .int) 1 := ⟨⟨gm_in_tbl (w := Cond.code yX11_told cX11_told 2 (some .int)) 1037 (by decide +kernel) (by decide +kernel), gm_in_tbl (w := Cond.initialized RX11) 63 (by decide +kernel) (by decide +kernel), by decide +kernel, by decide +kernel, by decide +kernel⟩, gm_in_tbl (w := Cond.instanceMethod yX11_told) 1035 (by decide +kernel) (by decide +kernel), gm_in_tbl (w := Cond.selects RX11 yX11_told yX11_told) 1036 (by decide +kernel) (by decide +kernel)⟩
theorem wy_Mo_isRule : gm_yv yX11_isRule cX11_isRule 2 (some .boolean) 1 := ⟨⟨gm_in_tbl (w := Cond.code yX11_isRule cX11_isRule 2 (some .boolean)) 1133 (by decide +kernel) (by decide +kernel), gm_in_tbl (w := Cond.initialized RX11) 63 (by decide +kernel) (by decide +kernel), by decide +kernel, by decide +kernel, by decide +kernel⟩, gm_in_tbl (w := Cond.instanceMethod yX11_isRule) 1132 (by decide +kernel) (by decide +kernel), gm_in_tbl (w := Cond.selects RX11 yX11_isRule yX11_isRule) 40 (by decide +kernel) (by decide +kernel)⟩
theorem wy_Mo_ruleOf : gm_yv yX11_ruleOf cX11_ruleOf 3 (some .int) 2 := ⟨⟨gm_in_tbl (w := Cond.code yX11_ruleOf cX11_ruleOf 3 (some .int)) 1129 (by decide +kernel) (by decide +kernel), gm_in_tbl (w := Cond.initialized RX11) 63 (by decide +kernel) (by decide +kernel), by decide +kernel, by decide +kernel, by decide +kernel⟩, gm_in_tbl (w := Cond.instanceMethod yX11_ruleOf) 1127 (by decide +kernel) (by decide +kernel), gm_in_tbl (w := Cond.selects RX11 yX11_ruleOf yX11_ruleOf) 1128 (by decide +kernel) (by decide +kernel)⟩
theorem wy_Mo_isRoll : gm_yv yX11_isRoll cX11_isRoll 2 (some .boolean) 1 := ⟨⟨gm_in_tbl (w := Cond.code yX11_isRoll cX11_isRoll 2 (some .boolean)) 1142 (by decide +kernel) (by decide +kernel), gm_in_tbl (w := Cond.initialized RX11) 63 (by decide +kernel) (by decide +kernel), by decide +kernel, by decide +kernel, by decide +kernel⟩, gm_in_tbl (w := Cond.instanceMethod yX11_isRoll) 1141 (by decide +kernel) (by decide +kernel), gm_in_tbl (w := Cond.selects RX11 yX11_isRoll yX11_isRoll) 41 (by decide +kernel) (by decide +kernel)⟩
theorem wy_Mo_who : gm_yv yX11_who cX11_who 3 (some .int) 1 := ⟨⟨gm_in_tbl (w := Cond.code yX11_who cX11_who 3 (some .int)) 1146 (by decide +kernel) (by decide +kernel), gm_in_tbl (w := Cond.initialized RX11) 63 (by decide +kernel) (by decide +kernel), by decide +kernel, by decide +kernel, by decide +kernel⟩, gm_in_tbl (w := Cond.instanceMethod yX11_who) 1145 (by decide +kernel) (by decide +kernel), gm_in_tbl (w := Cond.selects RX11 yX11_who yX11_who) 42 (by decide +kernel) (by decide +kernel)⟩
theorem wy_Mo_luckyLeft : gm_yv yX11_luckyLeft cX11_luckyLeft 4 (some .int) 1 := ⟨⟨gm_in_tbl (w := Cond.code yX11_luckyLeft cX11_luckyLeft 4 (some .int)) 1154 (by decide +kernel) (by decide +kernel), gm_in_tbl (w := Cond.initialized RX11) 63 (by decide +kernel) (by decide +kernel), by decide +kernel, by decide +kernel, by decide +kernel⟩, gm_in_tbl (w := Cond.instanceMethod yX11_luckyLeft) 1153 (by decide +kernel) (by decide +kernel), gm_in_tbl (w := Cond.selects RX11 yX11_luckyLeft yX11_luckyLeft) 44 (by decide +kernel) (by decide +kernel)⟩
theorem wy_Mo_part : gm_yv yX11_part cX11_part 8 (some .int) 2 := ⟨⟨gm_in_tbl (w := Cond.code yX11_part cX11_part 8 (some .int)) 1150 (by decide +kernel) (by decide +kernel), gm_in_tbl (w := Cond.initialized RX11) 63 (by decide +kernel) (by decide +kernel), by decide +kernel, by decide +kernel, by decide +kernel⟩, gm_in_tbl (w := Cond.instanceMethod yX11_part) 1149 (by decide +kernel) (by decide +kernel), gm_in_tbl (w := Cond.selects RX11 yX11_part yX11_part) 43 (by decide +kernel) (by decide +kernel)⟩
theorem wy_Mo_rollOf : gm_yv yX11_rollOf cX11_rollOf 3 (some .int) 2 := ⟨⟨gm_in_tbl (w := Cond.code yX11_rollOf cX11_rollOf 3 (some .int)) 1138 (by decide +kernel) (by decide +kernel), gm_in_tbl (w := Cond.initialized RX11) 63 (by decide +kernel) (by decide +kernel), by decide +kernel, by decide +kernel, by decide +kernel⟩, gm_in_tbl (w := Cond.instanceMethod yX11_rollOf) 1136 (by decide +kernel) (by decide +kernel), gm_in_tbl (w := Cond.selects RX11 yX11_rollOf yX11_rollOf) 1137 (by decide +kernel) (by decide +kernel)⟩
theorem wy_Mo_isRider : gm_yv yX11_isRider cX11_isRider 2 (some .boolean) 1 := ⟨⟨gm_in_tbl (w := Cond.code yX11_isRider cX11_isRider 2 (some .boolean)) 1162 (by decide +kernel) (by decide +kernel), gm_in_tbl (w := Cond.initialized RX11) 63 (by decide +kernel) (by decide +kernel), by decide +kernel, by decide +kernel, by decide +kernel⟩, gm_in_tbl (w := Cond.instanceMethod yX11_isRider) 1161 (by decide +kernel) (by decide +kernel), gm_in_tbl (w := Cond.selects RX11 yX11_isRider yX11_isRider) 45 (by decide +kernel) (by decide +kernel)⟩
theorem wy_Mo_rider : gm_yv yX11_rider cX11_rider 3 (some .int) 2 := ⟨⟨gm_in_tbl (w := Cond.code yX11_rider cX11_rider 3 (some .int)) 1158 (by decide +kernel) (by decide +kernel), gm_in_tbl (w := Cond.initialized RX11) 63 (by decide +kernel) (by decide +kernel), by decide +kernel, by decide +kernel, by decide +kernel⟩, gm_in_tbl (w := Cond.instanceMethod yX11_rider) 1156 (by decide +kernel) (by decide +kernel), gm_in_tbl (w := Cond.selects RX11 yX11_rider yX11_rider) 1157 (by decide +kernel) (by decide +kernel)⟩
theorem wy_Mo_isNumber : gm_yv yX11_isNumber cX11_isNumber 2 (some .boolean) 1 := ⟨⟨gm_in_tbl (w := Cond.code yX11_isNumber cX11_isNumber 2 (some .boolean)) 1170 (by decide +kernel) (by decide +kernel), gm_in_tbl (w := Cond.initialized RX11) 63 (by decide +kernel) (by decide +kernel), by decide +kernel, by decide +kernel, by decide +kernel⟩, gm_in_tbl (w := Cond.instanceMethod yX11_isNumber) 1169 (by decide +kernel) (by decide +kernel), gm_in_tbl (w := Cond.selects RX11 yX11_isNumber yX11_isNumber) 46 (by decide +kernel) (by decide +kernel)⟩
theorem wy_Mo_lucky : gm_yv yX11_lucky cX11_lucky 5 (some .int) 2 := ⟨⟨gm_in_tbl (w := Cond.code yX11_lucky cX11_lucky 5 (some .int)) 1166 (by decide +kernel) (by decide +kernel), gm_in_tbl (w := Cond.initialized RX11) 63 (by decide +kernel) (by decide +kernel), by decide +kernel, by decide +kernel, by decide +kernel⟩, gm_in_tbl (w := Cond.instanceMethod yX11_lucky) 1164 (by decide +kernel) (by decide +kernel), gm_in_tbl (w := Cond.selects RX11 yX11_lucky yX11_lucky) 1165 (by decide +kernel) (by decide +kernel)⟩
theorem wy_Mo_remember : gm_yv yX11_remember cX11_remember 2 none 0 := ⟨⟨gm_in_tbl (w := Cond.code yX11_remember cX11_remember 2 none) 1179 (by decide +kernel) (by decide +kernel), gm_in_tbl (w := Cond.initialized RX11) 63 (by decide +kernel) (by decide +kernel), by decide +kernel, by decide +kernel, by decide +kernel⟩, gm_in_tbl (w := Cond.instanceMethod yX11_remember) 1178 (by decide +kernel) (by decide +kernel), gm_in_tbl (w := Cond.selects RX11 yX11_remember yX11_remember) 47 (by decide +kernel) (by decide +kernel)⟩
theorem wy_Mo_more : gm_yv yX11_more cX11_more 2 none 1 := ⟨⟨gm_in_tbl (w := Cond.code yX11_more cX11_more 2 none) 1187 (by decide +kernel) (by decide +kernel), gm_in_tbl (w := Cond.initialized RX11) 63 (by decide +kernel) (by decide +kernel), by decide +kernel, by decide +kernel, by decide +kernel⟩, gm_in_tbl (w := Cond.instanceMethod yX11_more) 1186 (by decide +kernel) (by decide +kernel), gm_in_tbl (w := Cond.selects RX11 yX11_more yX11_more) 49 (by decide +kernel) (by decide +kernel)⟩
theorem wy_Mo_sellNow : gm_yv yX11_sellNow cX11_sellNow 6 (some .int) 2 := ⟨⟨gm_in_tbl (w := Cond.code yX11_sellNow cX11_sellNow 6 (some .int)) 1183 (by decide +kernel) (by decide +kernel), gm_in_tbl (w := Cond.initialized RX11) 63 (by decide +kernel) (by decide +kernel), by decide +kernel, by decide +kernel, by decide +kernel⟩, gm_in_tbl (w := Cond.instanceMethod yX11_sellNow) 1182 (by decide +kernel) (by decide +kernel), gm_in_tbl (w := Cond.selects RX11 yX11_sellNow yX11_sellNow) 48 (by decide +kernel) (by decide +kernel)⟩
theorem wy_Mo_sell : gm_yv yX11_sell cX11_sell 3 (some .int) 2 := ⟨⟨gm_in_tbl (w := Cond.code yX11_sell cX11_sell 3 (some .int)) 1174 (by decide +kernel) (by decide +kernel), gm_in_tbl (w := Cond.initialized RX11) 63 (by decide +kernel) (by decide +kernel), by decide +kernel, by decide +kernel, by decide +kernel⟩, gm_in_tbl (w := Cond.instanceMethod yX11_sell) 1172 (by decide +kernel) (by decide +kernel), gm_in_tbl (w := Cond.selects RX11 yX11_sell yX11_sell) 1173 (by decide +kernel) (by decide +kernel)⟩
theorem wy_Mo_line : gm_yv yX11_line cX11_line 5 (some .int) 2 := ⟨⟨gm_in_tbl (w := Cond.code yX11_line cX11_line 5 (some .int)) 1191 (by decide +kernel) (by decide +kernel), gm_in_tbl (w := Cond.initialized RX11) 63 (by decide +kernel) (by decide +kernel), by decide +kernel, by decide +kernel, by decide +kernel⟩, gm_in_tbl (w := Cond.instanceMethod yX11_line) 1189 (by decide +kernel) (by decide +kernel), gm_in_tbl (w := Cond.selects RX11 yX11_line yX11_line) 1190 (by decide +kernel) (by decide +kernel)⟩
theorem wy_Mo_give : gm_yv yX11_give cX11_give 3 (some .int) 2 := ⟨⟨gm_in_tbl (w := Cond.code yX11_give cX11_give 3 (some .int)) 1196 (by decide +kernel) (by decide +kernel), gm_in_tbl (w := Cond.initialized RX11) 63 (by decide +kernel) (by decide +kernel), by decide +kernel, by decide +kernel, by decide +kernel⟩, gm_in_tbl (w := Cond.instanceMethod yX11_give) 1194 (by decide +kernel) (by decide +kernel), gm_in_tbl (w := Cond.selects RX11 yX11_give yX11_give) 1195 (by decide +kernel) (by decide +kernel)⟩
theorem wy_Mo_rule : gm_yv yX11_rule cX11_rule 5 (some .int) 4 := ⟨⟨gm_in_tbl (w := Cond.code yX11_rule cX11_rule 5 (some .int)) 1200 (by decide +kernel) (by decide +kernel), gm_in_tbl (w := Cond.initialized RX11) 63 (by decide +kernel) (by decide +kernel), by decide +kernel, by decide +kernel, by decide +kernel⟩, gm_in_tbl (w := Cond.instanceMethod yX11_rule) 1198 (by decide +kernel) (by decide +kernel), gm_in_tbl (w := Cond.selects RX11 yX11_rule yX11_rule) 1199 (by decide +kernel) (by decide +kernel)⟩
theorem wy_Mo_mode : gm_yv yX11_mode cX11_mode 2 (some .int) 1 := ⟨⟨gm_in_tbl (w := Cond.code yX11_mode cX11_mode 2 (some .int)) 1204 (by decide +kernel) (by decide +kernel), gm_in_tbl (w := Cond.initialized RX11) 63 (by decide +kernel) (by decide +kernel), by decide +kernel, by decide +kernel, by decide +kernel⟩, gm_in_tbl (w := Cond.instanceMethod yX11_mode) 1202 (by decide +kernel) (by decide +kernel), gm_in_tbl (w := Cond.selects RX11 yX11_mode yX11_mode) 1203 (by decide +kernel) (by decide +kernel)⟩
theorem wy_Mo_roll : gm_yv yX11_roll cX11_roll 5 (some .int) 3 := ⟨⟨gm_in_tbl (w := Cond.code yX11_roll cX11_roll 5 (some .int)) 1208 (by decide +kernel) (by decide +kernel), gm_in_tbl (w := Cond.initialized RX11) 63 (by decide +kernel) (by decide +kernel), by decide +kernel, by decide +kernel, by decide +kernel⟩, gm_in_tbl (w := Cond.instanceMethod yX11_roll) 1206 (by decide +kernel) (by decide +kernel), gm_in_tbl (w := Cond.selects RX11 yX11_roll yX11_roll) 1207 (by decide +kernel) (by decide +kernel)⟩
theorem wy_Mo_draw : gm_yv yX11_draw cX11_draw 2 (some .int) 1 := ⟨⟨gm_in_tbl (w := Cond.code yX11_draw cX11_draw 2 (some .int)) 1221 (by decide +kernel) (by decide +kernel), gm_in_tbl (w := Cond.initialized RX11) 63 (by decide +kernel) (by decide +kernel), by decide +kernel, by decide +kernel, by decide +kernel⟩, gm_in_tbl (w := Cond.instanceMethod yX11_draw) 1220 (by decide +kernel) (by decide +kernel), gm_in_tbl (w := Cond.selects RX11 yX11_draw yX11_draw) 51 (by decide +kernel) (by decide +kernel)⟩
theorem wy_Mo_chance : gm_yv yX11_chance cX11_chance 5 none 0 := ⟨⟨gm_in_tbl (w := Cond.code yX11_chance cX11_chance 5 none) 1217 (by decide +kernel) (by decide +kernel), gm_in_tbl (w := Cond.initialized RX11) 63 (by decide +kernel) (by decide +kernel), by decide +kernel, by decide +kernel, by decide +kernel⟩, gm_in_tbl (w := Cond.instanceMethod yX11_chance) 1216 (by decide +kernel) (by decide +kernel), gm_in_tbl (w := Cond.selects RX11 yX11_chance yX11_chance) 50 (by decide +kernel) (by decide +kernel)⟩
theorem wy_Mo_drift : gm_yv yX11_drift cX11_drift 3 (some .int) 1 := ⟨⟨gm_in_tbl (w := Cond.code yX11_drift cX11_drift 3 (some .int)) 1213 (by decide +kernel) (by decide +kernel), gm_in_tbl (w := Cond.initialized RX11) 63 (by decide +kernel) (by decide +kernel), by decide +kernel, by decide +kernel, by decide +kernel⟩, gm_in_tbl (w := Cond.instanceMethod yX11_drift) 1211 (by decide +kernel) (by decide +kernel), gm_in_tbl (w := Cond.selects RX11 yX11_drift yX11_drift) 1212 (by decide +kernel) (by decide +kernel)⟩
theorem wy_Mo_undo : gm_yv yX11_undo cX11_undo 2 (some .int) 0 := ⟨⟨gm_in_tbl (w := Cond.code yX11_undo cX11_undo 2 (some .int)) 1229 (by decide +kernel) (by decide +kernel), gm_in_tbl (w := Cond.initialized RX11) 63 (by decide +kernel) (by decide +kernel), by decide +kernel, by decide +kernel, by decide +kernel⟩, gm_in_tbl (w := Cond.instanceMethod yX11_undo) 1227 (by decide +kernel) (by decide +kernel), gm_in_tbl (w := Cond.selects RX11 yX11_undo yX11_undo) 1228 (by decide +kernel) (by decide +kernel)⟩
theorem wy_Mo_next : gm_yv yX11_next cX11_next 3 (some .int) 1 := ⟨⟨gm_in_tbl (w := Cond.code yX11_next cX11_next 3 (some .int)) 1233 (by decide +kernel) (by decide +kernel), gm_in_tbl (w := Cond.initialized RX11) 63 (by decide +kernel) (by decide +kernel), by decide +kernel, by decide +kernel, by decide +kernel⟩, gm_in_tbl (w := Cond.instanceMethod yX11_next) 1231 (by decide +kernel) (by decide +kernel), gm_in_tbl (w := Cond.selects RX11 yX11_next yX11_next) 1232 (by decide +kernel) (by decide +kernel)⟩
theorem wy_Mo_upTo : gm_yv yX11_upTo cX11_upTo 3 (some .int) 2 := ⟨⟨gm_in_tbl (w := Cond.code yX11_upTo cX11_upTo 3 (some .int)) 1237 (by decide +kernel) (by decide +kernel), gm_in_tbl (w := Cond.initialized RX11) 63 (by decide +kernel) (by decide +kernel), by decide +kernel, by decide +kernel, by decide +kernel⟩, gm_in_tbl (w := Cond.instanceMethod yX11_upTo) 1235 (by decide +kernel) (by decide +kernel), gm_in_tbl (w := Cond.selects RX11 yX11_upTo yX11_upTo) 1236 (by decide +kernel) (by decide +kernel)⟩
theorem wy_Mo_kth : gm_yv yX11_kth cX11_kth 5 (some .int) 1 := ⟨⟨gm_in_tbl (w := Cond.code yX11_kth cX11_kth 5 (some .int)) 1241 (by decide +kernel) (by decide +kernel), gm_in_tbl (w := Cond.initialized RX11) 63 (by decide +kernel) (by decide +kernel), by decide +kernel, by decide +kernel, by decide +kernel⟩, gm_in_tbl (w := Cond.instanceMethod yX11_kth) 1239 (by decide +kernel) (by decide +kernel), gm_in_tbl (w := Cond.selects RX11 yX11_kth yX11_kth) 1240 (by decide +kernel) (by decide +kernel)⟩
theorem wy_Mo_waits : gm_yv yX11_waits cX11_waits 7 (some .int) 1 := ⟨⟨gm_in_tbl (w := Cond.code yX11_waits cX11_waits 7 (some .int)) 1245 (by decide +kernel) (by decide +kernel), gm_in_tbl (w := Cond.initialized RX11) 63 (by decide +kernel) (by decide +kernel), by decide +kernel, by decide +kernel, by decide +kernel⟩, gm_in_tbl (w := Cond.instanceMethod yX11_waits) 1243 (by decide +kernel) (by decide +kernel), gm_in_tbl (w := Cond.selects RX11 yX11_waits yX11_waits) 1244 (by decide +kernel) (by decide +kernel)⟩
theorem wy_Mo_dry : gm_yv yX11_dry cX11_dry 6 (some .int) 2 := ⟨⟨gm_in_tbl (w := Cond.code yX11_dry cX11_dry 6 (some .int)) 1249 (by decide +kernel) (by decide +kernel), gm_in_tbl (w := Cond.initialized RX11) 63 (by decide +kernel) (by decide +kernel), by decide +kernel, by decide +kernel, by decide +kernel⟩, gm_in_tbl (w := Cond.instanceMethod yX11_dry) 1247 (by decide +kernel) (by decide +kernel), gm_in_tbl (w := Cond.selects RX11 yX11_dry yX11_dry) 1248 (by decide +kernel) (by decide +kernel)⟩
theorem wy_Mo_see : gm_yv yX11_see cX11_see 3 (some .int) 2 := ⟨⟨gm_in_tbl (w := Cond.code yX11_see cX11_see 3 (some .int)) 1255 (by decide +kernel) (by decide +kernel), gm_in_tbl (w := Cond.initialized RX11) 63 (by decide +kernel) (by decide +kernel), by decide +kernel, by decide +kernel, by decide +kernel⟩, gm_in_tbl (w := Cond.instanceMethod yX11_see) 1253 (by decide +kernel) (by decide +kernel), gm_in_tbl (w := Cond.selects RX11 yX11_see yX11_see) 1254 (by decide +kernel) (by decide +kernel)⟩
theorem wy_Mo_could : gm_yv yX11_could cX11_could 5 (some .int) 2 := ⟨⟨gm_in_tbl (w := Cond.code yX11_could cX11_could 5 (some .int)) 1259 (by decide +kernel) (by decide +kernel), gm_in_tbl (w := Cond.initialized RX11) 63 (by decide +kernel) (by decide +kernel), by decide +kernel, by decide +kernel, by decide +kernel⟩, gm_in_tbl (w := Cond.instanceMethod yX11_could) 1257 (by decide +kernel) (by decide +kernel), gm_in_tbl (w := Cond.selects RX11 yX11_could yX11_could) 1258 (by decide +kernel) (by decide +kernel)⟩
theorem wy_Mo_write : gm_yv yX11_write cX11_write 3 (some .int) 2 := ⟨⟨gm_in_tbl (w := Cond.code yX11_write cX11_write 3 (some .int)) 1263 (by decide +kernel) (by decide +kernel), gm_in_tbl (w := Cond.initialized RX11) 63 (by decide +kernel) (by decide +kernel), by decide +kernel, by decide +kernel, by decide +kernel⟩, gm_in_tbl (w := Cond.instanceMethod yX11_write) 1261 (by decide +kernel) (by decide +kernel), gm_in_tbl (w := Cond.selects RX11 yX11_write yX11_write) 1262 (by decide +kernel) (by decide +kernel)⟩
theorem wy_Mo_tear : gm_yv yX11_tear cX11_tear 2 (some .int) 0 := ⟨⟨gm_in_tbl (w := Cond.code yX11_tear cX11_tear 2 (some .int)) 1267 (by decide +kernel) (by decide +kernel), gm_in_tbl (w := Cond.initialized RX11) 63 (by decide +kernel) (by decide +kernel), by decide +kernel, by decide +kernel, by decide +kernel⟩, gm_in_tbl (w := Cond.instanceMethod yX11_tear) 1265 (by decide +kernel) (by decide +kernel), gm_in_tbl (w := Cond.selects RX11 yX11_tear yX11_tear) 1266 (by decide +kernel) (by decide +kernel)⟩
theorem wy_Mo_judge : gm_yv yX11_judge cX11_judge 2 (some .int) 0 := ⟨⟨gm_in_tbl (w := Cond.code yX11_judge cX11_judge 2 (some .int)) 1271 (by decide +kernel) (by decide +kernel), gm_in_tbl (w := Cond.initialized RX11) 63 (by decide +kernel) (by decide +kernel), by decide +kernel, by decide +kernel, by decide +kernel⟩, gm_in_tbl (w := Cond.instanceMethod yX11_judge) 1269 (by decide +kernel) (by decide +kernel), gm_in_tbl (w := Cond.selects RX11 yX11_judge yX11_judge) 1270 (by decide +kernel) (by decide +kernel)⟩
theorem wy_Mo_seed : gm_yv yX11_seed cX11_seed 3 (some .int) 1 := ⟨⟨gm_in_tbl (w := Cond.code yX11_seed cX11_seed 3 (some .int)) 1275 (by decide +kernel) (by decide +kernel), gm_in_tbl (w := Cond.initialized RX11) 63 (by decide +kernel) (by decide +kernel), by decide +kernel, by decide +kernel, by decide +kernel⟩, gm_in_tbl (w := Cond.instanceMethod yX11_seed) 1273 (by decide +kernel) (by decide +kernel), gm_in_tbl (w := Cond.selects RX11 yX11_seed yX11_seed) 1274 (by decide +kernel) (by decide +kernel)⟩
theorem wy_Mo_keep : gm_yv yX11_keep cX11_keep 3 (some .int) 1 := ⟨⟨gm_in_tbl (w := Cond.code yX11_keep cX11_keep 3 (some .int)) 1279 (by decide +kernel) (by decide +kernel), gm_in_tbl (w := Cond.initialized RX11) 63 (by decide +kernel) (by decide +kernel), by decide +kernel, by decide +kernel, by decide +kernel⟩, gm_in_tbl (w := Cond.instanceMethod yX11_keep) 1277 (by decide +kernel) (by decide +kernel), gm_in_tbl (w := Cond.selects RX11 yX11_keep yX11_keep) 1278 (by decide +kernel) (by decide +kernel)⟩
theorem wy_Mo_goBack : gm_yv yX11_goBack cX11_goBack 3 (some .int) 1 := ⟨⟨gm_in_tbl (w := Cond.code yX11_goBack cX11_goBack 3 (some .int)) 1283 (by decide +kernel) (by decide +kernel), gm_in_tbl (w := Cond.initialized RX11) 63 (by decide +kernel) (by decide +kernel), by decide +kernel, by decide +kernel, by decide +kernel⟩, gm_in_tbl (w := Cond.instanceMethod yX11_goBack) 1281 (by decide +kernel) (by decide +kernel), gm_in_tbl (w := Cond.selects RX11 yX11_goBack yX11_goBack) 1282 (by decide +kernel) (by decide +kernel)⟩
end
section
theorem dX7_add_0 : decode cX7_add 0 = .ok (.aload_n 0, 1) := by decide +kernel
theorem dX7_add_1 : decode cX7_add 1 = .ok (.getfield 15, 3) := by decide +kernel
theorem dX7_add_4 : decode cX7_add 4 = .ok (.sipush 240, 3) := by decide +kernel
theorem dX7_add_7 : decode cX7_add 7 = .ok (.if_icmp .lt 5, 3) := by decide +kernel
theorem dX7_add_10 : decode cX7_add 10 = .ok (.iconst 0, 1) := by decide +kernel
theorem dX7_add_11 : decode cX7_add 11 = .ok (.ireturn, 1) := by decide +kernel
theorem dX7_add_12 : decode cX7_add 12 = .ok (.aload_n 0, 1) := by decide +kernel
theorem dX7_add_13 : decode cX7_add 13 = .ok (.getfield 9, 3) := by decide +kernel
theorem dX7_add_16 : decode cX7_add 16 = .ok (.aload_n 0, 1) := by decide +kernel
theorem dX7_add_17 : decode cX7_add 17 = .ok (.getfield 15, 3) := by decide +kernel
theorem dX7_add_20 : decode cX7_add 20 = .ok (.iload_n 1, 1) := by decide +kernel
theorem dX7_add_21 : decode cX7_add 21 = .ok (.castore, 1) := by decide +kernel
theorem dX7_add_22 : decode cX7_add 22 = .ok (.aload_n 0, 1) := by decide +kernel
theorem dX7_add_23 : decode cX7_add 23 = .ok (.dup, 1) := by decide +kernel
theorem dX7_add_24 : decode cX7_add 24 = .ok (.getfield 15, 3) := by decide +kernel
theorem dX7_add_27 : decode cX7_add 27 = .ok (.iconst 1, 1) := by decide +kernel
theorem dX7_add_28 : decode cX7_add 28 = .ok (.iadd, 1) := by decide +kernel
theorem dX7_add_29 : decode cX7_add 29 = .ok (.putfield 15, 3) := by decide +kernel
theorem dX7_add_32 : decode cX7_add 32 = .ok (.iconst 1, 1) := by decide +kernel
theorem dX7_add_33 : decode cX7_add 33 = .ok (.ireturn, 1) := by decide +kernel
def Tx_add (a0 : Int32) (S : gm_M) : Option (Int32 × gm_M) :=
  if S.1 2 1 < 240 then (
    gm_ck (S.1 2 1) 240 <|
    gm_lt (α := gm_M) (gm_ui S 3 ((S.1 2 1).toNatClampNeg) (vp_nar .char a0)) fun S3 =>
    gm_lt (α := gm_M) (gm_ui S3 2 1 ((S3.1 2 1) + 1)) fun S4 =>
    some (1, S4)
  ) else (
    some (0, S)
  )
set_option maxHeartbeats 4000000 in
set_option maxRecDepth 100000 in
theorem Tx_add_c (l : Launch) (cf : gm_C) (ad : Nat → Nat)    {a0 : Int32} {S : gm_M} {r : Int32} {S'  : gm_M} (hf : Tx_add a0 S = some (r, S')) : gm_Met l yX7_add cX7_add 2 (some .boolean) 0 0 cf ad gm_sC 106 [.ref (ad 2), .int a0] S (some (.int r)) S' := by
  refine gm_met (by decide +kernel) (Nat.le_of_ble_eq_true rfl) ?_
  intro p e s m args below meth c C hr
  have C : gm_F p s m args meth c cf ad 106 cX7_add 2 RX7 := C
  refine gm_lve (lv' := [(0, .ref (ad 2)), (1, .int a0)]) rfl ?_
  unfold Tx_add at hf
  refine gm_aload_n C dX7_add_0 rfl 0 rfl ?_
  refine gm_geti C (Nat.le_of_ble_eq_true rfl) rfl kc_7 (k := 1) rfl (by decide) rfl wl_89 dX7_add_1 ?_
  refine gm_sipush (v := 240) C dX7_add_4 (by decide) ?_
  refine gm_icmp_lt C 12 dX7_add_7 (by decide) (fun c1 => ?_) (fun c1 => ?_)
  · have hf := gm_it _ c1 hf
    refine gm_aload_n C dX7_add_12 rfl 0 rfl ?_
    refine gm_getr (j := 1) (u := 3) C (Nat.le_of_ble_eq_true rfl) rfl kc_7 (k := 0) rfl (by decide) rfl rfl wl_88 dX7_add_13 ?_
    refine gm_aload_n C dX7_add_16 rfl 0 rfl ?_
    refine gm_geti C (Nat.le_of_ble_eq_true rfl) rfl kc_7 (k := 1) rfl (by decide) rfl wl_89 dX7_add_17 ?_
    refine gm_iload_n C dX7_add_20 rfl 1 rfl ?_
    obtain ⟨h2, hf⟩ := gm_ck_s hf
    refine gm_cast C (Nat.le_of_ble_eq_true rfl) rfl rfl h2 dX7_add_21 ?_
    obtain ⟨S3, eS3, hf⟩ := gm_lt_s hf
    refine gm_topm eS3 ?_
    refine gm_aload_n C dX7_add_22 rfl 0 rfl ?_
    refine gm_dup C dX7_add_23 rfl ?_
    refine gm_geti C (Nat.le_of_ble_eq_true rfl) rfl kc_7 (k := 1) rfl (by decide) rfl wl_89 dX7_add_24 ?_
    refine gm_iconst (v := 1) C dX7_add_27 (by decide) ?_
    refine gm_iadd C dX7_add_28 ?_
    refine gm_puti C (Nat.le_of_ble_eq_true rfl) rfl kc_7 (k := 1) rfl (by decide) rfl rfl (kc_7.2.2.2.1 1 (by decide)) rfl rfl wl_89 dX7_add_29 ?_
    obtain ⟨S4, eS4, hf⟩ := gm_lt_s hf
    refine gm_topm eS4 ?_
    refine gm_iconst (v := 1) C dX7_add_32 (by decide) ?_
    exact gm_iret C hr rfl dX7_add_33 hf
  · have hf := gm_if _ c1 hf
    refine gm_iconst (v := 0) C dX7_add_10 (by decide) ?_
    exact gm_iret C hr rfl dX7_add_11 hf
theorem dX10_feed_0 : decode cX10_feed 0 = .ok (.iload_n 1, 1) := by decide +kernel
theorem dX10_feed_1 : decode cX10_feed 1 = .ok (.ifCond .lt 10, 3) := by decide +kernel
theorem dX10_feed_4 : decode cX10_feed 4 = .ok (.iload_n 1, 1) := by decide +kernel
theorem dX10_feed_5 : decode cX10_feed 5 = .ok (.sipush 255, 3) := by decide +kernel
theorem dX10_feed_8 : decode cX10_feed 8 = .ok (.if_icmp .le 6, 3) := by decide +kernel
theorem dX10_feed_11 : decode cX10_feed 11 = .ok (.ldc 62, 2) := by decide +kernel
theorem dX10_feed_13 : decode cX10_feed 13 = .ok (.ireturn, 1) := by decide +kernel
theorem dX10_feed_14 : decode cX10_feed 14 = .ok (.aload_n 0, 1) := by decide +kernel
theorem dX10_feed_15 : decode cX10_feed 15 = .ok (.getfield 10, 3) := by decide +kernel
theorem dX10_feed_18 : decode cX10_feed 18 = .ok (.getfield 63, 3) := by decide +kernel
theorem dX10_feed_21 : decode cX10_feed 21 = .ok (.iload_n 1, 1) := by decide +kernel
theorem dX10_feed_22 : decode cX10_feed 22 = .ok (.i2c, 1) := by decide +kernel
theorem dX10_feed_23 : decode cX10_feed 23 = .ok (.invokevirtual 67, 3) := by decide +kernel
theorem dX10_feed_26 : decode cX10_feed 26 = .ok (.ifCond .eq 16, 3) := by decide +kernel
theorem dX10_feed_29 : decode cX10_feed 29 = .ok (.aload_n 0, 1) := by decide +kernel
theorem dX10_feed_30 : decode cX10_feed 30 = .ok (.getfield 10, 3) := by decide +kernel
theorem dX10_feed_33 : decode cX10_feed 33 = .ok (.getfield 63, 3) := by decide +kernel
theorem dX10_feed_36 : decode cX10_feed 36 = .ok (.getfield 73, 3) := by decide +kernel
theorem dX10_feed_39 : decode cX10_feed 39 = .ok (.goto 5, 3) := by decide +kernel
theorem dX10_feed_42 : decode cX10_feed 42 = .ok (.ldc 76, 2) := by decide +kernel
theorem dX10_feed_44 : decode cX10_feed 44 = .ok (.ireturn, 1) := by decide +kernel
def Lt_feed (a0 : Int32) (S : gm_M) : Option (Int32 × gm_M) :=
  if a0 < 0 then (
    some ((-1000000002), S)
  ) else (
    if a0 ≤ 255 then (
      gm_bp2 (Tx_add (((a0 : Int32).toUInt32 % 65536).toInt32) S) fun v3 S4 =>
      if v3 = 0 then (
        some ((-1000000004), S4)
      ) else (
        some (S4.1 2 1, S4)
      )
    ) else (
      some ((-1000000002), S)
    )
  )
set_option maxHeartbeats 4000000 in
set_option maxRecDepth 100000 in
theorem Lt_feed_c (l : Launch) (cf : gm_C) (ad : Nat → Nat)    {a0 : Int32} {S : gm_M} {r : Int32} {S'  : gm_M} (hf : Lt_feed a0 S = some (r, S')) : gm_Met l yX10_feed cX10_feed 2 (some .int) 1 21 cf ad gm_sC 106 [.ref (ad 0), .int a0] S (some (.int r)) S' := by
  refine gm_met (by decide +kernel) (Nat.le_of_ble_eq_true rfl) ?_
  intro p e s m args below meth c C hr
  have C : gm_F p s m args meth c cf ad 106 cX10_feed 2 RX10 := C
  refine gm_lve (lv' := [(0, .ref (ad 0)), (1, .int a0)]) rfl ?_
  unfold Lt_feed at hf
  refine gm_iload_n C dX10_feed_0 rfl 1 rfl ?_
  refine gm_if_lt C 11 dX10_feed_1 (by decide) (fun c1 => ?_) (fun c1 => ?_)
  · have hf := gm_it _ c1 hf
    refine gm_ldc (v := (-1000000002)) C wl_360 dX10_feed_11 ?_
    exact gm_iret C hr rfl dX10_feed_13 hf
  · have hf := gm_if _ c1 hf
    refine gm_iload_n C dX10_feed_4 rfl 1 rfl ?_
    refine gm_sipush (v := 255) C dX10_feed_5 (by decide) ?_
    refine gm_icmp_le C 14 dX10_feed_8 (by decide) (fun c2 => ?_) (fun c2 => ?_)
    · have hf := gm_it _ c2 hf
      refine gm_aload_n C dX10_feed_14 rfl 0 rfl ?_
      refine gm_getr (j := 1) (u := 1) C (Nat.le_of_ble_eq_true rfl) rfl kc_10 (k := 0) rfl (by decide) rfl rfl wl_328 dX10_feed_15 ?_
      refine gm_getr (j := 1) (u := 2) C (Nat.le_of_ble_eq_true rfl) rfl kc_5 (k := 0) rfl (by decide) rfl rfl wl_150 dX10_feed_18 ?_
      refine gm_iload_n C dX10_feed_21 rfl 1 rfl ?_
      refine gm_i2c C dX10_feed_22 rfl ?_
      obtain ⟨v3, S4, eS4, hf⟩ := gm_bp2_s hf
      refine gm_callVi (As := [.int (((a0 : Int32).toUInt32 % 65536).toInt32)]) C (Tx_add_c l cf ad eS4) (Nat.le_of_ble_eq_true rfl) rfl kc_7 wy_Tx_add rfl wl_361 rfl ⟨(Nat.le_of_ble_eq_true rfl), (Nat.le_of_ble_eq_true rfl)⟩ rfl (Nat.le_of_ble_eq_true rfl) dX10_feed_23 ?_
      refine gm_if_eq C 42 dX10_feed_26 (by decide) (fun c5 => ?_) (fun c5 => ?_)
      · have hf := gm_it _ c5 hf
        refine gm_ldc (v := (-1000000004)) C wl_365 dX10_feed_42 ?_
        exact gm_iret C hr rfl dX10_feed_44 hf
      · have hf := gm_if _ c5 hf
        refine gm_aload_n C dX10_feed_29 rfl 0 rfl ?_
        refine gm_getr (j := 1) (u := 1) C (Nat.le_of_ble_eq_true rfl) rfl kc_10 (k := 0) rfl (by decide) rfl rfl wl_328 dX10_feed_30 ?_
        refine gm_getr (j := 1) (u := 2) C (Nat.le_of_ble_eq_true rfl) rfl kc_5 (k := 0) rfl (by decide) rfl rfl wl_150 dX10_feed_33 ?_
        refine gm_geti C (Nat.le_of_ble_eq_true rfl) rfl kc_7 (k := 1) rfl (by decide) rfl wl_90 dX10_feed_36 ?_
        refine gm_goto C 44 dX10_feed_39 (by decide) ?_
        exact gm_iret C hr rfl dX10_feed_44 hf
    · have hf := gm_if _ c2 hf
      refine gm_ldc (v := (-1000000002)) C wl_360 dX10_feed_11 ?_
      exact gm_iret C hr rfl dX10_feed_13 hf
theorem dX9_clear_0 : decode cX9_clear 0 = .ok (.aload_n 0, 1) := by decide +kernel
theorem dX9_clear_1 : decode cX9_clear 1 = .ok (.iconst 0, 1) := by decide +kernel
theorem dX9_clear_2 : decode cX9_clear 2 = .ok (.putfield 21, 3) := by decide +kernel
theorem dX9_clear_5 : decode cX9_clear 5 = .ok (.aload_n 0, 1) := by decide +kernel
theorem dX9_clear_6 : decode cX9_clear 6 = .ok (.iconst 0, 1) := by decide +kernel
theorem dX9_clear_7 : decode cX9_clear 7 = .ok (.putfield 25, 3) := by decide +kernel
theorem dX9_clear_10 : decode cX9_clear 10 = .ok (.aload_n 0, 1) := by decide +kernel
theorem dX9_clear_11 : decode cX9_clear 11 = .ok (.iconst 0, 1) := by decide +kernel
theorem dX9_clear_12 : decode cX9_clear 12 = .ok (.putfield 28, 3) := by decide +kernel
theorem dX9_clear_15 : decode cX9_clear 15 = .ok (.aload_n 0, 1) := by decide +kernel
theorem dX9_clear_16 : decode cX9_clear 16 = .ok (.iconst 0, 1) := by decide +kernel
theorem dX9_clear_17 : decode cX9_clear 17 = .ok (.putfield 31, 3) := by decide +kernel
theorem dX9_clear_20 : decode cX9_clear 20 = .ok (.aload_n 0, 1) := by decide +kernel
theorem dX9_clear_21 : decode cX9_clear 21 = .ok (.iconst 0, 1) := by decide +kernel
theorem dX9_clear_22 : decode cX9_clear 22 = .ok (.putfield 34, 3) := by decide +kernel
theorem dX9_clear_25 : decode cX9_clear 25 = .ok (.aload_n 0, 1) := by decide +kernel
theorem dX9_clear_26 : decode cX9_clear 26 = .ok (.iconst 0, 1) := by decide +kernel
theorem dX9_clear_27 : decode cX9_clear 27 = .ok (.putfield 37, 3) := by decide +kernel
theorem dX9_clear_30 : decode cX9_clear 30 = .ok (.return_, 1) := by decide +kernel
def Tr_clear (t : Nat) (S : gm_M) : Option gm_M :=
  gm_lt (α := gm_M) (gm_ui S t 3 0) fun S1 =>
  gm_lt (α := gm_M) (gm_ui S1 t 4 0) fun S2 =>
  gm_lt (α := gm_M) (gm_ui S2 t 5 0) fun S3 =>
  gm_lt (α := gm_M) (gm_ui S3 t 6 0) fun S4 =>
  gm_lt (α := gm_M) (gm_ui S4 t 7 0) fun S5 =>
  gm_lt (α := gm_M) (gm_ui S5 t 8 0) fun S6 =>
  some S6
set_option maxHeartbeats 4000000 in
set_option maxRecDepth 100000 in
theorem Tr_clear_c (l : Launch) (cf : gm_C) (ad : Nat → Nat)  {t : Nat} (ht : gm_isTr t)  {S : gm_M}  {S'  : gm_M} (hf : Tr_clear t S = some S') : gm_Met l yX9_clear cX9_clear 1 none 0 0 cf ad gm_sC 106 [.ref (ad t)] S none S' := by
  refine gm_met (by decide +kernel) (Nat.le_of_ble_eq_true rfl) ?_
  intro p e s m args below meth c C hr
  have C : gm_F p s m args meth c cf ad 106 cX9_clear 1 RX9 := C
  refine gm_lve (lv' := [(0, .ref (ad t))]) rfl ?_
  unfold Tr_clear at hf
  refine gm_aload_n C dX9_clear_0 rfl 0 rfl ?_
  refine gm_iconst (v := 0) C dX9_clear_1 (by decide) ?_
  refine gm_puti C (gm_tr_l0 ht) (gm_tr_k0 ht) kc_9 (k := 3) rfl (by decide) rfl rfl (kc_9.2.2.2.1 3 (by decide)) rfl rfl wl_109 dX9_clear_2 ?_
  obtain ⟨S1, eS1, hf⟩ := gm_lt_s hf
  refine gm_topm eS1 ?_
  refine gm_aload_n C dX9_clear_5 rfl 0 rfl ?_
  refine gm_iconst (v := 0) C dX9_clear_6 (by decide) ?_
  refine gm_puti C (gm_tr_l0 ht) (gm_tr_k0 ht) kc_9 (k := 4) rfl (by decide) rfl rfl (kc_9.2.2.2.1 4 (by decide)) rfl rfl wl_113 dX9_clear_7 ?_
  obtain ⟨S2, eS2, hf⟩ := gm_lt_s hf
  refine gm_topm eS2 ?_
  refine gm_aload_n C dX9_clear_10 rfl 0 rfl ?_
  refine gm_iconst (v := 0) C dX9_clear_11 (by decide) ?_
  refine gm_puti C (gm_tr_l0 ht) (gm_tr_k0 ht) kc_9 (k := 5) rfl (by decide) rfl rfl (kc_9.2.2.2.1 5 (by decide)) rfl rfl wl_117 dX9_clear_12 ?_
  obtain ⟨S3, eS3, hf⟩ := gm_lt_s hf
  refine gm_topm eS3 ?_
  refine gm_aload_n C dX9_clear_15 rfl 0 rfl ?_
  refine gm_iconst (v := 0) C dX9_clear_16 (by decide) ?_
  refine gm_puti C (gm_tr_l0 ht) (gm_tr_k0 ht) kc_9 (k := 6) rfl (by decide) rfl rfl (kc_9.2.2.2.1 6 (by decide)) rfl rfl wl_119 dX9_clear_17 ?_
  obtain ⟨S4, eS4, hf⟩ := gm_lt_s hf
  refine gm_topm eS4 ?_
  refine gm_aload_n C dX9_clear_20 rfl 0 rfl ?_
  refine gm_iconst (v := 0) C dX9_clear_21 (by decide) ?_
  refine gm_puti C (gm_tr_l0 ht) (gm_tr_k0 ht) kc_9 (k := 7) rfl (by decide) rfl rfl (kc_9.2.2.2.1 7 (by decide)) rfl rfl wl_123 dX9_clear_22 ?_
  obtain ⟨S5, eS5, hf⟩ := gm_lt_s hf
  refine gm_topm eS5 ?_
  refine gm_aload_n C dX9_clear_25 rfl 0 rfl ?_
  refine gm_iconst (v := 0) C dX9_clear_26 (by decide) ?_
  refine gm_puti C (gm_tr_l0 ht) (gm_tr_k0 ht) kc_9 (k := 8) rfl (by decide) rfl rfl (kc_9.2.2.2.1 8 (by decide)) rfl rfl wl_126 dX9_clear_27 ?_
  obtain ⟨S6, eS6, hf⟩ := gm_lt_s hf
  refine gm_topm eS6 ?_
  exact gm_vret C hr dX9_clear_30 hf
theorem dX7_letterAt_0 : decode cX7_letterAt 0 = .ok (.iload_n 1, 1) := by decide +kernel
theorem dX7_letterAt_1 : decode cX7_letterAt 1 = .ok (.ifCond .lt 20, 3) := by decide +kernel
theorem dX7_letterAt_4 : decode cX7_letterAt 4 = .ok (.iload_n 1, 1) := by decide +kernel
theorem dX7_letterAt_5 : decode cX7_letterAt 5 = .ok (.aload_n 0, 1) := by decide +kernel
theorem dX7_letterAt_6 : decode cX7_letterAt 6 = .ok (.getfield 15, 3) := by decide +kernel
theorem dX7_letterAt_9 : decode cX7_letterAt 9 = .ok (.if_icmp .ge 12, 3) := by decide +kernel
theorem dX7_letterAt_12 : decode cX7_letterAt 12 = .ok (.aload_n 0, 1) := by decide +kernel
theorem dX7_letterAt_13 : decode cX7_letterAt 13 = .ok (.getfield 9, 3) := by decide +kernel
theorem dX7_letterAt_16 : decode cX7_letterAt 16 = .ok (.iload_n 1, 1) := by decide +kernel
theorem dX7_letterAt_17 : decode cX7_letterAt 17 = .ok (.caload, 1) := by decide +kernel
theorem dX7_letterAt_18 : decode cX7_letterAt 18 = .ok (.goto 4, 3) := by decide +kernel
theorem dX7_letterAt_21 : decode cX7_letterAt 21 = .ok (.iconst 0, 1) := by decide +kernel
theorem dX7_letterAt_22 : decode cX7_letterAt 22 = .ok (.ireturn, 1) := by decide +kernel
def Tx_letterAt (a0 : Int32) (S : gm_M) : Option Int32 :=
  if a0 < 0 then (
    some (0)
  ) else (
    if S.1 2 1 ≤ a0 then (
      some (0)
    ) else (
      gm_ck (a0) 240 <|
      gm_lt (α := Int32) (S.1 3 a0.toNatClampNeg) fun x5 =>
      if vp_nar .char x5 = x5 then (some x5) else none
    )
  )
set_option maxHeartbeats 4000000 in
set_option maxRecDepth 100000 in
theorem Tx_letterAt_c (l : Launch) (cf : gm_C) (ad : Nat → Nat)    {a0 : Int32} {S : gm_M} {r : Int32}  (hf : Tx_letterAt a0 S = some r) : gm_Met l yX7_letterAt cX7_letterAt 2 (some .char) 0 0 cf ad gm_sC 106 [.ref (ad 2), .int a0] S (some (.int r)) S := by
  refine gm_met (by decide +kernel) (Nat.le_of_ble_eq_true rfl) ?_
  intro p e s m args below meth c C hr
  have C : gm_F p s m args meth c cf ad 106 cX7_letterAt 2 RX7 := C
  refine gm_lve (lv' := [(0, .ref (ad 2)), (1, .int a0)]) rfl ?_
  unfold Tx_letterAt at hf
  refine gm_iload_n C dX7_letterAt_0 rfl 1 rfl ?_
  refine gm_if_lt C 21 dX7_letterAt_1 (by decide) (fun c1 => ?_) (fun c1 => ?_)
  · have hf := gm_it _ c1 hf
    refine gm_iconst (v := 0) C dX7_letterAt_21 (by decide) ?_
    exact gm_iretK C hr rfl dX7_letterAt_22 hf
  · have hf := gm_if _ c1 hf
    refine gm_iload_n C dX7_letterAt_4 rfl 1 rfl ?_
    refine gm_aload_n C dX7_letterAt_5 rfl 0 rfl ?_
    refine gm_geti C (Nat.le_of_ble_eq_true rfl) rfl kc_7 (k := 1) rfl (by decide) rfl wl_89 dX7_letterAt_6 ?_
    refine gm_icmp_ge C 21 dX7_letterAt_9 (by decide) (fun c2 => ?_) (fun c2 => ?_)
    · have hf := gm_it _ c2 hf
      refine gm_iconst (v := 0) C dX7_letterAt_21 (by decide) ?_
      exact gm_iretK C hr rfl dX7_letterAt_22 hf
    · have hf := gm_if _ c2 hf
      refine gm_aload_n C dX7_letterAt_12 rfl 0 rfl ?_
      refine gm_getr (j := 1) (u := 3) C (Nat.le_of_ble_eq_true rfl) rfl kc_7 (k := 0) rfl (by decide) rfl rfl wl_88 dX7_letterAt_13 ?_
      refine gm_iload_n C dX7_letterAt_16 rfl 1 rfl ?_
      obtain ⟨h3, hf⟩ := gm_ck_s hf
      refine gm_cald C (Nat.le_of_ble_eq_true rfl) rfl rfl h3 dX7_letterAt_17 ?_
      refine gm_goto C 22 dX7_letterAt_18 (by decide) ?_
      obtain ⟨x5, ex5, hf⟩ := gm_lt_s hf
      refine gm_topi ex5 ?_
      obtain ⟨h4, hf⟩ := gm_in _ hf
      exact gm_iretK C hr (gm_zc h4) dX7_letterAt_22 hf
theorem dX5_skipBlanks_0 : decode cX5_skipBlanks 0 = .ok (.iconst 0, 1) := by decide +kernel
theorem dX5_skipBlanks_1 : decode cX5_skipBlanks 1 = .ok (.istore_n 1, 1) := by decide +kernel
theorem dX5_skipBlanks_2 : decode cX5_skipBlanks 2 = .ok (.iload_n 1, 1) := by decide +kernel
theorem dX5_skipBlanks_3 : decode cX5_skipBlanks 3 = .ok (.sipush 240, 3) := by decide +kernel
theorem dX5_skipBlanks_6 : decode cX5_skipBlanks 6 = .ok (.if_icmp .ge 35, 3) := by decide +kernel
theorem dX5_skipBlanks_9 : decode cX5_skipBlanks 9 = .ok (.aload_n 0, 1) := by decide +kernel
theorem dX5_skipBlanks_10 : decode cX5_skipBlanks 10 = .ok (.getfield 12, 3) := by decide +kernel
theorem dX5_skipBlanks_13 : decode cX5_skipBlanks 13 = .ok (.aload_n 0, 1) := by decide +kernel
theorem dX5_skipBlanks_14 : decode cX5_skipBlanks 14 = .ok (.getfield 28, 3) := by decide +kernel
theorem dX5_skipBlanks_17 : decode cX5_skipBlanks 17 = .ok (.invokevirtual 51, 3) := by decide +kernel
theorem dX5_skipBlanks_20 : decode cX5_skipBlanks 20 = .ok (.bipush 32, 2) := by decide +kernel
theorem dX5_skipBlanks_22 : decode cX5_skipBlanks 22 = .ok (.if_icmp .ne 19, 3) := by decide +kernel
theorem dX5_skipBlanks_25 : decode cX5_skipBlanks 25 = .ok (.aload_n 0, 1) := by decide +kernel
theorem dX5_skipBlanks_26 : decode cX5_skipBlanks 26 = .ok (.dup, 1) := by decide +kernel
theorem dX5_skipBlanks_27 : decode cX5_skipBlanks 27 = .ok (.getfield 28, 3) := by decide +kernel
theorem dX5_skipBlanks_30 : decode cX5_skipBlanks 30 = .ok (.iconst 1, 1) := by decide +kernel
theorem dX5_skipBlanks_31 : decode cX5_skipBlanks 31 = .ok (.iadd, 1) := by decide +kernel
theorem dX5_skipBlanks_32 : decode cX5_skipBlanks 32 = .ok (.putfield 28, 3) := by decide +kernel
theorem dX5_skipBlanks_35 : decode cX5_skipBlanks 35 = .ok (.iinc 1 1, 3) := by decide +kernel
theorem dX5_skipBlanks_38 : decode cX5_skipBlanks 38 = .ok (.goto (-36), 3) := by decide +kernel
theorem dX5_skipBlanks_41 : decode cX5_skipBlanks 41 = .ok (.return_, 1) := by decide +kernel
def Rd_skipBlanks_L2_b  (rec : Int32 → gm_M → Option (gm_M)) (y1 : Int32) (S2 : gm_M) : Option (gm_M) :=
  if (240 : Int32) ≤ y1 then (
    some (S2)
  ) else (
    gm_bp1 (Tx_letterAt (S2.1 1 2) S2) fun v5 =>
    if v5 = 32 then (
      gm_lt (α := gm_M) (gm_ui S2 1 2 ((S2.1 1 2) + 1)) fun S7 =>
      gm_lt (α := Int32) (y1 + 1) fun x8 =>
      rec x8 S7
    ) else (
      some (S2)
    )
  )
def Rd_skipBlanks_L2  : Nat → Int32 → gm_M → Option (gm_M)
  | 0 => fun _ _ => none
  | n + 1 => Rd_skipBlanks_L2_b  (Rd_skipBlanks_L2  n)
def Rd_skipBlanks (fl : Nat) (S : gm_M) : Option gm_M :=
  gm_bp1 (Rd_skipBlanks_L2  fl 0 S) fun S3 =>
  some S3
set_option maxHeartbeats 4000000 in
set_option maxRecDepth 100000 in
theorem Rd_skipBlanks_c (l : Launch) (cf : gm_C) (ad : Nat → Nat) {fl : Nat}    {S : gm_M}  {S'  : gm_M} (hf : Rd_skipBlanks fl S = some S') : gm_Met l yX5_skipBlanks cX5_skipBlanks 2 none 1 21 cf ad gm_sC 106 [.ref (ad 1)] S none S' := by
  refine gm_met (by decide +kernel) (Nat.le_of_ble_eq_true rfl) ?_
  intro p e s m args below meth c C hr
  have C : gm_F p s m args meth c cf ad 106 cX5_skipBlanks 2 RX5 := C
  refine gm_lve (lv' := [(0, .ref (ad 1))]) rfl ?_
  unfold Rd_skipBlanks at hf
  refine gm_iconst (v := 0) C dX5_skipBlanks_0 (by decide) ?_
  refine gm_istore_n (lv' := [(1, .int 0), (0, .ref (ad 1))]) C dX5_skipBlanks_1 rfl (by decide) rfl ?_
  have L2 : ∀ (n : Nat) (y1 : Int32) (S2 : gm_M) (S3 : gm_M), Rd_skipBlanks_L2  n y1 S2 = some (S3) → gm_G p l e { frames := 1, cells := 0, slots := 0, locals := 21 } s m args below meth c (MQ below (gm_Q cf ad gm_sC 106 none S') args s 0 0 (gm_A ad 106)) cf ad gm_sC 106 2 S3 41 [] [] → gm_G p l e { frames := 1, cells := 0, slots := 0, locals := 21 } s m args below meth c (MQ below (gm_Q cf ad gm_sC 106 none S') args s 0 0 (gm_A ad 106)) cf ad gm_sC 106 2 S2 2 [(0, .ref (ad 1)), (1, .int y1)] [] := by
    intro n
    induction n with
    | zero => intro y1 S2 S3 hf K; cases (show (none : Option _) = some _ from hf)
    | succ n ih =>
      intro y1 S2 S3 hf K
      have hf : Rd_skipBlanks_L2_b  (Rd_skipBlanks_L2  n) y1 S2 = some (S3) := hf
      unfold Rd_skipBlanks_L2_b at hf
      refine gm_iload_n C dX5_skipBlanks_2 rfl 1 rfl ?_
      refine gm_sipush (v := 240) C dX5_skipBlanks_3 (by decide) ?_
      refine gm_icmp_ge C 41 dX5_skipBlanks_6 (by decide) (fun c4 => ?_) (fun c4 => ?_)
      · have hf := gm_it _ c4 hf
        cases hf
        exact gm_lvp [] rfl K
      · have hf := gm_if _ c4 hf
        refine gm_aload_n C dX5_skipBlanks_9 rfl 0 rfl ?_
        refine gm_getr (j := 1) (u := 2) C (Nat.le_of_ble_eq_true rfl) rfl kc_5 (k := 0) rfl (by decide) rfl rfl wl_149 dX5_skipBlanks_10 ?_
        refine gm_aload_n C dX5_skipBlanks_13 rfl 0 rfl ?_
        refine gm_geti C (Nat.le_of_ble_eq_true rfl) rfl kc_5 (k := 2) rfl (by decide) rfl wl_153 dX5_skipBlanks_14 ?_
        obtain ⟨v5, ev5, hf⟩ := gm_bp1_s hf
        refine gm_callVi (As := [.int (S2.1 1 2)]) C (Tx_letterAt_c l cf ad ev5) (Nat.le_of_ble_eq_true rfl) rfl kc_7 wy_Tx_letterAt rfl wl_382 rfl ⟨(Nat.le_of_ble_eq_true rfl), (Nat.le_of_ble_eq_true rfl)⟩ rfl (Nat.le_of_ble_eq_true rfl) dX5_skipBlanks_17 ?_
        refine gm_bipush (v := 32) C dX5_skipBlanks_20 (by decide) ?_
        refine gm_icmp_ne C 41 dX5_skipBlanks_22 (by decide) (fun c6 => ?_) (fun c6 => ?_)
        · have hf := gm_if _ c6 hf
          cases hf
          exact gm_lvp [] rfl K
        · have hf := gm_it _ c6 hf
          refine gm_aload_n C dX5_skipBlanks_25 rfl 0 rfl ?_
          refine gm_dup C dX5_skipBlanks_26 rfl ?_
          refine gm_geti C (Nat.le_of_ble_eq_true rfl) rfl kc_5 (k := 2) rfl (by decide) rfl wl_153 dX5_skipBlanks_27 ?_
          refine gm_iconst (v := 1) C dX5_skipBlanks_30 (by decide) ?_
          refine gm_iadd C dX5_skipBlanks_31 ?_
          refine gm_puti C (Nat.le_of_ble_eq_true rfl) rfl kc_5 (k := 2) rfl (by decide) rfl rfl (kc_5.2.2.2.1 2 (by decide)) rfl rfl wl_153 dX5_skipBlanks_32 ?_
          obtain ⟨S7, eS7, hf⟩ := gm_lt_s hf
          refine gm_topm eS7 ?_
          obtain ⟨x8, ex8, hf⟩ := gm_lt_s hf
          refine gm_iinc (v := x8) (lv' := [(1, .int x8), (0, .ref (ad 1))]) (j := 1) C dX5_skipBlanks_35 rfl (by rw [ex8]; rfl) (by decide) rfl ?_
          refine gm_goto C 2 dX5_skipBlanks_38 (by decide) ?_
          exact gm_lvp [1, 0] rfl (ih _ _ _ hf K)
  obtain ⟨S3, hx, hf⟩ := gm_bp1_s hf
  refine gm_lvp [1, 0] rfl (L2 fl _ _ _ hx ?_)
  exact gm_vret C hr dX5_skipBlanks_41 hf
theorem dX5_mayStand_0 : decode cX5_mayStand 0 = .ok (.aload_n 0, 1) := by decide +kernel
theorem dX5_mayStand_1 : decode cX5_mayStand 1 = .ok (.getfield 21, 3) := by decide +kernel
theorem dX5_mayStand_4 : decode cX5_mayStand 4 = .ok (.getfield 84, 3) := by decide +kernel
theorem dX5_mayStand_7 : decode cX5_mayStand 7 = .ok (.ifCond .ne 15, 3) := by decide +kernel
theorem dX5_mayStand_10 : decode cX5_mayStand 10 = .ok (.iload_n 1, 1) := by decide +kernel
theorem dX5_mayStand_11 : decode cX5_mayStand 11 = .ok (.bipush 100, 2) := by decide +kernel
theorem dX5_mayStand_13 : decode cX5_mayStand 13 = .ok (.if_icmp .ne 7, 3) := by decide +kernel
theorem dX5_mayStand_16 : decode cX5_mayStand 16 = .ok (.iconst 1, 1) := by decide +kernel
theorem dX5_mayStand_17 : decode cX5_mayStand 17 = .ok (.goto 4, 3) := by decide +kernel
theorem dX5_mayStand_20 : decode cX5_mayStand 20 = .ok (.iconst 0, 1) := by decide +kernel
theorem dX5_mayStand_21 : decode cX5_mayStand 21 = .ok (.ireturn, 1) := by decide +kernel
theorem dX5_mayStand_22 : decode cX5_mayStand 22 = .ok (.iload_n 1, 1) := by decide +kernel
theorem dX5_mayStand_23 : decode cX5_mayStand 23 = .ok (.bipush 100, 2) := by decide +kernel
theorem dX5_mayStand_25 : decode cX5_mayStand 25 = .ok (.if_icmp .eq 27, 3) := by decide +kernel
theorem dX5_mayStand_28 : decode cX5_mayStand 28 = .ok (.iload_n 1, 1) := by decide +kernel
theorem dX5_mayStand_29 : decode cX5_mayStand 29 = .ok (.bipush 109, 2) := by decide +kernel
theorem dX5_mayStand_31 : decode cX5_mayStand 31 = .ok (.if_icmp .eq 21, 3) := by decide +kernel
theorem dX5_mayStand_34 : decode cX5_mayStand 34 = .ok (.iload_n 1, 1) := by decide +kernel
theorem dX5_mayStand_35 : decode cX5_mayStand 35 = .ok (.bipush 114, 2) := by decide +kernel
theorem dX5_mayStand_37 : decode cX5_mayStand 37 = .ok (.if_icmp .eq 15, 3) := by decide +kernel
theorem dX5_mayStand_40 : decode cX5_mayStand 40 = .ok (.iload_n 1, 1) := by decide +kernel
theorem dX5_mayStand_41 : decode cX5_mayStand 41 = .ok (.bipush 110, 2) := by decide +kernel
theorem dX5_mayStand_43 : decode cX5_mayStand 43 = .ok (.if_icmp .eq 9, 3) := by decide +kernel
theorem dX5_mayStand_46 : decode cX5_mayStand 46 = .ok (.iload_n 1, 1) := by decide +kernel
theorem dX5_mayStand_47 : decode cX5_mayStand 47 = .ok (.bipush 112, 2) := by decide +kernel
theorem dX5_mayStand_49 : decode cX5_mayStand 49 = .ok (.if_icmp .ne 7, 3) := by decide +kernel
theorem dX5_mayStand_52 : decode cX5_mayStand 52 = .ok (.iconst 1, 1) := by decide +kernel
theorem dX5_mayStand_53 : decode cX5_mayStand 53 = .ok (.goto 4, 3) := by decide +kernel
theorem dX5_mayStand_56 : decode cX5_mayStand 56 = .ok (.iconst 0, 1) := by decide +kernel
theorem dX5_mayStand_57 : decode cX5_mayStand 57 = .ok (.ireturn, 1) := by decide +kernel
def Rd_mayStand (a0 : Int32) (S : gm_M) : Option Int32 :=
  if S.1 4 3 = 0 then (
    if a0 = 100 then (
      some (1)
    ) else (
      some (0)
    )
  ) else (
    if a0 = 100 then (
      some (1)
    ) else (
      if a0 = 109 then (
        some (1)
      ) else (
        if a0 = 114 then (
          some (1)
        ) else (
          if a0 = 110 then (
            some (1)
          ) else (
            if a0 = 112 then (
              some (1)
            ) else (
              some (0)
            )
          )
        )
      )
    )
  )
set_option maxHeartbeats 4000000 in
set_option maxRecDepth 100000 in
theorem Rd_mayStand_c (l : Launch) (cf : gm_C) (ad : Nat → Nat)    {a0 : Int32} {S : gm_M} {r : Int32}  (hf : Rd_mayStand a0 S = some r) : gm_Met l yX5_mayStand cX5_mayStand 2 (some .boolean) 0 0 cf ad gm_sC 106 [.ref (ad 1), .int a0] S (some (.int r)) S := by
  refine gm_met (by decide +kernel) (Nat.le_of_ble_eq_true rfl) ?_
  intro p e s m args below meth c C hr
  have C : gm_F p s m args meth c cf ad 106 cX5_mayStand 2 RX5 := C
  refine gm_lve (lv' := [(0, .ref (ad 1)), (1, .int a0)]) rfl ?_
  unfold Rd_mayStand at hf
  refine gm_aload_n C dX5_mayStand_0 rfl 0 rfl ?_
  refine gm_getr (j := 3) (u := 4) C (Nat.le_of_ble_eq_true rfl) rfl kc_5 (k := 1) rfl (by decide) rfl rfl wl_151 dX5_mayStand_1 ?_
  refine gm_geti C (Nat.le_of_ble_eq_true rfl) rfl kc_9 (k := 3) rfl (by decide) rfl wl_112 dX5_mayStand_4 ?_
  refine gm_if_ne C 22 dX5_mayStand_7 (by decide) (fun c1 => ?_) (fun c1 => ?_)
  · have hf := gm_if _ c1 hf
    refine gm_iload_n C dX5_mayStand_22 rfl 1 rfl ?_
    refine gm_bipush (v := 100) C dX5_mayStand_23 (by decide) ?_
    refine gm_icmp_eq C 52 dX5_mayStand_25 (by decide) (fun c2 => ?_) (fun c2 => ?_)
    · have hf := gm_it _ c2 hf
      refine gm_iconst (v := 1) C dX5_mayStand_52 (by decide) ?_
      refine gm_goto C 57 dX5_mayStand_53 (by decide) ?_
      exact gm_iretK C hr rfl dX5_mayStand_57 hf
    · have hf := gm_if _ c2 hf
      refine gm_iload_n C dX5_mayStand_28 rfl 1 rfl ?_
      refine gm_bipush (v := 109) C dX5_mayStand_29 (by decide) ?_
      refine gm_icmp_eq C 52 dX5_mayStand_31 (by decide) (fun c3 => ?_) (fun c3 => ?_)
      · have hf := gm_it _ c3 hf
        refine gm_iconst (v := 1) C dX5_mayStand_52 (by decide) ?_
        refine gm_goto C 57 dX5_mayStand_53 (by decide) ?_
        exact gm_iretK C hr rfl dX5_mayStand_57 hf
      · have hf := gm_if _ c3 hf
        refine gm_iload_n C dX5_mayStand_34 rfl 1 rfl ?_
        refine gm_bipush (v := 114) C dX5_mayStand_35 (by decide) ?_
        refine gm_icmp_eq C 52 dX5_mayStand_37 (by decide) (fun c4 => ?_) (fun c4 => ?_)
        · have hf := gm_it _ c4 hf
          refine gm_iconst (v := 1) C dX5_mayStand_52 (by decide) ?_
          refine gm_goto C 57 dX5_mayStand_53 (by decide) ?_
          exact gm_iretK C hr rfl dX5_mayStand_57 hf
        · have hf := gm_if _ c4 hf
          refine gm_iload_n C dX5_mayStand_40 rfl 1 rfl ?_
          refine gm_bipush (v := 110) C dX5_mayStand_41 (by decide) ?_
          refine gm_icmp_eq C 52 dX5_mayStand_43 (by decide) (fun c5 => ?_) (fun c5 => ?_)
          · have hf := gm_it _ c5 hf
            refine gm_iconst (v := 1) C dX5_mayStand_52 (by decide) ?_
            refine gm_goto C 57 dX5_mayStand_53 (by decide) ?_
            exact gm_iretK C hr rfl dX5_mayStand_57 hf
          · have hf := gm_if _ c5 hf
            refine gm_iload_n C dX5_mayStand_46 rfl 1 rfl ?_
            refine gm_bipush (v := 112) C dX5_mayStand_47 (by decide) ?_
            refine gm_icmp_ne C 56 dX5_mayStand_49 (by decide) (fun c6 => ?_) (fun c6 => ?_)
            · have hf := gm_if _ c6 hf
              refine gm_iconst (v := 0) C dX5_mayStand_56 (by decide) ?_
              exact gm_iretK C hr rfl dX5_mayStand_57 hf
            · have hf := gm_it _ c6 hf
              refine gm_iconst (v := 1) C dX5_mayStand_52 (by decide) ?_
              refine gm_goto C 57 dX5_mayStand_53 (by decide) ?_
              exact gm_iretK C hr rfl dX5_mayStand_57 hf
  · have hf := gm_it _ c1 hf
    refine gm_iload_n C dX5_mayStand_10 rfl 1 rfl ?_
    refine gm_bipush (v := 100) C dX5_mayStand_11 (by decide) ?_
    refine gm_icmp_ne C 20 dX5_mayStand_13 (by decide) (fun c7 => ?_) (fun c7 => ?_)
    · have hf := gm_if _ c7 hf
      refine gm_iconst (v := 0) C dX5_mayStand_20 (by decide) ?_
      exact gm_iretK C hr rfl dX5_mayStand_21 hf
    · have hf := gm_it _ c7 hf
      refine gm_iconst (v := 1) C dX5_mayStand_16 (by decide) ?_
      refine gm_goto C 21 dX5_mayStand_17 (by decide) ?_
      exact gm_iretK C hr rfl dX5_mayStand_21 hf
theorem dX5_setFault_0 : decode cX5_setFault 0 = .ok (.aload_n 0, 1) := by decide +kernel
theorem dX5_setFault_1 : decode cX5_setFault 1 = .ok (.getfield 32, 3) := by decide +kernel
theorem dX5_setFault_4 : decode cX5_setFault 4 = .ok (.ifCond .ne 13, 3) := by decide +kernel
theorem dX5_setFault_7 : decode cX5_setFault 7 = .ok (.aload_n 0, 1) := by decide +kernel
theorem dX5_setFault_8 : decode cX5_setFault 8 = .ok (.iload_n 1, 1) := by decide +kernel
theorem dX5_setFault_9 : decode cX5_setFault 9 = .ok (.putfield 32, 3) := by decide +kernel
theorem dX5_setFault_12 : decode cX5_setFault 12 = .ok (.aload_n 0, 1) := by decide +kernel
theorem dX5_setFault_13 : decode cX5_setFault 13 = .ok (.iload_n 2, 1) := by decide +kernel
theorem dX5_setFault_14 : decode cX5_setFault 14 = .ok (.putfield 35, 3) := by decide +kernel
theorem dX5_setFault_17 : decode cX5_setFault 17 = .ok (.return_, 1) := by decide +kernel
def Rd_setFault (a0 : Int32) (a1 : Int32) (S : gm_M) : Option gm_M :=
  if S.1 1 4 = 0 then (
    gm_lt (α := gm_M) (gm_ui S 1 4 a0) fun S2 =>
    gm_lt (α := gm_M) (gm_ui S2 1 5 a1) fun S3 =>
    some S3
  ) else (
    some S
  )
set_option maxHeartbeats 4000000 in
set_option maxRecDepth 100000 in
theorem Rd_setFault_c (l : Launch) (cf : gm_C) (ad : Nat → Nat)    {a0 : Int32} {a1 : Int32} {S : gm_M}  {S'  : gm_M} (hf : Rd_setFault a0 a1 S = some S') : gm_Met l yX5_setFault cX5_setFault 3 none 0 0 cf ad gm_sC 106 [.ref (ad 1), .int a0, .int a1] S none S' := by
  refine gm_met (by decide +kernel) (Nat.le_of_ble_eq_true rfl) ?_
  intro p e s m args below meth c C hr
  have C : gm_F p s m args meth c cf ad 106 cX5_setFault 3 RX5 := C
  refine gm_lve (lv' := [(0, .ref (ad 1)), (1, .int a0), (2, .int a1)]) rfl ?_
  unfold Rd_setFault at hf
  refine gm_aload_n C dX5_setFault_0 rfl 0 rfl ?_
  refine gm_geti C (Nat.le_of_ble_eq_true rfl) rfl kc_5 (k := 4) rfl (by decide) rfl wl_155 dX5_setFault_1 ?_
  refine gm_if_ne C 17 dX5_setFault_4 (by decide) (fun c1 => ?_) (fun c1 => ?_)
  · have hf := gm_if _ c1 hf
    exact gm_vret C hr dX5_setFault_17 hf
  · have hf := gm_it _ c1 hf
    refine gm_aload_n C dX5_setFault_7 rfl 0 rfl ?_
    refine gm_iload_n C dX5_setFault_8 rfl 1 rfl ?_
    refine gm_puti C (Nat.le_of_ble_eq_true rfl) rfl kc_5 (k := 4) rfl (by decide) rfl rfl (kc_5.2.2.2.1 4 (by decide)) rfl rfl wl_155 dX5_setFault_9 ?_
    obtain ⟨S2, eS2, hf⟩ := gm_lt_s hf
    refine gm_topm eS2 ?_
    refine gm_aload_n C dX5_setFault_12 rfl 0 rfl ?_
    refine gm_iload_n C dX5_setFault_13 rfl 2 rfl ?_
    refine gm_puti C (Nat.le_of_ble_eq_true rfl) rfl kc_5 (k := 5) rfl (by decide) rfl rfl (kc_5.2.2.2.1 5 (by decide)) rfl rfl wl_157 dX5_setFault_14 ?_
    obtain ⟨S3, eS3, hf⟩ := gm_lt_s hf
    refine gm_topm eS3 ?_
    exact gm_vret C hr dX5_setFault_17 hf
theorem dX5_isOneTooMany_0 : decode cX5_isOneTooMany 0 = .ok (.iload_n 1, 1) := by decide +kernel
theorem dX5_isOneTooMany_1 : decode cX5_isOneTooMany 1 = .ok (.lookupswitch 98 #[(100, 43), (109, 59), (110, 81), (114, 64)], 43) := by decide +kernel
theorem dX5_isOneTooMany_44 : decode cX5_isOneTooMany 44 = .ok (.aload_n 0, 1) := by decide +kernel
theorem dX5_isOneTooMany_45 : decode cX5_isOneTooMany 45 = .ok (.getfield 21, 3) := by decide +kernel
theorem dX5_isOneTooMany_48 : decode cX5_isOneTooMany 48 = .ok (.getfield 84, 3) := by decide +kernel
theorem dX5_isOneTooMany_51 : decode cX5_isOneTooMany 51 = .ok (.ifCond .eq 7, 3) := by decide +kernel
theorem dX5_isOneTooMany_54 : decode cX5_isOneTooMany 54 = .ok (.iconst 1, 1) := by decide +kernel
theorem dX5_isOneTooMany_55 : decode cX5_isOneTooMany 55 = .ok (.goto 4, 3) := by decide +kernel
theorem dX5_isOneTooMany_58 : decode cX5_isOneTooMany 58 = .ok (.iconst 0, 1) := by decide +kernel
theorem dX5_isOneTooMany_59 : decode cX5_isOneTooMany 59 = .ok (.ireturn, 1) := by decide +kernel
theorem dX5_isOneTooMany_60 : decode cX5_isOneTooMany 60 = .ok (.aload_n 0, 1) := by decide +kernel
theorem dX5_isOneTooMany_61 : decode cX5_isOneTooMany 61 = .ok (.getfield 38, 3) := by decide +kernel
theorem dX5_isOneTooMany_64 : decode cX5_isOneTooMany 64 = .ok (.ireturn, 1) := by decide +kernel
theorem dX5_isOneTooMany_65 : decode cX5_isOneTooMany 65 = .ok (.aload_n 0, 1) := by decide +kernel
theorem dX5_isOneTooMany_66 : decode cX5_isOneTooMany 66 = .ok (.getfield 21, 3) := by decide +kernel
theorem dX5_isOneTooMany_69 : decode cX5_isOneTooMany 69 = .ok (.getfield 87, 3) := by decide +kernel
theorem dX5_isOneTooMany_72 : decode cX5_isOneTooMany 72 = .ok (.iconst 4, 1) := by decide +kernel
theorem dX5_isOneTooMany_73 : decode cX5_isOneTooMany 73 = .ok (.if_icmp .ne 7, 3) := by decide +kernel
theorem dX5_isOneTooMany_76 : decode cX5_isOneTooMany 76 = .ok (.iconst 1, 1) := by decide +kernel
theorem dX5_isOneTooMany_77 : decode cX5_isOneTooMany 77 = .ok (.goto 4, 3) := by decide +kernel
theorem dX5_isOneTooMany_80 : decode cX5_isOneTooMany 80 = .ok (.iconst 0, 1) := by decide +kernel
theorem dX5_isOneTooMany_81 : decode cX5_isOneTooMany 81 = .ok (.ireturn, 1) := by decide +kernel
theorem dX5_isOneTooMany_82 : decode cX5_isOneTooMany 82 = .ok (.aload_n 0, 1) := by decide +kernel
theorem dX5_isOneTooMany_83 : decode cX5_isOneTooMany 83 = .ok (.getfield 21, 3) := by decide +kernel
theorem dX5_isOneTooMany_86 : decode cX5_isOneTooMany 86 = .ok (.getfield 90, 3) := by decide +kernel
theorem dX5_isOneTooMany_89 : decode cX5_isOneTooMany 89 = .ok (.iconst 4, 1) := by decide +kernel
theorem dX5_isOneTooMany_90 : decode cX5_isOneTooMany 90 = .ok (.if_icmp .ne 7, 3) := by decide +kernel
theorem dX5_isOneTooMany_93 : decode cX5_isOneTooMany 93 = .ok (.iconst 1, 1) := by decide +kernel
theorem dX5_isOneTooMany_94 : decode cX5_isOneTooMany 94 = .ok (.goto 4, 3) := by decide +kernel
theorem dX5_isOneTooMany_97 : decode cX5_isOneTooMany 97 = .ok (.iconst 0, 1) := by decide +kernel
theorem dX5_isOneTooMany_98 : decode cX5_isOneTooMany 98 = .ok (.ireturn, 1) := by decide +kernel
theorem dX5_isOneTooMany_99 : decode cX5_isOneTooMany 99 = .ok (.aload_n 0, 1) := by decide +kernel
theorem dX5_isOneTooMany_100 : decode cX5_isOneTooMany 100 = .ok (.getfield 21, 3) := by decide +kernel
theorem dX5_isOneTooMany_103 : decode cX5_isOneTooMany 103 = .ok (.getfield 93, 3) := by decide +kernel
theorem dX5_isOneTooMany_106 : decode cX5_isOneTooMany 106 = .ok (.iconst 5, 1) := by decide +kernel
theorem dX5_isOneTooMany_107 : decode cX5_isOneTooMany 107 = .ok (.if_icmp .ne 7, 3) := by decide +kernel
theorem dX5_isOneTooMany_110 : decode cX5_isOneTooMany 110 = .ok (.iconst 1, 1) := by decide +kernel
theorem dX5_isOneTooMany_111 : decode cX5_isOneTooMany 111 = .ok (.goto 4, 3) := by decide +kernel
theorem dX5_isOneTooMany_114 : decode cX5_isOneTooMany 114 = .ok (.iconst 0, 1) := by decide +kernel
theorem dX5_isOneTooMany_115 : decode cX5_isOneTooMany 115 = .ok (.ireturn, 1) := by decide +kernel
def Rd_isOneTooMany (a0 : Int32) (S : gm_M) : Option Int32 :=
  if a0 = 100 then (
    if S.1 4 3 = 0 then (
      some (0)
    ) else (
      some (1)
    )
  ) else (
  if a0 = 109 then (
    gm_lt (α := Int32) (S.1 1 6) fun x5 =>
    if vp_nar .boolean x5 = x5 then (some x5) else none
  ) else (
  if a0 = 110 then (
    if S.1 4 7 = 4 then (
      some (1)
    ) else (
      some (0)
    )
  ) else (
  if a0 = 114 then (
    if S.1 4 6 = 4 then (
      some (1)
    ) else (
      some (0)
    )
  ) else (
    if S.1 4 8 = 5 then (
      some (1)
    ) else (
      some (0)
    )
  ))))
set_option maxHeartbeats 4000000 in
set_option maxRecDepth 100000 in
theorem Rd_isOneTooMany_c (l : Launch) (cf : gm_C) (ad : Nat → Nat)    {a0 : Int32} {S : gm_M} {r : Int32}  (hf : Rd_isOneTooMany a0 S = some r) : gm_Met l yX5_isOneTooMany cX5_isOneTooMany 2 (some .boolean) 0 0 cf ad gm_sC 106 [.ref (ad 1), .int a0] S (some (.int r)) S := by
  refine gm_met (by decide +kernel) (Nat.le_of_ble_eq_true rfl) ?_
  intro p e s m args below meth c C hr
  have C : gm_F p s m args meth c cf ad 106 cX5_isOneTooMany 2 RX5 := C
  refine gm_lve (lv' := [(0, .ref (ad 1)), (1, .int a0)]) rfl ?_
  unfold Rd_isOneTooMany at hf
  refine gm_iload_n C dX5_isOneTooMany_0 rfl 1 rfl ?_
  by_cases c1 : a0 = 100
  · have hf := gm_it _ c1 hf
    refine gm_lookup (off := 43) C 44 dX5_isOneTooMany_1 rfl (by rw [c1] <;> rfl) (by decide) ?_
    refine gm_aload_n C dX5_isOneTooMany_44 rfl 0 rfl ?_
    refine gm_getr (j := 3) (u := 4) C (Nat.le_of_ble_eq_true rfl) rfl kc_5 (k := 1) rfl (by decide) rfl rfl wl_151 dX5_isOneTooMany_45 ?_
    refine gm_geti C (Nat.le_of_ble_eq_true rfl) rfl kc_9 (k := 3) rfl (by decide) rfl wl_112 dX5_isOneTooMany_48 ?_
    refine gm_if_eq C 58 dX5_isOneTooMany_51 (by decide) (fun c2 => ?_) (fun c2 => ?_)
    · have hf := gm_it _ c2 hf
      refine gm_iconst (v := 0) C dX5_isOneTooMany_58 (by decide) ?_
      exact gm_iretK C hr rfl dX5_isOneTooMany_59 hf
    · have hf := gm_if _ c2 hf
      refine gm_iconst (v := 1) C dX5_isOneTooMany_54 (by decide) ?_
      refine gm_goto C 59 dX5_isOneTooMany_55 (by decide) ?_
      exact gm_iretK C hr rfl dX5_isOneTooMany_59 hf
  · have hf := gm_if _ c1 hf
    by_cases c3 : a0 = 109
    · have hf := gm_it _ c3 hf
      refine gm_lookup (off := 59) C 60 dX5_isOneTooMany_1 rfl (by rw [c3] <;> rfl) (by decide) ?_
      refine gm_aload_n C dX5_isOneTooMany_60 rfl 0 rfl ?_
      refine gm_geti C (Nat.le_of_ble_eq_true rfl) rfl kc_5 (k := 6) rfl (by decide) rfl wl_159 dX5_isOneTooMany_61 ?_
      obtain ⟨x5, ex5, hf⟩ := gm_lt_s hf
      refine gm_topi ex5 ?_
      obtain ⟨h4, hf⟩ := gm_in _ hf
      exact gm_iretK C hr (gm_zb h4) dX5_isOneTooMany_64 hf
    · have hf := gm_if _ c3 hf
      by_cases c6 : a0 = 110
      · have hf := gm_it _ c6 hf
        refine gm_lookup (off := 81) C 82 dX5_isOneTooMany_1 rfl (by rw [c6] <;> rfl) (by decide) ?_
        refine gm_aload_n C dX5_isOneTooMany_82 rfl 0 rfl ?_
        refine gm_getr (j := 3) (u := 4) C (Nat.le_of_ble_eq_true rfl) rfl kc_5 (k := 1) rfl (by decide) rfl rfl wl_151 dX5_isOneTooMany_83 ?_
        refine gm_geti C (Nat.le_of_ble_eq_true rfl) rfl kc_9 (k := 7) rfl (by decide) rfl wl_125 dX5_isOneTooMany_86 ?_
        refine gm_iconst (v := 4) C dX5_isOneTooMany_89 (by decide) ?_
        refine gm_icmp_ne C 97 dX5_isOneTooMany_90 (by decide) (fun c7 => ?_) (fun c7 => ?_)
        · have hf := gm_if _ c7 hf
          refine gm_iconst (v := 0) C dX5_isOneTooMany_97 (by decide) ?_
          exact gm_iretK C hr rfl dX5_isOneTooMany_98 hf
        · have hf := gm_it _ c7 hf
          refine gm_iconst (v := 1) C dX5_isOneTooMany_93 (by decide) ?_
          refine gm_goto C 98 dX5_isOneTooMany_94 (by decide) ?_
          exact gm_iretK C hr rfl dX5_isOneTooMany_98 hf
      · have hf := gm_if _ c6 hf
        by_cases c8 : a0 = 114
        · have hf := gm_it _ c8 hf
          refine gm_lookup (off := 64) C 65 dX5_isOneTooMany_1 rfl (by rw [c8] <;> rfl) (by decide) ?_
          refine gm_aload_n C dX5_isOneTooMany_65 rfl 0 rfl ?_
          refine gm_getr (j := 3) (u := 4) C (Nat.le_of_ble_eq_true rfl) rfl kc_5 (k := 1) rfl (by decide) rfl rfl wl_151 dX5_isOneTooMany_66 ?_
          refine gm_geti C (Nat.le_of_ble_eq_true rfl) rfl kc_9 (k := 6) rfl (by decide) rfl wl_122 dX5_isOneTooMany_69 ?_
          refine gm_iconst (v := 4) C dX5_isOneTooMany_72 (by decide) ?_
          refine gm_icmp_ne C 80 dX5_isOneTooMany_73 (by decide) (fun c9 => ?_) (fun c9 => ?_)
          · have hf := gm_if _ c9 hf
            refine gm_iconst (v := 0) C dX5_isOneTooMany_80 (by decide) ?_
            exact gm_iretK C hr rfl dX5_isOneTooMany_81 hf
          · have hf := gm_it _ c9 hf
            refine gm_iconst (v := 1) C dX5_isOneTooMany_76 (by decide) ?_
            refine gm_goto C 81 dX5_isOneTooMany_77 (by decide) ?_
            exact gm_iretK C hr rfl dX5_isOneTooMany_81 hf
        · have hf := gm_if _ c8 hf
          refine gm_lookup (off := 98) C 99 dX5_isOneTooMany_1 rfl (by show Op.lookupswitch.offset [(100, 43), (109, 59), (110, 81), (114, 64)] 98 _ = 98; rw [lv_osw (a := 100) c1 (by decide), lv_osw (a := 109) c3 (by decide), lv_osw (a := 110) c6 (by decide), lv_osw (a := 114) c8 (by decide)] <;> rfl) (by decide) ?_
          refine gm_aload_n C dX5_isOneTooMany_99 rfl 0 rfl ?_
          refine gm_getr (j := 3) (u := 4) C (Nat.le_of_ble_eq_true rfl) rfl kc_5 (k := 1) rfl (by decide) rfl rfl wl_151 dX5_isOneTooMany_100 ?_
          refine gm_geti C (Nat.le_of_ble_eq_true rfl) rfl kc_9 (k := 8) rfl (by decide) rfl wl_128 dX5_isOneTooMany_103 ?_
          refine gm_iconst (v := 5) C dX5_isOneTooMany_106 (by decide) ?_
          refine gm_icmp_ne C 114 dX5_isOneTooMany_107 (by decide) (fun c10 => ?_) (fun c10 => ?_)
          · have hf := gm_if _ c10 hf
            refine gm_iconst (v := 0) C dX5_isOneTooMany_114 (by decide) ?_
            exact gm_iretK C hr rfl dX5_isOneTooMany_115 hf
          · have hf := gm_it _ c10 hf
            refine gm_iconst (v := 1) C dX5_isOneTooMany_110 (by decide) ?_
            refine gm_goto C 115 dX5_isOneTooMany_111 (by decide) ?_
            exact gm_iretK C hr rfl dX5_isOneTooMany_115 hf
theorem dX5_isFigure_0 : decode cX5_isFigure 0 = .ok (.iload_n 1, 1) := by decide +kernel
theorem dX5_isFigure_1 : decode cX5_isFigure 1 = .ok (.bipush 48, 2) := by decide +kernel
theorem dX5_isFigure_3 : decode cX5_isFigure 3 = .ok (.if_icmp .lt 13, 3) := by decide +kernel
theorem dX5_isFigure_6 : decode cX5_isFigure 6 = .ok (.iload_n 1, 1) := by decide +kernel
theorem dX5_isFigure_7 : decode cX5_isFigure 7 = .ok (.bipush 57, 2) := by decide +kernel
theorem dX5_isFigure_9 : decode cX5_isFigure 9 = .ok (.if_icmp .gt 7, 3) := by decide +kernel
theorem dX5_isFigure_12 : decode cX5_isFigure 12 = .ok (.iconst 1, 1) := by decide +kernel
theorem dX5_isFigure_13 : decode cX5_isFigure 13 = .ok (.goto 4, 3) := by decide +kernel
theorem dX5_isFigure_16 : decode cX5_isFigure 16 = .ok (.iconst 0, 1) := by decide +kernel
theorem dX5_isFigure_17 : decode cX5_isFigure 17 = .ok (.ireturn, 1) := by decide +kernel
def Rd_isFigure (a0 : Int32) : Option Int32 :=
  if a0 < 48 then (
    some (0)
  ) else (
    if (57 : Int32) < a0 then (
      some (0)
    ) else (
      some (1)
    )
  )
set_option maxHeartbeats 4000000 in
set_option maxRecDepth 100000 in
theorem Rd_isFigure_c (l : Launch) (cf : gm_C) (ad : Nat → Nat)    {a0 : Int32} {S : gm_M} {r : Int32}  (hf : Rd_isFigure a0 = some r) : gm_Met l yX5_isFigure cX5_isFigure 2 (some .boolean) 0 0 cf ad gm_sC 106 [.ref (ad 1), .int a0] S (some (.int r)) S := by
  refine gm_met (by decide +kernel) (Nat.le_of_ble_eq_true rfl) ?_
  intro p e s m args below meth c C hr
  have C : gm_F p s m args meth c cf ad 106 cX5_isFigure 2 RX5 := C
  refine gm_lve (lv' := [(0, .ref (ad 1)), (1, .int a0)]) rfl ?_
  unfold Rd_isFigure at hf
  refine gm_iload_n C dX5_isFigure_0 rfl 1 rfl ?_
  refine gm_bipush (v := 48) C dX5_isFigure_1 (by decide) ?_
  refine gm_icmp_lt C 16 dX5_isFigure_3 (by decide) (fun c1 => ?_) (fun c1 => ?_)
  · have hf := gm_it _ c1 hf
    refine gm_iconst (v := 0) C dX5_isFigure_16 (by decide) ?_
    exact gm_iretK C hr rfl dX5_isFigure_17 hf
  · have hf := gm_if _ c1 hf
    refine gm_iload_n C dX5_isFigure_6 rfl 1 rfl ?_
    refine gm_bipush (v := 57) C dX5_isFigure_7 (by decide) ?_
    refine gm_icmp_gt C 16 dX5_isFigure_9 (by decide) (fun c2 => ?_) (fun c2 => ?_)
    · have hf := gm_it _ c2 hf
      refine gm_iconst (v := 0) C dX5_isFigure_16 (by decide) ?_
      exact gm_iretK C hr rfl dX5_isFigure_17 hf
    · have hf := gm_if _ c2 hf
      refine gm_iconst (v := 1) C dX5_isFigure_12 (by decide) ?_
      refine gm_goto C 17 dX5_isFigure_13 (by decide) ?_
      exact gm_iretK C hr rfl dX5_isFigure_17 hf
end
section
theorem dX5_readNumber_0 : decode cX5_readNumber 0 = .ok (.aload_n 0, 1) := by decide +kernel
theorem dX5_readNumber_1 : decode cX5_readNumber 1 = .ok (.invokevirtual 42, 3) := by decide +kernel
theorem dX5_readNumber_4 : decode cX5_readNumber 4 = .ok (.aload_n 0, 1) := by decide +kernel
theorem dX5_readNumber_5 : decode cX5_readNumber 5 = .ok (.aload_n 0, 1) := by decide +kernel
theorem dX5_readNumber_6 : decode cX5_readNumber 6 = .ok (.getfield 28, 3) := by decide +kernel
theorem dX5_readNumber_9 : decode cX5_readNumber 9 = .ok (.putfield 105, 3) := by decide +kernel
theorem dX5_readNumber_12 : decode cX5_readNumber 12 = .ok (.iconst 0, 1) := by decide +kernel
theorem dX5_readNumber_13 : decode cX5_readNumber 13 = .ok (.istore_n 3, 1) := by decide +kernel
theorem dX5_readNumber_14 : decode cX5_readNumber 14 = .ok (.iconst 0, 1) := by decide +kernel
theorem dX5_readNumber_15 : decode cX5_readNumber 15 = .ok (.istore 4, 2) := by decide +kernel
theorem dX5_readNumber_17 : decode cX5_readNumber 17 = .ok (.iload 4, 2) := by decide +kernel
theorem dX5_readNumber_19 : decode cX5_readNumber 19 = .ok (.sipush 240, 3) := by decide +kernel
theorem dX5_readNumber_22 : decode cX5_readNumber 22 = .ok (.if_icmp .ge 70, 3) := by decide +kernel
theorem dX5_readNumber_25 : decode cX5_readNumber 25 = .ok (.aload_n 0, 1) := by decide +kernel
theorem dX5_readNumber_26 : decode cX5_readNumber 26 = .ok (.aload_n 0, 1) := by decide +kernel
theorem dX5_readNumber_27 : decode cX5_readNumber 27 = .ok (.getfield 12, 3) := by decide +kernel
theorem dX5_readNumber_30 : decode cX5_readNumber 30 = .ok (.aload_n 0, 1) := by decide +kernel
theorem dX5_readNumber_31 : decode cX5_readNumber 31 = .ok (.getfield 28, 3) := by decide +kernel
theorem dX5_readNumber_34 : decode cX5_readNumber 34 = .ok (.invokevirtual 51, 3) := by decide +kernel
theorem dX5_readNumber_37 : decode cX5_readNumber 37 = .ok (.invokevirtual 130, 3) := by decide +kernel
theorem dX5_readNumber_40 : decode cX5_readNumber 40 = .ok (.ifCond .eq 52, 3) := by decide +kernel
theorem dX5_readNumber_43 : decode cX5_readNumber 43 = .ok (.aload_n 0, 1) := by decide +kernel
theorem dX5_readNumber_44 : decode cX5_readNumber 44 = .ok (.getfield 28, 3) := by decide +kernel
theorem dX5_readNumber_47 : decode cX5_readNumber 47 = .ok (.aload_n 0, 1) := by decide +kernel
theorem dX5_readNumber_48 : decode cX5_readNumber 48 = .ok (.getfield 105, 3) := by decide +kernel
theorem dX5_readNumber_51 : decode cX5_readNumber 51 = .ok (.isub, 1) := by decide +kernel
theorem dX5_readNumber_52 : decode cX5_readNumber 52 = .ok (.iconst 4, 1) := by decide +kernel
theorem dX5_readNumber_53 : decode cX5_readNumber 53 = .ok (.if_icmp .ge 23, 3) := by decide +kernel
theorem dX5_readNumber_56 : decode cX5_readNumber 56 = .ok (.iload_n 3, 1) := by decide +kernel
theorem dX5_readNumber_57 : decode cX5_readNumber 57 = .ok (.bipush 10, 2) := by decide +kernel
theorem dX5_readNumber_59 : decode cX5_readNumber 59 = .ok (.imul, 1) := by decide +kernel
theorem dX5_readNumber_60 : decode cX5_readNumber 60 = .ok (.aload_n 0, 1) := by decide +kernel
theorem dX5_readNumber_61 : decode cX5_readNumber 61 = .ok (.getfield 12, 3) := by decide +kernel
theorem dX5_readNumber_64 : decode cX5_readNumber 64 = .ok (.aload_n 0, 1) := by decide +kernel
theorem dX5_readNumber_65 : decode cX5_readNumber 65 = .ok (.getfield 28, 3) := by decide +kernel
theorem dX5_readNumber_68 : decode cX5_readNumber 68 = .ok (.invokevirtual 51, 3) := by decide +kernel
theorem dX5_readNumber_71 : decode cX5_readNumber 71 = .ok (.bipush 48, 2) := by decide +kernel
theorem dX5_readNumber_73 : decode cX5_readNumber 73 = .ok (.isub, 1) := by decide +kernel
theorem dX5_readNumber_74 : decode cX5_readNumber 74 = .ok (.iadd, 1) := by decide +kernel
theorem dX5_readNumber_75 : decode cX5_readNumber 75 = .ok (.istore_n 3, 1) := by decide +kernel
theorem dX5_readNumber_76 : decode cX5_readNumber 76 = .ok (.aload_n 0, 1) := by decide +kernel
theorem dX5_readNumber_77 : decode cX5_readNumber 77 = .ok (.dup, 1) := by decide +kernel
theorem dX5_readNumber_78 : decode cX5_readNumber 78 = .ok (.getfield 28, 3) := by decide +kernel
theorem dX5_readNumber_81 : decode cX5_readNumber 81 = .ok (.iconst 1, 1) := by decide +kernel
theorem dX5_readNumber_82 : decode cX5_readNumber 82 = .ok (.iadd, 1) := by decide +kernel
theorem dX5_readNumber_83 : decode cX5_readNumber 83 = .ok (.putfield 28, 3) := by decide +kernel
theorem dX5_readNumber_86 : decode cX5_readNumber 86 = .ok (.iinc 4 1, 3) := by decide +kernel
theorem dX5_readNumber_89 : decode cX5_readNumber 89 = .ok (.goto (-72), 3) := by decide +kernel
theorem dX5_readNumber_92 : decode cX5_readNumber 92 = .ok (.aload_n 0, 1) := by decide +kernel
theorem dX5_readNumber_93 : decode cX5_readNumber 93 = .ok (.getfield 28, 3) := by decide +kernel
theorem dX5_readNumber_96 : decode cX5_readNumber 96 = .ok (.aload_n 0, 1) := by decide +kernel
theorem dX5_readNumber_97 : decode cX5_readNumber 97 = .ok (.getfield 105, 3) := by decide +kernel
theorem dX5_readNumber_100 : decode cX5_readNumber 100 = .ok (.if_icmp .ne 15, 3) := by decide +kernel
theorem dX5_readNumber_103 : decode cX5_readNumber 103 = .ok (.aload_n 0, 1) := by decide +kernel
theorem dX5_readNumber_104 : decode cX5_readNumber 104 = .ok (.iconst 1, 1) := by decide +kernel
theorem dX5_readNumber_105 : decode cX5_readNumber 105 = .ok (.aload_n 0, 1) := by decide +kernel
theorem dX5_readNumber_106 : decode cX5_readNumber 106 = .ok (.getfield 28, 3) := by decide +kernel
theorem dX5_readNumber_109 : decode cX5_readNumber 109 = .ok (.invokevirtual 59, 3) := by decide +kernel
theorem dX5_readNumber_112 : decode cX5_readNumber 112 = .ok (.goto 35, 3) := by decide +kernel
theorem dX5_readNumber_115 : decode cX5_readNumber 115 = .ok (.aload_n 0, 1) := by decide +kernel
theorem dX5_readNumber_116 : decode cX5_readNumber 116 = .ok (.getfield 28, 3) := by decide +kernel
theorem dX5_readNumber_119 : decode cX5_readNumber 119 = .ok (.aload_n 0, 1) := by decide +kernel
theorem dX5_readNumber_120 : decode cX5_readNumber 120 = .ok (.getfield 105, 3) := by decide +kernel
theorem dX5_readNumber_123 : decode cX5_readNumber 123 = .ok (.isub, 1) := by decide +kernel
theorem dX5_readNumber_124 : decode cX5_readNumber 124 = .ok (.iconst 4, 1) := by decide +kernel
theorem dX5_readNumber_125 : decode cX5_readNumber 125 = .ok (.if_icmp .gt 13, 3) := by decide +kernel
theorem dX5_readNumber_128 : decode cX5_readNumber 128 = .ok (.iload_n 3, 1) := by decide +kernel
theorem dX5_readNumber_129 : decode cX5_readNumber 129 = .ok (.iload_n 1, 1) := by decide +kernel
theorem dX5_readNumber_130 : decode cX5_readNumber 130 = .ok (.if_icmp .lt 8, 3) := by decide +kernel
theorem dX5_readNumber_133 : decode cX5_readNumber 133 = .ok (.iload_n 3, 1) := by decide +kernel
theorem dX5_readNumber_134 : decode cX5_readNumber 134 = .ok (.iload_n 2, 1) := by decide +kernel
theorem dX5_readNumber_135 : decode cX5_readNumber 135 = .ok (.if_icmp .le 12, 3) := by decide +kernel
theorem dX5_readNumber_138 : decode cX5_readNumber 138 = .ok (.aload_n 0, 1) := by decide +kernel
theorem dX5_readNumber_139 : decode cX5_readNumber 139 = .ok (.iconst 2, 1) := by decide +kernel
theorem dX5_readNumber_140 : decode cX5_readNumber 140 = .ok (.aload_n 0, 1) := by decide +kernel
theorem dX5_readNumber_141 : decode cX5_readNumber 141 = .ok (.getfield 105, 3) := by decide +kernel
theorem dX5_readNumber_144 : decode cX5_readNumber 144 = .ok (.invokevirtual 59, 3) := by decide +kernel
theorem dX5_readNumber_147 : decode cX5_readNumber 147 = .ok (.iload_n 3, 1) := by decide +kernel
theorem dX5_readNumber_148 : decode cX5_readNumber 148 = .ok (.ireturn, 1) := by decide +kernel
def Rd_readNumber_L17_b  (rec : Int32 → Int32 → gm_M → Option (Int32 × gm_M)) (y3 : Int32) (y4 : Int32) (S5 : gm_M) : Option (Int32 × gm_M) :=
  if (240 : Int32) ≤ y4 then (
    some (y3, S5)
  ) else (
    gm_bp1 (Tx_letterAt (S5.1 1 2) S5) fun v9 =>
    gm_bp1 (Rd_isFigure v9) fun v10 =>
    if v10 = 0 then (
      some (y3, S5)
    ) else (
      gm_bp1 (show Option (Int32) from
        if (4 : Int32) ≤ (S5.1 1 2) - (S5.1 1 3) then (
          some (y3)
        ) else (
          gm_bp1 (Tx_letterAt (S5.1 1 2) S5) fun v16 =>
          gm_lt (α := Int32) ((y3 * 10) + (v16 - 48)) fun x17 =>
          some (x17)
        )
      ) fun x12 =>
      gm_lt (α := gm_M) (gm_ui S5 1 2 ((S5.1 1 2) + 1)) fun S13 =>
      gm_lt (α := Int32) (y4 + 1) fun x14 =>
      rec x12 x14 S13
    )
  )
def Rd_readNumber_L17  : Nat → Int32 → Int32 → gm_M → Option (Int32 × gm_M)
  | 0 => fun _ _ _ => none
  | n + 1 => Rd_readNumber_L17_b  (Rd_readNumber_L17  n)
def Rd_readNumber (fl : Nat) (a0 : Int32) (a1 : Int32) (S : gm_M) : Option (Int32 × gm_M) :=
  gm_bp1 (Rd_skipBlanks fl S) fun S1 =>
  gm_lt (α := gm_M) (gm_ui S1 1 3 (S1.1 1 2)) fun S2 =>
  gm_bp2 (Rd_readNumber_L17  fl 0 0 S2) fun z6 S7 =>
  if S7.1 1 2 = S7.1 1 3 then (
    gm_bp1 (Rd_setFault 1 (S7.1 1 2) S7) fun S25 =>
    some (z6, S25)
  ) else (
    if (4 : Int32) < (S7.1 1 2) - (S7.1 1 3) then (
      gm_bp1 (Rd_setFault 2 (S7.1 1 3) S7) fun S20 =>
      some (z6, S20)
    ) else (
      if z6 < a0 then (
        gm_bp1 (Rd_setFault 2 (S7.1 1 3) S7) fun S22 =>
        some (z6, S22)
      ) else (
        if z6 ≤ a1 then (
          some (z6, S7)
        ) else (
          gm_bp1 (Rd_setFault 2 (S7.1 1 3) S7) fun S24 =>
          some (z6, S24)
        )
      )
    )
  )
set_option maxHeartbeats 4000000 in
set_option maxRecDepth 100000 in
theorem Rd_readNumber_c (l : Launch) (cf : gm_C) (ad : Nat → Nat) {fl : Nat}   {a0 : Int32} {a1 : Int32} {S : gm_M} {r : Int32} {S'  : gm_M} (hf : Rd_readNumber fl a0 a1 S = some (r, S')) : gm_Met l yX5_readNumber cX5_readNumber 5 (some .int) 2 42 cf ad gm_sC 106 [.ref (ad 1), .int a0, .int a1] S (some (.int r)) S' := by
  refine gm_met (by decide +kernel) (Nat.le_of_ble_eq_true rfl) ?_
  intro p e s m args below meth c C hr
  have C : gm_F p s m args meth c cf ad 106 cX5_readNumber 5 RX5 := C
  refine gm_lve (lv' := [(0, .ref (ad 1)), (1, .int a0), (2, .int a1)]) rfl ?_
  unfold Rd_readNumber at hf
  refine gm_aload_n C dX5_readNumber_0 rfl 0 rfl ?_
  obtain ⟨S1, eS1, hf⟩ := gm_bp1_s hf
  refine gm_callVv (As := []) C (Rd_skipBlanks_c l cf ad eS1) (Nat.le_of_ble_eq_true rfl) rfl kc_5 wy_Rd_skipBlanks rfl wl_378 rfl ⟨(Nat.le_of_ble_eq_true rfl), (Nat.le_of_ble_eq_true rfl)⟩ rfl (Nat.le_of_ble_eq_true rfl) dX5_readNumber_1 ?_
  refine gm_aload_n C dX5_readNumber_4 rfl 0 rfl ?_
  refine gm_aload_n C dX5_readNumber_5 rfl 0 rfl ?_
  refine gm_geti C (Nat.le_of_ble_eq_true rfl) rfl kc_5 (k := 2) rfl (by decide) rfl wl_153 dX5_readNumber_6 ?_
  refine gm_puti C (Nat.le_of_ble_eq_true rfl) rfl kc_5 (k := 3) rfl (by decide) rfl rfl (kc_5.2.2.2.1 3 (by decide)) rfl rfl wl_154 dX5_readNumber_9 ?_
  obtain ⟨S2, eS2, hf⟩ := gm_lt_s hf
  refine gm_topm eS2 ?_
  refine gm_iconst (v := 0) C dX5_readNumber_12 (by decide) ?_
  refine gm_istore_n (lv' := [(3, .int 0), (0, .ref (ad 1)), (1, .int a0), (2, .int a1)]) C dX5_readNumber_13 rfl (by decide) rfl ?_
  refine gm_iconst (v := 0) C dX5_readNumber_14 (by decide) ?_
  refine gm_istore (lv' := [(4, .int 0), (3, .int 0), (0, .ref (ad 1)), (1, .int a0), (2, .int a1)]) C dX5_readNumber_15 (by decide) rfl ?_
  have L17 : ∀ (n : Nat) (y3 : Int32) (y4 : Int32) (S5 : gm_M) (z6 : Int32) (S7 : gm_M), Rd_readNumber_L17  n y3 y4 S5 = some (z6, S7) → gm_G p l e { frames := 2, cells := 0, slots := 0, locals := 42 } s m args below meth c (MQ below (gm_Q cf ad gm_sC 106 (some (.int r)) S') args s 0 0 (gm_A ad 106)) cf ad gm_sC 106 5 S7 92 [(0, .ref (ad 1)), (1, .int a0), (2, .int a1), (3, .int z6)] [] → gm_G p l e { frames := 2, cells := 0, slots := 0, locals := 42 } s m args below meth c (MQ below (gm_Q cf ad gm_sC 106 (some (.int r)) S') args s 0 0 (gm_A ad 106)) cf ad gm_sC 106 5 S5 17 [(0, .ref (ad 1)), (1, .int a0), (2, .int a1), (3, .int y3), (4, .int y4)] [] := by
    intro n
    induction n with
    | zero => intro y3 y4 S5 z6 S7 hf K; cases (show (none : Option _) = some _ from hf)
    | succ n ih =>
      intro y3 y4 S5 z6 S7 hf K
      have hf : Rd_readNumber_L17_b  (Rd_readNumber_L17  n) y3 y4 S5 = some (z6, S7) := hf
      unfold Rd_readNumber_L17_b at hf
      refine gm_iload C dX5_readNumber_17 4 rfl ?_
      refine gm_sipush (v := 240) C dX5_readNumber_19 (by decide) ?_
      refine gm_icmp_ge C 92 dX5_readNumber_22 (by decide) (fun c8 => ?_) (fun c8 => ?_)
      · have hf := gm_it _ c8 hf
        cases hf
        exact gm_lvp [0, 1, 2, 3] rfl K
      · have hf := gm_if _ c8 hf
        refine gm_aload_n C dX5_readNumber_25 rfl 0 rfl ?_
        refine gm_aload_n C dX5_readNumber_26 rfl 0 rfl ?_
        refine gm_getr (j := 1) (u := 2) C (Nat.le_of_ble_eq_true rfl) rfl kc_5 (k := 0) rfl (by decide) rfl rfl wl_149 dX5_readNumber_27 ?_
        refine gm_aload_n C dX5_readNumber_30 rfl 0 rfl ?_
        refine gm_geti C (Nat.le_of_ble_eq_true rfl) rfl kc_5 (k := 2) rfl (by decide) rfl wl_153 dX5_readNumber_31 ?_
        obtain ⟨v9, ev9, hf⟩ := gm_bp1_s hf
        refine gm_callVi (As := [.int (S5.1 1 2)]) C (Tx_letterAt_c l cf ad ev9) (Nat.le_of_ble_eq_true rfl) rfl kc_7 wy_Tx_letterAt rfl wl_382 rfl ⟨(Nat.le_of_ble_eq_true rfl), (Nat.le_of_ble_eq_true rfl)⟩ rfl (Nat.le_of_ble_eq_true rfl) dX5_readNumber_34 ?_
        obtain ⟨v10, ev10, hf⟩ := gm_bp1_s hf
        refine gm_callVi (As := [.int v9]) C (Rd_isFigure_c l cf ad ev10 (S := S5)) (Nat.le_of_ble_eq_true rfl) rfl kc_5 wy_Rd_isFigure rfl wl_410 rfl ⟨(Nat.le_of_ble_eq_true rfl), (Nat.le_of_ble_eq_true rfl)⟩ rfl (Nat.le_of_ble_eq_true rfl) dX5_readNumber_37 ?_
        refine gm_if_eq C 92 dX5_readNumber_40 (by decide) (fun c11 => ?_) (fun c11 => ?_)
        · have hf := gm_it _ c11 hf
          cases hf
          exact gm_lvp [0, 1, 2, 3] rfl K
        · have hf := gm_if _ c11 hf
          refine gm_aload_n C dX5_readNumber_43 rfl 0 rfl ?_
          refine gm_geti C (Nat.le_of_ble_eq_true rfl) rfl kc_5 (k := 2) rfl (by decide) rfl wl_153 dX5_readNumber_44 ?_
          refine gm_aload_n C dX5_readNumber_47 rfl 0 rfl ?_
          refine gm_geti C (Nat.le_of_ble_eq_true rfl) rfl kc_5 (k := 3) rfl (by decide) rfl wl_154 dX5_readNumber_48 ?_
          refine gm_isub C dX5_readNumber_51 ?_
          refine gm_iconst (v := 4) C dX5_readNumber_52 (by decide) ?_
          obtain ⟨x12, hx, hf⟩ := gm_bp1_s hf
          have key : gm_G p l e { frames := 2, cells := 0, slots := 0, locals := 42 } s m args below meth c (MQ below (gm_Q cf ad gm_sC 106 (some (.int r)) S') args s 0 0 (gm_A ad 106)) cf ad gm_sC 106 5 S5 76 [(0, .ref (ad 1)), (1, .int a0), (2, .int a1), (3, .int x12), (4, .int y4)] [] := by
            refine gm_aload_n C dX5_readNumber_76 rfl 0 rfl ?_
            refine gm_dup C dX5_readNumber_77 rfl ?_
            refine gm_geti C (Nat.le_of_ble_eq_true rfl) rfl kc_5 (k := 2) rfl (by decide) rfl wl_153 dX5_readNumber_78 ?_
            refine gm_iconst (v := 1) C dX5_readNumber_81 (by decide) ?_
            refine gm_iadd C dX5_readNumber_82 ?_
            refine gm_puti C (Nat.le_of_ble_eq_true rfl) rfl kc_5 (k := 2) rfl (by decide) rfl rfl (kc_5.2.2.2.1 2 (by decide)) rfl rfl wl_153 dX5_readNumber_83 ?_
            obtain ⟨S13, eS13, hf⟩ := gm_lt_s hf
            refine gm_topm eS13 ?_
            obtain ⟨x14, ex14, hf⟩ := gm_lt_s hf
            refine gm_iinc (v := x14) (lv' := [(4, .int x14), (0, .ref (ad 1)), (1, .int a0), (2, .int a1), (3, .int x12)]) (j := 4) C dX5_readNumber_86 rfl (by rw [ex14]; rfl) (by decide) rfl ?_
            refine gm_goto C 17 dX5_readNumber_89 (by decide) ?_
            exact gm_lvp [1, 2, 3, 4, 0] rfl (ih _ _ _ _ _ hf K)
          have hf := hx
          refine gm_icmp_ge C 76 dX5_readNumber_53 (by decide) (fun c15 => ?_) (fun c15 => ?_)
          · have hf := gm_it _ c15 hf
            cases hf
            exact gm_lvp [0, 1, 2, 3, 4] rfl key
          · have hf := gm_if _ c15 hf
            refine gm_iload_n C dX5_readNumber_56 rfl 3 rfl ?_
            refine gm_bipush (v := 10) C dX5_readNumber_57 (by decide) ?_
            refine gm_imul C dX5_readNumber_59 ?_
            refine gm_aload_n C dX5_readNumber_60 rfl 0 rfl ?_
            refine gm_getr (j := 1) (u := 2) C (Nat.le_of_ble_eq_true rfl) rfl kc_5 (k := 0) rfl (by decide) rfl rfl wl_149 dX5_readNumber_61 ?_
            refine gm_aload_n C dX5_readNumber_64 rfl 0 rfl ?_
            refine gm_geti C (Nat.le_of_ble_eq_true rfl) rfl kc_5 (k := 2) rfl (by decide) rfl wl_153 dX5_readNumber_65 ?_
            obtain ⟨v16, ev16, hf⟩ := gm_bp1_s hf
            refine gm_callVi (As := [.int (S5.1 1 2)]) C (Tx_letterAt_c l cf ad ev16) (Nat.le_of_ble_eq_true rfl) rfl kc_7 wy_Tx_letterAt rfl wl_382 rfl ⟨(Nat.le_of_ble_eq_true rfl), (Nat.le_of_ble_eq_true rfl)⟩ rfl (Nat.le_of_ble_eq_true rfl) dX5_readNumber_68 ?_
            refine gm_bipush (v := 48) C dX5_readNumber_71 (by decide) ?_
            refine gm_isub C dX5_readNumber_73 ?_
            refine gm_iadd C dX5_readNumber_74 ?_
            obtain ⟨x17, ex17, hf⟩ := gm_lt_s hf
            refine gm_topi ex17 ?_
            refine gm_istore_n (lv' := [(3, .int x17), (0, .ref (ad 1)), (1, .int a0), (2, .int a1), (4, .int y4)]) C dX5_readNumber_75 rfl (by decide) rfl ?_
            cases hf
            exact gm_lvp [1, 2, 3, 0, 4] rfl key
  obtain ⟨z6, S7, hx, hf⟩ := gm_bp2_s hf
  refine gm_lvp [2, 3, 4, 1, 0] rfl (L17 fl _ _ _ _ _ hx ?_)
  refine gm_aload_n C dX5_readNumber_92 rfl 0 rfl ?_
  refine gm_geti C (Nat.le_of_ble_eq_true rfl) rfl kc_5 (k := 2) rfl (by decide) rfl wl_153 dX5_readNumber_93 ?_
  refine gm_aload_n C dX5_readNumber_96 rfl 0 rfl ?_
  refine gm_geti C (Nat.le_of_ble_eq_true rfl) rfl kc_5 (k := 3) rfl (by decide) rfl wl_154 dX5_readNumber_97 ?_
  refine gm_icmp_ne C 115 dX5_readNumber_100 (by decide) (fun c18 => ?_) (fun c18 => ?_)
  · have hf := gm_if _ c18 hf
    refine gm_aload_n C dX5_readNumber_115 rfl 0 rfl ?_
    refine gm_geti C (Nat.le_of_ble_eq_true rfl) rfl kc_5 (k := 2) rfl (by decide) rfl wl_153 dX5_readNumber_116 ?_
    refine gm_aload_n C dX5_readNumber_119 rfl 0 rfl ?_
    refine gm_geti C (Nat.le_of_ble_eq_true rfl) rfl kc_5 (k := 3) rfl (by decide) rfl wl_154 dX5_readNumber_120 ?_
    refine gm_isub C dX5_readNumber_123 ?_
    refine gm_iconst (v := 4) C dX5_readNumber_124 (by decide) ?_
    refine gm_icmp_gt C 138 dX5_readNumber_125 (by decide) (fun c19 => ?_) (fun c19 => ?_)
    · have hf := gm_it _ c19 hf
      refine gm_aload_n C dX5_readNumber_138 rfl 0 rfl ?_
      refine gm_iconst (v := 2) C dX5_readNumber_139 (by decide) ?_
      refine gm_aload_n C dX5_readNumber_140 rfl 0 rfl ?_
      refine gm_geti C (Nat.le_of_ble_eq_true rfl) rfl kc_5 (k := 3) rfl (by decide) rfl wl_154 dX5_readNumber_141 ?_
      obtain ⟨S20, eS20, hf⟩ := gm_bp1_s hf
      refine gm_callVv (As := [.int 2, .int (S7.1 1 3)]) C (Rd_setFault_c l cf ad eS20) (Nat.le_of_ble_eq_true rfl) rfl kc_5 wy_Rd_setFault rfl wl_394 rfl ⟨(Nat.le_of_ble_eq_true rfl), (Nat.le_of_ble_eq_true rfl)⟩ rfl (Nat.le_of_ble_eq_true rfl) dX5_readNumber_144 ?_
      refine gm_iload_n C dX5_readNumber_147 rfl 3 rfl ?_
      exact gm_iret C hr rfl dX5_readNumber_148 hf
    · have hf := gm_if _ c19 hf
      refine gm_iload_n C dX5_readNumber_128 rfl 3 rfl ?_
      refine gm_iload_n C dX5_readNumber_129 rfl 1 rfl ?_
      refine gm_icmp_lt C 138 dX5_readNumber_130 (by decide) (fun c21 => ?_) (fun c21 => ?_)
      · have hf := gm_it _ c21 hf
        refine gm_aload_n C dX5_readNumber_138 rfl 0 rfl ?_
        refine gm_iconst (v := 2) C dX5_readNumber_139 (by decide) ?_
        refine gm_aload_n C dX5_readNumber_140 rfl 0 rfl ?_
        refine gm_geti C (Nat.le_of_ble_eq_true rfl) rfl kc_5 (k := 3) rfl (by decide) rfl wl_154 dX5_readNumber_141 ?_
        obtain ⟨S22, eS22, hf⟩ := gm_bp1_s hf
        refine gm_callVv (As := [.int 2, .int (S7.1 1 3)]) C (Rd_setFault_c l cf ad eS22) (Nat.le_of_ble_eq_true rfl) rfl kc_5 wy_Rd_setFault rfl wl_394 rfl ⟨(Nat.le_of_ble_eq_true rfl), (Nat.le_of_ble_eq_true rfl)⟩ rfl (Nat.le_of_ble_eq_true rfl) dX5_readNumber_144 ?_
        refine gm_iload_n C dX5_readNumber_147 rfl 3 rfl ?_
        exact gm_iret C hr rfl dX5_readNumber_148 hf
      · have hf := gm_if _ c21 hf
        refine gm_iload_n C dX5_readNumber_133 rfl 3 rfl ?_
        refine gm_iload_n C dX5_readNumber_134 rfl 2 rfl ?_
        refine gm_icmp_le C 147 dX5_readNumber_135 (by decide) (fun c23 => ?_) (fun c23 => ?_)
        · have hf := gm_it _ c23 hf
          refine gm_iload_n C dX5_readNumber_147 rfl 3 rfl ?_
          exact gm_iret C hr rfl dX5_readNumber_148 hf
        · have hf := gm_if _ c23 hf
          refine gm_aload_n C dX5_readNumber_138 rfl 0 rfl ?_
          refine gm_iconst (v := 2) C dX5_readNumber_139 (by decide) ?_
          refine gm_aload_n C dX5_readNumber_140 rfl 0 rfl ?_
          refine gm_geti C (Nat.le_of_ble_eq_true rfl) rfl kc_5 (k := 3) rfl (by decide) rfl wl_154 dX5_readNumber_141 ?_
          obtain ⟨S24, eS24, hf⟩ := gm_bp1_s hf
          refine gm_callVv (As := [.int 2, .int (S7.1 1 3)]) C (Rd_setFault_c l cf ad eS24) (Nat.le_of_ble_eq_true rfl) rfl kc_5 wy_Rd_setFault rfl wl_394 rfl ⟨(Nat.le_of_ble_eq_true rfl), (Nat.le_of_ble_eq_true rfl)⟩ rfl (Nat.le_of_ble_eq_true rfl) dX5_readNumber_144 ?_
          refine gm_iload_n C dX5_readNumber_147 rfl 3 rfl ?_
          exact gm_iret C hr rfl dX5_readNumber_148 hf
  · have hf := gm_it _ c18 hf
    refine gm_aload_n C dX5_readNumber_103 rfl 0 rfl ?_
    refine gm_iconst (v := 1) C dX5_readNumber_104 (by decide) ?_
    refine gm_aload_n C dX5_readNumber_105 rfl 0 rfl ?_
    refine gm_geti C (Nat.le_of_ble_eq_true rfl) rfl kc_5 (k := 2) rfl (by decide) rfl wl_153 dX5_readNumber_106 ?_
    obtain ⟨S25, eS25, hf⟩ := gm_bp1_s hf
    refine gm_callVv (As := [.int 1, .int (S7.1 1 2)]) C (Rd_setFault_c l cf ad eS25) (Nat.le_of_ble_eq_true rfl) rfl kc_5 wy_Rd_setFault rfl wl_394 rfl ⟨(Nat.le_of_ble_eq_true rfl), (Nat.le_of_ble_eq_true rfl)⟩ rfl (Nat.le_of_ble_eq_true rfl) dX5_readNumber_109 ?_
    refine gm_goto C 147 dX5_readNumber_112 (by decide) ?_
    refine gm_iload_n C dX5_readNumber_147 rfl 3 rfl ?_
    exact gm_iret C hr rfl dX5_readNumber_148 hf
theorem dX5_readFigures_0 : decode cX5_readFigures 0 = .ok (.aload_n 0, 1) := by decide +kernel
theorem dX5_readFigures_1 : decode cX5_readFigures 1 = .ok (.iconst 2, 1) := by decide +kernel
theorem dX5_readFigures_2 : decode cX5_readFigures 2 = .ok (.iconst 4, 1) := by decide +kernel
theorem dX5_readFigures_3 : decode cX5_readFigures 3 = .ok (.invokevirtual 96, 3) := by decide +kernel
theorem dX5_readFigures_6 : decode cX5_readFigures 6 = .ok (.istore_n 1, 1) := by decide +kernel
theorem dX5_readFigures_7 : decode cX5_readFigures 7 = .ok (.aload_n 0, 1) := by decide +kernel
theorem dX5_readFigures_8 : decode cX5_readFigures 8 = .ok (.getfield 32, 3) := by decide +kernel
theorem dX5_readFigures_11 : decode cX5_readFigures 11 = .ok (.ifCond .ne 11, 3) := by decide +kernel
theorem dX5_readFigures_14 : decode cX5_readFigures 14 = .ok (.aload_n 0, 1) := by decide +kernel
theorem dX5_readFigures_15 : decode cX5_readFigures 15 = .ok (.getfield 21, 3) := by decide +kernel
theorem dX5_readFigures_18 : decode cX5_readFigures 18 = .ok (.iload_n 1, 1) := by decide +kernel
theorem dX5_readFigures_19 : decode cX5_readFigures 19 = .ok (.putfield 84, 3) := by decide +kernel
theorem dX5_readFigures_22 : decode cX5_readFigures 22 = .ok (.return_, 1) := by decide +kernel
def Rd_readFigures (fl : Nat) (S : gm_M) : Option gm_M :=
  gm_bp2 (Rd_readNumber fl 2 4 S) fun v1 S2 =>
  if S2.1 1 4 = 0 then (
    gm_lt (α := gm_M) (gm_ui S2 4 3 v1) fun S4 =>
    some S4
  ) else (
    some S2
  )
set_option maxHeartbeats 4000000 in
set_option maxRecDepth 100000 in
theorem Rd_readFigures_c (l : Launch) (cf : gm_C) (ad : Nat → Nat) {fl : Nat}    {S : gm_M}  {S'  : gm_M} (hf : Rd_readFigures fl S = some S') : gm_Met l yX5_readFigures cX5_readFigures 2 none 3 66 cf ad gm_sC 106 [.ref (ad 1)] S none S' := by
  refine gm_met (by decide +kernel) (Nat.le_of_ble_eq_true rfl) ?_
  intro p e s m args below meth c C hr
  have C : gm_F p s m args meth c cf ad 106 cX5_readFigures 2 RX5 := C
  refine gm_lve (lv' := [(0, .ref (ad 1))]) rfl ?_
  unfold Rd_readFigures at hf
  refine gm_aload_n C dX5_readFigures_0 rfl 0 rfl ?_
  refine gm_iconst (v := 2) C dX5_readFigures_1 (by decide) ?_
  refine gm_iconst (v := 4) C dX5_readFigures_2 (by decide) ?_
  obtain ⟨v1, S2, eS2, hf⟩ := gm_bp2_s hf
  refine gm_callVi (As := [.int 2, .int 4]) C (Rd_readNumber_c l cf ad eS2) (Nat.le_of_ble_eq_true rfl) rfl kc_5 wy_Rd_readNumber rfl wl_406 rfl ⟨(Nat.le_of_ble_eq_true rfl), (Nat.le_of_ble_eq_true rfl)⟩ rfl (Nat.le_of_ble_eq_true rfl) dX5_readFigures_3 ?_
  refine gm_istore_n (lv' := [(1, .int v1), (0, .ref (ad 1))]) C dX5_readFigures_6 rfl (by decide) rfl ?_
  refine gm_aload_n C dX5_readFigures_7 rfl 1 rfl ?_
  refine gm_geti C (Nat.le_of_ble_eq_true rfl) rfl kc_5 (k := 4) rfl (by decide) rfl wl_155 dX5_readFigures_8 ?_
  refine gm_if_ne C 22 dX5_readFigures_11 (by decide) (fun c3 => ?_) (fun c3 => ?_)
  · have hf := gm_if _ c3 hf
    exact gm_vret C hr dX5_readFigures_22 hf
  · have hf := gm_it _ c3 hf
    refine gm_aload_n C dX5_readFigures_14 rfl 1 rfl ?_
    refine gm_getr (j := 3) (u := 4) C (Nat.le_of_ble_eq_true rfl) rfl kc_5 (k := 1) rfl (by decide) rfl rfl wl_151 dX5_readFigures_15 ?_
    refine gm_iload_n C dX5_readFigures_18 rfl 0 rfl ?_
    refine gm_puti C (Nat.le_of_ble_eq_true rfl) rfl kc_9 (k := 3) rfl (by decide) rfl rfl (kc_9.2.2.2.1 3 (by decide)) rfl rfl wl_112 dX5_readFigures_19 ?_
    obtain ⟨S4, eS4, hf⟩ := gm_lt_s hf
    refine gm_topm eS4 ?_
    exact gm_vret C hr dX5_readFigures_22 hf
theorem dX5_readMode_0 : decode cX5_readMode 0 = .ok (.aload_n 0, 1) := by decide +kernel
theorem dX5_readMode_1 : decode cX5_readMode 1 = .ok (.getfield 21, 3) := by decide +kernel
theorem dX5_readMode_4 : decode cX5_readMode 4 = .ok (.aload_n 0, 1) := by decide +kernel
theorem dX5_readMode_5 : decode cX5_readMode 5 = .ok (.iconst 0, 1) := by decide +kernel
theorem dX5_readMode_6 : decode cX5_readMode 6 = .ok (.iconst 1, 1) := by decide +kernel
theorem dX5_readMode_7 : decode cX5_readMode 7 = .ok (.invokevirtual 96, 3) := by decide +kernel
theorem dX5_readMode_10 : decode cX5_readMode 10 = .ok (.putfield 100, 3) := by decide +kernel
theorem dX5_readMode_13 : decode cX5_readMode 13 = .ok (.aload_n 0, 1) := by decide +kernel
theorem dX5_readMode_14 : decode cX5_readMode 14 = .ok (.iconst 1, 1) := by decide +kernel
theorem dX5_readMode_15 : decode cX5_readMode 15 = .ok (.putfield 38, 3) := by decide +kernel
theorem dX5_readMode_18 : decode cX5_readMode 18 = .ok (.return_, 1) := by decide +kernel
def Rd_readMode (fl : Nat) (S : gm_M) : Option gm_M :=
  gm_bp2 (Rd_readNumber fl 0 1 S) fun v1 S2 =>
  gm_lt (α := gm_M) (gm_ui S2 4 4 v1) fun S3 =>
  gm_lt (α := gm_M) (gm_ui S3 1 6 1) fun S4 =>
  some S4
set_option maxHeartbeats 4000000 in
set_option maxRecDepth 100000 in
theorem Rd_readMode_c (l : Launch) (cf : gm_C) (ad : Nat → Nat) {fl : Nat}    {S : gm_M}  {S'  : gm_M} (hf : Rd_readMode fl S = some S') : gm_Met l yX5_readMode cX5_readMode 1 none 3 66 cf ad gm_sC 106 [.ref (ad 1)] S none S' := by
  refine gm_met (by decide +kernel) (Nat.le_of_ble_eq_true rfl) ?_
  intro p e s m args below meth c C hr
  have C : gm_F p s m args meth c cf ad 106 cX5_readMode 1 RX5 := C
  refine gm_lve (lv' := [(0, .ref (ad 1))]) rfl ?_
  unfold Rd_readMode at hf
  refine gm_aload_n C dX5_readMode_0 rfl 0 rfl ?_
  refine gm_getr (j := 3) (u := 4) C (Nat.le_of_ble_eq_true rfl) rfl kc_5 (k := 1) rfl (by decide) rfl rfl wl_151 dX5_readMode_1 ?_
  refine gm_aload_n C dX5_readMode_4 rfl 0 rfl ?_
  refine gm_iconst (v := 0) C dX5_readMode_5 (by decide) ?_
  refine gm_iconst (v := 1) C dX5_readMode_6 (by decide) ?_
  obtain ⟨v1, S2, eS2, hf⟩ := gm_bp2_s hf
  refine gm_callVi (As := [.int 0, .int 1]) C (Rd_readNumber_c l cf ad eS2) (Nat.le_of_ble_eq_true rfl) rfl kc_5 wy_Rd_readNumber rfl wl_406 rfl ⟨(Nat.le_of_ble_eq_true rfl), (Nat.le_of_ble_eq_true rfl)⟩ rfl (Nat.le_of_ble_eq_true rfl) dX5_readMode_7 ?_
  refine gm_puti C (Nat.le_of_ble_eq_true rfl) rfl kc_9 (k := 4) rfl (by decide) rfl rfl (kc_9.2.2.2.1 4 (by decide)) rfl rfl wl_116 dX5_readMode_10 ?_
  obtain ⟨S3, eS3, hf⟩ := gm_lt_s hf
  refine gm_topm eS3 ?_
  refine gm_aload_n C dX5_readMode_13 rfl 0 rfl ?_
  refine gm_iconst (v := 1) C dX5_readMode_14 (by decide) ?_
  refine gm_puti C (Nat.le_of_ble_eq_true rfl) rfl kc_5 (k := 6) rfl (by decide) rfl rfl (kc_5.2.2.2.1 6 (by decide)) rfl rfl wl_159 dX5_readMode_15 ?_
  obtain ⟨S4, eS4, hf⟩ := gm_lt_s hf
  refine gm_topm eS4 ?_
  exact gm_vret C hr dX5_readMode_18 hf
theorem dX6_leastA_0 : decode cX6_leastA 0 = .ok (.iload_n 0, 1) := by decide +kernel
theorem dX6_leastA_1 : decode cX6_leastA 1 = .ok (.ifCond .lt 16, 3) := by decide +kernel
theorem dX6_leastA_4 : decode cX6_leastA 4 = .ok (.iload_n 0, 1) := by decide +kernel
theorem dX6_leastA_5 : decode cX6_leastA 5 = .ok (.iconst 5, 1) := by decide +kernel
theorem dX6_leastA_6 : decode cX6_leastA 6 = .ok (.if_icmp .ge 11, 3) := by decide +kernel
theorem dX6_leastA_9 : decode cX6_leastA 9 = .ok (.getstatic 11, 3) := by decide +kernel
theorem dX6_leastA_12 : decode cX6_leastA 12 = .ok (.iload_n 0, 1) := by decide +kernel
theorem dX6_leastA_13 : decode cX6_leastA 13 = .ok (.iaload, 1) := by decide +kernel
theorem dX6_leastA_14 : decode cX6_leastA 14 = .ok (.goto 4, 3) := by decide +kernel
theorem dX6_leastA_17 : decode cX6_leastA 17 = .ok (.iconst 0, 1) := by decide +kernel
theorem dX6_leastA_18 : decode cX6_leastA 18 = .ok (.ireturn, 1) := by decide +kernel
def Ru_leastA (a0 : Int32) : Option Int32 :=
  if a0 < 0 then (
    some (0)
  ) else (
    if (5 : Int32) ≤ a0 then (
      some (0)
    ) else (
      gm_ck (a0) 5 <|
      some (gm_la a0.toNatClampNeg)
    )
  )
set_option maxHeartbeats 4000000 in
set_option maxRecDepth 100000 in
theorem Ru_leastA_c (l : Launch) (cf : gm_C) (ad : Nat → Nat)    {a0 : Int32} {S : gm_M} {r : Int32}  (hf : Ru_leastA a0 = some r) : gm_Met l yX6_leastA cX6_leastA 1 (some .int) 0 0 cf ad gm_sC 106 [.int a0] S (some (.int r)) S := by
  refine gm_met (by decide +kernel) (Nat.le_of_ble_eq_true rfl) ?_
  intro p e s m args below meth c C hr
  have C : gm_F p s m args meth c cf ad 106 cX6_leastA 1 RX6 := C
  refine gm_lve (lv' := [(0, .int a0)]) rfl ?_
  unfold Ru_leastA at hf
  refine gm_iload_n C dX6_leastA_0 rfl 0 rfl ?_
  refine gm_if_lt C 17 dX6_leastA_1 (by decide) (fun c1 => ?_) (fun c1 => ?_)
  · have hf := gm_it _ c1 hf
    refine gm_iconst (v := 0) C dX6_leastA_17 (by decide) ?_
    exact gm_iretK C hr rfl dX6_leastA_18 hf
  · have hf := gm_if _ c1 hf
    refine gm_iload_n C dX6_leastA_4 rfl 0 rfl ?_
    refine gm_iconst (v := 5) C dX6_leastA_5 (by decide) ?_
    refine gm_icmp_ge C 17 dX6_leastA_6 (by decide) (fun c2 => ?_) (fun c2 => ?_)
    · have hf := gm_it _ c2 hf
      refine gm_iconst (v := 0) C dX6_leastA_17 (by decide) ?_
      exact gm_iretK C hr rfl dX6_leastA_18 hf
    · have hf := gm_if _ c2 hf
      refine gm_least C wl_428 dX6_leastA_9 (fun q3 h4 => ?_)
      refine gm_iload_n C dX6_leastA_12 rfl 0 rfl ?_
      obtain ⟨h5, hf⟩ := gm_ck_s hf
      refine gm_tald C h4 h5 dX6_leastA_13 ?_
      refine gm_goto C 18 dX6_leastA_14 (by decide) ?_
      exact gm_iretK C hr rfl dX6_leastA_18 hf
theorem dX6_greatestA_0 : decode cX6_greatestA 0 = .ok (.iload_n 0, 1) := by decide +kernel
theorem dX6_greatestA_1 : decode cX6_greatestA 1 = .ok (.ifCond .lt 16, 3) := by decide +kernel
theorem dX6_greatestA_4 : decode cX6_greatestA 4 = .ok (.iload_n 0, 1) := by decide +kernel
theorem dX6_greatestA_5 : decode cX6_greatestA 5 = .ok (.iconst 5, 1) := by decide +kernel
theorem dX6_greatestA_6 : decode cX6_greatestA 6 = .ok (.if_icmp .ge 11, 3) := by decide +kernel
theorem dX6_greatestA_9 : decode cX6_greatestA 9 = .ok (.getstatic 15, 3) := by decide +kernel
theorem dX6_greatestA_12 : decode cX6_greatestA 12 = .ok (.iload_n 0, 1) := by decide +kernel
theorem dX6_greatestA_13 : decode cX6_greatestA 13 = .ok (.iaload, 1) := by decide +kernel
theorem dX6_greatestA_14 : decode cX6_greatestA 14 = .ok (.goto 4, 3) := by decide +kernel
theorem dX6_greatestA_17 : decode cX6_greatestA 17 = .ok (.iconst (-1), 1) := by decide +kernel
theorem dX6_greatestA_18 : decode cX6_greatestA 18 = .ok (.ireturn, 1) := by decide +kernel
def Ru_greatestA (a0 : Int32) : Option Int32 :=
  if a0 < 0 then (
    some ((-1))
  ) else (
    if (5 : Int32) ≤ a0 then (
      some ((-1))
    ) else (
      gm_ck (a0) 5 <|
      some (gm_ga a0.toNatClampNeg)
    )
  )
set_option maxHeartbeats 4000000 in
set_option maxRecDepth 100000 in
theorem Ru_greatestA_c (l : Launch) (cf : gm_C) (ad : Nat → Nat)    {a0 : Int32} {S : gm_M} {r : Int32}  (hf : Ru_greatestA a0 = some r) : gm_Met l yX6_greatestA cX6_greatestA 1 (some .int) 0 0 cf ad gm_sC 106 [.int a0] S (some (.int r)) S := by
  refine gm_met (by decide +kernel) (Nat.le_of_ble_eq_true rfl) ?_
  intro p e s m args below meth c C hr
  have C : gm_F p s m args meth c cf ad 106 cX6_greatestA 1 RX6 := C
  refine gm_lve (lv' := [(0, .int a0)]) rfl ?_
  unfold Ru_greatestA at hf
  refine gm_iload_n C dX6_greatestA_0 rfl 0 rfl ?_
  refine gm_if_lt C 17 dX6_greatestA_1 (by decide) (fun c1 => ?_) (fun c1 => ?_)
  · have hf := gm_it _ c1 hf
    refine gm_iconst (v := (-1)) C dX6_greatestA_17 (by decide) ?_
    exact gm_iretK C hr rfl dX6_greatestA_18 hf
  · have hf := gm_if _ c1 hf
    refine gm_iload_n C dX6_greatestA_4 rfl 0 rfl ?_
    refine gm_iconst (v := 5) C dX6_greatestA_5 (by decide) ?_
    refine gm_icmp_ge C 17 dX6_greatestA_6 (by decide) (fun c2 => ?_) (fun c2 => ?_)
    · have hf := gm_it _ c2 hf
      refine gm_iconst (v := (-1)) C dX6_greatestA_17 (by decide) ?_
      exact gm_iretK C hr rfl dX6_greatestA_18 hf
    · have hf := gm_if _ c2 hf
      refine gm_great C wl_433 dX6_greatestA_9 (fun q3 h4 => ?_)
      refine gm_iload_n C dX6_greatestA_12 rfl 0 rfl ?_
      obtain ⟨h5, hf⟩ := gm_ck_s hf
      refine gm_tald C h4 h5 dX6_greatestA_13 ?_
      refine gm_goto C 18 dX6_greatestA_14 (by decide) ?_
      exact gm_iretK C hr rfl dX6_greatestA_18 hf
theorem dX6_greatestB_0 : decode cX6_greatestB 0 = .ok (.iload_n 0, 1) := by decide +kernel
theorem dX6_greatestB_1 : decode cX6_greatestB 1 = .ok (.iconst 2, 1) := by decide +kernel
theorem dX6_greatestB_2 : decode cX6_greatestB 2 = .ok (.if_icmp .ne 5, 3) := by decide +kernel
theorem dX6_greatestB_5 : decode cX6_greatestB 5 = .ok (.iconst 4, 1) := by decide +kernel
theorem dX6_greatestB_6 : decode cX6_greatestB 6 = .ok (.ireturn, 1) := by decide +kernel
theorem dX6_greatestB_7 : decode cX6_greatestB 7 = .ok (.iload_n 0, 1) := by decide +kernel
theorem dX6_greatestB_8 : decode cX6_greatestB 8 = .ok (.iconst 3, 1) := by decide +kernel
theorem dX6_greatestB_9 : decode cX6_greatestB 9 = .ok (.if_icmp .ne 9, 3) := by decide +kernel
theorem dX6_greatestB_12 : decode cX6_greatestB 12 = .ok (.iload_n 1, 1) := by decide +kernel
theorem dX6_greatestB_13 : decode cX6_greatestB 13 = .ok (.iconst 1, 1) := by decide +kernel
theorem dX6_greatestB_14 : decode cX6_greatestB 14 = .ok (.isub, 1) := by decide +kernel
theorem dX6_greatestB_15 : decode cX6_greatestB 15 = .ok (.goto 4, 3) := by decide +kernel
theorem dX6_greatestB_18 : decode cX6_greatestB 18 = .ok (.iconst 0, 1) := by decide +kernel
theorem dX6_greatestB_19 : decode cX6_greatestB 19 = .ok (.ireturn, 1) := by decide +kernel
def Ru_greatestB (a0 : Int32) (a1 : Int32) : Option Int32 :=
  if a0 = 2 then (
    some (4)
  ) else (
    if a0 = 3 then (
      some (a1 - 1)
    ) else (
      some (0)
    )
  )
set_option maxHeartbeats 4000000 in
set_option maxRecDepth 100000 in
theorem Ru_greatestB_c (l : Launch) (cf : gm_C) (ad : Nat → Nat)    {a0 : Int32} {a1 : Int32} {S : gm_M} {r : Int32}  (hf : Ru_greatestB a0 a1 = some r) : gm_Met l yX6_greatestB cX6_greatestB 2 (some .int) 0 0 cf ad gm_sC 106 [.int a0, .int a1] S (some (.int r)) S := by
  refine gm_met (by decide +kernel) (Nat.le_of_ble_eq_true rfl) ?_
  intro p e s m args below meth c C hr
  have C : gm_F p s m args meth c cf ad 106 cX6_greatestB 2 RX6 := C
  refine gm_lve (lv' := [(0, .int a0), (1, .int a1)]) rfl ?_
  unfold Ru_greatestB at hf
  refine gm_iload_n C dX6_greatestB_0 rfl 0 rfl ?_
  refine gm_iconst (v := 2) C dX6_greatestB_1 (by decide) ?_
  refine gm_icmp_ne C 7 dX6_greatestB_2 (by decide) (fun c1 => ?_) (fun c1 => ?_)
  · have hf := gm_if _ c1 hf
    refine gm_iload_n C dX6_greatestB_7 rfl 0 rfl ?_
    refine gm_iconst (v := 3) C dX6_greatestB_8 (by decide) ?_
    refine gm_icmp_ne C 18 dX6_greatestB_9 (by decide) (fun c2 => ?_) (fun c2 => ?_)
    · have hf := gm_if _ c2 hf
      refine gm_iconst (v := 0) C dX6_greatestB_18 (by decide) ?_
      exact gm_iretK C hr rfl dX6_greatestB_19 hf
    · have hf := gm_it _ c2 hf
      refine gm_iload_n C dX6_greatestB_12 rfl 1 rfl ?_
      refine gm_iconst (v := 1) C dX6_greatestB_13 (by decide) ?_
      refine gm_isub C dX6_greatestB_14 ?_
      refine gm_goto C 19 dX6_greatestB_15 (by decide) ?_
      exact gm_iretK C hr rfl dX6_greatestB_19 hf
  · have hf := gm_it _ c1 hf
    refine gm_iconst (v := 4) C dX6_greatestB_5 (by decide) ?_
    exact gm_iretK C hr rfl dX6_greatestB_6 hf
theorem dX6_mayBeTold_0 : decode cX6_mayBeTold 0 = .ok (.iload_n 0, 1) := by decide +kernel
theorem dX6_mayBeTold_1 : decode cX6_mayBeTold 1 = .ok (.ifCond .lt 41, 3) := by decide +kernel
theorem dX6_mayBeTold_4 : decode cX6_mayBeTold 4 = .ok (.iload_n 0, 1) := by decide +kernel
theorem dX6_mayBeTold_5 : decode cX6_mayBeTold 5 = .ok (.iconst 5, 1) := by decide +kernel
theorem dX6_mayBeTold_6 : decode cX6_mayBeTold 6 = .ok (.if_icmp .ge 36, 3) := by decide +kernel
theorem dX6_mayBeTold_9 : decode cX6_mayBeTold 9 = .ok (.iload_n 1, 1) := by decide +kernel
theorem dX6_mayBeTold_10 : decode cX6_mayBeTold 10 = .ok (.iload_n 0, 1) := by decide +kernel
theorem dX6_mayBeTold_11 : decode cX6_mayBeTold 11 = .ok (.invokestatic 18, 3) := by decide +kernel
theorem dX6_mayBeTold_14 : decode cX6_mayBeTold 14 = .ok (.if_icmp .lt 28, 3) := by decide +kernel
theorem dX6_mayBeTold_17 : decode cX6_mayBeTold 17 = .ok (.iload_n 1, 1) := by decide +kernel
theorem dX6_mayBeTold_18 : decode cX6_mayBeTold 18 = .ok (.iload_n 0, 1) := by decide +kernel
theorem dX6_mayBeTold_19 : decode cX6_mayBeTold 19 = .ok (.invokestatic 22, 3) := by decide +kernel
theorem dX6_mayBeTold_22 : decode cX6_mayBeTold 22 = .ok (.if_icmp .gt 20, 3) := by decide +kernel
theorem dX6_mayBeTold_25 : decode cX6_mayBeTold 25 = .ok (.iload_n 2, 1) := by decide +kernel
theorem dX6_mayBeTold_26 : decode cX6_mayBeTold 26 = .ok (.ifCond .lt 16, 3) := by decide +kernel
theorem dX6_mayBeTold_29 : decode cX6_mayBeTold 29 = .ok (.iload_n 2, 1) := by decide +kernel
theorem dX6_mayBeTold_30 : decode cX6_mayBeTold 30 = .ok (.iload_n 0, 1) := by decide +kernel
theorem dX6_mayBeTold_31 : decode cX6_mayBeTold 31 = .ok (.iload_n 1, 1) := by decide +kernel
theorem dX6_mayBeTold_32 : decode cX6_mayBeTold 32 = .ok (.invokestatic 25, 3) := by decide +kernel
theorem dX6_mayBeTold_35 : decode cX6_mayBeTold 35 = .ok (.if_icmp .gt 7, 3) := by decide +kernel
theorem dX6_mayBeTold_38 : decode cX6_mayBeTold 38 = .ok (.iconst 1, 1) := by decide +kernel
theorem dX6_mayBeTold_39 : decode cX6_mayBeTold 39 = .ok (.goto 4, 3) := by decide +kernel
theorem dX6_mayBeTold_42 : decode cX6_mayBeTold 42 = .ok (.iconst 0, 1) := by decide +kernel
theorem dX6_mayBeTold_43 : decode cX6_mayBeTold 43 = .ok (.ireturn, 1) := by decide +kernel
def Ru_mayBeTold (a0 : Int32) (a1 : Int32) (a2 : Int32) : Option Int32 :=
  if a0 < 0 then (
    some (0)
  ) else (
    if (5 : Int32) ≤ a0 then (
      some (0)
    ) else (
      gm_bp1 (Ru_leastA a0) fun v3 =>
      if a1 < v3 then (
        some (0)
      ) else (
        gm_bp1 (Ru_greatestA a0) fun v5 =>
        if v5 < a1 then (
          some (0)
        ) else (
          if a2 < 0 then (
            some (0)
          ) else (
            gm_bp1 (Ru_greatestB a0 a1) fun v8 =>
            if v8 < a2 then (
              some (0)
            ) else (
              some (1)
            )
          )
        )
      )
    )
  )
set_option maxHeartbeats 4000000 in
set_option maxRecDepth 100000 in
theorem Ru_mayBeTold_c (l : Launch) (cf : gm_C) (ad : Nat → Nat)    {a0 : Int32} {a1 : Int32} {a2 : Int32} {S : gm_M} {r : Int32}  (hf : Ru_mayBeTold a0 a1 a2 = some r) : gm_Met l yX6_mayBeTold cX6_mayBeTold 3 (some .boolean) 1 21 cf ad gm_sC 106 [.int a0, .int a1, .int a2] S (some (.int r)) S := by
  refine gm_met (by decide +kernel) (Nat.le_of_ble_eq_true rfl) ?_
  intro p e s m args below meth c C hr
  have C : gm_F p s m args meth c cf ad 106 cX6_mayBeTold 3 RX6 := C
  refine gm_lve (lv' := [(0, .int a0), (1, .int a1), (2, .int a2)]) rfl ?_
  unfold Ru_mayBeTold at hf
  refine gm_iload_n C dX6_mayBeTold_0 rfl 0 rfl ?_
  refine gm_if_lt C 42 dX6_mayBeTold_1 (by decide) (fun c1 => ?_) (fun c1 => ?_)
  · have hf := gm_it _ c1 hf
    refine gm_iconst (v := 0) C dX6_mayBeTold_42 (by decide) ?_
    exact gm_iretK C hr rfl dX6_mayBeTold_43 hf
  · have hf := gm_if _ c1 hf
    refine gm_iload_n C dX6_mayBeTold_4 rfl 0 rfl ?_
    refine gm_iconst (v := 5) C dX6_mayBeTold_5 (by decide) ?_
    refine gm_icmp_ge C 42 dX6_mayBeTold_6 (by decide) (fun c2 => ?_) (fun c2 => ?_)
    · have hf := gm_it _ c2 hf
      refine gm_iconst (v := 0) C dX6_mayBeTold_42 (by decide) ?_
      exact gm_iretK C hr rfl dX6_mayBeTold_43 hf
    · have hf := gm_if _ c2 hf
      refine gm_iload_n C dX6_mayBeTold_9 rfl 1 rfl ?_
      refine gm_iload_n C dX6_mayBeTold_10 rfl 0 rfl ?_
      obtain ⟨v3, ev3, hf⟩ := gm_bp1_s hf
      refine gm_callSi (As := [.int a0]) C (Ru_leastA_c l cf ad ev3 (S := S)) wy_Ru_leastA wl_425 rfl ⟨(Nat.le_of_ble_eq_true rfl), (Nat.le_of_ble_eq_true rfl)⟩ rfl (Nat.le_of_ble_eq_true rfl) dX6_mayBeTold_11 ?_
      refine gm_icmp_lt C 42 dX6_mayBeTold_14 (by decide) (fun c4 => ?_) (fun c4 => ?_)
      · have hf := gm_it _ c4 hf
        refine gm_iconst (v := 0) C dX6_mayBeTold_42 (by decide) ?_
        exact gm_iretK C hr rfl dX6_mayBeTold_43 hf
      · have hf := gm_if _ c4 hf
        refine gm_iload_n C dX6_mayBeTold_17 rfl 1 rfl ?_
        refine gm_iload_n C dX6_mayBeTold_18 rfl 0 rfl ?_
        obtain ⟨v5, ev5, hf⟩ := gm_bp1_s hf
        refine gm_callSi (As := [.int a0]) C (Ru_greatestA_c l cf ad ev5 (S := S)) wy_Ru_greatestA wl_430 rfl ⟨(Nat.le_of_ble_eq_true rfl), (Nat.le_of_ble_eq_true rfl)⟩ rfl (Nat.le_of_ble_eq_true rfl) dX6_mayBeTold_19 ?_
        refine gm_icmp_gt C 42 dX6_mayBeTold_22 (by decide) (fun c6 => ?_) (fun c6 => ?_)
        · have hf := gm_it _ c6 hf
          refine gm_iconst (v := 0) C dX6_mayBeTold_42 (by decide) ?_
          exact gm_iretK C hr rfl dX6_mayBeTold_43 hf
        · have hf := gm_if _ c6 hf
          refine gm_iload_n C dX6_mayBeTold_25 rfl 2 rfl ?_
          refine gm_if_lt C 42 dX6_mayBeTold_26 (by decide) (fun c7 => ?_) (fun c7 => ?_)
          · have hf := gm_it _ c7 hf
            refine gm_iconst (v := 0) C dX6_mayBeTold_42 (by decide) ?_
            exact gm_iretK C hr rfl dX6_mayBeTold_43 hf
          · have hf := gm_if _ c7 hf
            refine gm_iload_n C dX6_mayBeTold_29 rfl 2 rfl ?_
            refine gm_iload_n C dX6_mayBeTold_30 rfl 0 rfl ?_
            refine gm_iload_n C dX6_mayBeTold_31 rfl 1 rfl ?_
            obtain ⟨v8, ev8, hf⟩ := gm_bp1_s hf
            refine gm_callSi (As := [.int a0, .int a1]) C (Ru_greatestB_c l cf ad ev8 (S := S)) wy_Ru_greatestB wl_435 rfl ⟨(Nat.le_of_ble_eq_true rfl), (Nat.le_of_ble_eq_true rfl)⟩ rfl (Nat.le_of_ble_eq_true rfl) dX6_mayBeTold_32 ?_
            refine gm_icmp_gt C 42 dX6_mayBeTold_35 (by decide) (fun c9 => ?_) (fun c9 => ?_)
            · have hf := gm_it _ c9 hf
              refine gm_iconst (v := 0) C dX6_mayBeTold_42 (by decide) ?_
              exact gm_iretK C hr rfl dX6_mayBeTold_43 hf
            · have hf := gm_if _ c9 hf
              refine gm_iconst (v := 1) C dX6_mayBeTold_38 (by decide) ?_
              refine gm_goto C 43 dX6_mayBeTold_39 (by decide) ?_
              exact gm_iretK C hr rfl dX6_mayBeTold_43 hf
theorem dX6_code_0 : decode cX6_code 0 = .ok (.iload_n 0, 1) := by decide +kernel
theorem dX6_code_1 : decode cX6_code 1 = .ok (.sipush 10000, 3) := by decide +kernel
theorem dX6_code_4 : decode cX6_code 4 = .ok (.imul, 1) := by decide +kernel
theorem dX6_code_5 : decode cX6_code 5 = .ok (.iload_n 1, 1) := by decide +kernel
theorem dX6_code_6 : decode cX6_code 6 = .ok (.bipush 100, 2) := by decide +kernel
theorem dX6_code_8 : decode cX6_code 8 = .ok (.imul, 1) := by decide +kernel
theorem dX6_code_9 : decode cX6_code 9 = .ok (.iadd, 1) := by decide +kernel
theorem dX6_code_10 : decode cX6_code 10 = .ok (.iload_n 2, 1) := by decide +kernel
theorem dX6_code_11 : decode cX6_code 11 = .ok (.iadd, 1) := by decide +kernel
theorem dX6_code_12 : decode cX6_code 12 = .ok (.ireturn, 1) := by decide +kernel
def Ru_code (a0 : Int32) (a1 : Int32) (a2 : Int32) : Option Int32 :=
  some (((a0 * 10000) + (a1 * 100)) + a2)
set_option maxHeartbeats 4000000 in
set_option maxRecDepth 100000 in
theorem Ru_code_c (l : Launch) (cf : gm_C) (ad : Nat → Nat)    {a0 : Int32} {a1 : Int32} {a2 : Int32} {S : gm_M} {r : Int32}  (hf : Ru_code a0 a1 a2 = some r) : gm_Met l yX6_code cX6_code 3 (some .int) 0 0 cf ad gm_sC 106 [.int a0, .int a1, .int a2] S (some (.int r)) S := by
  refine gm_met (by decide +kernel) (Nat.le_of_ble_eq_true rfl) ?_
  intro p e s m args below meth c C hr
  have C : gm_F p s m args meth c cf ad 106 cX6_code 3 RX6 := C
  refine gm_lve (lv' := [(0, .int a0), (1, .int a1), (2, .int a2)]) rfl ?_
  unfold Ru_code at hf
  refine gm_iload_n C dX6_code_0 rfl 0 rfl ?_
  refine gm_sipush (v := 10000) C dX6_code_1 (by decide) ?_
  refine gm_imul C dX6_code_4 ?_
  refine gm_iload_n C dX6_code_5 rfl 1 rfl ?_
  refine gm_bipush (v := 100) C dX6_code_6 (by decide) ?_
  refine gm_imul C dX6_code_8 ?_
  refine gm_iadd C dX6_code_9 ?_
  refine gm_iload_n C dX6_code_10 rfl 2 rfl ?_
  refine gm_iadd C dX6_code_11 ?_
  exact gm_iretK C hr rfl dX6_code_12 hf
theorem dX9_addRule_0 : decode cX9_addRule 0 = .ok (.aload_n 0, 1) := by decide +kernel
theorem dX9_addRule_1 : decode cX9_addRule 1 = .ok (.getfield 31, 3) := by decide +kernel
theorem dX9_addRule_4 : decode cX9_addRule 4 = .ok (.iconst 4, 1) := by decide +kernel
theorem dX9_addRule_5 : decode cX9_addRule 5 = .ok (.if_icmp .ge 23, 3) := by decide +kernel
theorem dX9_addRule_8 : decode cX9_addRule 8 = .ok (.aload_n 0, 1) := by decide +kernel
theorem dX9_addRule_9 : decode cX9_addRule 9 = .ok (.getfield 9, 3) := by decide +kernel
theorem dX9_addRule_12 : decode cX9_addRule 12 = .ok (.aload_n 0, 1) := by decide +kernel
theorem dX9_addRule_13 : decode cX9_addRule 13 = .ok (.getfield 31, 3) := by decide +kernel
theorem dX9_addRule_16 : decode cX9_addRule 16 = .ok (.iload_n 1, 1) := by decide +kernel
theorem dX9_addRule_17 : decode cX9_addRule 17 = .ok (.iastore, 1) := by decide +kernel
theorem dX9_addRule_18 : decode cX9_addRule 18 = .ok (.aload_n 0, 1) := by decide +kernel
theorem dX9_addRule_19 : decode cX9_addRule 19 = .ok (.dup, 1) := by decide +kernel
theorem dX9_addRule_20 : decode cX9_addRule 20 = .ok (.getfield 31, 3) := by decide +kernel
theorem dX9_addRule_23 : decode cX9_addRule 23 = .ok (.iconst 1, 1) := by decide +kernel
theorem dX9_addRule_24 : decode cX9_addRule 24 = .ok (.iadd, 1) := by decide +kernel
theorem dX9_addRule_25 : decode cX9_addRule 25 = .ok (.putfield 31, 3) := by decide +kernel
theorem dX9_addRule_28 : decode cX9_addRule 28 = .ok (.return_, 1) := by decide +kernel
def Tr_addRule (t : Nat) (a0 : Int32) (S : gm_M) : Option gm_M :=
  if (4 : Int32) ≤ S.1 t 6 then (
    some S
  ) else (
    gm_ck (S.1 t 6) 4 <|
    gm_lt (α := gm_M) (gm_ui S (t + 1) ((S.1 t 6).toNatClampNeg) a0) fun S3 =>
    gm_lt (α := gm_M) (gm_ui S3 t 6 ((S3.1 t 6) + 1)) fun S4 =>
    some S4
  )
set_option maxHeartbeats 4000000 in
set_option maxRecDepth 100000 in
theorem Tr_addRule_c (l : Launch) (cf : gm_C) (ad : Nat → Nat)  {t : Nat} (ht : gm_isTr t) {a0 : Int32} {S : gm_M}  {S'  : gm_M} (hf : Tr_addRule t a0 S = some S') : gm_Met l yX9_addRule cX9_addRule 2 none 0 0 cf ad gm_sC 106 [.ref (ad t), .int a0] S none S' := by
  refine gm_met (by decide +kernel) (Nat.le_of_ble_eq_true rfl) ?_
  intro p e s m args below meth c C hr
  have C : gm_F p s m args meth c cf ad 106 cX9_addRule 2 RX9 := C
  refine gm_lve (lv' := [(0, .ref (ad t)), (1, .int a0)]) rfl ?_
  unfold Tr_addRule at hf
  refine gm_aload_n C dX9_addRule_0 rfl 0 rfl ?_
  refine gm_geti C (gm_tr_l0 ht) (gm_tr_k0 ht) kc_9 (k := 6) rfl (by decide) rfl wl_119 dX9_addRule_1 ?_
  refine gm_iconst (v := 4) C dX9_addRule_4 (by decide) ?_
  refine gm_icmp_ge C 28 dX9_addRule_5 (by decide) (fun c1 => ?_) (fun c1 => ?_)
  · have hf := gm_it _ c1 hf
    exact gm_vret C hr dX9_addRule_28 hf
  · have hf := gm_if _ c1 hf
    refine gm_aload_n C dX9_addRule_8 rfl 0 rfl ?_
    refine gm_getr (j := 1) (u := (t + 1)) C (gm_tr_l0 ht) (gm_tr_k0 ht) kc_9 (k := 0) rfl (by decide) rfl rfl wl_104 dX9_addRule_9 ?_
    refine gm_aload_n C dX9_addRule_12 rfl 0 rfl ?_
    refine gm_geti C (gm_tr_l0 ht) (gm_tr_k0 ht) kc_9 (k := 6) rfl (by decide) rfl wl_119 dX9_addRule_13 ?_
    refine gm_iload_n C dX9_addRule_16 rfl 1 rfl ?_
    obtain ⟨h2, hf⟩ := gm_ck_s hf
    refine gm_iast C (gm_tr_l1 ht) (gm_tr_k1 ht) (gm_tr_n1 ht) h2 dX9_addRule_17 ?_
    obtain ⟨S3, eS3, hf⟩ := gm_lt_s hf
    refine gm_topm eS3 ?_
    refine gm_aload_n C dX9_addRule_18 rfl 0 rfl ?_
    refine gm_dup C dX9_addRule_19 rfl ?_
    refine gm_geti C (gm_tr_l0 ht) (gm_tr_k0 ht) kc_9 (k := 6) rfl (by decide) rfl wl_119 dX9_addRule_20 ?_
    refine gm_iconst (v := 1) C dX9_addRule_23 (by decide) ?_
    refine gm_iadd C dX9_addRule_24 ?_
    refine gm_puti C (gm_tr_l0 ht) (gm_tr_k0 ht) kc_9 (k := 6) rfl (by decide) rfl rfl (kc_9.2.2.2.1 6 (by decide)) rfl rfl wl_119 dX9_addRule_25 ?_
    obtain ⟨S4, eS4, hf⟩ := gm_lt_s hf
    refine gm_topm eS4 ?_
    exact gm_vret C hr dX9_addRule_28 hf
theorem dX5_readRule_0 : decode cX5_readRule 0 = .ok (.aload_n 0, 1) := by decide +kernel
theorem dX5_readRule_1 : decode cX5_readRule 1 = .ok (.iconst 0, 1) := by decide +kernel
theorem dX5_readRule_2 : decode cX5_readRule 2 = .ok (.iconst 4, 1) := by decide +kernel
theorem dX5_readRule_3 : decode cX5_readRule 3 = .ok (.invokevirtual 96, 3) := by decide +kernel
theorem dX5_readRule_6 : decode cX5_readRule 6 = .ok (.istore_n 1, 1) := by decide +kernel
theorem dX5_readRule_7 : decode cX5_readRule 7 = .ok (.aload_n 0, 1) := by decide +kernel
theorem dX5_readRule_8 : decode cX5_readRule 8 = .ok (.iconst 0, 1) := by decide +kernel
theorem dX5_readRule_9 : decode cX5_readRule 9 = .ok (.bipush 99, 2) := by decide +kernel
theorem dX5_readRule_11 : decode cX5_readRule 11 = .ok (.invokevirtual 96, 3) := by decide +kernel
theorem dX5_readRule_14 : decode cX5_readRule 14 = .ok (.istore_n 2, 1) := by decide +kernel
theorem dX5_readRule_15 : decode cX5_readRule 15 = .ok (.aload_n 0, 1) := by decide +kernel
theorem dX5_readRule_16 : decode cX5_readRule 16 = .ok (.getfield 105, 3) := by decide +kernel
theorem dX5_readRule_19 : decode cX5_readRule 19 = .ok (.istore_n 3, 1) := by decide +kernel
theorem dX5_readRule_20 : decode cX5_readRule 20 = .ok (.aload_n 0, 1) := by decide +kernel
theorem dX5_readRule_21 : decode cX5_readRule 21 = .ok (.iconst 0, 1) := by decide +kernel
theorem dX5_readRule_22 : decode cX5_readRule 22 = .ok (.bipush 99, 2) := by decide +kernel
theorem dX5_readRule_24 : decode cX5_readRule 24 = .ok (.invokevirtual 96, 3) := by decide +kernel
theorem dX5_readRule_27 : decode cX5_readRule 27 = .ok (.istore 4, 2) := by decide +kernel
theorem dX5_readRule_29 : decode cX5_readRule 29 = .ok (.aload_n 0, 1) := by decide +kernel
theorem dX5_readRule_30 : decode cX5_readRule 30 = .ok (.getfield 32, 3) := by decide +kernel
theorem dX5_readRule_33 : decode cX5_readRule 33 = .ok (.ifCond .ne 19, 3) := by decide +kernel
theorem dX5_readRule_36 : decode cX5_readRule 36 = .ok (.iload_n 1, 1) := by decide +kernel
theorem dX5_readRule_37 : decode cX5_readRule 37 = .ok (.iload_n 2, 1) := by decide +kernel
theorem dX5_readRule_38 : decode cX5_readRule 38 = .ok (.iload 4, 2) := by decide +kernel
theorem dX5_readRule_40 : decode cX5_readRule 40 = .ok (.invokestatic 108, 3) := by decide +kernel
theorem dX5_readRule_43 : decode cX5_readRule 43 = .ok (.ifCond .ne 9, 3) := by decide +kernel
theorem dX5_readRule_46 : decode cX5_readRule 46 = .ok (.aload_n 0, 1) := by decide +kernel
theorem dX5_readRule_47 : decode cX5_readRule 47 = .ok (.iconst 4, 1) := by decide +kernel
theorem dX5_readRule_48 : decode cX5_readRule 48 = .ok (.iload_n 3, 1) := by decide +kernel
theorem dX5_readRule_49 : decode cX5_readRule 49 = .ok (.invokevirtual 59, 3) := by decide +kernel
theorem dX5_readRule_52 : decode cX5_readRule 52 = .ok (.aload_n 0, 1) := by decide +kernel
theorem dX5_readRule_53 : decode cX5_readRule 53 = .ok (.getfield 32, 3) := by decide +kernel
theorem dX5_readRule_56 : decode cX5_readRule 56 = .ok (.ifCond .ne 17, 3) := by decide +kernel
theorem dX5_readRule_59 : decode cX5_readRule 59 = .ok (.aload_n 0, 1) := by decide +kernel
theorem dX5_readRule_60 : decode cX5_readRule 60 = .ok (.getfield 21, 3) := by decide +kernel
theorem dX5_readRule_63 : decode cX5_readRule 63 = .ok (.iload_n 1, 1) := by decide +kernel
theorem dX5_readRule_64 : decode cX5_readRule 64 = .ok (.iload_n 2, 1) := by decide +kernel
theorem dX5_readRule_65 : decode cX5_readRule 65 = .ok (.iload 4, 2) := by decide +kernel
theorem dX5_readRule_67 : decode cX5_readRule 67 = .ok (.invokestatic 112, 3) := by decide +kernel
theorem dX5_readRule_70 : decode cX5_readRule 70 = .ok (.invokevirtual 116, 3) := by decide +kernel
theorem dX5_readRule_73 : decode cX5_readRule 73 = .ok (.return_, 1) := by decide +kernel
def Rd_readRule (fl : Nat) (S : gm_M) : Option gm_M :=
  gm_bp2 (Rd_readNumber fl 0 4 S) fun v1 S2 =>
  gm_bp2 (Rd_readNumber fl 0 99 S2) fun v3 S4 =>
  gm_lt (α := Int32) (S4.1 1 3) fun x5 =>
  gm_bp2 (Rd_readNumber fl 0 99 S4) fun v6 S7 =>
  gm_bp1 (show Option (gm_M) from
    if S7.1 1 4 = 0 then (
      gm_bp1 (Ru_mayBeTold v1 v3 v6) fun v13 =>
      if v13 = 0 then (
        gm_bp1 (Rd_setFault 4 x5 S7) fun S15 =>
        some (S15)
      ) else (
        some (S7)
      )
    ) else (
      some (S7)
    )
  ) fun S8 =>
  if S8.1 1 4 = 0 then (
    gm_bp1 (Ru_code v1 v3 v6) fun v10 =>
    gm_bp1 (Tr_addRule 4 v10 S8) fun S11 =>
    some S11
  ) else (
    some S8
  )
set_option maxHeartbeats 4000000 in
set_option maxRecDepth 100000 in
theorem Rd_readRule_c (l : Launch) (cf : gm_C) (ad : Nat → Nat) {fl : Nat}    {S : gm_M}  {S'  : gm_M} (hf : Rd_readRule fl S = some S') : gm_Met l yX5_readRule cX5_readRule 5 none 3 66 cf ad gm_sC 106 [.ref (ad 1)] S none S' := by
  refine gm_met (by decide +kernel) (Nat.le_of_ble_eq_true rfl) ?_
  intro p e s m args below meth c C hr
  have C : gm_F p s m args meth c cf ad 106 cX5_readRule 5 RX5 := C
  refine gm_lve (lv' := [(0, .ref (ad 1))]) rfl ?_
  unfold Rd_readRule at hf
  refine gm_aload_n C dX5_readRule_0 rfl 0 rfl ?_
  refine gm_iconst (v := 0) C dX5_readRule_1 (by decide) ?_
  refine gm_iconst (v := 4) C dX5_readRule_2 (by decide) ?_
  obtain ⟨v1, S2, eS2, hf⟩ := gm_bp2_s hf
  refine gm_callVi (As := [.int 0, .int 4]) C (Rd_readNumber_c l cf ad eS2) (Nat.le_of_ble_eq_true rfl) rfl kc_5 wy_Rd_readNumber rfl wl_406 rfl ⟨(Nat.le_of_ble_eq_true rfl), (Nat.le_of_ble_eq_true rfl)⟩ rfl (Nat.le_of_ble_eq_true rfl) dX5_readRule_3 ?_
  refine gm_istore_n (lv' := [(1, .int v1), (0, .ref (ad 1))]) C dX5_readRule_6 rfl (by decide) rfl ?_
  refine gm_aload_n C dX5_readRule_7 rfl 1 rfl ?_
  refine gm_iconst (v := 0) C dX5_readRule_8 (by decide) ?_
  refine gm_bipush (v := 99) C dX5_readRule_9 (by decide) ?_
  obtain ⟨v3, S4, eS4, hf⟩ := gm_bp2_s hf
  refine gm_callVi (As := [.int 0, .int 99]) C (Rd_readNumber_c l cf ad eS4) (Nat.le_of_ble_eq_true rfl) rfl kc_5 wy_Rd_readNumber rfl wl_406 rfl ⟨(Nat.le_of_ble_eq_true rfl), (Nat.le_of_ble_eq_true rfl)⟩ rfl (Nat.le_of_ble_eq_true rfl) dX5_readRule_11 ?_
  refine gm_istore_n (lv' := [(2, .int v3), (1, .int v1), (0, .ref (ad 1))]) C dX5_readRule_14 rfl (by decide) rfl ?_
  refine gm_aload_n C dX5_readRule_15 rfl 2 rfl ?_
  refine gm_geti C (Nat.le_of_ble_eq_true rfl) rfl kc_5 (k := 3) rfl (by decide) rfl wl_154 dX5_readRule_16 ?_
  obtain ⟨x5, ex5, hf⟩ := gm_lt_s hf
  refine gm_topi ex5 ?_
  refine gm_istore_n (lv' := [(3, .int x5), (2, .int v3), (1, .int v1), (0, .ref (ad 1))]) C dX5_readRule_19 rfl (by decide) rfl ?_
  refine gm_aload_n C dX5_readRule_20 rfl 3 rfl ?_
  refine gm_iconst (v := 0) C dX5_readRule_21 (by decide) ?_
  refine gm_bipush (v := 99) C dX5_readRule_22 (by decide) ?_
  obtain ⟨v6, S7, eS7, hf⟩ := gm_bp2_s hf
  refine gm_callVi (As := [.int 0, .int 99]) C (Rd_readNumber_c l cf ad eS7) (Nat.le_of_ble_eq_true rfl) rfl kc_5 wy_Rd_readNumber rfl wl_406 rfl ⟨(Nat.le_of_ble_eq_true rfl), (Nat.le_of_ble_eq_true rfl)⟩ rfl (Nat.le_of_ble_eq_true rfl) dX5_readRule_24 ?_
  refine gm_istore (lv' := [(4, .int v6), (3, .int x5), (2, .int v3), (1, .int v1), (0, .ref (ad 1))]) C dX5_readRule_27 (by decide) rfl ?_
  refine gm_aload_n C dX5_readRule_29 rfl 4 rfl ?_
  refine gm_geti C (Nat.le_of_ble_eq_true rfl) rfl kc_5 (k := 4) rfl (by decide) rfl wl_155 dX5_readRule_30 ?_
  obtain ⟨S8, hx, hf⟩ := gm_bp1_s hf
  have key : gm_G p l e { frames := 3, cells := 0, slots := 0, locals := 66 } s m args below meth c (MQ below (gm_Q cf ad gm_sC 106 none S') args s 0 0 (gm_A ad 106)) cf ad gm_sC 106 5 S8 52 [(0, .ref (ad 1)), (1, .int v1), (2, .int v3), (4, .int v6)] [] := by
    refine gm_aload_n C dX5_readRule_52 rfl 0 rfl ?_
    refine gm_geti C (Nat.le_of_ble_eq_true rfl) rfl kc_5 (k := 4) rfl (by decide) rfl wl_155 dX5_readRule_53 ?_
    refine gm_if_ne C 73 dX5_readRule_56 (by decide) (fun c9 => ?_) (fun c9 => ?_)
    · have hf := gm_if _ c9 hf
      exact gm_vret C hr dX5_readRule_73 hf
    · have hf := gm_it _ c9 hf
      refine gm_aload_n C dX5_readRule_59 rfl 0 rfl ?_
      refine gm_getr (j := 3) (u := 4) C (Nat.le_of_ble_eq_true rfl) rfl kc_5 (k := 1) rfl (by decide) rfl rfl wl_151 dX5_readRule_60 ?_
      refine gm_iload_n C dX5_readRule_63 rfl 1 rfl ?_
      refine gm_iload_n C dX5_readRule_64 rfl 2 rfl ?_
      refine gm_iload C dX5_readRule_65 3 rfl ?_
      obtain ⟨v10, ev10, hf⟩ := gm_bp1_s hf
      refine gm_callSi (As := [.int v1, .int v3, .int v6]) C (Ru_code_c l cf ad ev10 (S := S8)) wy_Ru_code wl_438 rfl ⟨(Nat.le_of_ble_eq_true rfl), (Nat.le_of_ble_eq_true rfl)⟩ rfl (Nat.le_of_ble_eq_true rfl) dX5_readRule_67 ?_
      obtain ⟨S11, eS11, hf⟩ := gm_bp1_s hf
      refine gm_callVv (As := [.int v10]) C (Tr_addRule_c l cf ad gm_tr_4 eS11) (Nat.le_of_ble_eq_true rfl) rfl kc_9 wy_Tr_addRule rfl wl_441 rfl ⟨(Nat.le_of_ble_eq_true rfl), (Nat.le_of_ble_eq_true rfl)⟩ rfl (Nat.le_of_ble_eq_true rfl) dX5_readRule_70 ?_
      exact gm_vret C hr dX5_readRule_73 hf
  have hf := hx
  refine gm_if_ne C 52 dX5_readRule_33 (by decide) (fun c12 => ?_) (fun c12 => ?_)
  · have hf := gm_if _ c12 hf
    cases hf
    exact gm_lvp [4, 3, 2, 0] rfl key
  · have hf := gm_it _ c12 hf
    refine gm_iload_n C dX5_readRule_36 rfl 3 rfl ?_
    refine gm_iload_n C dX5_readRule_37 rfl 2 rfl ?_
    refine gm_iload C dX5_readRule_38 0 rfl ?_
    obtain ⟨v13, ev13, hf⟩ := gm_bp1_s hf
    refine gm_callSi (As := [.int v1, .int v3, .int v6]) C (Ru_mayBeTold_c l cf ad ev13 (S := S7)) wy_Ru_mayBeTold wl_422 rfl ⟨(Nat.le_of_ble_eq_true rfl), (Nat.le_of_ble_eq_true rfl)⟩ rfl (Nat.le_of_ble_eq_true rfl) dX5_readRule_40 ?_
    refine gm_if_ne C 52 dX5_readRule_43 (by decide) (fun c14 => ?_) (fun c14 => ?_)
    · have hf := gm_if _ c14 hf
      cases hf
      exact gm_lvp [4, 3, 2, 0] rfl key
    · have hf := gm_it _ c14 hf
      refine gm_aload_n C dX5_readRule_46 rfl 4 rfl ?_
      refine gm_iconst (v := 4) C dX5_readRule_47 (by decide) ?_
      refine gm_iload_n C dX5_readRule_48 rfl 1 rfl ?_
      obtain ⟨S15, eS15, hf⟩ := gm_bp1_s hf
      refine gm_callVv (As := [.int 4, .int x5]) C (Rd_setFault_c l cf ad eS15) (Nat.le_of_ble_eq_true rfl) rfl kc_5 wy_Rd_setFault rfl wl_394 rfl ⟨(Nat.le_of_ble_eq_true rfl), (Nat.le_of_ble_eq_true rfl)⟩ rfl (Nat.le_of_ble_eq_true rfl) dX5_readRule_49 ?_
      cases hf
      exact gm_lvp [4, 3, 2, 0] rfl key
end
section
theorem dX9_numbers_0 : decode cX9_numbers 0 = .ok (.aload_n 0, 1) := by decide +kernel
theorem dX9_numbers_1 : decode cX9_numbers 1 = .ok (.getfield 21, 3) := by decide +kernel
theorem dX9_numbers_4 : decode cX9_numbers 4 = .ok (.ifCond .ne 7, 3) := by decide +kernel
theorem dX9_numbers_7 : decode cX9_numbers 7 = .ok (.iconst 0, 1) := by decide +kernel
theorem dX9_numbers_8 : decode cX9_numbers 8 = .ok (.goto 4, 3) := by decide +kernel
theorem dX9_numbers_11 : decode cX9_numbers 11 = .ok (.iconst 1, 1) := by decide +kernel
theorem dX9_numbers_12 : decode cX9_numbers 12 = .ok (.istore_n 1, 1) := by decide +kernel
theorem dX9_numbers_13 : decode cX9_numbers 13 = .ok (.iconst 0, 1) := by decide +kernel
theorem dX9_numbers_14 : decode cX9_numbers 14 = .ok (.istore_n 2, 1) := by decide +kernel
theorem dX9_numbers_15 : decode cX9_numbers 15 = .ok (.iload_n 2, 1) := by decide +kernel
theorem dX9_numbers_16 : decode cX9_numbers 16 = .ok (.aload_n 0, 1) := by decide +kernel
theorem dX9_numbers_17 : decode cX9_numbers 17 = .ok (.getfield 21, 3) := by decide +kernel
theorem dX9_numbers_20 : decode cX9_numbers 20 = .ok (.if_icmp .ge 19, 3) := by decide +kernel
theorem dX9_numbers_23 : decode cX9_numbers 23 = .ok (.iload_n 2, 1) := by decide +kernel
theorem dX9_numbers_24 : decode cX9_numbers 24 = .ok (.iconst 4, 1) := by decide +kernel
theorem dX9_numbers_25 : decode cX9_numbers 25 = .ok (.if_icmp .ge 14, 3) := by decide +kernel
theorem dX9_numbers_28 : decode cX9_numbers 28 = .ok (.iload_n 1, 1) := by decide +kernel
theorem dX9_numbers_29 : decode cX9_numbers 29 = .ok (.bipush 10, 2) := by decide +kernel
theorem dX9_numbers_31 : decode cX9_numbers 31 = .ok (.imul, 1) := by decide +kernel
theorem dX9_numbers_32 : decode cX9_numbers 32 = .ok (.istore_n 1, 1) := by decide +kernel
theorem dX9_numbers_33 : decode cX9_numbers 33 = .ok (.iinc 2 1, 3) := by decide +kernel
theorem dX9_numbers_36 : decode cX9_numbers 36 = .ok (.goto (-21), 3) := by decide +kernel
theorem dX9_numbers_39 : decode cX9_numbers 39 = .ok (.iload_n 1, 1) := by decide +kernel
theorem dX9_numbers_40 : decode cX9_numbers 40 = .ok (.ireturn, 1) := by decide +kernel
def Tr_numbers_L15_b (t : Nat) (S : gm_M) (rec : Int32 → Int32 → Option (Int32)) (y2 : Int32) (y3 : Int32) : Option (Int32) :=
  if S.1 t 3 ≤ y3 then (
    some (y2)
  ) else (
    if (4 : Int32) ≤ y3 then (
      some (y2)
    ) else (
      gm_lt (α := Int32) (y2 * 10) fun x7 =>
      gm_lt (α := Int32) (y3 + 1) fun x8 =>
      rec x7 x8
    )
  )
def Tr_numbers_L15 (t : Nat) (S : gm_M) : Nat → Int32 → Int32 → Option (Int32)
  | 0 => fun _ _ => none
  | n + 1 => Tr_numbers_L15_b t S (Tr_numbers_L15 t S n)
def Tr_numbers (fl : Nat) (t : Nat) (S : gm_M) : Option Int32 :=
  gm_bp1 (show Option (Int32) from
    if S.1 t 3 = 0 then (
      some (0)
    ) else (
      some (1)
    )
  ) fun x1 =>
  gm_bp1 (Tr_numbers_L15 t S fl x1 0) fun z4 =>
  some (z4)
set_option maxHeartbeats 4000000 in
set_option maxRecDepth 100000 in
theorem Tr_numbers_c (l : Launch) (cf : gm_C) (ad : Nat → Nat) {fl : Nat} {t : Nat} (ht : gm_isTr t)  {S : gm_M} {r : Int32}  (hf : Tr_numbers fl t S = some r) : gm_Met l yX9_numbers cX9_numbers 3 (some .int) 0 0 cf ad gm_sC 106 [.ref (ad t)] S (some (.int r)) S := by
  refine gm_met (by decide +kernel) (Nat.le_of_ble_eq_true rfl) ?_
  intro p e s m args below meth c C hr
  have C : gm_F p s m args meth c cf ad 106 cX9_numbers 3 RX9 := C
  refine gm_lve (lv' := [(0, .ref (ad t))]) rfl ?_
  unfold Tr_numbers at hf
  refine gm_aload_n C dX9_numbers_0 rfl 0 rfl ?_
  refine gm_geti C (gm_tr_l0 ht) (gm_tr_k0 ht) kc_9 (k := 3) rfl (by decide) rfl wl_109 dX9_numbers_1 ?_
  obtain ⟨x1, hx, hf⟩ := gm_bp1_s hf
  have key : gm_G p l e { frames := 0, cells := 0, slots := 0, locals := 0 } s m args below meth c (MQ below (gm_Q cf ad gm_sC 106 (some (.int r)) S) args s 0 0 (gm_A ad 106)) cf ad gm_sC 106 3 S 12 [(0, .ref (ad t))] [.int x1] := by
    refine gm_istore_n (lv' := [(1, .int x1), (0, .ref (ad t))]) C dX9_numbers_12 rfl (by decide) rfl ?_
    refine gm_iconst (v := 0) C dX9_numbers_13 (by decide) ?_
    refine gm_istore_n (lv' := [(2, .int 0), (1, .int x1), (0, .ref (ad t))]) C dX9_numbers_14 rfl (by decide) rfl ?_
    have L15 : ∀ (n : Nat) (y2 : Int32) (y3 : Int32) (z4 : Int32), Tr_numbers_L15 t S n y2 y3 = some (z4) → gm_G p l e { frames := 0, cells := 0, slots := 0, locals := 0 } s m args below meth c (MQ below (gm_Q cf ad gm_sC 106 (some (.int r)) S) args s 0 0 (gm_A ad 106)) cf ad gm_sC 106 3 S 39 [(1, .int z4)] [] → gm_G p l e { frames := 0, cells := 0, slots := 0, locals := 0 } s m args below meth c (MQ below (gm_Q cf ad gm_sC 106 (some (.int r)) S) args s 0 0 (gm_A ad 106)) cf ad gm_sC 106 3 S 15 [(0, .ref (ad t)), (1, .int y2), (2, .int y3)] [] := by
      intro n
      induction n with
      | zero => intro y2 y3 z4 hf K; cases (show (none : Option _) = some _ from hf)
      | succ n ih =>
        intro y2 y3 z4 hf K
        have hf : Tr_numbers_L15_b t S (Tr_numbers_L15 t S n) y2 y3 = some (z4) := hf
        unfold Tr_numbers_L15_b at hf
        refine gm_iload_n C dX9_numbers_15 rfl 2 rfl ?_
        refine gm_aload_n C dX9_numbers_16 rfl 0 rfl ?_
        refine gm_geti C (gm_tr_l0 ht) (gm_tr_k0 ht) kc_9 (k := 3) rfl (by decide) rfl wl_109 dX9_numbers_17 ?_
        refine gm_icmp_ge C 39 dX9_numbers_20 (by decide) (fun c5 => ?_) (fun c5 => ?_)
        · have hf := gm_it _ c5 hf
          cases hf
          exact gm_lvp [1] rfl K
        · have hf := gm_if _ c5 hf
          refine gm_iload_n C dX9_numbers_23 rfl 2 rfl ?_
          refine gm_iconst (v := 4) C dX9_numbers_24 (by decide) ?_
          refine gm_icmp_ge C 39 dX9_numbers_25 (by decide) (fun c6 => ?_) (fun c6 => ?_)
          · have hf := gm_it _ c6 hf
            cases hf
            exact gm_lvp [1] rfl K
          · have hf := gm_if _ c6 hf
            refine gm_iload_n C dX9_numbers_28 rfl 1 rfl ?_
            refine gm_bipush (v := 10) C dX9_numbers_29 (by decide) ?_
            refine gm_imul C dX9_numbers_31 ?_
            obtain ⟨x7, ex7, hf⟩ := gm_lt_s hf
            refine gm_topi ex7 ?_
            refine gm_istore_n (lv' := [(1, .int x7), (0, .ref (ad t)), (2, .int y3)]) C dX9_numbers_32 rfl (by decide) rfl ?_
            obtain ⟨x8, ex8, hf⟩ := gm_lt_s hf
            refine gm_iinc (v := x8) (lv' := [(2, .int x8), (1, .int x7), (0, .ref (ad t))]) (j := 2) C dX9_numbers_33 rfl (by rw [ex8]; rfl) (by decide) rfl ?_
            refine gm_goto C 15 dX9_numbers_36 (by decide) ?_
            exact gm_lvp [2, 1, 0] rfl (ih _ _ _ hf K)
    obtain ⟨z4, hx, hf⟩ := gm_bp1_s hf
    refine gm_lvp [2, 1, 0] rfl (L15 fl _ _ _ hx ?_)
    refine gm_iload_n C dX9_numbers_39 rfl 0 rfl ?_
    exact gm_iretK C hr rfl dX9_numbers_40 hf
  have hf := hx
  refine gm_if_ne C 11 dX9_numbers_4 (by decide) (fun c9 => ?_) (fun c9 => ?_)
  · have hf := gm_if _ c9 hf
    refine gm_iconst (v := 1) C dX9_numbers_11 (by decide) ?_
    cases hf
    exact gm_lvp [0] rfl key
  · have hf := gm_it _ c9 hf
    refine gm_iconst (v := 0) C dX9_numbers_7 (by decide) ?_
    refine gm_goto C 12 dX9_numbers_8 (by decide) ?_
    cases hf
    exact gm_lvp [0] rfl key
theorem dX9_putRoll_0 : decode cX9_putRoll 0 = .ok (.aload_n 0, 1) := by decide +kernel
theorem dX9_putRoll_1 : decode cX9_putRoll 1 = .ok (.getfield 15, 3) := by decide +kernel
theorem dX9_putRoll_4 : decode cX9_putRoll 4 = .ok (.iload_n 1, 1) := by decide +kernel
theorem dX9_putRoll_5 : decode cX9_putRoll 5 = .ok (.iconst 2, 1) := by decide +kernel
theorem dX9_putRoll_6 : decode cX9_putRoll 6 = .ok (.imul, 1) := by decide +kernel
theorem dX9_putRoll_7 : decode cX9_putRoll 7 = .ok (.iload_n 2, 1) := by decide +kernel
theorem dX9_putRoll_8 : decode cX9_putRoll 8 = .ok (.iastore, 1) := by decide +kernel
theorem dX9_putRoll_9 : decode cX9_putRoll 9 = .ok (.aload_n 0, 1) := by decide +kernel
theorem dX9_putRoll_10 : decode cX9_putRoll 10 = .ok (.getfield 15, 3) := by decide +kernel
theorem dX9_putRoll_13 : decode cX9_putRoll 13 = .ok (.iload_n 1, 1) := by decide +kernel
theorem dX9_putRoll_14 : decode cX9_putRoll 14 = .ok (.iconst 2, 1) := by decide +kernel
theorem dX9_putRoll_15 : decode cX9_putRoll 15 = .ok (.imul, 1) := by decide +kernel
theorem dX9_putRoll_16 : decode cX9_putRoll 16 = .ok (.iconst 1, 1) := by decide +kernel
theorem dX9_putRoll_17 : decode cX9_putRoll 17 = .ok (.iadd, 1) := by decide +kernel
theorem dX9_putRoll_18 : decode cX9_putRoll 18 = .ok (.iload_n 3, 1) := by decide +kernel
theorem dX9_putRoll_19 : decode cX9_putRoll 19 = .ok (.iastore, 1) := by decide +kernel
theorem dX9_putRoll_20 : decode cX9_putRoll 20 = .ok (.return_, 1) := by decide +kernel
def Tr_putRoll (t : Nat) (a0 : Int32) (a1 : Int32) (a2 : Int32) (S : gm_M) : Option gm_M :=
  gm_ck (a0 * 2) 8 <|
  gm_lt (α := gm_M) (gm_ui S (t + 2) ((a0 * 2).toNatClampNeg) a1) fun S2 =>
  gm_ck ((a0 * 2) + 1) 8 <|
  gm_lt (α := gm_M) (gm_ui S2 (t + 2) (((a0 * 2) + 1).toNatClampNeg) a2) fun S4 =>
  some S4
set_option maxHeartbeats 4000000 in
set_option maxRecDepth 100000 in
theorem Tr_putRoll_c (l : Launch) (cf : gm_C) (ad : Nat → Nat)  {t : Nat} (ht : gm_isTr t) {a0 : Int32} {a1 : Int32} {a2 : Int32} {S : gm_M}  {S'  : gm_M} (hf : Tr_putRoll t a0 a1 a2 S = some S') : gm_Met l yX9_putRoll cX9_putRoll 4 none 0 0 cf ad gm_sC 106 [.ref (ad t), .int a0, .int a1, .int a2] S none S' := by
  refine gm_met (by decide +kernel) (Nat.le_of_ble_eq_true rfl) ?_
  intro p e s m args below meth c C hr
  have C : gm_F p s m args meth c cf ad 106 cX9_putRoll 4 RX9 := C
  refine gm_lve (lv' := [(0, .ref (ad t)), (1, .int a0), (2, .int a1), (3, .int a2)]) rfl ?_
  unfold Tr_putRoll at hf
  refine gm_aload_n C dX9_putRoll_0 rfl 0 rfl ?_
  refine gm_getr (j := 2) (u := (t + 2)) C (gm_tr_l0 ht) (gm_tr_k0 ht) kc_9 (k := 1) rfl (by decide) rfl rfl wl_107 dX9_putRoll_1 ?_
  refine gm_iload_n C dX9_putRoll_4 rfl 1 rfl ?_
  refine gm_iconst (v := 2) C dX9_putRoll_5 (by decide) ?_
  refine gm_imul C dX9_putRoll_6 ?_
  refine gm_iload_n C dX9_putRoll_7 rfl 2 rfl ?_
  obtain ⟨h1, hf⟩ := gm_ck_s hf
  refine gm_iast C (gm_tr_l2 ht) (gm_tr_k2 ht) (gm_tr_n2 ht) h1 dX9_putRoll_8 ?_
  obtain ⟨S2, eS2, hf⟩ := gm_lt_s hf
  refine gm_topm eS2 ?_
  refine gm_aload_n C dX9_putRoll_9 rfl 0 rfl ?_
  refine gm_getr (j := 2) (u := (t + 2)) C (gm_tr_l0 ht) (gm_tr_k0 ht) kc_9 (k := 1) rfl (by decide) rfl rfl wl_107 dX9_putRoll_10 ?_
  refine gm_iload_n C dX9_putRoll_13 rfl 1 rfl ?_
  refine gm_iconst (v := 2) C dX9_putRoll_14 (by decide) ?_
  refine gm_imul C dX9_putRoll_15 ?_
  refine gm_iconst (v := 1) C dX9_putRoll_16 (by decide) ?_
  refine gm_iadd C dX9_putRoll_17 ?_
  refine gm_iload_n C dX9_putRoll_18 rfl 3 rfl ?_
  obtain ⟨h3, hf⟩ := gm_ck_s hf
  refine gm_iast C (gm_tr_l2 ht) (gm_tr_k2 ht) (gm_tr_n2 ht) h3 dX9_putRoll_19 ?_
  obtain ⟨S4, eS4, hf⟩ := gm_lt_s hf
  refine gm_topm eS4 ?_
  exact gm_vret C hr dX9_putRoll_20 hf
theorem dX9_addRoll_0 : decode cX9_addRoll 0 = .ok (.aload_n 0, 1) := by decide +kernel
theorem dX9_addRoll_1 : decode cX9_addRoll 1 = .ok (.getfield 34, 3) := by decide +kernel
theorem dX9_addRoll_4 : decode cX9_addRoll 4 = .ok (.iconst 4, 1) := by decide +kernel
theorem dX9_addRoll_5 : decode cX9_addRoll 5 = .ok (.if_icmp .ge 23, 3) := by decide +kernel
theorem dX9_addRoll_8 : decode cX9_addRoll 8 = .ok (.aload_n 0, 1) := by decide +kernel
theorem dX9_addRoll_9 : decode cX9_addRoll 9 = .ok (.aload_n 0, 1) := by decide +kernel
theorem dX9_addRoll_10 : decode cX9_addRoll 10 = .ok (.getfield 34, 3) := by decide +kernel
theorem dX9_addRoll_13 : decode cX9_addRoll 13 = .ok (.iload_n 1, 1) := by decide +kernel
theorem dX9_addRoll_14 : decode cX9_addRoll 14 = .ok (.iload_n 2, 1) := by decide +kernel
theorem dX9_addRoll_15 : decode cX9_addRoll 15 = .ok (.invokevirtual 46, 3) := by decide +kernel
theorem dX9_addRoll_18 : decode cX9_addRoll 18 = .ok (.aload_n 0, 1) := by decide +kernel
theorem dX9_addRoll_19 : decode cX9_addRoll 19 = .ok (.dup, 1) := by decide +kernel
theorem dX9_addRoll_20 : decode cX9_addRoll 20 = .ok (.getfield 34, 3) := by decide +kernel
theorem dX9_addRoll_23 : decode cX9_addRoll 23 = .ok (.iconst 1, 1) := by decide +kernel
theorem dX9_addRoll_24 : decode cX9_addRoll 24 = .ok (.iadd, 1) := by decide +kernel
theorem dX9_addRoll_25 : decode cX9_addRoll 25 = .ok (.putfield 34, 3) := by decide +kernel
theorem dX9_addRoll_28 : decode cX9_addRoll 28 = .ok (.return_, 1) := by decide +kernel
def Tr_addRoll (t : Nat) (a0 : Int32) (a1 : Int32) (S : gm_M) : Option gm_M :=
  if (4 : Int32) ≤ S.1 t 7 then (
    some S
  ) else (
    gm_bp1 (Tr_putRoll t (S.1 t 7) a0 a1 S) fun S2 =>
    gm_lt (α := gm_M) (gm_ui S2 t 7 ((S2.1 t 7) + 1)) fun S3 =>
    some S3
  )
set_option maxHeartbeats 4000000 in
set_option maxRecDepth 100000 in
theorem Tr_addRoll_c (l : Launch) (cf : gm_C) (ad : Nat → Nat)  {t : Nat} (ht : gm_isTr t) {a0 : Int32} {a1 : Int32} {S : gm_M}  {S'  : gm_M} (hf : Tr_addRoll t a0 a1 S = some S') : gm_Met l yX9_addRoll cX9_addRoll 3 none 1 23 cf ad gm_sC 106 [.ref (ad t), .int a0, .int a1] S none S' := by
  refine gm_met (by decide +kernel) (Nat.le_of_ble_eq_true rfl) ?_
  intro p e s m args below meth c C hr
  have C : gm_F p s m args meth c cf ad 106 cX9_addRoll 3 RX9 := C
  refine gm_lve (lv' := [(0, .ref (ad t)), (1, .int a0), (2, .int a1)]) rfl ?_
  unfold Tr_addRoll at hf
  refine gm_aload_n C dX9_addRoll_0 rfl 0 rfl ?_
  refine gm_geti C (gm_tr_l0 ht) (gm_tr_k0 ht) kc_9 (k := 7) rfl (by decide) rfl wl_123 dX9_addRoll_1 ?_
  refine gm_iconst (v := 4) C dX9_addRoll_4 (by decide) ?_
  refine gm_icmp_ge C 28 dX9_addRoll_5 (by decide) (fun c1 => ?_) (fun c1 => ?_)
  · have hf := gm_it _ c1 hf
    exact gm_vret C hr dX9_addRoll_28 hf
  · have hf := gm_if _ c1 hf
    refine gm_aload_n C dX9_addRoll_8 rfl 0 rfl ?_
    refine gm_aload_n C dX9_addRoll_9 rfl 0 rfl ?_
    refine gm_geti C (gm_tr_l0 ht) (gm_tr_k0 ht) kc_9 (k := 7) rfl (by decide) rfl wl_123 dX9_addRoll_10 ?_
    refine gm_iload_n C dX9_addRoll_13 rfl 1 rfl ?_
    refine gm_iload_n C dX9_addRoll_14 rfl 2 rfl ?_
    obtain ⟨S2, eS2, hf⟩ := gm_bp1_s hf
    refine gm_callVv (As := [.int (S.1 t 7), .int a0, .int a1]) C (Tr_putRoll_c l cf ad ht eS2) (gm_tr_l0 ht) (gm_tr_k0 ht) kc_9 wy_Tr_putRoll rfl wl_457 rfl ⟨(Nat.le_of_ble_eq_true rfl), (Nat.le_of_ble_eq_true rfl)⟩ rfl (Nat.le_of_ble_eq_true rfl) dX9_addRoll_15 ?_
    refine gm_aload_n C dX9_addRoll_18 rfl 0 rfl ?_
    refine gm_dup C dX9_addRoll_19 rfl ?_
    refine gm_geti C (gm_tr_l0 ht) (gm_tr_k0 ht) kc_9 (k := 7) rfl (by decide) rfl wl_123 dX9_addRoll_20 ?_
    refine gm_iconst (v := 1) C dX9_addRoll_23 (by decide) ?_
    refine gm_iadd C dX9_addRoll_24 ?_
    refine gm_puti C (gm_tr_l0 ht) (gm_tr_k0 ht) kc_9 (k := 7) rfl (by decide) rfl rfl (kc_9.2.2.2.1 7 (by decide)) rfl rfl wl_123 dX9_addRoll_25 ?_
    obtain ⟨S3, eS3, hf⟩ := gm_lt_s hf
    refine gm_topm eS3 ?_
    exact gm_vret C hr dX9_addRoll_28 hf
theorem dX5_readRoll_0 : decode cX5_readRoll 0 = .ok (.aload_n 0, 1) := by decide +kernel
theorem dX5_readRoll_1 : decode cX5_readRoll 1 = .ok (.iconst 0, 1) := by decide +kernel
theorem dX5_readRoll_2 : decode cX5_readRoll 2 = .ok (.aload_n 0, 1) := by decide +kernel
theorem dX5_readRoll_3 : decode cX5_readRoll 3 = .ok (.getfield 21, 3) := by decide +kernel
theorem dX5_readRoll_6 : decode cX5_readRoll 6 = .ok (.invokevirtual 120, 3) := by decide +kernel
theorem dX5_readRoll_9 : decode cX5_readRoll 9 = .ok (.iconst 1, 1) := by decide +kernel
theorem dX5_readRoll_10 : decode cX5_readRoll 10 = .ok (.isub, 1) := by decide +kernel
theorem dX5_readRoll_11 : decode cX5_readRoll 11 = .ok (.invokevirtual 96, 3) := by decide +kernel
theorem dX5_readRoll_14 : decode cX5_readRoll 14 = .ok (.istore_n 1, 1) := by decide +kernel
theorem dX5_readRoll_15 : decode cX5_readRoll 15 = .ok (.aload_n 0, 1) := by decide +kernel
theorem dX5_readRoll_16 : decode cX5_readRoll 16 = .ok (.iconst 0, 1) := by decide +kernel
theorem dX5_readRoll_17 : decode cX5_readRoll 17 = .ok (.sipush 200, 3) := by decide +kernel
theorem dX5_readRoll_20 : decode cX5_readRoll 20 = .ok (.invokevirtual 96, 3) := by decide +kernel
theorem dX5_readRoll_23 : decode cX5_readRoll 23 = .ok (.istore_n 2, 1) := by decide +kernel
theorem dX5_readRoll_24 : decode cX5_readRoll 24 = .ok (.aload_n 0, 1) := by decide +kernel
theorem dX5_readRoll_25 : decode cX5_readRoll 25 = .ok (.getfield 32, 3) := by decide +kernel
theorem dX5_readRoll_28 : decode cX5_readRoll 28 = .ok (.ifCond .ne 12, 3) := by decide +kernel
theorem dX5_readRoll_31 : decode cX5_readRoll 31 = .ok (.aload_n 0, 1) := by decide +kernel
theorem dX5_readRoll_32 : decode cX5_readRoll 32 = .ok (.getfield 21, 3) := by decide +kernel
theorem dX5_readRoll_35 : decode cX5_readRoll 35 = .ok (.iload_n 1, 1) := by decide +kernel
theorem dX5_readRoll_36 : decode cX5_readRoll 36 = .ok (.iload_n 2, 1) := by decide +kernel
theorem dX5_readRoll_37 : decode cX5_readRoll 37 = .ok (.invokevirtual 124, 3) := by decide +kernel
theorem dX5_readRoll_40 : decode cX5_readRoll 40 = .ok (.return_, 1) := by decide +kernel
def Rd_readRoll (fl : Nat) (S : gm_M) : Option gm_M :=
  gm_bp1 (Tr_numbers fl 4 S) fun v1 =>
  gm_bp2 (Rd_readNumber fl 0 (v1 - 1) S) fun v2 S3 =>
  gm_bp2 (Rd_readNumber fl 0 200 S3) fun v4 S5 =>
  if S5.1 1 4 = 0 then (
    gm_bp1 (Tr_addRoll 4 v2 v4 S5) fun S7 =>
    some S7
  ) else (
    some S5
  )
set_option maxHeartbeats 4000000 in
set_option maxRecDepth 100000 in
theorem Rd_readRoll_c (l : Launch) (cf : gm_C) (ad : Nat → Nat) {fl : Nat}    {S : gm_M}  {S'  : gm_M} (hf : Rd_readRoll fl S = some S') : gm_Met l yX5_readRoll cX5_readRoll 3 none 3 66 cf ad gm_sC 106 [.ref (ad 1)] S none S' := by
  refine gm_met (by decide +kernel) (Nat.le_of_ble_eq_true rfl) ?_
  intro p e s m args below meth c C hr
  have C : gm_F p s m args meth c cf ad 106 cX5_readRoll 3 RX5 := C
  refine gm_lve (lv' := [(0, .ref (ad 1))]) rfl ?_
  unfold Rd_readRoll at hf
  refine gm_aload_n C dX5_readRoll_0 rfl 0 rfl ?_
  refine gm_iconst (v := 0) C dX5_readRoll_1 (by decide) ?_
  refine gm_aload_n C dX5_readRoll_2 rfl 0 rfl ?_
  refine gm_getr (j := 3) (u := 4) C (Nat.le_of_ble_eq_true rfl) rfl kc_5 (k := 1) rfl (by decide) rfl rfl wl_151 dX5_readRoll_3 ?_
  obtain ⟨v1, ev1, hf⟩ := gm_bp1_s hf
  refine gm_callVi (As := []) C (Tr_numbers_c l cf ad gm_tr_4 ev1) (Nat.le_of_ble_eq_true rfl) rfl kc_9 wy_Tr_numbers rfl wl_449 rfl ⟨(Nat.le_of_ble_eq_true rfl), (Nat.le_of_ble_eq_true rfl)⟩ rfl (Nat.le_of_ble_eq_true rfl) dX5_readRoll_6 ?_
  refine gm_iconst (v := 1) C dX5_readRoll_9 (by decide) ?_
  refine gm_isub C dX5_readRoll_10 ?_
  obtain ⟨v2, S3, eS3, hf⟩ := gm_bp2_s hf
  refine gm_callVi (As := [.int 0, .int (v1 - 1)]) C (Rd_readNumber_c l cf ad eS3) (Nat.le_of_ble_eq_true rfl) rfl kc_5 wy_Rd_readNumber rfl wl_406 rfl ⟨(Nat.le_of_ble_eq_true rfl), (Nat.le_of_ble_eq_true rfl)⟩ rfl (Nat.le_of_ble_eq_true rfl) dX5_readRoll_11 ?_
  refine gm_istore_n (lv' := [(1, .int v2), (0, .ref (ad 1))]) C dX5_readRoll_14 rfl (by decide) rfl ?_
  refine gm_aload_n C dX5_readRoll_15 rfl 1 rfl ?_
  refine gm_iconst (v := 0) C dX5_readRoll_16 (by decide) ?_
  refine gm_sipush (v := 200) C dX5_readRoll_17 (by decide) ?_
  obtain ⟨v4, S5, eS5, hf⟩ := gm_bp2_s hf
  refine gm_callVi (As := [.int 0, .int 200]) C (Rd_readNumber_c l cf ad eS5) (Nat.le_of_ble_eq_true rfl) rfl kc_5 wy_Rd_readNumber rfl wl_406 rfl ⟨(Nat.le_of_ble_eq_true rfl), (Nat.le_of_ble_eq_true rfl)⟩ rfl (Nat.le_of_ble_eq_true rfl) dX5_readRoll_20 ?_
  refine gm_istore_n (lv' := [(2, .int v4), (1, .int v2), (0, .ref (ad 1))]) C dX5_readRoll_23 rfl (by decide) rfl ?_
  refine gm_aload_n C dX5_readRoll_24 rfl 2 rfl ?_
  refine gm_geti C (Nat.le_of_ble_eq_true rfl) rfl kc_5 (k := 4) rfl (by decide) rfl wl_155 dX5_readRoll_25 ?_
  refine gm_if_ne C 40 dX5_readRoll_28 (by decide) (fun c6 => ?_) (fun c6 => ?_)
  · have hf := gm_if _ c6 hf
    exact gm_vret C hr dX5_readRoll_40 hf
  · have hf := gm_it _ c6 hf
    refine gm_aload_n C dX5_readRoll_31 rfl 2 rfl ?_
    refine gm_getr (j := 3) (u := 4) C (Nat.le_of_ble_eq_true rfl) rfl kc_5 (k := 1) rfl (by decide) rfl rfl wl_151 dX5_readRoll_32 ?_
    refine gm_iload_n C dX5_readRoll_35 rfl 1 rfl ?_
    refine gm_iload_n C dX5_readRoll_36 rfl 0 rfl ?_
    obtain ⟨S7, eS7, hf⟩ := gm_bp1_s hf
    refine gm_callVv (As := [.int v2, .int v4]) C (Tr_addRoll_c l cf ad gm_tr_4 eS7) (Nat.le_of_ble_eq_true rfl) rfl kc_9 wy_Tr_addRoll rfl wl_453 rfl ⟨(Nat.le_of_ble_eq_true rfl), (Nat.le_of_ble_eq_true rfl)⟩ rfl (Nat.le_of_ble_eq_true rfl) dX5_readRoll_37 ?_
    exact gm_vret C hr dX5_readRoll_40 hf
theorem dX9_addRider_0 : decode cX9_addRider 0 = .ok (.aload_n 0, 1) := by decide +kernel
theorem dX9_addRider_1 : decode cX9_addRider 1 = .ok (.getfield 37, 3) := by decide +kernel
theorem dX9_addRider_4 : decode cX9_addRider 4 = .ok (.iconst 5, 1) := by decide +kernel
theorem dX9_addRider_5 : decode cX9_addRider 5 = .ok (.if_icmp .ge 51, 3) := by decide +kernel
theorem dX9_addRider_8 : decode cX9_addRider 8 = .ok (.aload_n 0, 1) := by decide +kernel
theorem dX9_addRider_9 : decode cX9_addRider 9 = .ok (.getfield 37, 3) := by decide +kernel
theorem dX9_addRider_12 : decode cX9_addRider 12 = .ok (.iconst 5, 1) := by decide +kernel
theorem dX9_addRider_13 : decode cX9_addRider 13 = .ok (.imul, 1) := by decide +kernel
theorem dX9_addRider_14 : decode cX9_addRider 14 = .ok (.istore_n 2, 1) := by decide +kernel
theorem dX9_addRider_15 : decode cX9_addRider 15 = .ok (.iconst 0, 1) := by decide +kernel
theorem dX9_addRider_16 : decode cX9_addRider 16 = .ok (.istore_n 3, 1) := by decide +kernel
theorem dX9_addRider_17 : decode cX9_addRider 17 = .ok (.iload_n 3, 1) := by decide +kernel
theorem dX9_addRider_18 : decode cX9_addRider 18 = .ok (.iconst 5, 1) := by decide +kernel
theorem dX9_addRider_19 : decode cX9_addRider 19 = .ok (.if_icmp .ge 18, 3) := by decide +kernel
theorem dX9_addRider_22 : decode cX9_addRider 22 = .ok (.aload_n 0, 1) := by decide +kernel
theorem dX9_addRider_23 : decode cX9_addRider 23 = .ok (.getfield 18, 3) := by decide +kernel
theorem dX9_addRider_26 : decode cX9_addRider 26 = .ok (.iload_n 2, 1) := by decide +kernel
theorem dX9_addRider_27 : decode cX9_addRider 27 = .ok (.iload_n 3, 1) := by decide +kernel
theorem dX9_addRider_28 : decode cX9_addRider 28 = .ok (.iadd, 1) := by decide +kernel
theorem dX9_addRider_29 : decode cX9_addRider 29 = .ok (.iconst 0, 1) := by decide +kernel
theorem dX9_addRider_30 : decode cX9_addRider 30 = .ok (.iastore, 1) := by decide +kernel
theorem dX9_addRider_31 : decode cX9_addRider 31 = .ok (.iinc 3 1, 3) := by decide +kernel
theorem dX9_addRider_34 : decode cX9_addRider 34 = .ok (.goto (-17), 3) := by decide +kernel
theorem dX9_addRider_37 : decode cX9_addRider 37 = .ok (.aload_n 0, 1) := by decide +kernel
theorem dX9_addRider_38 : decode cX9_addRider 38 = .ok (.getfield 18, 3) := by decide +kernel
theorem dX9_addRider_41 : decode cX9_addRider 41 = .ok (.iload_n 2, 1) := by decide +kernel
theorem dX9_addRider_42 : decode cX9_addRider 42 = .ok (.iconst 0, 1) := by decide +kernel
theorem dX9_addRider_43 : decode cX9_addRider 43 = .ok (.iadd, 1) := by decide +kernel
theorem dX9_addRider_44 : decode cX9_addRider 44 = .ok (.iload_n 1, 1) := by decide +kernel
theorem dX9_addRider_45 : decode cX9_addRider 45 = .ok (.iastore, 1) := by decide +kernel
theorem dX9_addRider_46 : decode cX9_addRider 46 = .ok (.aload_n 0, 1) := by decide +kernel
theorem dX9_addRider_47 : decode cX9_addRider 47 = .ok (.dup, 1) := by decide +kernel
theorem dX9_addRider_48 : decode cX9_addRider 48 = .ok (.getfield 37, 3) := by decide +kernel
theorem dX9_addRider_51 : decode cX9_addRider 51 = .ok (.iconst 1, 1) := by decide +kernel
theorem dX9_addRider_52 : decode cX9_addRider 52 = .ok (.iadd, 1) := by decide +kernel
theorem dX9_addRider_53 : decode cX9_addRider 53 = .ok (.putfield 37, 3) := by decide +kernel
theorem dX9_addRider_56 : decode cX9_addRider 56 = .ok (.return_, 1) := by decide +kernel
def Tr_addRider_L17_b (t : Nat) (x2 : Int32) (rec : Int32 → gm_M → Option (gm_M)) (y3 : Int32) (S4 : gm_M) : Option (gm_M) :=
  if (5 : Int32) ≤ y3 then (
    some (S4)
  ) else (
    gm_ck (x2 + y3) 25 <|
    gm_lt (α := gm_M) (gm_ui S4 (t + 3) ((x2 + y3).toNatClampNeg) 0) fun S8 =>
    gm_lt (α := Int32) (y3 + 1) fun x9 =>
    rec x9 S8
  )
def Tr_addRider_L17 (t : Nat) (x2 : Int32) : Nat → Int32 → gm_M → Option (gm_M)
  | 0 => fun _ _ => none
  | n + 1 => Tr_addRider_L17_b t x2 (Tr_addRider_L17 t x2 n)
def Tr_addRider (fl : Nat) (t : Nat) (a0 : Int32) (S : gm_M) : Option gm_M :=
  if (5 : Int32) ≤ S.1 t 8 then (
    some S
  ) else (
    gm_lt (α := Int32) ((S.1 t 8) * 5) fun x2 =>
    gm_bp1 (Tr_addRider_L17 t x2 fl 0 S) fun S5 =>
    gm_ck (x2 + 0) 25 <|
    gm_lt (α := gm_M) (gm_ui S5 (t + 3) ((x2 + 0).toNatClampNeg) a0) fun S11 =>
    gm_lt (α := gm_M) (gm_ui S11 t 8 ((S11.1 t 8) + 1)) fun S12 =>
    some S12
  )
set_option maxHeartbeats 4000000 in
set_option maxRecDepth 100000 in
theorem Tr_addRider_c (l : Launch) (cf : gm_C) (ad : Nat → Nat) {fl : Nat} {t : Nat} (ht : gm_isTr t) {a0 : Int32} {S : gm_M}  {S'  : gm_M} (hf : Tr_addRider fl t a0 S = some S') : gm_Met l yX9_addRider cX9_addRider 4 none 0 0 cf ad gm_sC 106 [.ref (ad t), .int a0] S none S' := by
  refine gm_met (by decide +kernel) (Nat.le_of_ble_eq_true rfl) ?_
  intro p e s m args below meth c C hr
  have C : gm_F p s m args meth c cf ad 106 cX9_addRider 4 RX9 := C
  refine gm_lve (lv' := [(0, .ref (ad t)), (1, .int a0)]) rfl ?_
  unfold Tr_addRider at hf
  refine gm_aload_n C dX9_addRider_0 rfl 0 rfl ?_
  refine gm_geti C (gm_tr_l0 ht) (gm_tr_k0 ht) kc_9 (k := 8) rfl (by decide) rfl wl_126 dX9_addRider_1 ?_
  refine gm_iconst (v := 5) C dX9_addRider_4 (by decide) ?_
  refine gm_icmp_ge C 56 dX9_addRider_5 (by decide) (fun c1 => ?_) (fun c1 => ?_)
  · have hf := gm_it _ c1 hf
    exact gm_vret C hr dX9_addRider_56 hf
  · have hf := gm_if _ c1 hf
    refine gm_aload_n C dX9_addRider_8 rfl 0 rfl ?_
    refine gm_geti C (gm_tr_l0 ht) (gm_tr_k0 ht) kc_9 (k := 8) rfl (by decide) rfl wl_126 dX9_addRider_9 ?_
    refine gm_iconst (v := 5) C dX9_addRider_12 (by decide) ?_
    refine gm_imul C dX9_addRider_13 ?_
    obtain ⟨x2, ex2, hf⟩ := gm_lt_s hf
    refine gm_topi ex2 ?_
    refine gm_istore_n (lv' := [(2, .int x2), (0, .ref (ad t)), (1, .int a0)]) C dX9_addRider_14 rfl (by decide) rfl ?_
    refine gm_iconst (v := 0) C dX9_addRider_15 (by decide) ?_
    refine gm_istore_n (lv' := [(3, .int 0), (2, .int x2), (0, .ref (ad t)), (1, .int a0)]) C dX9_addRider_16 rfl (by decide) rfl ?_
    have L17 : ∀ (n : Nat) (y3 : Int32) (S4 : gm_M) (S5 : gm_M), Tr_addRider_L17 t x2 n y3 S4 = some (S5) → gm_G p l e { frames := 0, cells := 0, slots := 0, locals := 0 } s m args below meth c (MQ below (gm_Q cf ad gm_sC 106 none S') args s 0 0 (gm_A ad 106)) cf ad gm_sC 106 4 S5 37 [(0, .ref (ad t)), (1, .int a0), (2, .int x2)] [] → gm_G p l e { frames := 0, cells := 0, slots := 0, locals := 0 } s m args below meth c (MQ below (gm_Q cf ad gm_sC 106 none S') args s 0 0 (gm_A ad 106)) cf ad gm_sC 106 4 S4 17 [(0, .ref (ad t)), (1, .int a0), (2, .int x2), (3, .int y3)] [] := by
      intro n
      induction n with
      | zero => intro y3 S4 S5 hf K; cases (show (none : Option _) = some _ from hf)
      | succ n ih =>
        intro y3 S4 S5 hf K
        have hf : Tr_addRider_L17_b t x2 (Tr_addRider_L17 t x2 n) y3 S4 = some (S5) := hf
        unfold Tr_addRider_L17_b at hf
        refine gm_iload_n C dX9_addRider_17 rfl 3 rfl ?_
        refine gm_iconst (v := 5) C dX9_addRider_18 (by decide) ?_
        refine gm_icmp_ge C 37 dX9_addRider_19 (by decide) (fun c6 => ?_) (fun c6 => ?_)
        · have hf := gm_it _ c6 hf
          cases hf
          exact gm_lvp [0, 1, 2] rfl K
        · have hf := gm_if _ c6 hf
          refine gm_aload_n C dX9_addRider_22 rfl 0 rfl ?_
          refine gm_getr (j := 3) (u := (t + 3)) C (gm_tr_l0 ht) (gm_tr_k0 ht) kc_9 (k := 2) rfl (by decide) rfl rfl wl_108 dX9_addRider_23 ?_
          refine gm_iload_n C dX9_addRider_26 rfl 2 rfl ?_
          refine gm_iload_n C dX9_addRider_27 rfl 3 rfl ?_
          refine gm_iadd C dX9_addRider_28 ?_
          refine gm_iconst (v := 0) C dX9_addRider_29 (by decide) ?_
          obtain ⟨h7, hf⟩ := gm_ck_s hf
          refine gm_iast C (gm_tr_l3 ht) (gm_tr_k3 ht) (gm_tr_n3 ht) h7 dX9_addRider_30 ?_
          obtain ⟨S8, eS8, hf⟩ := gm_lt_s hf
          refine gm_topm eS8 ?_
          obtain ⟨x9, ex9, hf⟩ := gm_lt_s hf
          refine gm_iinc (v := x9) (lv' := [(3, .int x9), (0, .ref (ad t)), (1, .int a0), (2, .int x2)]) (j := 3) C dX9_addRider_31 rfl (by rw [ex9]; rfl) (by decide) rfl ?_
          refine gm_goto C 17 dX9_addRider_34 (by decide) ?_
          exact gm_lvp [1, 2, 3, 0] rfl (ih _ _ _ hf K)
    obtain ⟨S5, hx, hf⟩ := gm_bp1_s hf
    refine gm_lvp [2, 3, 1, 0] rfl (L17 fl _ _ _ hx ?_)
    refine gm_aload_n C dX9_addRider_37 rfl 0 rfl ?_
    refine gm_getr (j := 3) (u := (t + 3)) C (gm_tr_l0 ht) (gm_tr_k0 ht) kc_9 (k := 2) rfl (by decide) rfl rfl wl_108 dX9_addRider_38 ?_
    refine gm_iload_n C dX9_addRider_41 rfl 2 rfl ?_
    refine gm_iconst (v := 0) C dX9_addRider_42 (by decide) ?_
    refine gm_iadd C dX9_addRider_43 ?_
    refine gm_iload_n C dX9_addRider_44 rfl 1 rfl ?_
    obtain ⟨h10, hf⟩ := gm_ck_s hf
    refine gm_iast C (gm_tr_l3 ht) (gm_tr_k3 ht) (gm_tr_n3 ht) h10 dX9_addRider_45 ?_
    obtain ⟨S11, eS11, hf⟩ := gm_lt_s hf
    refine gm_topm eS11 ?_
    refine gm_aload_n C dX9_addRider_46 rfl 0 rfl ?_
    refine gm_dup C dX9_addRider_47 rfl ?_
    refine gm_geti C (gm_tr_l0 ht) (gm_tr_k0 ht) kc_9 (k := 8) rfl (by decide) rfl wl_126 dX9_addRider_48 ?_
    refine gm_iconst (v := 1) C dX9_addRider_51 (by decide) ?_
    refine gm_iadd C dX9_addRider_52 ?_
    refine gm_puti C (gm_tr_l0 ht) (gm_tr_k0 ht) kc_9 (k := 8) rfl (by decide) rfl rfl (kc_9.2.2.2.1 8 (by decide)) rfl rfl wl_126 dX9_addRider_53 ?_
    obtain ⟨S12, eS12, hf⟩ := gm_lt_s hf
    refine gm_topm eS12 ?_
    exact gm_vret C hr dX9_addRider_56 hf
theorem dX5_readRider_0 : decode cX5_readRider 0 = .ok (.aload_n 0, 1) := by decide +kernel
theorem dX5_readRider_1 : decode cX5_readRider 1 = .ok (.iconst 0, 1) := by decide +kernel
theorem dX5_readRider_2 : decode cX5_readRider 2 = .ok (.iconst 3, 1) := by decide +kernel
theorem dX5_readRider_3 : decode cX5_readRider 3 = .ok (.invokevirtual 96, 3) := by decide +kernel
theorem dX5_readRider_6 : decode cX5_readRider 6 = .ok (.istore_n 1, 1) := by decide +kernel
theorem dX5_readRider_7 : decode cX5_readRider 7 = .ok (.aload_n 0, 1) := by decide +kernel
theorem dX5_readRider_8 : decode cX5_readRider 8 = .ok (.getfield 32, 3) := by decide +kernel
theorem dX5_readRider_11 : decode cX5_readRider 11 = .ok (.ifCond .ne 11, 3) := by decide +kernel
theorem dX5_readRider_14 : decode cX5_readRider 14 = .ok (.aload_n 0, 1) := by decide +kernel
theorem dX5_readRider_15 : decode cX5_readRider 15 = .ok (.getfield 21, 3) := by decide +kernel
theorem dX5_readRider_18 : decode cX5_readRider 18 = .ok (.iload_n 1, 1) := by decide +kernel
theorem dX5_readRider_19 : decode cX5_readRider 19 = .ok (.invokevirtual 127, 3) := by decide +kernel
theorem dX5_readRider_22 : decode cX5_readRider 22 = .ok (.return_, 1) := by decide +kernel
def Rd_readRider (fl : Nat) (S : gm_M) : Option gm_M :=
  gm_bp2 (Rd_readNumber fl 0 3 S) fun v1 S2 =>
  if S2.1 1 4 = 0 then (
    gm_bp1 (Tr_addRider fl 4 v1 S2) fun S4 =>
    some S4
  ) else (
    some S2
  )
set_option maxHeartbeats 4000000 in
set_option maxRecDepth 100000 in
theorem Rd_readRider_c (l : Launch) (cf : gm_C) (ad : Nat → Nat) {fl : Nat}    {S : gm_M}  {S'  : gm_M} (hf : Rd_readRider fl S = some S') : gm_Met l yX5_readRider cX5_readRider 2 none 3 66 cf ad gm_sC 106 [.ref (ad 1)] S none S' := by
  refine gm_met (by decide +kernel) (Nat.le_of_ble_eq_true rfl) ?_
  intro p e s m args below meth c C hr
  have C : gm_F p s m args meth c cf ad 106 cX5_readRider 2 RX5 := C
  refine gm_lve (lv' := [(0, .ref (ad 1))]) rfl ?_
  unfold Rd_readRider at hf
  refine gm_aload_n C dX5_readRider_0 rfl 0 rfl ?_
  refine gm_iconst (v := 0) C dX5_readRider_1 (by decide) ?_
  refine gm_iconst (v := 3) C dX5_readRider_2 (by decide) ?_
  obtain ⟨v1, S2, eS2, hf⟩ := gm_bp2_s hf
  refine gm_callVi (As := [.int 0, .int 3]) C (Rd_readNumber_c l cf ad eS2) (Nat.le_of_ble_eq_true rfl) rfl kc_5 wy_Rd_readNumber rfl wl_406 rfl ⟨(Nat.le_of_ble_eq_true rfl), (Nat.le_of_ble_eq_true rfl)⟩ rfl (Nat.le_of_ble_eq_true rfl) dX5_readRider_3 ?_
  refine gm_istore_n (lv' := [(1, .int v1), (0, .ref (ad 1))]) C dX5_readRider_6 rfl (by decide) rfl ?_
  refine gm_aload_n C dX5_readRider_7 rfl 1 rfl ?_
  refine gm_geti C (Nat.le_of_ble_eq_true rfl) rfl kc_5 (k := 4) rfl (by decide) rfl wl_155 dX5_readRider_8 ?_
  refine gm_if_ne C 22 dX5_readRider_11 (by decide) (fun c3 => ?_) (fun c3 => ?_)
  · have hf := gm_if _ c3 hf
    exact gm_vret C hr dX5_readRider_22 hf
  · have hf := gm_it _ c3 hf
    refine gm_aload_n C dX5_readRider_14 rfl 1 rfl ?_
    refine gm_getr (j := 3) (u := 4) C (Nat.le_of_ble_eq_true rfl) rfl kc_5 (k := 1) rfl (by decide) rfl rfl wl_151 dX5_readRider_15 ?_
    refine gm_iload_n C dX5_readRider_18 rfl 0 rfl ?_
    obtain ⟨S4, eS4, hf⟩ := gm_bp1_s hf
    refine gm_callVv (As := [.int v1]) C (Tr_addRider_c l cf ad gm_tr_4 eS4) (Nat.le_of_ble_eq_true rfl) rfl kc_9 wy_Tr_addRider rfl wl_465 rfl ⟨(Nat.le_of_ble_eq_true rfl), (Nat.le_of_ble_eq_true rfl)⟩ rfl (Nat.le_of_ble_eq_true rfl) dX5_readRider_19 ?_
    exact gm_vret C hr dX5_readRider_22 hf
theorem dX5_readEnd_0 : decode cX5_readEnd 0 = .ok (.aload_n 0, 1) := by decide +kernel
theorem dX5_readEnd_1 : decode cX5_readEnd 1 = .ok (.invokevirtual 42, 3) := by decide +kernel
theorem dX5_readEnd_4 : decode cX5_readEnd 4 = .ok (.aload_n 0, 1) := by decide +kernel
theorem dX5_readEnd_5 : decode cX5_readEnd 5 = .ok (.getfield 12, 3) := by decide +kernel
theorem dX5_readEnd_8 : decode cX5_readEnd 8 = .ok (.aload_n 0, 1) := by decide +kernel
theorem dX5_readEnd_9 : decode cX5_readEnd 9 = .ok (.getfield 28, 3) := by decide +kernel
theorem dX5_readEnd_12 : decode cX5_readEnd 12 = .ok (.invokevirtual 51, 3) := by decide +kernel
theorem dX5_readEnd_15 : decode cX5_readEnd 15 = .ok (.bipush 59, 2) := by decide +kernel
theorem dX5_readEnd_17 : decode cX5_readEnd 17 = .ok (.if_icmp .ne 16, 3) := by decide +kernel
theorem dX5_readEnd_20 : decode cX5_readEnd 20 = .ok (.aload_n 0, 1) := by decide +kernel
theorem dX5_readEnd_21 : decode cX5_readEnd 21 = .ok (.dup, 1) := by decide +kernel
theorem dX5_readEnd_22 : decode cX5_readEnd 22 = .ok (.getfield 28, 3) := by decide +kernel
theorem dX5_readEnd_25 : decode cX5_readEnd 25 = .ok (.iconst 1, 1) := by decide +kernel
theorem dX5_readEnd_26 : decode cX5_readEnd 26 = .ok (.iadd, 1) := by decide +kernel
theorem dX5_readEnd_27 : decode cX5_readEnd 27 = .ok (.putfield 28, 3) := by decide +kernel
theorem dX5_readEnd_30 : decode cX5_readEnd 30 = .ok (.goto 12, 3) := by decide +kernel
theorem dX5_readEnd_33 : decode cX5_readEnd 33 = .ok (.aload_n 0, 1) := by decide +kernel
theorem dX5_readEnd_34 : decode cX5_readEnd 34 = .ok (.iconst 1, 1) := by decide +kernel
theorem dX5_readEnd_35 : decode cX5_readEnd 35 = .ok (.aload_n 0, 1) := by decide +kernel
theorem dX5_readEnd_36 : decode cX5_readEnd 36 = .ok (.getfield 28, 3) := by decide +kernel
theorem dX5_readEnd_39 : decode cX5_readEnd 39 = .ok (.invokevirtual 59, 3) := by decide +kernel
theorem dX5_readEnd_42 : decode cX5_readEnd 42 = .ok (.return_, 1) := by decide +kernel
def Rd_readEnd (fl : Nat) (S : gm_M) : Option gm_M :=
  gm_bp1 (Rd_skipBlanks fl S) fun S1 =>
  gm_bp1 (Tx_letterAt (S1.1 1 2) S1) fun v2 =>
  if v2 = 59 then (
    gm_lt (α := gm_M) (gm_ui S1 1 2 ((S1.1 1 2) + 1)) fun S5 =>
    some S5
  ) else (
    gm_bp1 (Rd_setFault 1 (S1.1 1 2) S1) fun S4 =>
    some S4
  )
set_option maxHeartbeats 4000000 in
set_option maxRecDepth 100000 in
theorem Rd_readEnd_c (l : Launch) (cf : gm_C) (ad : Nat → Nat) {fl : Nat}    {S : gm_M}  {S'  : gm_M} (hf : Rd_readEnd fl S = some S') : gm_Met l yX5_readEnd cX5_readEnd 1 none 2 42 cf ad gm_sC 106 [.ref (ad 1)] S none S' := by
  refine gm_met (by decide +kernel) (Nat.le_of_ble_eq_true rfl) ?_
  intro p e s m args below meth c C hr
  have C : gm_F p s m args meth c cf ad 106 cX5_readEnd 1 RX5 := C
  refine gm_lve (lv' := [(0, .ref (ad 1))]) rfl ?_
  unfold Rd_readEnd at hf
  refine gm_aload_n C dX5_readEnd_0 rfl 0 rfl ?_
  obtain ⟨S1, eS1, hf⟩ := gm_bp1_s hf
  refine gm_callVv (As := []) C (Rd_skipBlanks_c l cf ad eS1) (Nat.le_of_ble_eq_true rfl) rfl kc_5 wy_Rd_skipBlanks rfl wl_378 rfl ⟨(Nat.le_of_ble_eq_true rfl), (Nat.le_of_ble_eq_true rfl)⟩ rfl (Nat.le_of_ble_eq_true rfl) dX5_readEnd_1 ?_
  refine gm_aload_n C dX5_readEnd_4 rfl 0 rfl ?_
  refine gm_getr (j := 1) (u := 2) C (Nat.le_of_ble_eq_true rfl) rfl kc_5 (k := 0) rfl (by decide) rfl rfl wl_149 dX5_readEnd_5 ?_
  refine gm_aload_n C dX5_readEnd_8 rfl 0 rfl ?_
  refine gm_geti C (Nat.le_of_ble_eq_true rfl) rfl kc_5 (k := 2) rfl (by decide) rfl wl_153 dX5_readEnd_9 ?_
  obtain ⟨v2, ev2, hf⟩ := gm_bp1_s hf
  refine gm_callVi (As := [.int (S1.1 1 2)]) C (Tx_letterAt_c l cf ad ev2) (Nat.le_of_ble_eq_true rfl) rfl kc_7 wy_Tx_letterAt rfl wl_382 rfl ⟨(Nat.le_of_ble_eq_true rfl), (Nat.le_of_ble_eq_true rfl)⟩ rfl (Nat.le_of_ble_eq_true rfl) dX5_readEnd_12 ?_
  refine gm_bipush (v := 59) C dX5_readEnd_15 (by decide) ?_
  refine gm_icmp_ne C 33 dX5_readEnd_17 (by decide) (fun c3 => ?_) (fun c3 => ?_)
  · have hf := gm_if _ c3 hf
    refine gm_aload_n C dX5_readEnd_33 rfl 0 rfl ?_
    refine gm_iconst (v := 1) C dX5_readEnd_34 (by decide) ?_
    refine gm_aload_n C dX5_readEnd_35 rfl 0 rfl ?_
    refine gm_geti C (Nat.le_of_ble_eq_true rfl) rfl kc_5 (k := 2) rfl (by decide) rfl wl_153 dX5_readEnd_36 ?_
    obtain ⟨S4, eS4, hf⟩ := gm_bp1_s hf
    refine gm_callVv (As := [.int 1, .int (S1.1 1 2)]) C (Rd_setFault_c l cf ad eS4) (Nat.le_of_ble_eq_true rfl) rfl kc_5 wy_Rd_setFault rfl wl_394 rfl ⟨(Nat.le_of_ble_eq_true rfl), (Nat.le_of_ble_eq_true rfl)⟩ rfl (Nat.le_of_ble_eq_true rfl) dX5_readEnd_39 ?_
    exact gm_vret C hr dX5_readEnd_42 hf
  · have hf := gm_it _ c3 hf
    refine gm_aload_n C dX5_readEnd_20 rfl 0 rfl ?_
    refine gm_dup C dX5_readEnd_21 rfl ?_
    refine gm_geti C (Nat.le_of_ble_eq_true rfl) rfl kc_5 (k := 2) rfl (by decide) rfl wl_153 dX5_readEnd_22 ?_
    refine gm_iconst (v := 1) C dX5_readEnd_25 (by decide) ?_
    refine gm_iadd C dX5_readEnd_26 ?_
    refine gm_puti C (Nat.le_of_ble_eq_true rfl) rfl kc_5 (k := 2) rfl (by decide) rfl rfl (kc_5.2.2.2.1 2 (by decide)) rfl rfl wl_153 dX5_readEnd_27 ?_
    obtain ⟨S5, eS5, hf⟩ := gm_lt_s hf
    refine gm_topm eS5 ?_
    refine gm_goto C 42 dX5_readEnd_30 (by decide) ?_
    exact gm_vret C hr dX5_readEnd_42 hf
theorem dX5_readClause_0 : decode cX5_readClause 0 = .ok (.aload_n 0, 1) := by decide +kernel
theorem dX5_readClause_1 : decode cX5_readClause 1 = .ok (.getfield 12, 3) := by decide +kernel
theorem dX5_readClause_4 : decode cX5_readClause 4 = .ok (.aload_n 0, 1) := by decide +kernel
theorem dX5_readClause_5 : decode cX5_readClause 5 = .ok (.getfield 28, 3) := by decide +kernel
theorem dX5_readClause_8 : decode cX5_readClause 8 = .ok (.invokevirtual 51, 3) := by decide +kernel
theorem dX5_readClause_11 : decode cX5_readClause 11 = .ok (.istore_n 1, 1) := by decide +kernel
theorem dX5_readClause_12 : decode cX5_readClause 12 = .ok (.aload_n 0, 1) := by decide +kernel
theorem dX5_readClause_13 : decode cX5_readClause 13 = .ok (.iload_n 1, 1) := by decide +kernel
theorem dX5_readClause_14 : decode cX5_readClause 14 = .ok (.invokevirtual 55, 3) := by decide +kernel
theorem dX5_readClause_17 : decode cX5_readClause 17 = .ok (.ifCond .ne 13, 3) := by decide +kernel
theorem dX5_readClause_20 : decode cX5_readClause 20 = .ok (.aload_n 0, 1) := by decide +kernel
theorem dX5_readClause_21 : decode cX5_readClause 21 = .ok (.iconst 1, 1) := by decide +kernel
theorem dX5_readClause_22 : decode cX5_readClause 22 = .ok (.aload_n 0, 1) := by decide +kernel
theorem dX5_readClause_23 : decode cX5_readClause 23 = .ok (.getfield 28, 3) := by decide +kernel
theorem dX5_readClause_26 : decode cX5_readClause 26 = .ok (.invokevirtual 59, 3) := by decide +kernel
theorem dX5_readClause_29 : decode cX5_readClause 29 = .ok (.return_, 1) := by decide +kernel
theorem dX5_readClause_30 : decode cX5_readClause 30 = .ok (.aload_n 0, 1) := by decide +kernel
theorem dX5_readClause_31 : decode cX5_readClause 31 = .ok (.iload_n 1, 1) := by decide +kernel
theorem dX5_readClause_32 : decode cX5_readClause 32 = .ok (.invokevirtual 63, 3) := by decide +kernel
theorem dX5_readClause_35 : decode cX5_readClause 35 = .ok (.ifCond .eq 13, 3) := by decide +kernel
theorem dX5_readClause_38 : decode cX5_readClause 38 = .ok (.aload_n 0, 1) := by decide +kernel
theorem dX5_readClause_39 : decode cX5_readClause 39 = .ok (.iconst 3, 1) := by decide +kernel
theorem dX5_readClause_40 : decode cX5_readClause 40 = .ok (.aload_n 0, 1) := by decide +kernel
theorem dX5_readClause_41 : decode cX5_readClause 41 = .ok (.getfield 28, 3) := by decide +kernel
theorem dX5_readClause_44 : decode cX5_readClause 44 = .ok (.invokevirtual 59, 3) := by decide +kernel
theorem dX5_readClause_47 : decode cX5_readClause 47 = .ok (.return_, 1) := by decide +kernel
theorem dX5_readClause_48 : decode cX5_readClause 48 = .ok (.aload_n 0, 1) := by decide +kernel
theorem dX5_readClause_49 : decode cX5_readClause 49 = .ok (.dup, 1) := by decide +kernel
theorem dX5_readClause_50 : decode cX5_readClause 50 = .ok (.getfield 28, 3) := by decide +kernel
theorem dX5_readClause_53 : decode cX5_readClause 53 = .ok (.iconst 1, 1) := by decide +kernel
theorem dX5_readClause_54 : decode cX5_readClause 54 = .ok (.iadd, 1) := by decide +kernel
theorem dX5_readClause_55 : decode cX5_readClause 55 = .ok (.putfield 28, 3) := by decide +kernel
theorem dX5_readClause_58 : decode cX5_readClause 58 = .ok (.iload_n 1, 1) := by decide +kernel
theorem dX5_readClause_59 : decode cX5_readClause 59 = .ok (.lookupswitch 69 #[(100, 41), (109, 48), (110, 62), (114, 55)], 41) := by decide +kernel
theorem dX5_readClause_100 : decode cX5_readClause 100 = .ok (.aload_n 0, 1) := by decide +kernel
theorem dX5_readClause_101 : decode cX5_readClause 101 = .ok (.invokevirtual 66, 3) := by decide +kernel
theorem dX5_readClause_104 : decode cX5_readClause 104 = .ok (.goto 28, 3) := by decide +kernel
theorem dX5_readClause_107 : decode cX5_readClause 107 = .ok (.aload_n 0, 1) := by decide +kernel
theorem dX5_readClause_108 : decode cX5_readClause 108 = .ok (.invokevirtual 69, 3) := by decide +kernel
theorem dX5_readClause_111 : decode cX5_readClause 111 = .ok (.goto 21, 3) := by decide +kernel
theorem dX5_readClause_114 : decode cX5_readClause 114 = .ok (.aload_n 0, 1) := by decide +kernel
theorem dX5_readClause_115 : decode cX5_readClause 115 = .ok (.invokevirtual 72, 3) := by decide +kernel
theorem dX5_readClause_118 : decode cX5_readClause 118 = .ok (.goto 14, 3) := by decide +kernel
theorem dX5_readClause_121 : decode cX5_readClause 121 = .ok (.aload_n 0, 1) := by decide +kernel
theorem dX5_readClause_122 : decode cX5_readClause 122 = .ok (.invokevirtual 75, 3) := by decide +kernel
theorem dX5_readClause_125 : decode cX5_readClause 125 = .ok (.goto 7, 3) := by decide +kernel
theorem dX5_readClause_128 : decode cX5_readClause 128 = .ok (.aload_n 0, 1) := by decide +kernel
theorem dX5_readClause_129 : decode cX5_readClause 129 = .ok (.invokevirtual 78, 3) := by decide +kernel
theorem dX5_readClause_132 : decode cX5_readClause 132 = .ok (.aload_n 0, 1) := by decide +kernel
theorem dX5_readClause_133 : decode cX5_readClause 133 = .ok (.invokevirtual 81, 3) := by decide +kernel
theorem dX5_readClause_136 : decode cX5_readClause 136 = .ok (.return_, 1) := by decide +kernel
def Rd_readClause (fl : Nat) (S : gm_M) : Option gm_M :=
  gm_bp1 (Tx_letterAt (S.1 1 2) S) fun v1 =>
  gm_bp1 (Rd_mayStand v1 S) fun v2 =>
  if v2 = 0 then (
    gm_bp1 (Rd_setFault 1 (S.1 1 2) S) fun S22 =>
    some S22
  ) else (
    gm_bp1 (Rd_isOneTooMany v1 S) fun v4 =>
    if v4 = 0 then (
      gm_lt (α := gm_M) (gm_ui S 1 2 ((S.1 1 2) + 1)) fun S6 =>
      if v1 = 100 then (
        gm_bp1 (Rd_readFigures fl S6) fun S8 =>
        gm_bp1 (Rd_readEnd fl S8) fun S9 =>
        some S9
      ) else (
      if v1 = 109 then (
        gm_bp1 (Rd_readMode fl S6) fun S11 =>
        gm_bp1 (Rd_readEnd fl S11) fun S12 =>
        some S12
      ) else (
      if v1 = 110 then (
        gm_bp1 (Rd_readRoll fl S6) fun S14 =>
        gm_bp1 (Rd_readEnd fl S14) fun S15 =>
        some S15
      ) else (
      if v1 = 114 then (
        gm_bp1 (Rd_readRule fl S6) fun S17 =>
        gm_bp1 (Rd_readEnd fl S17) fun S18 =>
        some S18
      ) else (
        gm_bp1 (Rd_readRider fl S6) fun S19 =>
        gm_bp1 (Rd_readEnd fl S19) fun S20 =>
        some S20
      ))))
    ) else (
      gm_bp1 (Rd_setFault 3 (S.1 1 2) S) fun S21 =>
      some S21
    )
  )
set_option maxHeartbeats 4000000 in
set_option maxRecDepth 100000 in
theorem Rd_readClause_c (l : Launch) (cf : gm_C) (ad : Nat → Nat) {fl : Nat}    {S : gm_M}  {S'  : gm_M} (hf : Rd_readClause fl S = some S') : gm_Met l yX5_readClause cX5_readClause 2 none 4 90 cf ad gm_sC 106 [.ref (ad 1)] S none S' := by
  refine gm_met (by decide +kernel) (Nat.le_of_ble_eq_true rfl) ?_
  intro p e s m args below meth c C hr
  have C : gm_F p s m args meth c cf ad 106 cX5_readClause 2 RX5 := C
  refine gm_lve (lv' := [(0, .ref (ad 1))]) rfl ?_
  unfold Rd_readClause at hf
  refine gm_aload_n C dX5_readClause_0 rfl 0 rfl ?_
  refine gm_getr (j := 1) (u := 2) C (Nat.le_of_ble_eq_true rfl) rfl kc_5 (k := 0) rfl (by decide) rfl rfl wl_149 dX5_readClause_1 ?_
  refine gm_aload_n C dX5_readClause_4 rfl 0 rfl ?_
  refine gm_geti C (Nat.le_of_ble_eq_true rfl) rfl kc_5 (k := 2) rfl (by decide) rfl wl_153 dX5_readClause_5 ?_
  obtain ⟨v1, ev1, hf⟩ := gm_bp1_s hf
  refine gm_callVi (As := [.int (S.1 1 2)]) C (Tx_letterAt_c l cf ad ev1) (Nat.le_of_ble_eq_true rfl) rfl kc_7 wy_Tx_letterAt rfl wl_382 rfl ⟨(Nat.le_of_ble_eq_true rfl), (Nat.le_of_ble_eq_true rfl)⟩ rfl (Nat.le_of_ble_eq_true rfl) dX5_readClause_8 ?_
  refine gm_istore_n (lv' := [(1, .int v1), (0, .ref (ad 1))]) C dX5_readClause_11 rfl (by decide) rfl ?_
  refine gm_aload_n C dX5_readClause_12 rfl 1 rfl ?_
  refine gm_iload_n C dX5_readClause_13 rfl 0 rfl ?_
  obtain ⟨v2, ev2, hf⟩ := gm_bp1_s hf
  refine gm_callVi (As := [.int v1]) C (Rd_mayStand_c l cf ad ev2) (Nat.le_of_ble_eq_true rfl) rfl kc_5 wy_Rd_mayStand rfl wl_390 rfl ⟨(Nat.le_of_ble_eq_true rfl), (Nat.le_of_ble_eq_true rfl)⟩ rfl (Nat.le_of_ble_eq_true rfl) dX5_readClause_14 ?_
  refine gm_if_ne C 30 dX5_readClause_17 (by decide) (fun c3 => ?_) (fun c3 => ?_)
  · have hf := gm_if _ c3 hf
    refine gm_aload_n C dX5_readClause_30 rfl 1 rfl ?_
    refine gm_iload_n C dX5_readClause_31 rfl 0 rfl ?_
    obtain ⟨v4, ev4, hf⟩ := gm_bp1_s hf
    refine gm_callVi (As := [.int v1]) C (Rd_isOneTooMany_c l cf ad ev4) (Nat.le_of_ble_eq_true rfl) rfl kc_5 wy_Rd_isOneTooMany rfl wl_398 rfl ⟨(Nat.le_of_ble_eq_true rfl), (Nat.le_of_ble_eq_true rfl)⟩ rfl (Nat.le_of_ble_eq_true rfl) dX5_readClause_32 ?_
    refine gm_if_eq C 48 dX5_readClause_35 (by decide) (fun c5 => ?_) (fun c5 => ?_)
    · have hf := gm_it _ c5 hf
      refine gm_aload_n C dX5_readClause_48 rfl 1 rfl ?_
      refine gm_dup C dX5_readClause_49 rfl ?_
      refine gm_geti C (Nat.le_of_ble_eq_true rfl) rfl kc_5 (k := 2) rfl (by decide) rfl wl_153 dX5_readClause_50 ?_
      refine gm_iconst (v := 1) C dX5_readClause_53 (by decide) ?_
      refine gm_iadd C dX5_readClause_54 ?_
      refine gm_puti C (Nat.le_of_ble_eq_true rfl) rfl kc_5 (k := 2) rfl (by decide) rfl rfl (kc_5.2.2.2.1 2 (by decide)) rfl rfl wl_153 dX5_readClause_55 ?_
      obtain ⟨S6, eS6, hf⟩ := gm_lt_s hf
      refine gm_topm eS6 ?_
      refine gm_iload_n C dX5_readClause_58 rfl 0 rfl ?_
      by_cases c7 : v1 = 100
      · have hf := gm_it _ c7 hf
        refine gm_lookup (off := 41) C 100 dX5_readClause_59 rfl (by rw [c7] <;> rfl) (by decide) ?_
        refine gm_aload_n C dX5_readClause_100 rfl 1 rfl ?_
        obtain ⟨S8, eS8, hf⟩ := gm_bp1_s hf
        refine gm_callVv (As := []) C (Rd_readFigures_c l cf ad eS8) (Nat.le_of_ble_eq_true rfl) rfl kc_5 wy_Rd_readFigures rfl wl_402 rfl ⟨(Nat.le_of_ble_eq_true rfl), (Nat.le_of_ble_eq_true rfl)⟩ rfl (Nat.le_of_ble_eq_true rfl) dX5_readClause_101 ?_
        refine gm_goto C 132 dX5_readClause_104 (by decide) ?_
        refine gm_aload_n C dX5_readClause_132 rfl 1 rfl ?_
        obtain ⟨S9, eS9, hf⟩ := gm_bp1_s hf
        refine gm_callVv (As := []) C (Rd_readEnd_c l cf ad eS9) (Nat.le_of_ble_eq_true rfl) rfl kc_5 wy_Rd_readEnd rfl wl_469 rfl ⟨(Nat.le_of_ble_eq_true rfl), (Nat.le_of_ble_eq_true rfl)⟩ rfl (Nat.le_of_ble_eq_true rfl) dX5_readClause_133 ?_
        exact gm_vret C hr dX5_readClause_136 hf
      · have hf := gm_if _ c7 hf
        by_cases c10 : v1 = 109
        · have hf := gm_it _ c10 hf
          refine gm_lookup (off := 48) C 107 dX5_readClause_59 rfl (by rw [c10] <;> rfl) (by decide) ?_
          refine gm_aload_n C dX5_readClause_107 rfl 1 rfl ?_
          obtain ⟨S11, eS11, hf⟩ := gm_bp1_s hf
          refine gm_callVv (As := []) C (Rd_readMode_c l cf ad eS11) (Nat.le_of_ble_eq_true rfl) rfl kc_5 wy_Rd_readMode rfl wl_414 rfl ⟨(Nat.le_of_ble_eq_true rfl), (Nat.le_of_ble_eq_true rfl)⟩ rfl (Nat.le_of_ble_eq_true rfl) dX5_readClause_108 ?_
          refine gm_goto C 132 dX5_readClause_111 (by decide) ?_
          refine gm_aload_n C dX5_readClause_132 rfl 1 rfl ?_
          obtain ⟨S12, eS12, hf⟩ := gm_bp1_s hf
          refine gm_callVv (As := []) C (Rd_readEnd_c l cf ad eS12) (Nat.le_of_ble_eq_true rfl) rfl kc_5 wy_Rd_readEnd rfl wl_469 rfl ⟨(Nat.le_of_ble_eq_true rfl), (Nat.le_of_ble_eq_true rfl)⟩ rfl (Nat.le_of_ble_eq_true rfl) dX5_readClause_133 ?_
          exact gm_vret C hr dX5_readClause_136 hf
        · have hf := gm_if _ c10 hf
          by_cases c13 : v1 = 110
          · have hf := gm_it _ c13 hf
            refine gm_lookup (off := 62) C 121 dX5_readClause_59 rfl (by rw [c13] <;> rfl) (by decide) ?_
            refine gm_aload_n C dX5_readClause_121 rfl 1 rfl ?_
            obtain ⟨S14, eS14, hf⟩ := gm_bp1_s hf
            refine gm_callVv (As := []) C (Rd_readRoll_c l cf ad eS14) (Nat.le_of_ble_eq_true rfl) rfl kc_5 wy_Rd_readRoll rfl wl_445 rfl ⟨(Nat.le_of_ble_eq_true rfl), (Nat.le_of_ble_eq_true rfl)⟩ rfl (Nat.le_of_ble_eq_true rfl) dX5_readClause_122 ?_
            refine gm_goto C 132 dX5_readClause_125 (by decide) ?_
            refine gm_aload_n C dX5_readClause_132 rfl 1 rfl ?_
            obtain ⟨S15, eS15, hf⟩ := gm_bp1_s hf
            refine gm_callVv (As := []) C (Rd_readEnd_c l cf ad eS15) (Nat.le_of_ble_eq_true rfl) rfl kc_5 wy_Rd_readEnd rfl wl_469 rfl ⟨(Nat.le_of_ble_eq_true rfl), (Nat.le_of_ble_eq_true rfl)⟩ rfl (Nat.le_of_ble_eq_true rfl) dX5_readClause_133 ?_
            exact gm_vret C hr dX5_readClause_136 hf
          · have hf := gm_if _ c13 hf
            by_cases c16 : v1 = 114
            · have hf := gm_it _ c16 hf
              refine gm_lookup (off := 55) C 114 dX5_readClause_59 rfl (by rw [c16] <;> rfl) (by decide) ?_
              refine gm_aload_n C dX5_readClause_114 rfl 1 rfl ?_
              obtain ⟨S17, eS17, hf⟩ := gm_bp1_s hf
              refine gm_callVv (As := []) C (Rd_readRule_c l cf ad eS17) (Nat.le_of_ble_eq_true rfl) rfl kc_5 wy_Rd_readRule rfl wl_418 rfl ⟨(Nat.le_of_ble_eq_true rfl), (Nat.le_of_ble_eq_true rfl)⟩ rfl (Nat.le_of_ble_eq_true rfl) dX5_readClause_115 ?_
              refine gm_goto C 132 dX5_readClause_118 (by decide) ?_
              refine gm_aload_n C dX5_readClause_132 rfl 1 rfl ?_
              obtain ⟨S18, eS18, hf⟩ := gm_bp1_s hf
              refine gm_callVv (As := []) C (Rd_readEnd_c l cf ad eS18) (Nat.le_of_ble_eq_true rfl) rfl kc_5 wy_Rd_readEnd rfl wl_469 rfl ⟨(Nat.le_of_ble_eq_true rfl), (Nat.le_of_ble_eq_true rfl)⟩ rfl (Nat.le_of_ble_eq_true rfl) dX5_readClause_133 ?_
              exact gm_vret C hr dX5_readClause_136 hf
            · have hf := gm_if _ c16 hf
              refine gm_lookup (off := 69) C 128 dX5_readClause_59 rfl (by show Op.lookupswitch.offset [(100, 41), (109, 48), (110, 62), (114, 55)] 69 _ = 69; rw [lv_osw (a := 100) c7 (by decide), lv_osw (a := 109) c10 (by decide), lv_osw (a := 110) c13 (by decide), lv_osw (a := 114) c16 (by decide)] <;> rfl) (by decide) ?_
              refine gm_aload_n C dX5_readClause_128 rfl 1 rfl ?_
              obtain ⟨S19, eS19, hf⟩ := gm_bp1_s hf
              refine gm_callVv (As := []) C (Rd_readRider_c l cf ad eS19) (Nat.le_of_ble_eq_true rfl) rfl kc_5 wy_Rd_readRider rfl wl_461 rfl ⟨(Nat.le_of_ble_eq_true rfl), (Nat.le_of_ble_eq_true rfl)⟩ rfl (Nat.le_of_ble_eq_true rfl) dX5_readClause_129 ?_
              refine gm_aload_n C dX5_readClause_132 rfl 1 rfl ?_
              obtain ⟨S20, eS20, hf⟩ := gm_bp1_s hf
              refine gm_callVv (As := []) C (Rd_readEnd_c l cf ad eS20) (Nat.le_of_ble_eq_true rfl) rfl kc_5 wy_Rd_readEnd rfl wl_469 rfl ⟨(Nat.le_of_ble_eq_true rfl), (Nat.le_of_ble_eq_true rfl)⟩ rfl (Nat.le_of_ble_eq_true rfl) dX5_readClause_133 ?_
              exact gm_vret C hr dX5_readClause_136 hf
    · have hf := gm_if _ c5 hf
      refine gm_aload_n C dX5_readClause_38 rfl 1 rfl ?_
      refine gm_iconst (v := 3) C dX5_readClause_39 (by decide) ?_
      refine gm_aload_n C dX5_readClause_40 rfl 1 rfl ?_
      refine gm_geti C (Nat.le_of_ble_eq_true rfl) rfl kc_5 (k := 2) rfl (by decide) rfl wl_153 dX5_readClause_41 ?_
      obtain ⟨S21, eS21, hf⟩ := gm_bp1_s hf
      refine gm_callVv (As := [.int 3, .int (S.1 1 2)]) C (Rd_setFault_c l cf ad eS21) (Nat.le_of_ble_eq_true rfl) rfl kc_5 wy_Rd_setFault rfl wl_394 rfl ⟨(Nat.le_of_ble_eq_true rfl), (Nat.le_of_ble_eq_true rfl)⟩ rfl (Nat.le_of_ble_eq_true rfl) dX5_readClause_44 ?_
      exact gm_vret C hr dX5_readClause_47 hf
  · have hf := gm_it _ c3 hf
    refine gm_aload_n C dX5_readClause_20 rfl 1 rfl ?_
    refine gm_iconst (v := 1) C dX5_readClause_21 (by decide) ?_
    refine gm_aload_n C dX5_readClause_22 rfl 1 rfl ?_
    refine gm_geti C (Nat.le_of_ble_eq_true rfl) rfl kc_5 (k := 2) rfl (by decide) rfl wl_153 dX5_readClause_23 ?_
    obtain ⟨S22, eS22, hf⟩ := gm_bp1_s hf
    refine gm_callVv (As := [.int 1, .int (S.1 1 2)]) C (Rd_setFault_c l cf ad eS22) (Nat.le_of_ble_eq_true rfl) rfl kc_5 wy_Rd_setFault rfl wl_394 rfl ⟨(Nat.le_of_ble_eq_true rfl), (Nat.le_of_ble_eq_true rfl)⟩ rfl (Nat.le_of_ble_eq_true rfl) dX5_readClause_26 ?_
    exact gm_vret C hr dX5_readClause_29 hf
end
section
theorem dX5_readText_0 : decode cX5_readText 0 = .ok (.aload_n 0, 1) := by decide +kernel
theorem dX5_readText_1 : decode cX5_readText 1 = .ok (.getfield 21, 3) := by decide +kernel
theorem dX5_readText_4 : decode cX5_readText 4 = .ok (.invokevirtual 25, 3) := by decide +kernel
theorem dX5_readText_7 : decode cX5_readText 7 = .ok (.aload_n 0, 1) := by decide +kernel
theorem dX5_readText_8 : decode cX5_readText 8 = .ok (.iconst 0, 1) := by decide +kernel
theorem dX5_readText_9 : decode cX5_readText 9 = .ok (.putfield 28, 3) := by decide +kernel
theorem dX5_readText_12 : decode cX5_readText 12 = .ok (.aload_n 0, 1) := by decide +kernel
theorem dX5_readText_13 : decode cX5_readText 13 = .ok (.iconst 0, 1) := by decide +kernel
theorem dX5_readText_14 : decode cX5_readText 14 = .ok (.putfield 32, 3) := by decide +kernel
theorem dX5_readText_17 : decode cX5_readText 17 = .ok (.aload_n 0, 1) := by decide +kernel
theorem dX5_readText_18 : decode cX5_readText 18 = .ok (.iconst (-1), 1) := by decide +kernel
theorem dX5_readText_19 : decode cX5_readText 19 = .ok (.putfield 35, 3) := by decide +kernel
theorem dX5_readText_22 : decode cX5_readText 22 = .ok (.aload_n 0, 1) := by decide +kernel
theorem dX5_readText_23 : decode cX5_readText 23 = .ok (.iconst 0, 1) := by decide +kernel
theorem dX5_readText_24 : decode cX5_readText 24 = .ok (.putfield 38, 3) := by decide +kernel
theorem dX5_readText_27 : decode cX5_readText 27 = .ok (.aload_n 0, 1) := by decide +kernel
theorem dX5_readText_28 : decode cX5_readText 28 = .ok (.invokevirtual 42, 3) := by decide +kernel
theorem dX5_readText_31 : decode cX5_readText 31 = .ok (.iconst 0, 1) := by decide +kernel
theorem dX5_readText_32 : decode cX5_readText 32 = .ok (.istore_n 1, 1) := by decide +kernel
theorem dX5_readText_33 : decode cX5_readText 33 = .ok (.iload_n 1, 1) := by decide +kernel
theorem dX5_readText_34 : decode cX5_readText 34 = .ok (.sipush 240, 3) := by decide +kernel
theorem dX5_readText_37 : decode cX5_readText 37 = .ok (.if_icmp .ge 38, 3) := by decide +kernel
theorem dX5_readText_40 : decode cX5_readText 40 = .ok (.aload_n 0, 1) := by decide +kernel
theorem dX5_readText_41 : decode cX5_readText 41 = .ok (.getfield 28, 3) := by decide +kernel
theorem dX5_readText_44 : decode cX5_readText 44 = .ok (.aload_n 0, 1) := by decide +kernel
theorem dX5_readText_45 : decode cX5_readText 45 = .ok (.getfield 12, 3) := by decide +kernel
theorem dX5_readText_48 : decode cX5_readText 48 = .ok (.getfield 45, 3) := by decide +kernel
theorem dX5_readText_51 : decode cX5_readText 51 = .ok (.if_icmp .ge 24, 3) := by decide +kernel
theorem dX5_readText_54 : decode cX5_readText 54 = .ok (.aload_n 0, 1) := by decide +kernel
theorem dX5_readText_55 : decode cX5_readText 55 = .ok (.getfield 32, 3) := by decide +kernel
theorem dX5_readText_58 : decode cX5_readText 58 = .ok (.ifCond .ne 17, 3) := by decide +kernel
theorem dX5_readText_61 : decode cX5_readText 61 = .ok (.aload_n 0, 1) := by decide +kernel
theorem dX5_readText_62 : decode cX5_readText 62 = .ok (.invokevirtual 48, 3) := by decide +kernel
theorem dX5_readText_65 : decode cX5_readText 65 = .ok (.aload_n 0, 1) := by decide +kernel
theorem dX5_readText_66 : decode cX5_readText 66 = .ok (.invokevirtual 42, 3) := by decide +kernel
theorem dX5_readText_69 : decode cX5_readText 69 = .ok (.iinc 1 1, 3) := by decide +kernel
theorem dX5_readText_72 : decode cX5_readText 72 = .ok (.goto (-39), 3) := by decide +kernel
theorem dX5_readText_75 : decode cX5_readText 75 = .ok (.return_, 1) := by decide +kernel
def Rd_readText_L33_b (fl : Nat) (rec : Int32 → gm_M → Option (gm_M)) (y7 : Int32) (S8 : gm_M) : Option (gm_M) :=
  if (240 : Int32) ≤ y7 then (
    some (S8)
  ) else (
    if S8.1 2 1 ≤ S8.1 1 2 then (
      some (S8)
    ) else (
      if S8.1 1 4 = 0 then (
        gm_bp1 (Rd_readClause fl S8) fun S13 =>
        gm_bp1 (Rd_skipBlanks fl S13) fun S14 =>
        gm_lt (α := Int32) (y7 + 1) fun x15 =>
        rec x15 S14
      ) else (
        some (S8)
      )
    )
  )
def Rd_readText_L33 (fl : Nat) : Nat → Int32 → gm_M → Option (gm_M)
  | 0 => fun _ _ => none
  | n + 1 => Rd_readText_L33_b fl (Rd_readText_L33 fl n)
def Rd_readText (fl : Nat) (S : gm_M) : Option gm_M :=
  gm_bp1 (Tr_clear 4 S) fun S1 =>
  gm_lt (α := gm_M) (gm_ui S1 1 2 0) fun S2 =>
  gm_lt (α := gm_M) (gm_ui S2 1 4 0) fun S3 =>
  gm_lt (α := gm_M) (gm_ui S3 1 5 (-1)) fun S4 =>
  gm_lt (α := gm_M) (gm_ui S4 1 6 0) fun S5 =>
  gm_bp1 (Rd_skipBlanks fl S5) fun S6 =>
  gm_bp1 (Rd_readText_L33 fl fl 0 S6) fun S9 =>
  some S9
set_option maxHeartbeats 4000000 in
set_option maxRecDepth 100000 in
theorem Rd_readText_c (l : Launch) (cf : gm_C) (ad : Nat → Nat) {fl : Nat}    {S : gm_M}  {S'  : gm_M} (hf : Rd_readText fl S = some S') : gm_Met l yX5_readText cX5_readText 2 none 5 111 cf ad gm_sC 106 [.ref (ad 1)] S none S' := by
  refine gm_met (by decide +kernel) (Nat.le_of_ble_eq_true rfl) ?_
  intro p e s m args below meth c C hr
  have C : gm_F p s m args meth c cf ad 106 cX5_readText 2 RX5 := C
  refine gm_lve (lv' := [(0, .ref (ad 1))]) rfl ?_
  unfold Rd_readText at hf
  refine gm_aload_n C dX5_readText_0 rfl 0 rfl ?_
  refine gm_getr (j := 3) (u := 4) C (Nat.le_of_ble_eq_true rfl) rfl kc_5 (k := 1) rfl (by decide) rfl rfl wl_151 dX5_readText_1 ?_
  obtain ⟨S1, eS1, hf⟩ := gm_bp1_s hf
  refine gm_callVv (As := []) C (Tr_clear_c l cf ad gm_tr_4 eS1) (Nat.le_of_ble_eq_true rfl) rfl kc_9 wy_Tr_clear rfl wl_374 rfl ⟨(Nat.le_of_ble_eq_true rfl), (Nat.le_of_ble_eq_true rfl)⟩ rfl (Nat.le_of_ble_eq_true rfl) dX5_readText_4 ?_
  refine gm_aload_n C dX5_readText_7 rfl 0 rfl ?_
  refine gm_iconst (v := 0) C dX5_readText_8 (by decide) ?_
  refine gm_puti C (Nat.le_of_ble_eq_true rfl) rfl kc_5 (k := 2) rfl (by decide) rfl rfl (kc_5.2.2.2.1 2 (by decide)) rfl rfl wl_153 dX5_readText_9 ?_
  obtain ⟨S2, eS2, hf⟩ := gm_lt_s hf
  refine gm_topm eS2 ?_
  refine gm_aload_n C dX5_readText_12 rfl 0 rfl ?_
  refine gm_iconst (v := 0) C dX5_readText_13 (by decide) ?_
  refine gm_puti C (Nat.le_of_ble_eq_true rfl) rfl kc_5 (k := 4) rfl (by decide) rfl rfl (kc_5.2.2.2.1 4 (by decide)) rfl rfl wl_155 dX5_readText_14 ?_
  obtain ⟨S3, eS3, hf⟩ := gm_lt_s hf
  refine gm_topm eS3 ?_
  refine gm_aload_n C dX5_readText_17 rfl 0 rfl ?_
  refine gm_iconst (v := (-1)) C dX5_readText_18 (by decide) ?_
  refine gm_puti C (Nat.le_of_ble_eq_true rfl) rfl kc_5 (k := 5) rfl (by decide) rfl rfl (kc_5.2.2.2.1 5 (by decide)) rfl rfl wl_157 dX5_readText_19 ?_
  obtain ⟨S4, eS4, hf⟩ := gm_lt_s hf
  refine gm_topm eS4 ?_
  refine gm_aload_n C dX5_readText_22 rfl 0 rfl ?_
  refine gm_iconst (v := 0) C dX5_readText_23 (by decide) ?_
  refine gm_puti C (Nat.le_of_ble_eq_true rfl) rfl kc_5 (k := 6) rfl (by decide) rfl rfl (kc_5.2.2.2.1 6 (by decide)) rfl rfl wl_159 dX5_readText_24 ?_
  obtain ⟨S5, eS5, hf⟩ := gm_lt_s hf
  refine gm_topm eS5 ?_
  refine gm_aload_n C dX5_readText_27 rfl 0 rfl ?_
  obtain ⟨S6, eS6, hf⟩ := gm_bp1_s hf
  refine gm_callVv (As := []) C (Rd_skipBlanks_c l cf ad eS6) (Nat.le_of_ble_eq_true rfl) rfl kc_5 wy_Rd_skipBlanks rfl wl_378 rfl ⟨(Nat.le_of_ble_eq_true rfl), (Nat.le_of_ble_eq_true rfl)⟩ rfl (Nat.le_of_ble_eq_true rfl) dX5_readText_28 ?_
  refine gm_iconst (v := 0) C dX5_readText_31 (by decide) ?_
  refine gm_istore_n (lv' := [(1, .int 0), (0, .ref (ad 1))]) C dX5_readText_32 rfl (by decide) rfl ?_
  have L33 : ∀ (n : Nat) (y7 : Int32) (S8 : gm_M) (S9 : gm_M), Rd_readText_L33 fl n y7 S8 = some (S9) → gm_G p l e { frames := 5, cells := 0, slots := 0, locals := 111 } s m args below meth c (MQ below (gm_Q cf ad gm_sC 106 none S') args s 0 0 (gm_A ad 106)) cf ad gm_sC 106 2 S9 75 [] [] → gm_G p l e { frames := 5, cells := 0, slots := 0, locals := 111 } s m args below meth c (MQ below (gm_Q cf ad gm_sC 106 none S') args s 0 0 (gm_A ad 106)) cf ad gm_sC 106 2 S8 33 [(0, .ref (ad 1)), (1, .int y7)] [] := by
    intro n
    induction n with
    | zero => intro y7 S8 S9 hf K; cases (show (none : Option _) = some _ from hf)
    | succ n ih =>
      intro y7 S8 S9 hf K
      have hf : Rd_readText_L33_b fl (Rd_readText_L33 fl n) y7 S8 = some (S9) := hf
      unfold Rd_readText_L33_b at hf
      refine gm_iload_n C dX5_readText_33 rfl 1 rfl ?_
      refine gm_sipush (v := 240) C dX5_readText_34 (by decide) ?_
      refine gm_icmp_ge C 75 dX5_readText_37 (by decide) (fun c10 => ?_) (fun c10 => ?_)
      · have hf := gm_it _ c10 hf
        cases hf
        exact gm_lvp [] rfl K
      · have hf := gm_if _ c10 hf
        refine gm_aload_n C dX5_readText_40 rfl 0 rfl ?_
        refine gm_geti C (Nat.le_of_ble_eq_true rfl) rfl kc_5 (k := 2) rfl (by decide) rfl wl_153 dX5_readText_41 ?_
        refine gm_aload_n C dX5_readText_44 rfl 0 rfl ?_
        refine gm_getr (j := 1) (u := 2) C (Nat.le_of_ble_eq_true rfl) rfl kc_5 (k := 0) rfl (by decide) rfl rfl wl_149 dX5_readText_45 ?_
        refine gm_geti C (Nat.le_of_ble_eq_true rfl) rfl kc_7 (k := 1) rfl (by decide) rfl wl_91 dX5_readText_48 ?_
        refine gm_icmp_ge C 75 dX5_readText_51 (by decide) (fun c11 => ?_) (fun c11 => ?_)
        · have hf := gm_it _ c11 hf
          cases hf
          exact gm_lvp [] rfl K
        · have hf := gm_if _ c11 hf
          refine gm_aload_n C dX5_readText_54 rfl 0 rfl ?_
          refine gm_geti C (Nat.le_of_ble_eq_true rfl) rfl kc_5 (k := 4) rfl (by decide) rfl wl_155 dX5_readText_55 ?_
          refine gm_if_ne C 75 dX5_readText_58 (by decide) (fun c12 => ?_) (fun c12 => ?_)
          · have hf := gm_if _ c12 hf
            cases hf
            exact gm_lvp [] rfl K
          · have hf := gm_it _ c12 hf
            refine gm_aload_n C dX5_readText_61 rfl 0 rfl ?_
            obtain ⟨S13, eS13, hf⟩ := gm_bp1_s hf
            refine gm_callVv (As := []) C (Rd_readClause_c l cf ad eS13) (Nat.le_of_ble_eq_true rfl) rfl kc_5 wy_Rd_readClause rfl wl_386 rfl ⟨(Nat.le_of_ble_eq_true rfl), (Nat.le_of_ble_eq_true rfl)⟩ rfl (Nat.le_of_ble_eq_true rfl) dX5_readText_62 ?_
            refine gm_aload_n C dX5_readText_65 rfl 0 rfl ?_
            obtain ⟨S14, eS14, hf⟩ := gm_bp1_s hf
            refine gm_callVv (As := []) C (Rd_skipBlanks_c l cf ad eS14) (Nat.le_of_ble_eq_true rfl) rfl kc_5 wy_Rd_skipBlanks rfl wl_378 rfl ⟨(Nat.le_of_ble_eq_true rfl), (Nat.le_of_ble_eq_true rfl)⟩ rfl (Nat.le_of_ble_eq_true rfl) dX5_readText_66 ?_
            obtain ⟨x15, ex15, hf⟩ := gm_lt_s hf
            refine gm_iinc (v := x15) (lv' := [(1, .int x15), (0, .ref (ad 1))]) (j := 1) C dX5_readText_69 rfl (by rw [ex15]; rfl) (by decide) rfl ?_
            refine gm_goto C 33 dX5_readText_72 (by decide) ?_
            exact gm_lvp [1, 0] rfl (ih _ _ _ hf K)
  obtain ⟨S9, hx, hf⟩ := gm_bp1_s hf
  refine gm_lvp [1, 0] rfl (L33 fl _ _ _ hx ?_)
  exact gm_vret C hr dX5_readText_75 hf
theorem dX9_copyFrom_0 : decode cX9_copyFrom 0 = .ok (.aload_n 0, 1) := by decide +kernel
theorem dX9_copyFrom_1 : decode cX9_copyFrom 1 = .ok (.aload_n 1, 1) := by decide +kernel
theorem dX9_copyFrom_2 : decode cX9_copyFrom 2 = .ok (.getfield 21, 3) := by decide +kernel
theorem dX9_copyFrom_5 : decode cX9_copyFrom 5 = .ok (.putfield 21, 3) := by decide +kernel
theorem dX9_copyFrom_8 : decode cX9_copyFrom 8 = .ok (.aload_n 0, 1) := by decide +kernel
theorem dX9_copyFrom_9 : decode cX9_copyFrom 9 = .ok (.aload_n 1, 1) := by decide +kernel
theorem dX9_copyFrom_10 : decode cX9_copyFrom 10 = .ok (.getfield 25, 3) := by decide +kernel
theorem dX9_copyFrom_13 : decode cX9_copyFrom 13 = .ok (.putfield 25, 3) := by decide +kernel
theorem dX9_copyFrom_16 : decode cX9_copyFrom 16 = .ok (.aload_n 0, 1) := by decide +kernel
theorem dX9_copyFrom_17 : decode cX9_copyFrom 17 = .ok (.aload_n 1, 1) := by decide +kernel
theorem dX9_copyFrom_18 : decode cX9_copyFrom 18 = .ok (.getfield 28, 3) := by decide +kernel
theorem dX9_copyFrom_21 : decode cX9_copyFrom 21 = .ok (.putfield 28, 3) := by decide +kernel
theorem dX9_copyFrom_24 : decode cX9_copyFrom 24 = .ok (.aload_n 0, 1) := by decide +kernel
theorem dX9_copyFrom_25 : decode cX9_copyFrom 25 = .ok (.aload_n 1, 1) := by decide +kernel
theorem dX9_copyFrom_26 : decode cX9_copyFrom 26 = .ok (.getfield 31, 3) := by decide +kernel
theorem dX9_copyFrom_29 : decode cX9_copyFrom 29 = .ok (.putfield 31, 3) := by decide +kernel
theorem dX9_copyFrom_32 : decode cX9_copyFrom 32 = .ok (.aload_n 0, 1) := by decide +kernel
theorem dX9_copyFrom_33 : decode cX9_copyFrom 33 = .ok (.aload_n 1, 1) := by decide +kernel
theorem dX9_copyFrom_34 : decode cX9_copyFrom 34 = .ok (.getfield 34, 3) := by decide +kernel
theorem dX9_copyFrom_37 : decode cX9_copyFrom 37 = .ok (.putfield 34, 3) := by decide +kernel
theorem dX9_copyFrom_40 : decode cX9_copyFrom 40 = .ok (.aload_n 0, 1) := by decide +kernel
theorem dX9_copyFrom_41 : decode cX9_copyFrom 41 = .ok (.aload_n 1, 1) := by decide +kernel
theorem dX9_copyFrom_42 : decode cX9_copyFrom 42 = .ok (.getfield 37, 3) := by decide +kernel
theorem dX9_copyFrom_45 : decode cX9_copyFrom 45 = .ok (.putfield 37, 3) := by decide +kernel
theorem dX9_copyFrom_48 : decode cX9_copyFrom 48 = .ok (.aload_n 1, 1) := by decide +kernel
theorem dX9_copyFrom_49 : decode cX9_copyFrom 49 = .ok (.getfield 9, 3) := by decide +kernel
theorem dX9_copyFrom_52 : decode cX9_copyFrom 52 = .ok (.iconst 0, 1) := by decide +kernel
theorem dX9_copyFrom_53 : decode cX9_copyFrom 53 = .ok (.aload_n 0, 1) := by decide +kernel
theorem dX9_copyFrom_54 : decode cX9_copyFrom 54 = .ok (.getfield 9, 3) := by decide +kernel
theorem dX9_copyFrom_57 : decode cX9_copyFrom 57 = .ok (.iconst 0, 1) := by decide +kernel
theorem dX9_copyFrom_58 : decode cX9_copyFrom 58 = .ok (.aload_n 0, 1) := by decide +kernel
theorem dX9_copyFrom_59 : decode cX9_copyFrom 59 = .ok (.getfield 9, 3) := by decide +kernel
theorem dX9_copyFrom_62 : decode cX9_copyFrom 62 = .ok (.arraylength, 1) := by decide +kernel
theorem dX9_copyFrom_63 : decode cX9_copyFrom 63 = .ok (.invokestatic 40, 3) := by decide +kernel
theorem dX9_copyFrom_66 : decode cX9_copyFrom 66 = .ok (.aload_n 1, 1) := by decide +kernel
theorem dX9_copyFrom_67 : decode cX9_copyFrom 67 = .ok (.getfield 15, 3) := by decide +kernel
theorem dX9_copyFrom_70 : decode cX9_copyFrom 70 = .ok (.iconst 0, 1) := by decide +kernel
theorem dX9_copyFrom_71 : decode cX9_copyFrom 71 = .ok (.aload_n 0, 1) := by decide +kernel
theorem dX9_copyFrom_72 : decode cX9_copyFrom 72 = .ok (.getfield 15, 3) := by decide +kernel
theorem dX9_copyFrom_75 : decode cX9_copyFrom 75 = .ok (.iconst 0, 1) := by decide +kernel
theorem dX9_copyFrom_76 : decode cX9_copyFrom 76 = .ok (.aload_n 0, 1) := by decide +kernel
theorem dX9_copyFrom_77 : decode cX9_copyFrom 77 = .ok (.getfield 15, 3) := by decide +kernel
theorem dX9_copyFrom_80 : decode cX9_copyFrom 80 = .ok (.arraylength, 1) := by decide +kernel
theorem dX9_copyFrom_81 : decode cX9_copyFrom 81 = .ok (.invokestatic 40, 3) := by decide +kernel
theorem dX9_copyFrom_84 : decode cX9_copyFrom 84 = .ok (.aload_n 1, 1) := by decide +kernel
theorem dX9_copyFrom_85 : decode cX9_copyFrom 85 = .ok (.getfield 18, 3) := by decide +kernel
theorem dX9_copyFrom_88 : decode cX9_copyFrom 88 = .ok (.iconst 0, 1) := by decide +kernel
theorem dX9_copyFrom_89 : decode cX9_copyFrom 89 = .ok (.aload_n 0, 1) := by decide +kernel
theorem dX9_copyFrom_90 : decode cX9_copyFrom 90 = .ok (.getfield 18, 3) := by decide +kernel
theorem dX9_copyFrom_93 : decode cX9_copyFrom 93 = .ok (.iconst 0, 1) := by decide +kernel
theorem dX9_copyFrom_94 : decode cX9_copyFrom 94 = .ok (.aload_n 0, 1) := by decide +kernel
theorem dX9_copyFrom_95 : decode cX9_copyFrom 95 = .ok (.getfield 18, 3) := by decide +kernel
theorem dX9_copyFrom_98 : decode cX9_copyFrom 98 = .ok (.arraylength, 1) := by decide +kernel
theorem dX9_copyFrom_99 : decode cX9_copyFrom 99 = .ok (.invokestatic 40, 3) := by decide +kernel
theorem dX9_copyFrom_102 : decode cX9_copyFrom 102 = .ok (.return_, 1) := by decide +kernel
def Tr_copyFrom (t : Nat) (o : Nat) (S : gm_M) : Option gm_M :=
  gm_lt (α := gm_M) (gm_ui S t 3 (S.1 o 3)) fun S1 =>
  gm_lt (α := gm_M) (gm_ui S1 t 4 (S1.1 o 4)) fun S2 =>
  gm_lt (α := gm_M) (gm_ui S2 t 5 (S2.1 o 5)) fun S3 =>
  gm_lt (α := gm_M) (gm_ui S3 t 6 (S3.1 o 6)) fun S4 =>
  gm_lt (α := gm_M) (gm_ui S4 t 7 (S4.1 o 7)) fun S5 =>
  gm_lt (α := gm_M) (gm_ui S5 t 8 (S5.1 o 8)) fun S6 =>
  gm_lt (α := gm_M) (gm_uf S6 (t + 1) (va_cpy (S6.1 (o + 1)) (S6.1 (t + 1)) 0 0 4)) fun S7 =>
  gm_lt (α := gm_M) (gm_uf S7 (t + 2) (va_cpy (S7.1 (o + 2)) (S7.1 (t + 2)) 0 0 8)) fun S8 =>
  gm_lt (α := gm_M) (gm_uf S8 (t + 3) (va_cpy (S8.1 (o + 3)) (S8.1 (t + 3)) 0 0 25)) fun S9 =>
  some S9
set_option maxHeartbeats 4000000 in
set_option maxRecDepth 100000 in
theorem Tr_copyFrom_c (l : Launch) (cf : gm_C) (ad : Nat → Nat)  {t : Nat} {o : Nat} (ht : gm_isTr t) (ho : gm_isTr o)  {S : gm_M}  {S'  : gm_M} (hf : Tr_copyFrom t o S = some S') : gm_Met l yX9_copyFrom cX9_copyFrom 2 none 1 40 cf ad gm_sC 106 [.ref (ad t), .ref (ad o)] S none S' := by
  refine gm_met (by decide +kernel) (Nat.le_of_ble_eq_true rfl) ?_
  intro p e s m args below meth c C hr
  have C : gm_F p s m args meth c cf ad 106 cX9_copyFrom 2 RX9 := C
  refine gm_lve (lv' := [(0, .ref (ad t)), (1, .ref (ad o))]) rfl ?_
  unfold Tr_copyFrom at hf
  refine gm_aload_n C dX9_copyFrom_0 rfl 0 rfl ?_
  refine gm_aload_n C dX9_copyFrom_1 rfl 1 rfl ?_
  refine gm_geti C (gm_tr_l0 ho) (gm_tr_k0 ho) kc_9 (k := 3) rfl (by decide) rfl wl_109 dX9_copyFrom_2 ?_
  refine gm_puti C (gm_tr_l0 ht) (gm_tr_k0 ht) kc_9 (k := 3) rfl (by decide) rfl rfl (kc_9.2.2.2.1 3 (by decide)) rfl rfl wl_109 dX9_copyFrom_5 ?_
  obtain ⟨S1, eS1, hf⟩ := gm_lt_s hf
  refine gm_topm eS1 ?_
  refine gm_aload_n C dX9_copyFrom_8 rfl 0 rfl ?_
  refine gm_aload_n C dX9_copyFrom_9 rfl 1 rfl ?_
  refine gm_geti C (gm_tr_l0 ho) (gm_tr_k0 ho) kc_9 (k := 4) rfl (by decide) rfl wl_113 dX9_copyFrom_10 ?_
  refine gm_puti C (gm_tr_l0 ht) (gm_tr_k0 ht) kc_9 (k := 4) rfl (by decide) rfl rfl (kc_9.2.2.2.1 4 (by decide)) rfl rfl wl_113 dX9_copyFrom_13 ?_
  obtain ⟨S2, eS2, hf⟩ := gm_lt_s hf
  refine gm_topm eS2 ?_
  refine gm_aload_n C dX9_copyFrom_16 rfl 0 rfl ?_
  refine gm_aload_n C dX9_copyFrom_17 rfl 1 rfl ?_
  refine gm_geti C (gm_tr_l0 ho) (gm_tr_k0 ho) kc_9 (k := 5) rfl (by decide) rfl wl_117 dX9_copyFrom_18 ?_
  refine gm_puti C (gm_tr_l0 ht) (gm_tr_k0 ht) kc_9 (k := 5) rfl (by decide) rfl rfl (kc_9.2.2.2.1 5 (by decide)) rfl rfl wl_117 dX9_copyFrom_21 ?_
  obtain ⟨S3, eS3, hf⟩ := gm_lt_s hf
  refine gm_topm eS3 ?_
  refine gm_aload_n C dX9_copyFrom_24 rfl 0 rfl ?_
  refine gm_aload_n C dX9_copyFrom_25 rfl 1 rfl ?_
  refine gm_geti C (gm_tr_l0 ho) (gm_tr_k0 ho) kc_9 (k := 6) rfl (by decide) rfl wl_119 dX9_copyFrom_26 ?_
  refine gm_puti C (gm_tr_l0 ht) (gm_tr_k0 ht) kc_9 (k := 6) rfl (by decide) rfl rfl (kc_9.2.2.2.1 6 (by decide)) rfl rfl wl_119 dX9_copyFrom_29 ?_
  obtain ⟨S4, eS4, hf⟩ := gm_lt_s hf
  refine gm_topm eS4 ?_
  refine gm_aload_n C dX9_copyFrom_32 rfl 0 rfl ?_
  refine gm_aload_n C dX9_copyFrom_33 rfl 1 rfl ?_
  refine gm_geti C (gm_tr_l0 ho) (gm_tr_k0 ho) kc_9 (k := 7) rfl (by decide) rfl wl_123 dX9_copyFrom_34 ?_
  refine gm_puti C (gm_tr_l0 ht) (gm_tr_k0 ht) kc_9 (k := 7) rfl (by decide) rfl rfl (kc_9.2.2.2.1 7 (by decide)) rfl rfl wl_123 dX9_copyFrom_37 ?_
  obtain ⟨S5, eS5, hf⟩ := gm_lt_s hf
  refine gm_topm eS5 ?_
  refine gm_aload_n C dX9_copyFrom_40 rfl 0 rfl ?_
  refine gm_aload_n C dX9_copyFrom_41 rfl 1 rfl ?_
  refine gm_geti C (gm_tr_l0 ho) (gm_tr_k0 ho) kc_9 (k := 8) rfl (by decide) rfl wl_126 dX9_copyFrom_42 ?_
  refine gm_puti C (gm_tr_l0 ht) (gm_tr_k0 ht) kc_9 (k := 8) rfl (by decide) rfl rfl (kc_9.2.2.2.1 8 (by decide)) rfl rfl wl_126 dX9_copyFrom_45 ?_
  obtain ⟨S6, eS6, hf⟩ := gm_lt_s hf
  refine gm_topm eS6 ?_
  refine gm_aload_n C dX9_copyFrom_48 rfl 1 rfl ?_
  refine gm_getr (j := 1) (u := (o + 1)) C (gm_tr_l0 ho) (gm_tr_k0 ho) kc_9 (k := 0) rfl (by decide) rfl rfl wl_104 dX9_copyFrom_49 ?_
  refine gm_iconst (v := 0) C dX9_copyFrom_52 (by decide) ?_
  refine gm_aload_n C dX9_copyFrom_53 rfl 0 rfl ?_
  refine gm_getr (j := 1) (u := (t + 1)) C (gm_tr_l0 ht) (gm_tr_k0 ht) kc_9 (k := 0) rfl (by decide) rfl rfl wl_104 dX9_copyFrom_54 ?_
  refine gm_iconst (v := 0) C dX9_copyFrom_57 (by decide) ?_
  refine gm_aload_n C dX9_copyFrom_58 rfl 0 rfl ?_
  refine gm_getr (j := 1) (u := (t + 1)) C (gm_tr_l0 ht) (gm_tr_k0 ht) kc_9 (k := 0) rfl (by decide) rfl rfl wl_104 dX9_copyFrom_59 ?_
  refine gm_alen (v := 4) C (gm_tr_l1 ht) (gm_tr_k1 ht) (gm_tr_n1 ht) (by decide) dX9_copyFrom_62 ?_
  refine gm_copy (n := 4) C (gm_tr_l1 ho) (gm_tr_k1 ho) (gm_tr_n1 ho) (gm_tr_l1 ht) (gm_tr_k1 ht) (gm_tr_n1 ht) (by decide) (by decide) wl_477 wm_copy.1 wm_copy.2.1 wm_copy.2.2 (Nat.le_of_ble_eq_true rfl) (Nat.le_of_ble_eq_true rfl) dX9_copyFrom_63 ?_
  obtain ⟨S7, eS7, hf⟩ := gm_lt_s hf
  refine gm_topm eS7 ?_
  refine gm_aload_n C dX9_copyFrom_66 rfl 1 rfl ?_
  refine gm_getr (j := 2) (u := (o + 2)) C (gm_tr_l0 ho) (gm_tr_k0 ho) kc_9 (k := 1) rfl (by decide) rfl rfl wl_107 dX9_copyFrom_67 ?_
  refine gm_iconst (v := 0) C dX9_copyFrom_70 (by decide) ?_
  refine gm_aload_n C dX9_copyFrom_71 rfl 0 rfl ?_
  refine gm_getr (j := 2) (u := (t + 2)) C (gm_tr_l0 ht) (gm_tr_k0 ht) kc_9 (k := 1) rfl (by decide) rfl rfl wl_107 dX9_copyFrom_72 ?_
  refine gm_iconst (v := 0) C dX9_copyFrom_75 (by decide) ?_
  refine gm_aload_n C dX9_copyFrom_76 rfl 0 rfl ?_
  refine gm_getr (j := 2) (u := (t + 2)) C (gm_tr_l0 ht) (gm_tr_k0 ht) kc_9 (k := 1) rfl (by decide) rfl rfl wl_107 dX9_copyFrom_77 ?_
  refine gm_alen (v := 8) C (gm_tr_l2 ht) (gm_tr_k2 ht) (gm_tr_n2 ht) (by decide) dX9_copyFrom_80 ?_
  refine gm_copy (n := 8) C (gm_tr_l2 ho) (gm_tr_k2 ho) (gm_tr_n2 ho) (gm_tr_l2 ht) (gm_tr_k2 ht) (gm_tr_n2 ht) (by decide) (by decide) wl_477 wm_copy.1 wm_copy.2.1 wm_copy.2.2 (Nat.le_of_ble_eq_true rfl) (Nat.le_of_ble_eq_true rfl) dX9_copyFrom_81 ?_
  obtain ⟨S8, eS8, hf⟩ := gm_lt_s hf
  refine gm_topm eS8 ?_
  refine gm_aload_n C dX9_copyFrom_84 rfl 1 rfl ?_
  refine gm_getr (j := 3) (u := (o + 3)) C (gm_tr_l0 ho) (gm_tr_k0 ho) kc_9 (k := 2) rfl (by decide) rfl rfl wl_108 dX9_copyFrom_85 ?_
  refine gm_iconst (v := 0) C dX9_copyFrom_88 (by decide) ?_
  refine gm_aload_n C dX9_copyFrom_89 rfl 0 rfl ?_
  refine gm_getr (j := 3) (u := (t + 3)) C (gm_tr_l0 ht) (gm_tr_k0 ht) kc_9 (k := 2) rfl (by decide) rfl rfl wl_108 dX9_copyFrom_90 ?_
  refine gm_iconst (v := 0) C dX9_copyFrom_93 (by decide) ?_
  refine gm_aload_n C dX9_copyFrom_94 rfl 0 rfl ?_
  refine gm_getr (j := 3) (u := (t + 3)) C (gm_tr_l0 ht) (gm_tr_k0 ht) kc_9 (k := 2) rfl (by decide) rfl rfl wl_108 dX9_copyFrom_95 ?_
  refine gm_alen (v := 25) C (gm_tr_l3 ht) (gm_tr_k3 ht) (gm_tr_n3 ht) (by decide) dX9_copyFrom_98 ?_
  refine gm_copy (n := 25) C (gm_tr_l3 ho) (gm_tr_k3 ho) (gm_tr_n3 ho) (gm_tr_l3 ht) (gm_tr_k3 ht) (gm_tr_n3 ht) (by decide) (by decide) wl_477 wm_copy.1 wm_copy.2.1 wm_copy.2.2 (Nat.le_of_ble_eq_true rfl) (Nat.le_of_ble_eq_true rfl) dX9_copyFrom_99 ?_
  obtain ⟨S9, eS9, hf⟩ := gm_lt_s hf
  refine gm_topm eS9 ?_
  exact gm_vret C hr dX9_copyFrom_102 hf
theorem dX8_spell_0 : decode cX8_spell 0 = .ok (.aload_n 0, 1) := by decide +kernel
theorem dX8_spell_1 : decode cX8_spell 1 = .ok (.iload_n 2, 1) := by decide +kernel
theorem dX8_spell_2 : decode cX8_spell 2 = .ok (.iconst 4, 1) := by decide +kernel
theorem dX8_spell_3 : decode cX8_spell 3 = .ok (.invokestatic 13, 3) := by decide +kernel
theorem dX8_spell_6 : decode cX8_spell 6 = .ok (.putfield 19, 3) := by decide +kernel
theorem dX8_spell_9 : decode cX8_spell 9 = .ok (.aload_n 0, 1) := by decide +kernel
theorem dX8_spell_10 : decode cX8_spell 10 = .ok (.iload_n 1, 1) := by decide +kernel
theorem dX8_spell_11 : decode cX8_spell 11 = .ok (.putfield 23, 3) := by decide +kernel
theorem dX8_spell_14 : decode cX8_spell 14 = .ok (.iload_n 1, 1) := by decide +kernel
theorem dX8_spell_15 : decode cX8_spell 15 = .ok (.istore_n 3, 1) := by decide +kernel
theorem dX8_spell_16 : decode cX8_spell 16 = .ok (.aload_n 0, 1) := by decide +kernel
theorem dX8_spell_17 : decode cX8_spell 17 = .ok (.getfield 19, 3) := by decide +kernel
theorem dX8_spell_20 : decode cX8_spell 20 = .ok (.iconst 1, 1) := by decide +kernel
theorem dX8_spell_21 : decode cX8_spell 21 = .ok (.isub, 1) := by decide +kernel
theorem dX8_spell_22 : decode cX8_spell 22 = .ok (.istore 4, 2) := by decide +kernel
theorem dX8_spell_24 : decode cX8_spell 24 = .ok (.iload 4, 2) := by decide +kernel
theorem dX8_spell_26 : decode cX8_spell 26 = .ok (.ifCond .lt 25, 3) := by decide +kernel
theorem dX8_spell_29 : decode cX8_spell 29 = .ok (.aload_n 0, 1) := by decide +kernel
theorem dX8_spell_30 : decode cX8_spell 30 = .ok (.getfield 7, 3) := by decide +kernel
theorem dX8_spell_33 : decode cX8_spell 33 = .ok (.iload 4, 2) := by decide +kernel
theorem dX8_spell_35 : decode cX8_spell 35 = .ok (.iload_n 3, 1) := by decide +kernel
theorem dX8_spell_36 : decode cX8_spell 36 = .ok (.bipush 10, 2) := by decide +kernel
theorem dX8_spell_38 : decode cX8_spell 38 = .ok (.irem, 1) := by decide +kernel
theorem dX8_spell_39 : decode cX8_spell 39 = .ok (.iastore, 1) := by decide +kernel
theorem dX8_spell_40 : decode cX8_spell 40 = .ok (.iload_n 3, 1) := by decide +kernel
theorem dX8_spell_41 : decode cX8_spell 41 = .ok (.bipush 10, 2) := by decide +kernel
theorem dX8_spell_43 : decode cX8_spell 43 = .ok (.idiv, 1) := by decide +kernel
theorem dX8_spell_44 : decode cX8_spell 44 = .ok (.istore_n 3, 1) := by decide +kernel
theorem dX8_spell_45 : decode cX8_spell 45 = .ok (.iinc 4 (-1), 3) := by decide +kernel
theorem dX8_spell_48 : decode cX8_spell 48 = .ok (.goto (-24), 3) := by decide +kernel
theorem dX8_spell_51 : decode cX8_spell 51 = .ok (.return_, 1) := by decide +kernel
def Tk_spell_L24_b (t : Nat) (rec : Int32 → Int32 → gm_M → Option (gm_M)) (y5 : Int32) (y6 : Int32) (S7 : gm_M) : Option (gm_M) :=
  if y6 < 0 then (
    some (S7)
  ) else (
    gm_ck (y6) 4 <|
    gm_lt (α := gm_M) (gm_ui S7 (t + 1) (y6.toNatClampNeg) (gm_rm y5 10)) fun S11 =>
    gm_lt (α := Int32) (y5 / 10) fun x12 =>
    gm_lt (α := Int32) (y6 + (-1)) fun x13 =>
    rec x12 x13 S11
  )
def Tk_spell_L24 (t : Nat) : Nat → Int32 → Int32 → gm_M → Option (gm_M)
  | 0 => fun _ _ _ => none
  | n + 1 => Tk_spell_L24_b t (Tk_spell_L24 t n)
def Tk_spell (fl : Nat) (t : Nat) (a0 : Int32) (a1 : Int32) (S : gm_M) : Option gm_M :=
  gm_lt (α := Int32) (if 4 < a1 then 4 else a1) fun x1 =>
  gm_lt (α := gm_M) (gm_ui S t 1 x1) fun S2 =>
  gm_lt (α := gm_M) (gm_ui S2 t 2 a0) fun S3 =>
  gm_lt (α := Int32) ((S3.1 t 1) - 1) fun x4 =>
  gm_bp1 (Tk_spell_L24 t fl a0 x4 S3) fun S8 =>
  some S8
set_option maxHeartbeats 4000000 in
set_option maxRecDepth 100000 in
theorem Tk_spell_c (l : Launch) (cf : gm_C) (ad : Nat → Nat) {fl : Nat} {t : Nat} (ht : gm_isTk t) {a0 : Int32} {a1 : Int32} {S : gm_M}  {S'  : gm_M} (hf : Tk_spell fl t a0 a1 S = some S') : gm_Met l yX8_spell cX8_spell 5 none 1 14 cf ad gm_sC 106 [.ref (ad t), .int a0, .int a1] S none S' := by
  refine gm_met (by decide +kernel) (Nat.le_of_ble_eq_true rfl) ?_
  intro p e s m args below meth c C hr
  have C : gm_F p s m args meth c cf ad 106 cX8_spell 5 RX8 := C
  refine gm_lve (lv' := [(0, .ref (ad t)), (1, .int a0), (2, .int a1)]) rfl ?_
  unfold Tk_spell at hf
  refine gm_aload_n C dX8_spell_0 rfl 0 rfl ?_
  refine gm_iload_n C dX8_spell_1 rfl 2 rfl ?_
  refine gm_iconst (v := 4) C dX8_spell_2 (by decide) ?_
  refine gm_mmin C wl_496 wm_min.1 wm_min.2.1 wm_min.2.2 (Nat.le_of_ble_eq_true rfl) (Nat.le_of_ble_eq_true rfl) dX8_spell_3 ?_
  obtain ⟨x1, ex1, hf⟩ := gm_lt_s hf
  refine gm_topi ex1 ?_
  refine gm_puti C (gm_tk_l0 ht) (gm_tk_k0 ht) kc_8 (k := 1) rfl (by decide) rfl rfl (kc_8.2.2.2.1 1 (by decide)) rfl rfl wl_192 dX8_spell_6 ?_
  obtain ⟨S2, eS2, hf⟩ := gm_lt_s hf
  refine gm_topm eS2 ?_
  refine gm_aload_n C dX8_spell_9 rfl 0 rfl ?_
  refine gm_iload_n C dX8_spell_10 rfl 1 rfl ?_
  refine gm_puti C (gm_tk_l0 ht) (gm_tk_k0 ht) kc_8 (k := 2) rfl (by decide) rfl rfl (kc_8.2.2.2.1 2 (by decide)) rfl rfl wl_193 dX8_spell_11 ?_
  obtain ⟨S3, eS3, hf⟩ := gm_lt_s hf
  refine gm_topm eS3 ?_
  refine gm_iload_n C dX8_spell_14 rfl 1 rfl ?_
  refine gm_istore_n (lv' := [(3, .int a0), (0, .ref (ad t)), (1, .int a0), (2, .int a1)]) C dX8_spell_15 rfl (by decide) rfl ?_
  refine gm_aload_n C dX8_spell_16 rfl 1 rfl ?_
  refine gm_geti C (gm_tk_l0 ht) (gm_tk_k0 ht) kc_8 (k := 1) rfl (by decide) rfl wl_192 dX8_spell_17 ?_
  refine gm_iconst (v := 1) C dX8_spell_20 (by decide) ?_
  refine gm_isub C dX8_spell_21 ?_
  obtain ⟨x4, ex4, hf⟩ := gm_lt_s hf
  refine gm_topi ex4 ?_
  refine gm_istore (lv' := [(4, .int x4), (3, .int a0), (0, .ref (ad t)), (1, .int a0), (2, .int a1)]) C dX8_spell_22 (by decide) rfl ?_
  have L24 : ∀ (n : Nat) (y5 : Int32) (y6 : Int32) (S7 : gm_M) (S8 : gm_M), Tk_spell_L24 t n y5 y6 S7 = some (S8) → gm_G p l e { frames := 1, cells := 0, slots := 0, locals := 14 } s m args below meth c (MQ below (gm_Q cf ad gm_sC 106 none S') args s 0 0 (gm_A ad 106)) cf ad gm_sC 106 5 S8 51 [] [] → gm_G p l e { frames := 1, cells := 0, slots := 0, locals := 14 } s m args below meth c (MQ below (gm_Q cf ad gm_sC 106 none S') args s 0 0 (gm_A ad 106)) cf ad gm_sC 106 5 S7 24 [(0, .ref (ad t)), (3, .int y5), (4, .int y6)] [] := by
    intro n
    induction n with
    | zero => intro y5 y6 S7 S8 hf K; cases (show (none : Option _) = some _ from hf)
    | succ n ih =>
      intro y5 y6 S7 S8 hf K
      have hf : Tk_spell_L24_b t (Tk_spell_L24 t n) y5 y6 S7 = some (S8) := hf
      unfold Tk_spell_L24_b at hf
      refine gm_iload C dX8_spell_24 2 rfl ?_
      refine gm_if_lt C 51 dX8_spell_26 (by decide) (fun c9 => ?_) (fun c9 => ?_)
      · have hf := gm_it _ c9 hf
        cases hf
        exact gm_lvp [] rfl K
      · have hf := gm_if _ c9 hf
        refine gm_aload_n C dX8_spell_29 rfl 0 rfl ?_
        refine gm_getr (j := 1) (u := (t + 1)) C (gm_tk_l0 ht) (gm_tk_k0 ht) kc_8 (k := 0) rfl (by decide) rfl rfl wl_191 dX8_spell_30 ?_
        refine gm_iload C dX8_spell_33 2 rfl ?_
        refine gm_iload_n C dX8_spell_35 rfl 1 rfl ?_
        refine gm_bipush (v := 10) C dX8_spell_36 (by decide) ?_
        refine gm_irem C dX8_spell_38 (by decide) ?_
        obtain ⟨h10, hf⟩ := gm_ck_s hf
        refine gm_iast C (gm_tk_l1 ht) (gm_tk_k1 ht) (gm_tk_n1 ht) h10 dX8_spell_39 ?_
        obtain ⟨S11, eS11, hf⟩ := gm_lt_s hf
        refine gm_topm eS11 ?_
        refine gm_iload_n C dX8_spell_40 rfl 1 rfl ?_
        refine gm_bipush (v := 10) C dX8_spell_41 (by decide) ?_
        refine gm_idiv C dX8_spell_43 (by decide) ?_
        obtain ⟨x12, ex12, hf⟩ := gm_lt_s hf
        refine gm_topi ex12 ?_
        refine gm_istore_n (lv' := [(3, .int x12), (0, .ref (ad t)), (4, .int y6)]) C dX8_spell_44 rfl (by decide) rfl ?_
        obtain ⟨x13, ex13, hf⟩ := gm_lt_s hf
        refine gm_iinc (v := x13) (lv' := [(4, .int x13), (3, .int x12), (0, .ref (ad t))]) (j := 2) C dX8_spell_45 rfl (by rw [ex13]; rfl) (by decide) rfl ?_
        refine gm_goto C 24 dX8_spell_48 (by decide) ?_
        exact gm_lvp [2, 1, 0] rfl (ih _ _ _ _ hf K)
  obtain ⟨S8, hx, hf⟩ := gm_bp1_s hf
  refine gm_lvp [2, 1, 0] rfl (L24 fl _ _ _ _ hx ?_)
  exact gm_vret C hr dX8_spell_51 hf
theorem dX6_aOf_0 : decode cX6_aOf 0 = .ok (.iload_n 0, 1) := by decide +kernel
theorem dX6_aOf_1 : decode cX6_aOf 1 = .ok (.bipush 100, 2) := by decide +kernel
theorem dX6_aOf_3 : decode cX6_aOf 3 = .ok (.idiv, 1) := by decide +kernel
theorem dX6_aOf_4 : decode cX6_aOf 4 = .ok (.bipush 100, 2) := by decide +kernel
theorem dX6_aOf_6 : decode cX6_aOf 6 = .ok (.irem, 1) := by decide +kernel
theorem dX6_aOf_7 : decode cX6_aOf 7 = .ok (.ireturn, 1) := by decide +kernel
def Ru_aOf (a0 : Int32) : Option Int32 :=
  some (gm_rm (a0 / 100) 100)
set_option maxHeartbeats 4000000 in
set_option maxRecDepth 100000 in
theorem Ru_aOf_c (l : Launch) (cf : gm_C) (ad : Nat → Nat)    {a0 : Int32} {S : gm_M} {r : Int32}  (hf : Ru_aOf a0 = some r) : gm_Met l yX6_aOf cX6_aOf 1 (some .int) 0 0 cf ad gm_sC 106 [.int a0] S (some (.int r)) S := by
  refine gm_met (by decide +kernel) (Nat.le_of_ble_eq_true rfl) ?_
  intro p e s m args below meth c C hr
  have C : gm_F p s m args meth c cf ad 106 cX6_aOf 1 RX6 := C
  refine gm_lve (lv' := [(0, .int a0)]) rfl ?_
  unfold Ru_aOf at hf
  refine gm_iload_n C dX6_aOf_0 rfl 0 rfl ?_
  refine gm_bipush (v := 100) C dX6_aOf_1 (by decide) ?_
  refine gm_idiv C dX6_aOf_3 (by decide) ?_
  refine gm_bipush (v := 100) C dX6_aOf_4 (by decide) ?_
  refine gm_irem C dX6_aOf_6 (by decide) ?_
  exact gm_iretK C hr rfl dX6_aOf_7 hf
theorem dX6_bOf_0 : decode cX6_bOf 0 = .ok (.iload_n 0, 1) := by decide +kernel
theorem dX6_bOf_1 : decode cX6_bOf 1 = .ok (.bipush 100, 2) := by decide +kernel
theorem dX6_bOf_3 : decode cX6_bOf 3 = .ok (.irem, 1) := by decide +kernel
theorem dX6_bOf_4 : decode cX6_bOf 4 = .ok (.ireturn, 1) := by decide +kernel
def Ru_bOf (a0 : Int32) : Option Int32 :=
  some (gm_rm a0 100)
set_option maxHeartbeats 4000000 in
set_option maxRecDepth 100000 in
theorem Ru_bOf_c (l : Launch) (cf : gm_C) (ad : Nat → Nat)    {a0 : Int32} {S : gm_M} {r : Int32}  (hf : Ru_bOf a0 = some r) : gm_Met l yX6_bOf cX6_bOf 1 (some .int) 0 0 cf ad gm_sC 106 [.int a0] S (some (.int r)) S := by
  refine gm_met (by decide +kernel) (Nat.le_of_ble_eq_true rfl) ?_
  intro p e s m args below meth c C hr
  have C : gm_F p s m args meth c cf ad 106 cX6_bOf 1 RX6 := C
  refine gm_lve (lv' := [(0, .int a0)]) rfl ?_
  unfold Ru_bOf at hf
  refine gm_iload_n C dX6_bOf_0 rfl 0 rfl ?_
  refine gm_bipush (v := 100) C dX6_bOf_1 (by decide) ?_
  refine gm_irem C dX6_bOf_3 (by decide) ?_
  exact gm_iretK C hr rfl dX6_bOf_4 hf
theorem dX6_kindOf_0 : decode cX6_kindOf 0 = .ok (.iload_n 0, 1) := by decide +kernel
theorem dX6_kindOf_1 : decode cX6_kindOf 1 = .ok (.sipush 10000, 3) := by decide +kernel
theorem dX6_kindOf_4 : decode cX6_kindOf 4 = .ok (.idiv, 1) := by decide +kernel
theorem dX6_kindOf_5 : decode cX6_kindOf 5 = .ok (.ireturn, 1) := by decide +kernel
def Ru_kindOf (a0 : Int32) : Option Int32 :=
  some (a0 / 10000)
set_option maxHeartbeats 4000000 in
set_option maxRecDepth 100000 in
theorem Ru_kindOf_c (l : Launch) (cf : gm_C) (ad : Nat → Nat)    {a0 : Int32} {S : gm_M} {r : Int32}  (hf : Ru_kindOf a0 = some r) : gm_Met l yX6_kindOf cX6_kindOf 1 (some .int) 0 0 cf ad gm_sC 106 [.int a0] S (some (.int r)) S := by
  refine gm_met (by decide +kernel) (Nat.le_of_ble_eq_true rfl) ?_
  intro p e s m args below meth c C hr
  have C : gm_F p s m args meth c cf ad 106 cX6_kindOf 1 RX6 := C
  refine gm_lve (lv' := [(0, .int a0)]) rfl ?_
  unfold Ru_kindOf at hf
  refine gm_iload_n C dX6_kindOf_0 rfl 0 rfl ?_
  refine gm_sipush (v := 10000) C dX6_kindOf_1 (by decide) ?_
  refine gm_idiv C dX6_kindOf_4 (by decide) ?_
  exact gm_iretK C hr rfl dX6_kindOf_5 hf
theorem dX8_halvesApart_0 : decode cX8_halvesApart 0 = .ok (.iconst 0, 1) := by decide +kernel
theorem dX8_halvesApart_1 : decode cX8_halvesApart 1 = .ok (.istore_n 1, 1) := by decide +kernel
theorem dX8_halvesApart_2 : decode cX8_halvesApart 2 = .ok (.iconst 0, 1) := by decide +kernel
theorem dX8_halvesApart_3 : decode cX8_halvesApart 3 = .ok (.istore_n 2, 1) := by decide +kernel
theorem dX8_halvesApart_4 : decode cX8_halvesApart 4 = .ok (.iload_n 2, 1) := by decide +kernel
theorem dX8_halvesApart_5 : decode cX8_halvesApart 5 = .ok (.aload_n 0, 1) := by decide +kernel
theorem dX8_halvesApart_6 : decode cX8_halvesApart 6 = .ok (.getfield 19, 3) := by decide +kernel
theorem dX8_halvesApart_9 : decode cX8_halvesApart 9 = .ok (.iconst 2, 1) := by decide +kernel
theorem dX8_halvesApart_10 : decode cX8_halvesApart 10 = .ok (.idiv, 1) := by decide +kernel
theorem dX8_halvesApart_11 : decode cX8_halvesApart 11 = .ok (.if_icmp .ge 32, 3) := by decide +kernel
theorem dX8_halvesApart_14 : decode cX8_halvesApart 14 = .ok (.iload_n 1, 1) := by decide +kernel
theorem dX8_halvesApart_15 : decode cX8_halvesApart 15 = .ok (.aload_n 0, 1) := by decide +kernel
theorem dX8_halvesApart_16 : decode cX8_halvesApart 16 = .ok (.getfield 7, 3) := by decide +kernel
theorem dX8_halvesApart_19 : decode cX8_halvesApart 19 = .ok (.iload_n 2, 1) := by decide +kernel
theorem dX8_halvesApart_20 : decode cX8_halvesApart 20 = .ok (.iaload, 1) := by decide +kernel
theorem dX8_halvesApart_21 : decode cX8_halvesApart 21 = .ok (.aload_n 0, 1) := by decide +kernel
theorem dX8_halvesApart_22 : decode cX8_halvesApart 22 = .ok (.getfield 7, 3) := by decide +kernel
theorem dX8_halvesApart_25 : decode cX8_halvesApart 25 = .ok (.aload_n 0, 1) := by decide +kernel
theorem dX8_halvesApart_26 : decode cX8_halvesApart 26 = .ok (.getfield 19, 3) := by decide +kernel
theorem dX8_halvesApart_29 : decode cX8_halvesApart 29 = .ok (.iconst 1, 1) := by decide +kernel
theorem dX8_halvesApart_30 : decode cX8_halvesApart 30 = .ok (.isub, 1) := by decide +kernel
theorem dX8_halvesApart_31 : decode cX8_halvesApart 31 = .ok (.iload_n 2, 1) := by decide +kernel
theorem dX8_halvesApart_32 : decode cX8_halvesApart 32 = .ok (.isub, 1) := by decide +kernel
theorem dX8_halvesApart_33 : decode cX8_halvesApart 33 = .ok (.iaload, 1) := by decide +kernel
theorem dX8_halvesApart_34 : decode cX8_halvesApart 34 = .ok (.isub, 1) := by decide +kernel
theorem dX8_halvesApart_35 : decode cX8_halvesApart 35 = .ok (.iadd, 1) := by decide +kernel
theorem dX8_halvesApart_36 : decode cX8_halvesApart 36 = .ok (.istore_n 1, 1) := by decide +kernel
theorem dX8_halvesApart_37 : decode cX8_halvesApart 37 = .ok (.iinc 2 1, 3) := by decide +kernel
theorem dX8_halvesApart_40 : decode cX8_halvesApart 40 = .ok (.goto (-36), 3) := by decide +kernel
theorem dX8_halvesApart_43 : decode cX8_halvesApart 43 = .ok (.iload_n 1, 1) := by decide +kernel
theorem dX8_halvesApart_44 : decode cX8_halvesApart 44 = .ok (.invokestatic 26, 3) := by decide +kernel
theorem dX8_halvesApart_47 : decode cX8_halvesApart 47 = .ok (.ireturn, 1) := by decide +kernel
def Tk_halvesApart_L4_b (t : Nat) (S : gm_M) (rec : Int32 → Int32 → Option (Int32)) (y1 : Int32) (y2 : Int32) : Option (Int32) :=
  if (S.1 t 1) / 2 ≤ y2 then (
    some (y1)
  ) else (
    gm_ck (y2) 4 <|
    gm_ck (((S.1 t 1) - 1) - y2) 4 <|
    gm_lt (α := Int32) (y1 + ((S.1 (t + 1) y2.toNatClampNeg) - (S.1 (t + 1) (((S.1 t 1) - 1) - y2).toNatClampNeg))) fun x7 =>
    gm_lt (α := Int32) (y2 + 1) fun x8 =>
    rec x7 x8
  )
def Tk_halvesApart_L4 (t : Nat) (S : gm_M) : Nat → Int32 → Int32 → Option (Int32)
  | 0 => fun _ _ => none
  | n + 1 => Tk_halvesApart_L4_b t S (Tk_halvesApart_L4 t S n)
def Tk_halvesApart (fl : Nat) (t : Nat) (S : gm_M) : Option Int32 :=
  gm_bp1 (Tk_halvesApart_L4 t S fl 0 0) fun z3 =>
  gm_lt (α := Int32) (if 0 ≤ z3 then z3 else 0 - z3) fun x9 =>
  some (x9)
set_option maxHeartbeats 4000000 in
set_option maxRecDepth 100000 in
theorem Tk_halvesApart_c (l : Launch) (cf : gm_C) (ad : Nat → Nat) {fl : Nat} {t : Nat} (ht : gm_isTk t)  {S : gm_M} {r : Int32}  (hf : Tk_halvesApart fl t S = some r) : gm_Met l yX8_halvesApart cX8_halvesApart 3 (some .int) 1 13 cf ad gm_sC 106 [.ref (ad t)] S (some (.int r)) S := by
  refine gm_met (by decide +kernel) (Nat.le_of_ble_eq_true rfl) ?_
  intro p e s m args below meth c C hr
  have C : gm_F p s m args meth c cf ad 106 cX8_halvesApart 3 RX8 := C
  refine gm_lve (lv' := [(0, .ref (ad t))]) rfl ?_
  unfold Tk_halvesApart at hf
  refine gm_iconst (v := 0) C dX8_halvesApart_0 (by decide) ?_
  refine gm_istore_n (lv' := [(1, .int 0), (0, .ref (ad t))]) C dX8_halvesApart_1 rfl (by decide) rfl ?_
  refine gm_iconst (v := 0) C dX8_halvesApart_2 (by decide) ?_
  refine gm_istore_n (lv' := [(2, .int 0), (1, .int 0), (0, .ref (ad t))]) C dX8_halvesApart_3 rfl (by decide) rfl ?_
  have L4 : ∀ (n : Nat) (y1 : Int32) (y2 : Int32) (z3 : Int32), Tk_halvesApart_L4 t S n y1 y2 = some (z3) → gm_G p l e { frames := 1, cells := 0, slots := 0, locals := 13 } s m args below meth c (MQ below (gm_Q cf ad gm_sC 106 (some (.int r)) S) args s 0 0 (gm_A ad 106)) cf ad gm_sC 106 3 S 43 [(1, .int z3)] [] → gm_G p l e { frames := 1, cells := 0, slots := 0, locals := 13 } s m args below meth c (MQ below (gm_Q cf ad gm_sC 106 (some (.int r)) S) args s 0 0 (gm_A ad 106)) cf ad gm_sC 106 3 S 4 [(0, .ref (ad t)), (1, .int y1), (2, .int y2)] [] := by
    intro n
    induction n with
    | zero => intro y1 y2 z3 hf K; cases (show (none : Option _) = some _ from hf)
    | succ n ih =>
      intro y1 y2 z3 hf K
      have hf : Tk_halvesApart_L4_b t S (Tk_halvesApart_L4 t S n) y1 y2 = some (z3) := hf
      unfold Tk_halvesApart_L4_b at hf
      refine gm_iload_n C dX8_halvesApart_4 rfl 2 rfl ?_
      refine gm_aload_n C dX8_halvesApart_5 rfl 0 rfl ?_
      refine gm_geti C (gm_tk_l0 ht) (gm_tk_k0 ht) kc_8 (k := 1) rfl (by decide) rfl wl_192 dX8_halvesApart_6 ?_
      refine gm_iconst (v := 2) C dX8_halvesApart_9 (by decide) ?_
      refine gm_idiv C dX8_halvesApart_10 (by decide) ?_
      refine gm_icmp_ge C 43 dX8_halvesApart_11 (by decide) (fun c4 => ?_) (fun c4 => ?_)
      · have hf := gm_it _ c4 hf
        cases hf
        exact gm_lvp [1] rfl K
      · have hf := gm_if _ c4 hf
        refine gm_iload_n C dX8_halvesApart_14 rfl 1 rfl ?_
        refine gm_aload_n C dX8_halvesApart_15 rfl 0 rfl ?_
        refine gm_getr (j := 1) (u := (t + 1)) C (gm_tk_l0 ht) (gm_tk_k0 ht) kc_8 (k := 0) rfl (by decide) rfl rfl wl_191 dX8_halvesApart_16 ?_
        refine gm_iload_n C dX8_halvesApart_19 rfl 2 rfl ?_
        obtain ⟨h5, hf⟩ := gm_ck_s hf
        refine gm_iald C (gm_tk_l1 ht) (gm_tk_k1 ht) (gm_tk_n1 ht) h5 dX8_halvesApart_20 ?_
        refine gm_aload_n C dX8_halvesApart_21 rfl 0 rfl ?_
        refine gm_getr (j := 1) (u := (t + 1)) C (gm_tk_l0 ht) (gm_tk_k0 ht) kc_8 (k := 0) rfl (by decide) rfl rfl wl_191 dX8_halvesApart_22 ?_
        refine gm_aload_n C dX8_halvesApart_25 rfl 0 rfl ?_
        refine gm_geti C (gm_tk_l0 ht) (gm_tk_k0 ht) kc_8 (k := 1) rfl (by decide) rfl wl_192 dX8_halvesApart_26 ?_
        refine gm_iconst (v := 1) C dX8_halvesApart_29 (by decide) ?_
        refine gm_isub C dX8_halvesApart_30 ?_
        refine gm_iload_n C dX8_halvesApart_31 rfl 2 rfl ?_
        refine gm_isub C dX8_halvesApart_32 ?_
        obtain ⟨h6, hf⟩ := gm_ck_s hf
        refine gm_iald C (gm_tk_l1 ht) (gm_tk_k1 ht) (gm_tk_n1 ht) h6 dX8_halvesApart_33 ?_
        refine gm_isub C dX8_halvesApart_34 ?_
        refine gm_iadd C dX8_halvesApart_35 ?_
        obtain ⟨x7, ex7, hf⟩ := gm_lt_s hf
        refine gm_topi ex7 ?_
        refine gm_istore_n (lv' := [(1, .int x7), (0, .ref (ad t)), (2, .int y2)]) C dX8_halvesApart_36 rfl (by decide) rfl ?_
        obtain ⟨x8, ex8, hf⟩ := gm_lt_s hf
        refine gm_iinc (v := x8) (lv' := [(2, .int x8), (1, .int x7), (0, .ref (ad t))]) (j := 2) C dX8_halvesApart_37 rfl (by rw [ex8]; rfl) (by decide) rfl ?_
        refine gm_goto C 4 dX8_halvesApart_40 (by decide) ?_
        exact gm_lvp [2, 1, 0] rfl (ih _ _ _ hf K)
  obtain ⟨z3, hx, hf⟩ := gm_bp1_s hf
  refine gm_lvp [2, 1, 0] rfl (L4 fl _ _ _ hx ?_)
  refine gm_iload_n C dX8_halvesApart_43 rfl 0 rfl ?_
  refine gm_mabs C wl_513 wm_abs.1 wm_abs.2.1 wm_abs.2.2 (Nat.le_of_ble_eq_true rfl) (Nat.le_of_ble_eq_true rfl) dX8_halvesApart_44 ?_
  obtain ⟨x9, ex9, hf⟩ := gm_lt_s hf
  refine gm_topi ex9 ?_
  exact gm_iretK C hr rfl dX8_halvesApart_47 hf
theorem dX8_unlikePairs_0 : decode cX8_unlikePairs 0 = .ok (.iconst 0, 1) := by decide +kernel
theorem dX8_unlikePairs_1 : decode cX8_unlikePairs 1 = .ok (.istore_n 1, 1) := by decide +kernel
theorem dX8_unlikePairs_2 : decode cX8_unlikePairs 2 = .ok (.iconst 0, 1) := by decide +kernel
theorem dX8_unlikePairs_3 : decode cX8_unlikePairs 3 = .ok (.istore_n 2, 1) := by decide +kernel
theorem dX8_unlikePairs_4 : decode cX8_unlikePairs 4 = .ok (.iload_n 2, 1) := by decide +kernel
theorem dX8_unlikePairs_5 : decode cX8_unlikePairs 5 = .ok (.aload_n 0, 1) := by decide +kernel
theorem dX8_unlikePairs_6 : decode cX8_unlikePairs 6 = .ok (.getfield 19, 3) := by decide +kernel
theorem dX8_unlikePairs_9 : decode cX8_unlikePairs 9 = .ok (.iconst 2, 1) := by decide +kernel
theorem dX8_unlikePairs_10 : decode cX8_unlikePairs 10 = .ok (.idiv, 1) := by decide +kernel
theorem dX8_unlikePairs_11 : decode cX8_unlikePairs 11 = .ok (.if_icmp .ge 34, 3) := by decide +kernel
theorem dX8_unlikePairs_14 : decode cX8_unlikePairs 14 = .ok (.aload_n 0, 1) := by decide +kernel
theorem dX8_unlikePairs_15 : decode cX8_unlikePairs 15 = .ok (.getfield 7, 3) := by decide +kernel
theorem dX8_unlikePairs_18 : decode cX8_unlikePairs 18 = .ok (.iload_n 2, 1) := by decide +kernel
theorem dX8_unlikePairs_19 : decode cX8_unlikePairs 19 = .ok (.iaload, 1) := by decide +kernel
theorem dX8_unlikePairs_20 : decode cX8_unlikePairs 20 = .ok (.aload_n 0, 1) := by decide +kernel
theorem dX8_unlikePairs_21 : decode cX8_unlikePairs 21 = .ok (.getfield 7, 3) := by decide +kernel
theorem dX8_unlikePairs_24 : decode cX8_unlikePairs 24 = .ok (.aload_n 0, 1) := by decide +kernel
theorem dX8_unlikePairs_25 : decode cX8_unlikePairs 25 = .ok (.getfield 19, 3) := by decide +kernel
theorem dX8_unlikePairs_28 : decode cX8_unlikePairs 28 = .ok (.iconst 1, 1) := by decide +kernel
theorem dX8_unlikePairs_29 : decode cX8_unlikePairs 29 = .ok (.isub, 1) := by decide +kernel
theorem dX8_unlikePairs_30 : decode cX8_unlikePairs 30 = .ok (.iload_n 2, 1) := by decide +kernel
theorem dX8_unlikePairs_31 : decode cX8_unlikePairs 31 = .ok (.isub, 1) := by decide +kernel
theorem dX8_unlikePairs_32 : decode cX8_unlikePairs 32 = .ok (.iaload, 1) := by decide +kernel
theorem dX8_unlikePairs_33 : decode cX8_unlikePairs 33 = .ok (.if_icmp .eq 6, 3) := by decide +kernel
theorem dX8_unlikePairs_36 : decode cX8_unlikePairs 36 = .ok (.iinc 1 1, 3) := by decide +kernel
theorem dX8_unlikePairs_39 : decode cX8_unlikePairs 39 = .ok (.iinc 2 1, 3) := by decide +kernel
theorem dX8_unlikePairs_42 : decode cX8_unlikePairs 42 = .ok (.goto (-38), 3) := by decide +kernel
theorem dX8_unlikePairs_45 : decode cX8_unlikePairs 45 = .ok (.iload_n 1, 1) := by decide +kernel
theorem dX8_unlikePairs_46 : decode cX8_unlikePairs 46 = .ok (.ireturn, 1) := by decide +kernel
def Tk_unlikePairs_L4_b (t : Nat) (S : gm_M) (rec : Int32 → Int32 → Option (Int32)) (y1 : Int32) (y2 : Int32) : Option (Int32) :=
  if (S.1 t 1) / 2 ≤ y2 then (
    some (y1)
  ) else (
    gm_ck (y2) 4 <|
    gm_ck (((S.1 t 1) - 1) - y2) 4 <|
    gm_bp1 (show Option (Int32) from
      if S.1 (t + 1) y2.toNatClampNeg = S.1 (t + 1) (((S.1 t 1) - 1) - y2).toNatClampNeg then (
        some (y1)
      ) else (
        gm_lt (α := Int32) (y1 + 1) fun x10 =>
        some (x10)
      )
    ) fun x7 =>
    gm_lt (α := Int32) (y2 + 1) fun x8 =>
    rec x7 x8
  )
def Tk_unlikePairs_L4 (t : Nat) (S : gm_M) : Nat → Int32 → Int32 → Option (Int32)
  | 0 => fun _ _ => none
  | n + 1 => Tk_unlikePairs_L4_b t S (Tk_unlikePairs_L4 t S n)
def Tk_unlikePairs (fl : Nat) (t : Nat) (S : gm_M) : Option Int32 :=
  gm_bp1 (Tk_unlikePairs_L4 t S fl 0 0) fun z3 =>
  some (z3)
set_option maxHeartbeats 4000000 in
set_option maxRecDepth 100000 in
theorem Tk_unlikePairs_c (l : Launch) (cf : gm_C) (ad : Nat → Nat) {fl : Nat} {t : Nat} (ht : gm_isTk t)  {S : gm_M} {r : Int32}  (hf : Tk_unlikePairs fl t S = some r) : gm_Met l yX8_unlikePairs cX8_unlikePairs 3 (some .int) 0 0 cf ad gm_sC 106 [.ref (ad t)] S (some (.int r)) S := by
  refine gm_met (by decide +kernel) (Nat.le_of_ble_eq_true rfl) ?_
  intro p e s m args below meth c C hr
  have C : gm_F p s m args meth c cf ad 106 cX8_unlikePairs 3 RX8 := C
  refine gm_lve (lv' := [(0, .ref (ad t))]) rfl ?_
  unfold Tk_unlikePairs at hf
  refine gm_iconst (v := 0) C dX8_unlikePairs_0 (by decide) ?_
  refine gm_istore_n (lv' := [(1, .int 0), (0, .ref (ad t))]) C dX8_unlikePairs_1 rfl (by decide) rfl ?_
  refine gm_iconst (v := 0) C dX8_unlikePairs_2 (by decide) ?_
  refine gm_istore_n (lv' := [(2, .int 0), (1, .int 0), (0, .ref (ad t))]) C dX8_unlikePairs_3 rfl (by decide) rfl ?_
  have L4 : ∀ (n : Nat) (y1 : Int32) (y2 : Int32) (z3 : Int32), Tk_unlikePairs_L4 t S n y1 y2 = some (z3) → gm_G p l e { frames := 0, cells := 0, slots := 0, locals := 0 } s m args below meth c (MQ below (gm_Q cf ad gm_sC 106 (some (.int r)) S) args s 0 0 (gm_A ad 106)) cf ad gm_sC 106 3 S 45 [(1, .int z3)] [] → gm_G p l e { frames := 0, cells := 0, slots := 0, locals := 0 } s m args below meth c (MQ below (gm_Q cf ad gm_sC 106 (some (.int r)) S) args s 0 0 (gm_A ad 106)) cf ad gm_sC 106 3 S 4 [(0, .ref (ad t)), (1, .int y1), (2, .int y2)] [] := by
    intro n
    induction n with
    | zero => intro y1 y2 z3 hf K; cases (show (none : Option _) = some _ from hf)
    | succ n ih =>
      intro y1 y2 z3 hf K
      have hf : Tk_unlikePairs_L4_b t S (Tk_unlikePairs_L4 t S n) y1 y2 = some (z3) := hf
      unfold Tk_unlikePairs_L4_b at hf
      refine gm_iload_n C dX8_unlikePairs_4 rfl 2 rfl ?_
      refine gm_aload_n C dX8_unlikePairs_5 rfl 0 rfl ?_
      refine gm_geti C (gm_tk_l0 ht) (gm_tk_k0 ht) kc_8 (k := 1) rfl (by decide) rfl wl_192 dX8_unlikePairs_6 ?_
      refine gm_iconst (v := 2) C dX8_unlikePairs_9 (by decide) ?_
      refine gm_idiv C dX8_unlikePairs_10 (by decide) ?_
      refine gm_icmp_ge C 45 dX8_unlikePairs_11 (by decide) (fun c4 => ?_) (fun c4 => ?_)
      · have hf := gm_it _ c4 hf
        cases hf
        exact gm_lvp [1] rfl K
      · have hf := gm_if _ c4 hf
        refine gm_aload_n C dX8_unlikePairs_14 rfl 0 rfl ?_
        refine gm_getr (j := 1) (u := (t + 1)) C (gm_tk_l0 ht) (gm_tk_k0 ht) kc_8 (k := 0) rfl (by decide) rfl rfl wl_191 dX8_unlikePairs_15 ?_
        refine gm_iload_n C dX8_unlikePairs_18 rfl 2 rfl ?_
        obtain ⟨h5, hf⟩ := gm_ck_s hf
        refine gm_iald C (gm_tk_l1 ht) (gm_tk_k1 ht) (gm_tk_n1 ht) h5 dX8_unlikePairs_19 ?_
        refine gm_aload_n C dX8_unlikePairs_20 rfl 0 rfl ?_
        refine gm_getr (j := 1) (u := (t + 1)) C (gm_tk_l0 ht) (gm_tk_k0 ht) kc_8 (k := 0) rfl (by decide) rfl rfl wl_191 dX8_unlikePairs_21 ?_
        refine gm_aload_n C dX8_unlikePairs_24 rfl 0 rfl ?_
        refine gm_geti C (gm_tk_l0 ht) (gm_tk_k0 ht) kc_8 (k := 1) rfl (by decide) rfl wl_192 dX8_unlikePairs_25 ?_
        refine gm_iconst (v := 1) C dX8_unlikePairs_28 (by decide) ?_
        refine gm_isub C dX8_unlikePairs_29 ?_
        refine gm_iload_n C dX8_unlikePairs_30 rfl 2 rfl ?_
        refine gm_isub C dX8_unlikePairs_31 ?_
        obtain ⟨h6, hf⟩ := gm_ck_s hf
        refine gm_iald C (gm_tk_l1 ht) (gm_tk_k1 ht) (gm_tk_n1 ht) h6 dX8_unlikePairs_32 ?_
        obtain ⟨x7, hx, hf⟩ := gm_bp1_s hf
        have key : gm_G p l e { frames := 0, cells := 0, slots := 0, locals := 0 } s m args below meth c (MQ below (gm_Q cf ad gm_sC 106 (some (.int r)) S) args s 0 0 (gm_A ad 106)) cf ad gm_sC 106 3 S 39 [(0, .ref (ad t)), (1, .int x7), (2, .int y2)] [] := by
          obtain ⟨x8, ex8, hf⟩ := gm_lt_s hf
          refine gm_iinc (v := x8) (lv' := [(2, .int x8), (0, .ref (ad t)), (1, .int x7)]) (j := 2) C dX8_unlikePairs_39 rfl (by rw [ex8]; rfl) (by decide) rfl ?_
          refine gm_goto C 4 dX8_unlikePairs_42 (by decide) ?_
          exact gm_lvp [1, 2, 0] rfl (ih _ _ _ hf K)
        have hf := hx
        refine gm_icmp_eq C 39 dX8_unlikePairs_33 (by decide) (fun c9 => ?_) (fun c9 => ?_)
        · have hf := gm_it _ c9 hf
          cases hf
          exact gm_lvp [0, 1, 2] rfl key
        · have hf := gm_if _ c9 hf
          obtain ⟨x10, ex10, hf⟩ := gm_lt_s hf
          refine gm_iinc (v := x10) (lv' := [(1, .int x10), (0, .ref (ad t)), (2, .int y2)]) (j := 1) C dX8_unlikePairs_36 rfl (by rw [ex10]; rfl) (by decide) rfl ?_
          cases hf
          exact gm_lvp [1, 0, 2] rfl key
  obtain ⟨z3, hx, hf⟩ := gm_bp1_s hf
  refine gm_lvp [2, 1, 0] rfl (L4 fl _ _ _ hx ?_)
  refine gm_iload_n C dX8_unlikePairs_45 rfl 0 rfl ?_
  exact gm_iretK C hr rfl dX8_unlikePairs_46 hf
theorem dX8_timesThere_0 : decode cX8_timesThere 0 = .ok (.iconst 0, 1) := by decide +kernel
theorem dX8_timesThere_1 : decode cX8_timesThere 1 = .ok (.istore_n 2, 1) := by decide +kernel
theorem dX8_timesThere_2 : decode cX8_timesThere 2 = .ok (.iconst 0, 1) := by decide +kernel
theorem dX8_timesThere_3 : decode cX8_timesThere 3 = .ok (.istore_n 3, 1) := by decide +kernel
theorem dX8_timesThere_4 : decode cX8_timesThere 4 = .ok (.iload_n 3, 1) := by decide +kernel
theorem dX8_timesThere_5 : decode cX8_timesThere 5 = .ok (.aload_n 0, 1) := by decide +kernel
theorem dX8_timesThere_6 : decode cX8_timesThere 6 = .ok (.getfield 19, 3) := by decide +kernel
theorem dX8_timesThere_9 : decode cX8_timesThere 9 = .ok (.if_icmp .ge 22, 3) := by decide +kernel
theorem dX8_timesThere_12 : decode cX8_timesThere 12 = .ok (.aload_n 0, 1) := by decide +kernel
theorem dX8_timesThere_13 : decode cX8_timesThere 13 = .ok (.getfield 7, 3) := by decide +kernel
theorem dX8_timesThere_16 : decode cX8_timesThere 16 = .ok (.iload_n 3, 1) := by decide +kernel
theorem dX8_timesThere_17 : decode cX8_timesThere 17 = .ok (.iaload, 1) := by decide +kernel
theorem dX8_timesThere_18 : decode cX8_timesThere 18 = .ok (.iload_n 1, 1) := by decide +kernel
theorem dX8_timesThere_19 : decode cX8_timesThere 19 = .ok (.if_icmp .ne 6, 3) := by decide +kernel
theorem dX8_timesThere_22 : decode cX8_timesThere 22 = .ok (.iinc 2 1, 3) := by decide +kernel
theorem dX8_timesThere_25 : decode cX8_timesThere 25 = .ok (.iinc 3 1, 3) := by decide +kernel
theorem dX8_timesThere_28 : decode cX8_timesThere 28 = .ok (.goto (-24), 3) := by decide +kernel
theorem dX8_timesThere_31 : decode cX8_timesThere 31 = .ok (.iload_n 2, 1) := by decide +kernel
theorem dX8_timesThere_32 : decode cX8_timesThere 32 = .ok (.ireturn, 1) := by decide +kernel
def Tk_timesThere_L4_b (t : Nat) (a0 : Int32) (S : gm_M) (rec : Int32 → Int32 → Option (Int32)) (y1 : Int32) (y2 : Int32) : Option (Int32) :=
  if S.1 t 1 ≤ y2 then (
    some (y1)
  ) else (
    gm_ck (y2) 4 <|
    gm_bp1 (show Option (Int32) from
      if S.1 (t + 1) y2.toNatClampNeg = a0 then (
        gm_lt (α := Int32) (y1 + 1) fun x9 =>
        some (x9)
      ) else (
        some (y1)
      )
    ) fun x6 =>
    gm_lt (α := Int32) (y2 + 1) fun x7 =>
    rec x6 x7
  )
def Tk_timesThere_L4 (t : Nat) (a0 : Int32) (S : gm_M) : Nat → Int32 → Int32 → Option (Int32)
  | 0 => fun _ _ => none
  | n + 1 => Tk_timesThere_L4_b t a0 S (Tk_timesThere_L4 t a0 S n)
def Tk_timesThere (fl : Nat) (t : Nat) (a0 : Int32) (S : gm_M) : Option Int32 :=
  gm_bp1 (Tk_timesThere_L4 t a0 S fl 0 0) fun z3 =>
  some (z3)
set_option maxHeartbeats 4000000 in
set_option maxRecDepth 100000 in
theorem Tk_timesThere_c (l : Launch) (cf : gm_C) (ad : Nat → Nat) {fl : Nat} {t : Nat} (ht : gm_isTk t) {a0 : Int32} {S : gm_M} {r : Int32}  (hf : Tk_timesThere fl t a0 S = some r) : gm_Met l yX8_timesThere cX8_timesThere 4 (some .int) 0 0 cf ad gm_sC 106 [.ref (ad t), .int a0] S (some (.int r)) S := by
  refine gm_met (by decide +kernel) (Nat.le_of_ble_eq_true rfl) ?_
  intro p e s m args below meth c C hr
  have C : gm_F p s m args meth c cf ad 106 cX8_timesThere 4 RX8 := C
  refine gm_lve (lv' := [(0, .ref (ad t)), (1, .int a0)]) rfl ?_
  unfold Tk_timesThere at hf
  refine gm_iconst (v := 0) C dX8_timesThere_0 (by decide) ?_
  refine gm_istore_n (lv' := [(2, .int 0), (0, .ref (ad t)), (1, .int a0)]) C dX8_timesThere_1 rfl (by decide) rfl ?_
  refine gm_iconst (v := 0) C dX8_timesThere_2 (by decide) ?_
  refine gm_istore_n (lv' := [(3, .int 0), (2, .int 0), (0, .ref (ad t)), (1, .int a0)]) C dX8_timesThere_3 rfl (by decide) rfl ?_
  have L4 : ∀ (n : Nat) (y1 : Int32) (y2 : Int32) (z3 : Int32), Tk_timesThere_L4 t a0 S n y1 y2 = some (z3) → gm_G p l e { frames := 0, cells := 0, slots := 0, locals := 0 } s m args below meth c (MQ below (gm_Q cf ad gm_sC 106 (some (.int r)) S) args s 0 0 (gm_A ad 106)) cf ad gm_sC 106 4 S 31 [(2, .int z3)] [] → gm_G p l e { frames := 0, cells := 0, slots := 0, locals := 0 } s m args below meth c (MQ below (gm_Q cf ad gm_sC 106 (some (.int r)) S) args s 0 0 (gm_A ad 106)) cf ad gm_sC 106 4 S 4 [(0, .ref (ad t)), (1, .int a0), (2, .int y1), (3, .int y2)] [] := by
    intro n
    induction n with
    | zero => intro y1 y2 z3 hf K; cases (show (none : Option _) = some _ from hf)
    | succ n ih =>
      intro y1 y2 z3 hf K
      have hf : Tk_timesThere_L4_b t a0 S (Tk_timesThere_L4 t a0 S n) y1 y2 = some (z3) := hf
      unfold Tk_timesThere_L4_b at hf
      refine gm_iload_n C dX8_timesThere_4 rfl 3 rfl ?_
      refine gm_aload_n C dX8_timesThere_5 rfl 0 rfl ?_
      refine gm_geti C (gm_tk_l0 ht) (gm_tk_k0 ht) kc_8 (k := 1) rfl (by decide) rfl wl_192 dX8_timesThere_6 ?_
      refine gm_icmp_ge C 31 dX8_timesThere_9 (by decide) (fun c4 => ?_) (fun c4 => ?_)
      · have hf := gm_it _ c4 hf
        cases hf
        exact gm_lvp [2] rfl K
      · have hf := gm_if _ c4 hf
        refine gm_aload_n C dX8_timesThere_12 rfl 0 rfl ?_
        refine gm_getr (j := 1) (u := (t + 1)) C (gm_tk_l0 ht) (gm_tk_k0 ht) kc_8 (k := 0) rfl (by decide) rfl rfl wl_191 dX8_timesThere_13 ?_
        refine gm_iload_n C dX8_timesThere_16 rfl 3 rfl ?_
        obtain ⟨h5, hf⟩ := gm_ck_s hf
        refine gm_iald C (gm_tk_l1 ht) (gm_tk_k1 ht) (gm_tk_n1 ht) h5 dX8_timesThere_17 ?_
        refine gm_iload_n C dX8_timesThere_18 rfl 1 rfl ?_
        obtain ⟨x6, hx, hf⟩ := gm_bp1_s hf
        have key : gm_G p l e { frames := 0, cells := 0, slots := 0, locals := 0 } s m args below meth c (MQ below (gm_Q cf ad gm_sC 106 (some (.int r)) S) args s 0 0 (gm_A ad 106)) cf ad gm_sC 106 4 S 25 [(0, .ref (ad t)), (1, .int a0), (2, .int x6), (3, .int y2)] [] := by
          obtain ⟨x7, ex7, hf⟩ := gm_lt_s hf
          refine gm_iinc (v := x7) (lv' := [(3, .int x7), (0, .ref (ad t)), (1, .int a0), (2, .int x6)]) (j := 3) C dX8_timesThere_25 rfl (by rw [ex7]; rfl) (by decide) rfl ?_
          refine gm_goto C 4 dX8_timesThere_28 (by decide) ?_
          exact gm_lvp [1, 2, 3, 0] rfl (ih _ _ _ hf K)
        have hf := hx
        refine gm_icmp_ne C 25 dX8_timesThere_19 (by decide) (fun c8 => ?_) (fun c8 => ?_)
        · have hf := gm_if _ c8 hf
          cases hf
          exact gm_lvp [0, 1, 2, 3] rfl key
        · have hf := gm_it _ c8 hf
          obtain ⟨x9, ex9, hf⟩ := gm_lt_s hf
          refine gm_iinc (v := x9) (lv' := [(2, .int x9), (0, .ref (ad t)), (1, .int a0), (3, .int y2)]) (j := 2) C dX8_timesThere_22 rfl (by rw [ex9]; rfl) (by decide) rfl ?_
          cases hf
          exact gm_lvp [1, 2, 0, 3] rfl key
  obtain ⟨z3, hx, hf⟩ := gm_bp1_s hf
  refine gm_lvp [2, 3, 1, 0] rfl (L4 fl _ _ _ hx ?_)
  refine gm_iload_n C dX8_timesThere_31 rfl 0 rfl ?_
  exact gm_iretK C hr rfl dX8_timesThere_32 hf
end
