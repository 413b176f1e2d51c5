section
-- ===== PART A: goes FIRST, ahead of the names: the tables' words, and 'selects' of the private methods out of them =====
/-- a private method of a class that the tables say can be made, by its rows of tables_1 -/
def lw_okq (q : MethodName × Nat) : Prop := (q.1.cls ≠ "java/lang/invoke/MethodHandle" ∧ q.1.cls ≠ "java/lang/invoke/VarHandle") ∧ Cond.instantiable q.1.cls q.2 ∈ tables_1 ∧ Cond.privateMethod q.1 ∈ tables_1 ∧ Cond.instanceMethod q.1 ∈ tables_1
theorem lw_p0 : lw_okq (⟨"LuckyTickets", "bestRoll", "()I"⟩, 9) := ⟨⟨by decide +kernel, by decide +kernel⟩, List.mem_of_getElem? (i := 17) (by decide +kernel), List.mem_of_getElem? (i := 508) (by decide +kernel), List.mem_of_getElem? (i := 509) (by decide +kernel)⟩
theorem lw_p1 : lw_okq (⟨"LuckyTickets", "soonFrom", "(I)I"⟩, 9) := ⟨⟨by decide +kernel, by decide +kernel⟩, List.mem_of_getElem? (i := 17) (by decide +kernel), List.mem_of_getElem? (i := 512) (by decide +kernel), List.mem_of_getElem? (i := 513) (by decide +kernel)⟩
theorem lw_p2 : lw_okq (⟨"LuckyTickets", "whoGetsIt", "(I)I"⟩, 9) := ⟨⟨by decide +kernel, by decide +kernel⟩, List.mem_of_getElem? (i := 17) (by decide +kernel), List.mem_of_getElem? (i := 583) (by decide +kernel), List.mem_of_getElem? (i := 584) (by decide +kernel)⟩
theorem lw_p3 : lw_okq (⟨"LuckyTickets", "luckyLeft", "(I)I"⟩, 9) := ⟨⟨by decide +kernel, by decide +kernel⟩, List.mem_of_getElem? (i := 17) (by decide +kernel), List.mem_of_getElem? (i := 587) (by decide +kernel), List.mem_of_getElem? (i := 588) (by decide +kernel)⟩
theorem lw_p4 : lw_okq (⟨"LuckyTickets", "partDivisor", "(I)I"⟩, 9) := ⟨⟨by decide +kernel, by decide +kernel⟩, List.mem_of_getElem? (i := 17) (by decide +kernel), List.mem_of_getElem? (i := 591) (by decide +kernel), List.mem_of_getElem? (i := 592) (by decide +kernel)⟩
theorem lw_p5 : lw_okq (⟨"LuckyTickets", "sellOne", "(II)Z"⟩, 9) := ⟨⟨by decide +kernel, by decide +kernel⟩, List.mem_of_getElem? (i := 17) (by decide +kernel), List.mem_of_getElem? (i := 628) (by decide +kernel), List.mem_of_getElem? (i := 629) (by decide +kernel)⟩
theorem lw_p6 : lw_okq (⟨"LuckyTickets", "liveOneDay", "()V"⟩, 9) := ⟨⟨by decide +kernel, by decide +kernel⟩, List.mem_of_getElem? (i := 17) (by decide +kernel), List.mem_of_getElem? (i := 683) (by decide +kernel), List.mem_of_getElem? (i := 684) (by decide +kernel)⟩
theorem lw_p7 : lw_okq (⟨"LuckyTickets", "drawOf", "(I)I"⟩, 9) := ⟨⟨by decide +kernel, by decide +kernel⟩, List.mem_of_getElem? (i := 17) (by decide +kernel), List.mem_of_getElem? (i := 687) (by decide +kernel), List.mem_of_getElem? (i := 688) (by decide +kernel)⟩
theorem lw_p8 : lw_okq (⟨"LuckyTicketsModel", "here", "()I"⟩, 37) := ⟨⟨by decide +kernel, by decide +kernel⟩, List.mem_of_getElem? (i := 783) (by decide +kernel), List.mem_of_getElem? (i := 915) (by decide +kernel), List.mem_of_getElem? (i := 916) (by decide +kernel)⟩
theorem lw_p9 : lw_okq (⟨"LuckyTicketsModel", "takeClause", "()I"⟩, 37) := ⟨⟨by decide +kernel, by decide +kernel⟩, List.mem_of_getElem? (i := 783) (by decide +kernel), List.mem_of_getElem? (i := 919) (by decide +kernel), List.mem_of_getElem? (i := 920) (by decide +kernel)⟩
theorem lw_p10 : lw_okq (⟨"LuckyTicketsModel", "fails", "(II)I"⟩, 37) := ⟨⟨by decide +kernel, by decide +kernel⟩, List.mem_of_getElem? (i := 783) (by decide +kernel), List.mem_of_getElem? (i := 923) (by decide +kernel), List.mem_of_getElem? (i := 924) (by decide +kernel)⟩
theorem lw_p11 : lw_okq (⟨"LuckyTicketsModel", "isFull", "(I)Z"⟩, 37) := ⟨⟨by decide +kernel, by decide +kernel⟩, List.mem_of_getElem? (i := 783) (by decide +kernel), List.mem_of_getElem? (i := 927) (by decide +kernel), List.mem_of_getElem? (i := 928) (by decide +kernel)⟩
theorem lw_p12 : lw_okq (⟨"LuckyTicketsModel", "takeBody", "(I)I"⟩, 37) := ⟨⟨by decide +kernel, by decide +kernel⟩, List.mem_of_getElem? (i := 783) (by decide +kernel), List.mem_of_getElem? (i := 931) (by decide +kernel), List.mem_of_getElem? (i := 932) (by decide +kernel)⟩
theorem lw_p13 : lw_okq (⟨"LuckyTicketsModel", "takeFigures", "()I"⟩, 37) := ⟨⟨by decide +kernel, by decide +kernel⟩, List.mem_of_getElem? (i := 783) (by decide +kernel), List.mem_of_getElem? (i := 935) (by decide +kernel), List.mem_of_getElem? (i := 936) (by decide +kernel)⟩
theorem lw_p14 : lw_okq (⟨"LuckyTicketsModel", "takeNumber", "(II)I"⟩, 37) := ⟨⟨by decide +kernel, by decide +kernel⟩, List.mem_of_getElem? (i := 783) (by decide +kernel), List.mem_of_getElem? (i := 939) (by decide +kernel), List.mem_of_getElem? (i := 940) (by decide +kernel)⟩
theorem lw_p15 : lw_okq (⟨"LuckyTicketsModel", "takeMode", "()I"⟩, 37) := ⟨⟨by decide +kernel, by decide +kernel⟩, List.mem_of_getElem? (i := 783) (by decide +kernel), List.mem_of_getElem? (i := 946) (by decide +kernel), List.mem_of_getElem? (i := 947) (by decide +kernel)⟩
def lw_privs_1 : List (MethodName × Nat) := [(⟨"LuckyTickets", "bestRoll", "()I"⟩, 9), (⟨"LuckyTickets", "soonFrom", "(I)I"⟩, 9), (⟨"LuckyTickets", "whoGetsIt", "(I)I"⟩, 9), (⟨"LuckyTickets", "luckyLeft", "(I)I"⟩, 9), (⟨"LuckyTickets", "partDivisor", "(I)I"⟩, 9), (⟨"LuckyTickets", "sellOne", "(II)Z"⟩, 9), (⟨"LuckyTickets", "liveOneDay", "()V"⟩, 9), (⟨"LuckyTickets", "drawOf", "(I)I"⟩, 9), (⟨"LuckyTicketsModel", "here", "()I"⟩, 37), (⟨"LuckyTicketsModel", "takeClause", "()I"⟩, 37), (⟨"LuckyTicketsModel", "fails", "(II)I"⟩, 37), (⟨"LuckyTicketsModel", "isFull", "(I)Z"⟩, 37), (⟨"LuckyTicketsModel", "takeBody", "(I)I"⟩, 37), (⟨"LuckyTicketsModel", "takeFigures", "()I"⟩, 37), (⟨"LuckyTicketsModel", "takeNumber", "(II)I"⟩, 37), (⟨"LuckyTicketsModel", "takeMode", "()I"⟩, 37)]
theorem lw_r1 : ∀ q ∈ lw_privs_1, lw_okq q := List.forall_mem_cons.mpr ⟨lw_p0, List.forall_mem_cons.mpr ⟨lw_p1, List.forall_mem_cons.mpr ⟨lw_p2, List.forall_mem_cons.mpr ⟨lw_p3, List.forall_mem_cons.mpr ⟨lw_p4, List.forall_mem_cons.mpr ⟨lw_p5, List.forall_mem_cons.mpr ⟨lw_p6, List.forall_mem_cons.mpr ⟨lw_p7, List.forall_mem_cons.mpr ⟨lw_p8, List.forall_mem_cons.mpr ⟨lw_p9, List.forall_mem_cons.mpr ⟨lw_p10, List.forall_mem_cons.mpr ⟨lw_p11, List.forall_mem_cons.mpr ⟨lw_p12, List.forall_mem_cons.mpr ⟨lw_p13, List.forall_mem_cons.mpr ⟨lw_p14, List.forall_mem_cons.mpr ⟨lw_p15, fun _ h => absurd h List.not_mem_nil⟩⟩⟩⟩⟩⟩⟩⟩⟩⟩⟩⟩⟩⟩⟩⟩
theorem lw_p16 : lw_okq (⟨"LuckyTicketsModel", "takeRule", "()I"⟩, 37) := ⟨⟨by decide +kernel, by decide +kernel⟩, List.mem_of_getElem? (i := 783) (by decide +kernel), List.mem_of_getElem? (i := 950) (by decide +kernel), List.mem_of_getElem? (i := 951) (by decide +kernel)⟩
theorem lw_p17 : lw_okq (⟨"LuckyTicketsModel", "into", "([IIII)I"⟩, 37) := ⟨⟨by decide +kernel, by decide +kernel⟩, List.mem_of_getElem? (i := 783) (by decide +kernel), List.mem_of_getElem? (i := 954) (by decide +kernel), List.mem_of_getElem? (i := 955) (by decide +kernel)⟩
theorem lw_p18 : lw_okq (⟨"LuckyTicketsModel", "takeRoll", "()I"⟩, 37) := ⟨⟨by decide +kernel, by decide +kernel⟩, List.mem_of_getElem? (i := 783) (by decide +kernel), List.mem_of_getElem? (i := 967) (by decide +kernel), List.mem_of_getElem? (i := 968) (by decide +kernel)⟩
theorem lw_p19 : lw_okq (⟨"LuckyTicketsModel", "takeRider", "()I"⟩, 37) := ⟨⟨by decide +kernel, by decide +kernel⟩, List.mem_of_getElem? (i := 783) (by decide +kernel), List.mem_of_getElem? (i := 971) (by decide +kernel), List.mem_of_getElem? (i := 972) (by decide +kernel)⟩
theorem lw_p20 : lw_okq (⟨"LuckyTicketsModel", "takeRead", "()V"⟩, 37) := ⟨⟨by decide +kernel, by decide +kernel⟩, List.mem_of_getElem? (i := 783) (by decide +kernel), List.mem_of_getElem? (i := 975) (by decide +kernel), List.mem_of_getElem? (i := 976) (by decide +kernel)⟩
theorem lw_p21 : lw_okq (⟨"LuckyTicketsModel", "allLucky", "()I"⟩, 37) := ⟨⟨by decide +kernel, by decide +kernel⟩, List.mem_of_getElem? (i := 783) (by decide +kernel), List.mem_of_getElem? (i := 987) (by decide +kernel), List.mem_of_getElem? (i := 988) (by decide +kernel)⟩
theorem lw_p22 : lw_okq (⟨"LuckyTicketsModel", "manyBut", "(III)I"⟩, 37) := ⟨⟨by decide +kernel, by decide +kernel⟩, List.mem_of_getElem? (i := 783) (by decide +kernel), List.mem_of_getElem? (i := 991) (by decide +kernel), List.mem_of_getElem? (i := 992) (by decide +kernel)⟩
theorem lw_p23 : lw_okq (⟨"LuckyTicketsModel", "isLuckyBut", "(II)Z"⟩, 37) := ⟨⟨by decide +kernel, by decide +kernel⟩, List.mem_of_getElem? (i := 783) (by decide +kernel), List.mem_of_getElem? (i := 995) (by decide +kernel), List.mem_of_getElem? (i := 996) (by decide +kernel)⟩
theorem lw_p24 : lw_okq (⟨"LuckyTicketsModel", "isYes", "(II)Z"⟩, 37) := ⟨⟨by decide +kernel, by decide +kernel⟩, List.mem_of_getElem? (i := 783) (by decide +kernel), List.mem_of_getElem? (i := 999) (by decide +kernel), List.mem_of_getElem? (i := 1000) (by decide +kernel)⟩
theorem lw_p25 : lw_okq (⟨"LuckyTicketsModel", "saysYes", "(IIII)Z"⟩, 37) := ⟨⟨by decide +kernel, by decide +kernel⟩, List.mem_of_getElem? (i := 783) (by decide +kernel), List.mem_of_getElem? (i := 1003) (by decide +kernel), List.mem_of_getElem? (i := 1004) (by decide +kernel)⟩
theorem lw_p26 : lw_okq (⟨"LuckyTicketsModel", "halves", "(II)Z"⟩, 37) := ⟨⟨by decide +kernel, by decide +kernel⟩, List.mem_of_getElem? (i := 783) (by decide +kernel), List.mem_of_getElem? (i := 1007) (by decide +kernel), List.mem_of_getElem? (i := 1008) (by decide +kernel)⟩
theorem lw_p27 : lw_okq (⟨"LuckyTicketsModel", "figureOf", "(II)I"⟩, 37) := ⟨⟨by decide +kernel, by decide +kernel⟩, List.mem_of_getElem? (i := 783) (by decide +kernel), List.mem_of_getElem? (i := 1011) (by decide +kernel), List.mem_of_getElem? (i := 1012) (by decide +kernel)⟩
theorem lw_p28 : lw_okq (⟨"LuckyTicketsModel", "mirror", "(II)Z"⟩, 37) := ⟨⟨by decide +kernel, by decide +kernel⟩, List.mem_of_getElem? (i := 783) (by decide +kernel), List.mem_of_getElem? (i := 1015) (by decide +kernel), List.mem_of_getElem? (i := 1016) (by decide +kernel)⟩
theorem lw_p29 : lw_okq (⟨"LuckyTicketsModel", "counts", "(III)Z"⟩, 37) := ⟨⟨by decide +kernel, by decide +kernel⟩, List.mem_of_getElem? (i := 783) (by decide +kernel), List.mem_of_getElem? (i := 1019) (by decide +kernel), List.mem_of_getElem? (i := 1020) (by decide +kernel)⟩
theorem lw_p30 : lw_okq (⟨"LuckyTicketsModel", "rises", "(II)Z"⟩, 37) := ⟨⟨by decide +kernel, by decide +kernel⟩, List.mem_of_getElem? (i := 783) (by decide +kernel), List.mem_of_getElem? (i := 1023) (by decide +kernel), List.mem_of_getElem? (i := 1024) (by decide +kernel)⟩
theorem lw_p31 : lw_okq (⟨"LuckyTicketsModel", "bestRoll", "()I"⟩, 37) := ⟨⟨by decide +kernel, by decide +kernel⟩, List.mem_of_getElem? (i := 783) (by decide +kernel), List.mem_of_getElem? (i := 1027) (by decide +kernel), List.mem_of_getElem? (i := 1028) (by decide +kernel)⟩
def lw_privs_2 : List (MethodName × Nat) := [(⟨"LuckyTicketsModel", "takeRule", "()I"⟩, 37), (⟨"LuckyTicketsModel", "into", "([IIII)I"⟩, 37), (⟨"LuckyTicketsModel", "takeRoll", "()I"⟩, 37), (⟨"LuckyTicketsModel", "takeRider", "()I"⟩, 37), (⟨"LuckyTicketsModel", "takeRead", "()V"⟩, 37), (⟨"LuckyTicketsModel", "allLucky", "()I"⟩, 37), (⟨"LuckyTicketsModel", "manyBut", "(III)I"⟩, 37), (⟨"LuckyTicketsModel", "isLuckyBut", "(II)Z"⟩, 37), (⟨"LuckyTicketsModel", "isYes", "(II)Z"⟩, 37), (⟨"LuckyTicketsModel", "saysYes", "(IIII)Z"⟩, 37), (⟨"LuckyTicketsModel", "halves", "(II)Z"⟩, 37), (⟨"LuckyTicketsModel", "figureOf", "(II)I"⟩, 37), (⟨"LuckyTicketsModel", "mirror", "(II)Z"⟩, 37), (⟨"LuckyTicketsModel", "counts", "(III)Z"⟩, 37), (⟨"LuckyTicketsModel", "rises", "(II)Z"⟩, 37), (⟨"LuckyTicketsModel", "bestRoll", "()I"⟩, 37)]
theorem lw_r2 : ∀ q ∈ lw_privs_2, lw_okq q := List.forall_mem_cons.mpr ⟨lw_p16, List.forall_mem_cons.mpr ⟨lw_p17, List.forall_mem_cons.mpr ⟨lw_p18, List.forall_mem_cons.mpr ⟨lw_p19, List.forall_mem_cons.mpr ⟨lw_p20, List.forall_mem_cons.mpr ⟨lw_p21, List.forall_mem_cons.mpr ⟨lw_p22, List.forall_mem_cons.mpr ⟨lw_p23, List.forall_mem_cons.mpr ⟨lw_p24, List.forall_mem_cons.mpr ⟨lw_p25, List.forall_mem_cons.mpr ⟨lw_p26, List.forall_mem_cons.mpr ⟨lw_p27, List.forall_mem_cons.mpr ⟨lw_p28, List.forall_mem_cons.mpr ⟨lw_p29, List.forall_mem_cons.mpr ⟨lw_p30, List.forall_mem_cons.mpr ⟨lw_p31, fun _ h => absurd h List.not_mem_nil⟩⟩⟩⟩⟩⟩⟩⟩⟩⟩⟩⟩⟩⟩⟩⟩
theorem lw_p32 : lw_okq (⟨"LuckyTicketsModel", "soon", "(I)I"⟩, 37) := ⟨⟨by decide +kernel, by decide +kernel⟩, List.mem_of_getElem? (i := 783) (by decide +kernel), List.mem_of_getElem? (i := 1031) (by decide +kernel), List.mem_of_getElem? (i := 1032) (by decide +kernel)⟩
theorem lw_p33 : lw_okq (⟨"LuckyTicketsModel", "isLucky", "(I)Z"⟩, 37) := ⟨⟨by decide +kernel, by decide +kernel⟩, List.mem_of_getElem? (i := 783) (by decide +kernel), List.mem_of_getElem? (i := 1035) (by decide +kernel), List.mem_of_getElem? (i := 1036) (by decide +kernel)⟩
theorem lw_p34 : lw_okq (⟨"LuckyTicketsModel", "luckiest", "()I"⟩, 37) := ⟨⟨by decide +kernel, by decide +kernel⟩, List.mem_of_getElem? (i := 783) (by decide +kernel), List.mem_of_getElem? (i := 1039) (by decide +kernel), List.mem_of_getElem? (i := 1040) (by decide +kernel)⟩
theorem lw_p35 : lw_okq (⟨"LuckyTicketsModel", "manyCould", "()I"⟩, 37) := ⟨⟨by decide +kernel, by decide +kernel⟩, List.mem_of_getElem? (i := 783) (by decide +kernel), List.mem_of_getElem? (i := 1043) (by decide +kernel), List.mem_of_getElem? (i := 1044) (by decide +kernel)⟩
theorem lw_p36 : lw_okq (⟨"LuckyTicketsModel", "couldBe", "(I)Z"⟩, 37) := ⟨⟨by decide +kernel, by decide +kernel⟩, List.mem_of_getElem? (i := 783) (by decide +kernel), List.mem_of_getElem? (i := 1047) (by decide +kernel), List.mem_of_getElem? (i := 1048) (by decide +kernel)⟩
theorem lw_p37 : lw_okq (⟨"LuckyTicketsModel", "saysOf", "(II)Z"⟩, 37) := ⟨⟨by decide +kernel, by decide +kernel⟩, List.mem_of_getElem? (i := 783) (by decide +kernel), List.mem_of_getElem? (i := 1051) (by decide +kernel), List.mem_of_getElem? (i := 1052) (by decide +kernel)⟩
theorem lw_p38 : lw_okq (⟨"LuckyTicketsModel", "askNext", "()I"⟩, 37) := ⟨⟨by decide +kernel, by decide +kernel⟩, List.mem_of_getElem? (i := 783) (by decide +kernel), List.mem_of_getElem? (i := 1067) (by decide +kernel), List.mem_of_getElem? (i := 1068) (by decide +kernel)⟩
theorem lw_p39 : lw_okq (⟨"LuckyTicketsModel", "manyYes", "(I)I"⟩, 37) := ⟨⟨by decide +kernel, by decide +kernel⟩, List.mem_of_getElem? (i := 783) (by decide +kernel), List.mem_of_getElem? (i := 1071) (by decide +kernel), List.mem_of_getElem? (i := 1072) (by decide +kernel)⟩
theorem lw_p40 : lw_okq (⟨"LuckyTicketsModel", "isRule", "(I)Z"⟩, 37) := ⟨⟨by decide +kernel, by decide +kernel⟩, List.mem_of_getElem? (i := 783) (by decide +kernel), List.mem_of_getElem? (i := 1079) (by decide +kernel), List.mem_of_getElem? (i := 1080) (by decide +kernel)⟩
theorem lw_p41 : lw_okq (⟨"LuckyTicketsModel", "isRoll", "(I)Z"⟩, 37) := ⟨⟨by decide +kernel, by decide +kernel⟩, List.mem_of_getElem? (i := 783) (by decide +kernel), List.mem_of_getElem? (i := 1088) (by decide +kernel), List.mem_of_getElem? (i := 1089) (by decide +kernel)⟩
theorem lw_p42 : lw_okq (⟨"LuckyTicketsModel", "who", "(I)I"⟩, 37) := ⟨⟨by decide +kernel, by decide +kernel⟩, List.mem_of_getElem? (i := 783) (by decide +kernel), List.mem_of_getElem? (i := 1092) (by decide +kernel), List.mem_of_getElem? (i := 1093) (by decide +kernel)⟩
theorem lw_p43 : lw_okq (⟨"LuckyTicketsModel", "part", "(IZ)I"⟩, 37) := ⟨⟨by decide +kernel, by decide +kernel⟩, List.mem_of_getElem? (i := 783) (by decide +kernel), List.mem_of_getElem? (i := 1096) (by decide +kernel), List.mem_of_getElem? (i := 1097) (by decide +kernel)⟩
theorem lw_p44 : lw_okq (⟨"LuckyTicketsModel", "luckyLeft", "(I)I"⟩, 37) := ⟨⟨by decide +kernel, by decide +kernel⟩, List.mem_of_getElem? (i := 783) (by decide +kernel), List.mem_of_getElem? (i := 1100) (by decide +kernel), List.mem_of_getElem? (i := 1101) (by decide +kernel)⟩
theorem lw_p45 : lw_okq (⟨"LuckyTicketsModel", "isRider", "(I)Z"⟩, 37) := ⟨⟨by decide +kernel, by decide +kernel⟩, List.mem_of_getElem? (i := 783) (by decide +kernel), List.mem_of_getElem? (i := 1108) (by decide +kernel), List.mem_of_getElem? (i := 1109) (by decide +kernel)⟩
theorem lw_p46 : lw_okq (⟨"LuckyTicketsModel", "isNumber", "(I)Z"⟩, 37) := ⟨⟨by decide +kernel, by decide +kernel⟩, List.mem_of_getElem? (i := 783) (by decide +kernel), List.mem_of_getElem? (i := 1116) (by decide +kernel), List.mem_of_getElem? (i := 1117) (by decide +kernel)⟩
theorem lw_p47 : lw_okq (⟨"LuckyTicketsModel", "remember", "()V"⟩, 37) := ⟨⟨by decide +kernel, by decide +kernel⟩, List.mem_of_getElem? (i := 783) (by decide +kernel), List.mem_of_getElem? (i := 1125) (by decide +kernel), List.mem_of_getElem? (i := 1126) (by decide +kernel)⟩
def lw_privs_3 : List (MethodName × Nat) := [(⟨"LuckyTicketsModel", "soon", "(I)I"⟩, 37), (⟨"LuckyTicketsModel", "isLucky", "(I)Z"⟩, 37), (⟨"LuckyTicketsModel", "luckiest", "()I"⟩, 37), (⟨"LuckyTicketsModel", "manyCould", "()I"⟩, 37), (⟨"LuckyTicketsModel", "couldBe", "(I)Z"⟩, 37), (⟨"LuckyTicketsModel", "saysOf", "(II)Z"⟩, 37), (⟨"LuckyTicketsModel", "askNext", "()I"⟩, 37), (⟨"LuckyTicketsModel", "manyYes", "(I)I"⟩, 37), (⟨"LuckyTicketsModel", "isRule", "(I)Z"⟩, 37), (⟨"LuckyTicketsModel", "isRoll", "(I)Z"⟩, 37), (⟨"LuckyTicketsModel", "who", "(I)I"⟩, 37), (⟨"LuckyTicketsModel", "part", "(IZ)I"⟩, 37), (⟨"LuckyTicketsModel", "luckyLeft", "(I)I"⟩, 37), (⟨"LuckyTicketsModel", "isRider", "(I)Z"⟩, 37), (⟨"LuckyTicketsModel", "isNumber", "(I)Z"⟩, 37), (⟨"LuckyTicketsModel", "remember", "()V"⟩, 37)]
theorem lw_r3 : ∀ q ∈ lw_privs_3, lw_okq q := List.forall_mem_cons.mpr ⟨lw_p32, List.forall_mem_cons.mpr ⟨lw_p33, List.forall_mem_cons.mpr ⟨lw_p34, List.forall_mem_cons.mpr ⟨lw_p35, List.forall_mem_cons.mpr ⟨lw_p36, List.forall_mem_cons.mpr ⟨lw_p37, List.forall_mem_cons.mpr ⟨lw_p38, List.forall_mem_cons.mpr ⟨lw_p39, List.forall_mem_cons.mpr ⟨lw_p40, List.forall_mem_cons.mpr ⟨lw_p41, List.forall_mem_cons.mpr ⟨lw_p42, List.forall_mem_cons.mpr ⟨lw_p43, List.forall_mem_cons.mpr ⟨lw_p44, List.forall_mem_cons.mpr ⟨lw_p45, List.forall_mem_cons.mpr ⟨lw_p46, List.forall_mem_cons.mpr ⟨lw_p47, fun _ h => absurd h List.not_mem_nil⟩⟩⟩⟩⟩⟩⟩⟩⟩⟩⟩⟩⟩⟩⟩⟩
theorem lw_p48 : lw_okq (⟨"LuckyTicketsModel", "sellNow", "(II)I"⟩, 37) := ⟨⟨by decide +kernel, by decide +kernel⟩, List.mem_of_getElem? (i := 783) (by decide +kernel), List.mem_of_getElem? (i := 1129) (by decide +kernel), List.mem_of_getElem? (i := 1130) (by decide +kernel)⟩
theorem lw_p49 : lw_okq (⟨"LuckyTicketsModel", "more", "(I)V"⟩, 37) := ⟨⟨by decide +kernel, by decide +kernel⟩, List.mem_of_getElem? (i := 783) (by decide +kernel), List.mem_of_getElem? (i := 1133) (by decide +kernel), List.mem_of_getElem? (i := 1134) (by decide +kernel)⟩
theorem lw_p50 : lw_okq (⟨"LuckyTicketsModel", "chance", "()V"⟩, 37) := ⟨⟨by decide +kernel, by decide +kernel⟩, List.mem_of_getElem? (i := 783) (by decide +kernel), List.mem_of_getElem? (i := 1163) (by decide +kernel), List.mem_of_getElem? (i := 1164) (by decide +kernel)⟩
theorem lw_p51 : lw_okq (⟨"LuckyTicketsModel", "draw", "(I)I"⟩, 37) := ⟨⟨by decide +kernel, by decide +kernel⟩, List.mem_of_getElem? (i := 783) (by decide +kernel), List.mem_of_getElem? (i := 1167) (by decide +kernel), List.mem_of_getElem? (i := 1168) (by decide +kernel)⟩
def lw_privs_4 : List (MethodName × Nat) := [(⟨"LuckyTicketsModel", "sellNow", "(II)I"⟩, 37), (⟨"LuckyTicketsModel", "more", "(I)V"⟩, 37), (⟨"LuckyTicketsModel", "chance", "()V"⟩, 37), (⟨"LuckyTicketsModel", "draw", "(I)I"⟩, 37)]
theorem lw_r4 : ∀ q ∈ lw_privs_4, lw_okq q := List.forall_mem_cons.mpr ⟨lw_p48, List.forall_mem_cons.mpr ⟨lw_p49, List.forall_mem_cons.mpr ⟨lw_p50, List.forall_mem_cons.mpr ⟨lw_p51, fun _ h => absurd h List.not_mem_nil⟩⟩⟩⟩
def lw_privs : List (MethodName × Nat) := lw_privs_1 ++ (lw_privs_2 ++ (lw_privs_3 ++ (lw_privs_4)))
def lw_tbl : List Cond := k2_sels lw_privs ++ tables_1
theorem lw_privs_ok : ∀ q ∈ lw_privs, lw_okq q := by
  show ∀ q ∈ lw_privs_1 ++ (lw_privs_2 ++ (lw_privs_3 ++ (lw_privs_4))), lw_okq q
  exact List.forall_mem_append.mpr ⟨lw_r1, List.forall_mem_append.mpr ⟨lw_r2, List.forall_mem_append.mpr ⟨lw_r3, lw_r4⟩⟩⟩
end
section
/-! ===== BEGIN words of one list among another's, by their places ===== -/
theorem goodIn_r {big : List Cond} (ws : List Cond) (ps : List Nat) (hp : ws = ps.filterMap (fun i => big[i]?)) (h : ws.all goodWord = true) : GoodIn big ws := by
  intro w hw
  have h1 := List.all_eq_true.mp h w hw
  rw [hp] at hw
  obtain ⟨i, -, hi⟩ := List.mem_filterMap.mp hw
  have hm : w ∈ big := by first | exact List.mem_of_getElem? hi | exact List.getElem?_mem hi
  exact ⟨hm, good_of_word h1⟩
theorem goodIn_app {big a b : List Cond} (ha : GoodIn big a) (hb : GoodIn big b) : GoodIn big (a ++ b) := fun w h => (List.mem_append.mp h).elim (ha w) (hb w)
theorem goodIn_ca {big a b : List Cond} {c : Cond} (ha : GoodIn big (c :: a)) (hb : GoodIn big b) : GoodIn big (c :: (a ++ b)) := fun w h => (List.mem_cons.mp h).elim (fun e => ha w (List.mem_cons.mpr (Or.inl e))) (fun h => (List.mem_append.mp h).elim (fun h => ha w (List.mem_cons.mpr (Or.inr h))) (hb w))
theorem goodIn_sub {big ws : List Cond} (hm : ∀ w ∈ ws, w ∈ big) (h : ws.all goodWord = true) : GoodIn big ws := fun w hw => ⟨hm w hw, good_of_word (List.all_eq_true.mp h w hw)⟩
/-! ===== END ===== -/

/-! ===== BEGIN new T[n][m]: the outer array a place, the inner ones among the pooled ===== -/
/-- f, but v at every address of l -/
def vr_up {α : Type} (f : Nat → α) (l : List Nat) (v : α) : Nat → α := fun a => if a ∈ l then v else f a
theorem vr_up_in {α : Type} {f : Nat → α} {l : List Nat} {v : α} {a : Nat} (h : a ∈ l) : vr_up f l v a = v := if_pos h
theorem vr_up_ne {α : Type} {f : Nat → α} {l : List Nat} {v : α} {a : Nat} (h : a ∉ l) : vr_up f l v a = f a := if_neg h
theorem vr_rows {L l : List Nat} {f : Nat → va_E} {e : va_E} (h : ∀ a, a ∈ l → a ∉ L) : va_pl L f ++ l.map (fun a => (a, e)) = va_pl (L ++ l) (vr_up f l e) := by
  unfold va_pl
  rw [List.map_append]
  congr 1
  · apply List.map_congr_left
    intro a ha
    rw [vr_up_ne (fun q => h a q ha)]
  · apply List.map_congr_left
    intro a ha
    rw [vr_up_in ha]
theorem vr_lay {X rows : va_W} {x : Nat × va_E} {pl : va_W} {D : va_G} {cl : List vw_C} {H : Heap} (hP : va_P D cl (((X ++ pl) ++ [x]) ++ rows) H) : va_P D cl ((X ++ [x]) ++ (pl ++ rows)) H := by
  rw [List.append_assoc (X ++ pl)] at hP
  have h := va_P.swap hP
  rw [← List.append_assoc X] at h
  have h2 := va_P.swap h
  rw [List.append_assoc (X ++ [x])] at h2
  exact h2
theorem vr_layD {X rows : va_W} {x : Nat × va_E} {pl : va_W} {A : Nat → Prop} (hD : va_D A (((X ++ pl) ++ [x]) ++ rows)) : va_D A ((X ++ [x]) ++ (pl ++ rows)) := by
  rw [List.append_assoc (X ++ pl)] at hD
  have h := va_D.swap hD
  rw [← List.append_assoc X] at h
  have h2 := va_D.swap h
  rw [List.append_assoc (X ++ [x])] at h2
  exact h2
theorem vr_outer (c : ClassId) (N h0 : Nat) : ∀ i : Nat, Jvm.Free.Multi.outerC c N h0 i = arrV c N (fun j => va_rf (if j < i then some (h0 + 1 + j) else none))
  | 0 => by
    show ({ cls := c, slots := Array.replicate N .null, vm := .none } : Cell) = _
    rw [arrV_new]
    refine congrArg (arrV c N) (funext fun j => ?_)
    simp [va_rf]
  | i + 1 => by
    show (Jvm.Free.Multi.outerC c N h0 i).setSlot i (.ref (h0 + 1 + i)) = _
    rw [vr_outer c N h0 i, arrV_store]
    refine congrArg (arrV c N) (funext fun j => ?_)
    by_cases e : j = i
    · subst e
      simp [updV, va_rf]
    · by_cases h : j < i
      · simp [updV, e, h, Nat.lt_succ_of_lt h]
      · simp [updV, e, h, show ¬ j < i + 1 by omega]
section VGM
variable {p : Program} {l : Launch} {e : Env} {R : Room} {s : State} {m : MethodId} {args : Array Value} {below : List Frame} {meth : Method} {c : Code} {H : Heap} {locs : List Loc} {cells slots : Nat} {Q : State → Prop}
variable {cc : ByteArray} {pc : Nat} {ls : Array Slot} {rest : List Value} {D : va_G} {cl : List vw_C} {A : Nat → Prop} {a : Nat} {tys : List (ClassId × FieldType)} {ws : va_W} {H0 : Heap}
theorem va_mna {X : va_W} {L : List Nat} {f : Nat → va_E} {cc : ByteArray} (hexec : p.tables.exec = Jvm.exec) (hb : c.code = cc) {own : String} {index : Nat} {ty : FieldType} {cy : ClassId} (hown : s.vm.findClass own = some m.cls) (hclink : (Cond.classLink own index ("[" ++ (FieldType.array ty).toString)).before args s = true) (hover : (Cond.arrayOver (.array ty)).before args s = true) (harr : (Cond.arrayClass ty).before args s = true) (hcy : s.vm.findClass (FieldType.array ty).toString = some cy)
    (hK : va_K D cl tys s) (hP : va_P D cl (X ++ va_pl L f) H) (hD : va_D A (X ++ va_pl L f)) (hS : va_S A H0 H locs) (hA : ∀ q, H0.size ≤ q → A q) {n k : Int32} {N' K' : Nat} {z : vp_A} (hn : ¬ n < 0) (hk : ¬ k < 0) (hN : n.toNatClampNeg = N') (hM : k.toNatClampNeg = K')
    (hb1 : N' * 4 ≤ 536870912) (hb2 : K' * componentBytes ty ≤ 536870912) (hb3 : K' ≤ 536870912) (hdf : fits ty (defaultValue ty) = true) (hdd : (defaultValue ty).isDefault = true) (hcells : cells + (1 + N') ≤ R.cells) (hslots : slots + (N' + N' * K') ≤ R.slots) (hz : ∀ c : ClassId, Jvm.Free.Multi.innerC c K' (defaultValue ty) = vp_cell c z) (hdg : decode cc pc = .ok (.multianewarray index 2, 4))
    (kk : ∀ (q : Nat) (r : Nat → Nat) (cA : ClassId) (H1 : Heap), (∀ i j : Nat, i < N' → j < N' → r i = r j → i = j) → (∀ i : Nat, i < N' → r i ∉ L) → va_K D cl (tys ++ [(cA, .array ty)]) s →
      va_P D cl ((X ++ [(q, .inl (cA, N', .inr (.inr (.inr (.inr (fun i => if i < N' then some (r i) else none))))))]) ++ va_pl (L ++ (List.range N').map r) (vr_up f ((List.range N').map r) (.inl (cy, z)))) H1 → va_D A ((X ++ [(q, .inl (cA, N', .inr (.inr (.inr (.inr (fun i => if i < N' then some (r i) else none))))))]) ++ va_pl (L ++ (List.range N').map r) (vr_up f ((List.range N').map r) (.inl (cy, z)))) → va_S A H0 H1 locs →
      W p l e R s m args below meth c H1 locs (cells + 1 + N') (slots + N' + N' * K') Q (F0 m (pc + 4) ls (.ref q :: rest))) : W p l e R s m args below meth c H locs cells slots Q (F0 m pc ls (.int k :: .int n :: rest)) := by
  subst hN
  subst hM
  intro T hT Xs
  obtain ⟨vm₁, cA, comp, -, fA, fC, hO, -, X', step⟩ := Xs.multianewarray2F hexec hown hclink hover harr (g := F0 m pc ls (.int k :: .int n :: rest)) rfl (by rw [hb]; exact hdg) rfl hn hk hb1 hb2 hb3 hdf hdd hcells hslots
  have ec : some cy = some comp := hcy.symm.trans fC
  cases ec
  generalize hF : Jvm.Free.Multi.fill (T.setVm vm₁) cA cy n.toNatClampNeg k.toNatClampNeg (defaultValue ty) n.toNatClampNeg = F at X' step
  have hTh : (T.setVm vm₁).heap = H := hT
  obtain ⟨f1, f2, -, -⟩ := Jvm.Free.Multi.fill_facts (T.setVm vm₁) cA cy n.toNatClampNeg k.toNatClampNeg (defaultValue ty) n.toNatClampNeg
  rw [hF, hTh] at f1 f2
  have hold : ∀ x : Nat, x < H.size → F.heap[x]? = H[x]? := fun x hx => by
    have := Jvm.Free.Multi.fill_old (T.setVm vm₁) cA cy n.toNatClampNeg k.toNatClampNeg (defaultValue ty) (a := x) (by rw [hTh]; exact hx) n.toNatClampNeg
    rw [hF, hTh] at this
    exact this
  have hrow : ∀ j : Nat, j < n.toNatClampNeg → F.heap[H.size + 1 + j]? = some (vp_cell cy z) := fun j hj => by
    have := Jvm.Free.Multi.fill_inner (T.setVm vm₁) cA cy n.toNatClampNeg k.toNatClampNeg (defaultValue ty) n.toNatClampNeg j hj
    rw [hF, hTh, hz] at this
    exact this
  have hout : Jvm.Free.Multi.outerC cA n.toNatClampNeg H.size n.toNatClampNeg = vp_cell cA (n.toNatClampNeg, .inr (.inr (.inr (.inr (fun i => if i < n.toNatClampNeg then some (H.size + 1 + i) else none))))) := by
    rw [vp_cell_q]
    exact vr_outer cA n.toNatClampNeg H.size n.toNatClampNeg
  rw [hout] at f2
  have hlt : ∀ a, a ∈ L → a < H.size := fun a ha => by
    obtain ⟨k9, hk9⟩ := va_pl_get (X := X) (f := f) ha
    exact (hP k9 _ hk9).lt
  have hnl : ∀ i : Nat, i < n.toNatClampNeg → H.size + 1 + i ∉ L := fun i _ h => by
    have := hlt _ h
    omega
  have hnm : ∀ a, a ∈ (List.range n.toNatClampNeg).map (fun i => H.size + 1 + i) → a ∉ L := fun a ha h => by
    obtain ⟨i, -, rfl⟩ := List.mem_map.mp ha
    have := hlt _ h
    omega
  have hP0 : va_P D cl (X ++ va_pl L f) F.heap := hP.kept (fun k9 x hx => hold x.1 ((hP k9 x hx).lt))
  have hP1 : va_P D cl ((X ++ va_pl L f) ++ [(H.size, .inl (cA, n.toNatClampNeg, .inr (.inr (.inr (.inr (fun i => if i < n.toNatClampNeg then some (H.size + 1 + i) else none))))))]) F.heap := hP0.app (fun k9 x hx => by
    have h0 : k9 < 1 := (List.getElem?_eq_some_iff.mp hx).1
    rw [show k9 = 0 by omega] at hx
    cases hx
    exact f2)
  have hP2 : va_P D cl (((X ++ va_pl L f) ++ [(H.size, .inl (cA, n.toNatClampNeg, .inr (.inr (.inr (.inr (fun i => if i < n.toNatClampNeg then some (H.size + 1 + i) else none))))))]) ++ ((List.range n.toNatClampNeg).map (fun i => H.size + 1 + i)).map (fun a => (a, .inl (cy, z)))) F.heap := hP1.app (fun k9 x hx => by
    obtain ⟨a, ha, rfl⟩ := List.mem_map.mp (List.mem_of_getElem? hx)
    obtain ⟨i, hi, rfl⟩ := List.mem_map.mp ha
    exact hrow i (List.mem_range.mp hi))
  have hD2 : va_D A (((X ++ va_pl L f) ++ [(H.size, .inl (cA, n.toNatClampNeg, .inr (.inr (.inr (.inr (fun i => if i < n.toNatClampNeg then some (H.size + 1 + i) else none))))))]) ++ ((List.range n.toNatClampNeg).map (fun i => H.size + 1 + i)).map (fun a => (a, .inl (cy, z)))) := by
    have hD1 := hD.push (e := .inl (cA, n.toNatClampNeg, .inr (.inr (.inr (.inr (fun i => if i < n.toNatClampNeg then some (H.size + 1 + i) else none)))))) hP rfl (hA _ hS.1)
    generalize hW1 : (X ++ va_pl L f) ++ [(H.size, .inl (cA, n.toNatClampNeg, .inr (.inr (.inr (.inr (fun i => if i < n.toNatClampNeg then some (H.size + 1 + i) else none))))))] = W1 at hD1 hP1 ⊢
    have hle : ∀ (k9 : Nat) (x : Nat × va_E), W1[k9]? = some x → x.1 ≤ H.size := fun k9 x hx => by
      rw [← hW1] at hx
      by_cases hl : k9 < (X ++ va_pl L f).length
      · rw [List.getElem?_append_left hl] at hx
        exact Nat.le_of_lt ((hP k9 x hx).lt)
      · rw [List.getElem?_append_right (by omega)] at hx
        have h0 : k9 - (X ++ va_pl L f).length < 1 := (List.getElem?_eq_some_iff.mp hx).1
        rw [show k9 - (X ++ va_pl L f).length = 0 by omega] at hx
        cases hx
        exact Nat.le_refl _
    have hr : ∀ (k9 : Nat) (x : Nat × va_E), (((List.range n.toNatClampNeg).map (fun i => H.size + 1 + i)).map (fun a => ((a, .inl (cy, z)) : Nat × va_E)))[k9]? = some x → x.1 = H.size + 1 + k9 := fun k9 x hx => by
      rw [List.getElem?_map, List.getElem?_map] at hx
      by_cases h9 : k9 < n.toNatClampNeg
      · rw [List.getElem?_range h9] at hx
        cases hx
        rfl
      · have hn0 : (List.range n.toNatClampNeg)[k9]? = none := List.getElem?_eq_none (by rw [List.length_range]; omega)
        rw [hn0] at hx
        cases hx
    refine ⟨fun i j x y hi hj hxy => ?_, fun k9 x hx => ?_⟩
    · by_cases h1 : i < W1.length <;> by_cases h2 : j < W1.length
      · rw [List.getElem?_append_left h1] at hi
        rw [List.getElem?_append_left h2] at hj
        exact hD1.1 i j x y hi hj hxy
      · rw [List.getElem?_append_left h1] at hi
        rw [List.getElem?_append_right (by omega)] at hj
        have := hle _ _ hi
        have := hr _ _ hj
        omega
      · rw [List.getElem?_append_right (by omega)] at hi
        rw [List.getElem?_append_left h2] at hj
        have := hle _ _ hj
        have := hr _ _ hi
        omega
      · rw [List.getElem?_append_right (by omega)] at hi hj
        have := hr _ _ hi
        have := hr _ _ hj
        omega
    · by_cases h1 : k9 < W1.length
      · rw [List.getElem?_append_left h1] at hx
        exact hD1.2 k9 x hx
      · rw [List.getElem?_append_right (by omega)] at hx
        have := hr _ _ hx
        exact hA _ (by have := hS.1; omega)
  have hAr : ArrOfT s cA (.array ty) := fun N9 z9 => by
    obtain ⟨-, k9, hk9, cm9, hkk9⟩ := (hO 0 0 0).1
    exact ⟨(fun q hq => by cases hq), k9, hk9, cm9, hkk9⟩
  have hK2 : va_K D cl (tys ++ [(cA, .array ty)]) s := ⟨hK.1, fun k9 x hx => by
    by_cases hl : k9 < tys.length
    · rw [List.getElem?_append_left hl] at hx
      exact hK.2 k9 x hx
    · rw [List.getElem?_append_right (by omega)] at hx
      have h0 : k9 - tys.length < 1 := (List.getElem?_eq_some_iff.mp hx).1
      rw [show k9 - tys.length = 0 by omega] at hx
      cases hx
      exact ⟨hAr, fA⟩⟩
  obtain ⟨t, a1, b1⟩ := kk H.size (fun i => H.size + 1 + i) cA F.heap (fun i j _ _ h => by have h9 : H.size + 1 + i = H.size + 1 + j := h; omega) hnl hK2 (by rw [← vr_rows hnm]; exact vr_lay hP2) (by rw [← vr_rows hnm]; exact vr_layD hD2) ⟨by rw [f1]; have := hS.1; omega, fun x h1 h2 => (hold x (Nat.lt_of_lt_of_le h1 hS.1)).trans (hS.2.1 x h1 h2), hS.2.2⟩ F rfl X'
  refine ⟨t, step t ?_, b1⟩
  have e : T.heap.size = H.size := by rw [hT]
  rw [e]
  exact a1
end VGM
/-! ===== END ===== -/
end
section
/-! ===== BEGIN printed: names, fields, word lists, decode rows ===== -/
def RX0 : String := "LuckyTickets$Book"
def TX0 : u_T := fun k => match k with
  | 0 => ("LuckyTickets$Book", "numbers", "[I", true)
  | 1 => ("LuckyTickets$Book", "saidLucky", "[Z", true)
  | _ => ("LuckyTickets$Book", "count", "I", false)
def tyX0 : Nat → FieldType := fun k => match k with
  | 0 => .array .int
  | 1 => .array .boolean
  | _ => .int
abbrev wsX00 : List Cond := u_ws RX0 TX0 3
theorem nmX0 : ∀ a, a < 3 → ∀ b, b < 3 → a ≠ b → (TX0 a).2.1 ≠ (TX0 b).2.1 := by decide +kernel
theorem tyX0_ok : ∀ k, k < 3 → parseFieldDescriptor (TX0 k).2.2.1 = some (tyX0 k) := by decide +kernel
abbrev cX0_init : ByteArray := prog_2_method_1_code
def yX0_init : MethodName := ⟨RX0, "<init>", "()V"⟩
abbrev cX0_add : ByteArray := prog_2_method_2_code
def yX0_add : MethodName := ⟨RX0, "add", "(IZ)Z"⟩
def RX1 : String := "LuckyTickets$Guess"
def TX1 : u_T := fun k => match k with
  | 0 => ("LuckyTickets$Guess", "codes", "[I", true)
  | 1 => ("LuckyTickets$Guess", "ticket", "LLuckyTickets$Ticket;", true)
  | 2 => ("LuckyTickets$Guess", "count", "I", false)
  | 3 => ("LuckyTickets$Guess", "seen", "I", false)
  | 4 => ("LuckyTickets$Guess", "figures", "I", false)
  | 5 => ("LuckyTickets$Guess", "question", "I", false)
  | _ => ("LuckyTickets$Guess", "questionKnown", "Z", false)
def tyX1 : Nat → FieldType := fun k => match k with
  | 0 => .array .int
  | 1 => .object "LuckyTickets$Ticket"
  | 2 => .int
  | 3 => .int
  | 4 => .int
  | 5 => .int
  | _ => .boolean
abbrev wsX10 : List Cond := u_ws RX1 TX1 7
theorem nmX1 : ∀ a, a < 7 → ∀ b, b < 7 → a ≠ b → (TX1 a).2.1 ≠ (TX1 b).2.1 := by decide +kernel
theorem tyX1_ok : ∀ k, k < 7 → parseFieldDescriptor (TX1 k).2.2.1 = some (tyX1 k) := by decide +kernel
abbrev cX1_init : ByteArray := prog_3_method_1_code
def yX1_init : MethodName := ⟨RX1, "<init>", "()V"⟩
abbrev cX1_forget : ByteArray := prog_3_method_2_code
def yX1_forget : MethodName := ⟨RX1, "forget", "(I)V"⟩
abbrev cX1_addRules : ByteArray := prog_3_method_3_code
def yX1_addRules : MethodName := ⟨RX1, "addRules", "(II)V"⟩
abbrev cX1_takeIn : ByteArray := prog_3_method_4_code
def yX1_takeIn : MethodName := ⟨RX1, "takeIn", "(IZ)V"⟩
abbrev cX1_bestQuestion : ByteArray := prog_3_method_5_code
def yX1_bestQuestion : MethodName := ⟨RX1, "bestQuestion", "()I"⟩
abbrev cX1_findQuestion : ByteArray := prog_3_method_6_code
def yX1_findQuestion : MethodName := ⟨RX1, "findQuestion", "()I"⟩
abbrev cX1_greaterPart : ByteArray := prog_3_method_7_code
def yX1_greaterPart : MethodName := ⟨RX1, "greaterPart", "(I)I"⟩
def RX2 : String := "LuckyTickets$Image"
def TX2 : u_T := fun k => match k with
  | 0 => ("LuckyTickets$Image", "then", "LLuckyTickets$Tram;", true)
  | 1 => ("LuckyTickets$Image", "isKept", "Z", false)
  | _ => ("LuckyTickets$Image", "seedThen", "J", false)
def tyX2 : Nat → FieldType := fun k => match k with
  | 0 => .object "LuckyTickets$Tram"
  | 1 => .boolean
  | _ => .long
abbrev wsX20 : List Cond := u_ws RX2 TX2 3
theorem nmX2 : ∀ a, a < 3 → ∀ b, b < 3 → a ≠ b → (TX2 a).2.1 ≠ (TX2 b).2.1 := by decide +kernel
theorem tyX2_ok : ∀ k, k < 3 → parseFieldDescriptor (TX2 k).2.2.1 = some (tyX2 k) := by decide +kernel
abbrev cX2_init : ByteArray := prog_4_method_1_code
def yX2_init : MethodName := ⟨RX2, "<init>", "()V"⟩
def RX3 : String := "LuckyTickets$LuckyTable"
def TX3 : u_T := fun k => match k with
  | 0 => ("LuckyTickets$LuckyTable", "yes", "[[J", true)
  | 1 => ("LuckyTickets$LuckyTable", "codes", "[I", true)
  | 2 => ("LuckyTickets$LuckyTable", "luckyBits", "[J", true)
  | 3 => ("LuckyTickets$LuckyTable", "ticket", "LLuckyTickets$Ticket;", true)
  | 4 => ("LuckyTickets$LuckyTable", "figures", "I", false)
  | 5 => ("LuckyTickets$LuckyTable", "numbers", "I", false)
  | 6 => ("LuckyTickets$LuckyTable", "words", "I", false)
  | 7 => ("LuckyTickets$LuckyTable", "ruleCount", "I", false)
  | 8 => ("LuckyTickets$LuckyTable", "mode", "I", false)
  | _ => ("LuckyTickets$LuckyTable", "count", "I", false)
def tyX3 : Nat → FieldType := fun k => match k with
  | 0 => .array (.array .long)
  | 1 => .array .int
  | 2 => .array .long
  | 3 => .object "LuckyTickets$Ticket"
  | 4 => .int
  | 5 => .int
  | 6 => .int
  | 7 => .int
  | 8 => .int
  | _ => .int
abbrev wsX30 : List Cond := u_ws RX3 TX3 10
theorem nmX3 : ∀ a, a < 10 → ∀ b, b < 10 → a ≠ b → (TX3 a).2.1 ≠ (TX3 b).2.1 := by decide +kernel
theorem tyX3_ok : ∀ k, k < 10 → parseFieldDescriptor (TX3 k).2.2.1 = some (tyX3 k) := by decide +kernel
abbrev cX3_init : ByteArray := prog_5_method_1_code
def yX3_init : MethodName := ⟨RX3, "<init>", "()V"⟩
abbrev cX3_follow : ByteArray := prog_5_method_2_code
def yX3_follow : MethodName := ⟨RX3, "follow", "(LLuckyTickets$Tram;)V"⟩
abbrev cX3_fillRow : ByteArray := prog_5_method_3_code
def yX3_fillRow : MethodName := ⟨RX3, "fillRow", "(I)V"⟩
abbrev cX3_joinedWord : ByteArray := prog_5_method_4_code
def yX3_joinedWord : MethodName := ⟨RX3, "joinedWord", "(II)J"⟩
abbrev cX3_countWithout : ByteArray := prog_5_method_5_code
def yX3_countWithout : MethodName := ⟨RX3, "countWithout", "(I)I"⟩
abbrev cX3_isLucky : ByteArray := prog_5_method_6_code
def yX3_isLucky : MethodName := ⟨RX3, "isLucky", "(I)Z"⟩
abbrev cX3_rulesSayingYes : ByteArray := prog_5_method_7_code
def yX3_rulesSayingYes : MethodName := ⟨RX3, "rulesSayingYes", "(I)I"⟩
abbrev cX3_nextFrom : ByteArray := prog_5_method_8_code
def yX3_nextFrom : MethodName := ⟨RX3, "nextFrom", "(I)I"⟩
abbrev cX3_countBetween : ByteArray := prog_5_method_9_code
def yX3_countBetween : MethodName := ⟨RX3, "countBetween", "(II)I"⟩
abbrev cX3_numberAfter : ByteArray := prog_5_method_10_code
def yX3_numberAfter : MethodName := ⟨RX3, "numberAfter", "(I)I"⟩
abbrev cX3_lowerOfLongestWait : ByteArray := prog_5_method_11_code
def yX3_lowerOfLongestWait : MethodName := ⟨RX3, "lowerOfLongestWait", "()I"⟩
def RX4 : String := "LuckyTickets$Past"
def TX4 : u_T := fun k => match k with
  | 0 => ("LuckyTickets$Past", "ring", "[LLuckyTickets$Tram;", true)
  | 1 => ("LuckyTickets$Past", "newest", "I", false)
  | _ => ("LuckyTickets$Past", "count", "I", false)
def tyX4 : Nat → FieldType := fun k => match k with
  | 0 => .array (.object "LuckyTickets$Tram")
  | 1 => .int
  | _ => .int
abbrev wsX40 : List Cond := u_ws RX4 TX4 3
theorem nmX4 : ∀ a, a < 3 → ∀ b, b < 3 → a ≠ b → (TX4 a).2.1 ≠ (TX4 b).2.1 := by decide +kernel
theorem tyX4_ok : ∀ k, k < 3 → parseFieldDescriptor (TX4 k).2.2.1 = some (tyX4 k) := by decide +kernel
abbrev cX4_init : ByteArray := prog_6_method_1_code
def yX4_init : MethodName := ⟨RX4, "<init>", "()V"⟩
abbrev cX4_remember : ByteArray := prog_6_method_2_code
def yX4_remember : MethodName := ⟨RX4, "remember", "(LLuckyTickets$Tram;)V"⟩
abbrev cX4_takeBack : ByteArray := prog_6_method_3_code
def yX4_takeBack : MethodName := ⟨RX4, "takeBack", "(LLuckyTickets$Tram;)V"⟩
def RX5 : String := "LuckyTickets$Reader"
def TX5 : u_T := fun k => match k with
  | 0 => ("LuckyTickets$Reader", "text", "LLuckyTickets$Text;", true)
  | 1 => ("LuckyTickets$Reader", "out", "LLuckyTickets$Tram;", true)
  | 2 => ("LuckyTickets$Reader", "at", "I", false)
  | 3 => ("LuckyTickets$Reader", "numberAt", "I", false)
  | 4 => ("LuckyTickets$Reader", "faultKind", "I", false)
  | 5 => ("LuckyTickets$Reader", "faultAt", "I", false)
  | _ => ("LuckyTickets$Reader", "modeTold", "Z", false)
def tyX5 : Nat → FieldType := fun k => match k with
  | 0 => .object "LuckyTickets$Text"
  | 1 => .object "LuckyTickets$Tram"
  | 2 => .int
  | 3 => .int
  | 4 => .int
  | 5 => .int
  | _ => .boolean
abbrev wsX50 : List Cond := u_ws RX5 TX5 7
theorem nmX5 : ∀ a, a < 7 → ∀ b, b < 7 → a ≠ b → (TX5 a).2.1 ≠ (TX5 b).2.1 := by decide +kernel
theorem tyX5_ok : ∀ k, k < 7 → parseFieldDescriptor (TX5 k).2.2.1 = some (tyX5 k) := by decide +kernel
abbrev cX5_init : ByteArray := prog_7_method_1_code
def yX5_init : MethodName := ⟨RX5, "<init>", "()V"⟩
abbrev cX5_readText : ByteArray := prog_7_method_2_code
def yX5_readText : MethodName := ⟨RX5, "readText", "()V"⟩
abbrev cX5_setFault : ByteArray := prog_7_method_3_code
def yX5_setFault : MethodName := ⟨RX5, "setFault", "(II)V"⟩
abbrev cX5_skipBlanks : ByteArray := prog_7_method_4_code
def yX5_skipBlanks : MethodName := ⟨RX5, "skipBlanks", "()V"⟩
abbrev cX5_readClause : ByteArray := prog_7_method_5_code
def yX5_readClause : MethodName := ⟨RX5, "readClause", "()V"⟩
abbrev cX5_mayStand : ByteArray := prog_7_method_6_code
def yX5_mayStand : MethodName := ⟨RX5, "mayStand", "(C)Z"⟩
abbrev cX5_isOneTooMany : ByteArray := prog_7_method_7_code
def yX5_isOneTooMany : MethodName := ⟨RX5, "isOneTooMany", "(C)Z"⟩
abbrev cX5_readFigures : ByteArray := prog_7_method_8_code
def yX5_readFigures : MethodName := ⟨RX5, "readFigures", "()V"⟩
abbrev cX5_readMode : ByteArray := prog_7_method_9_code
def yX5_readMode : MethodName := ⟨RX5, "readMode", "()V"⟩
abbrev cX5_readRule : ByteArray := prog_7_method_10_code
def yX5_readRule : MethodName := ⟨RX5, "readRule", "()V"⟩
abbrev cX5_readRoll : ByteArray := prog_7_method_11_code
def yX5_readRoll : MethodName := ⟨RX5, "readRoll", "()V"⟩
abbrev cX5_readRider : ByteArray := prog_7_method_12_code
def yX5_readRider : MethodName := ⟨RX5, "readRider", "()V"⟩
abbrev cX5_readEnd : ByteArray := prog_7_method_13_code
def yX5_readEnd : MethodName := ⟨RX5, "readEnd", "()V"⟩
abbrev cX5_readNumber : ByteArray := prog_7_method_14_code
def yX5_readNumber : MethodName := ⟨RX5, "readNumber", "(II)I"⟩
abbrev cX5_isFigure : ByteArray := prog_7_method_15_code
def yX5_isFigure : MethodName := ⟨RX5, "isFigure", "(C)Z"⟩
def RX6 : String := "LuckyTickets$Rules"
def TX6 : u_T := fun k => match k with
  | _ => ("", "", "", false)
def tyX6 : Nat → FieldType := fun k => match k with
  | _ => .int
abbrev wsX60 : List Cond := u_ws RX6 TX6 0
theorem nmX6 : ∀ a, a < 0 → ∀ b, b < 0 → a ≠ b → (TX6 a).2.1 ≠ (TX6 b).2.1 := by decide +kernel
theorem tyX6_ok : ∀ k, k < 0 → parseFieldDescriptor (TX6 k).2.2.1 = some (tyX6 k) := by decide +kernel
abbrev cX6_code : ByteArray := prog_8_method_2_code
def yX6_code : MethodName := ⟨RX6, "code", "(III)I"⟩
abbrev cX6_kindOf : ByteArray := prog_8_method_3_code
def yX6_kindOf : MethodName := ⟨RX6, "kindOf", "(I)I"⟩
abbrev cX6_aOf : ByteArray := prog_8_method_4_code
def yX6_aOf : MethodName := ⟨RX6, "aOf", "(I)I"⟩
abbrev cX6_bOf : ByteArray := prog_8_method_5_code
def yX6_bOf : MethodName := ⟨RX6, "bOf", "(I)I"⟩
abbrev cX6_leastA : ByteArray := prog_8_method_6_code
def yX6_leastA : MethodName := ⟨RX6, "leastA", "(I)I"⟩
abbrev cX6_greatestA : ByteArray := prog_8_method_7_code
def yX6_greatestA : MethodName := ⟨RX6, "greatestA", "(I)I"⟩
abbrev cX6_greatestB : ByteArray := prog_8_method_8_code
def yX6_greatestB : MethodName := ⟨RX6, "greatestB", "(II)I"⟩
abbrev cX6_mayBeTold : ByteArray := prog_8_method_9_code
def yX6_mayBeTold : MethodName := ⟨RX6, "mayBeTold", "(III)Z"⟩
abbrev cX6_sayYes : ByteArray := prog_8_method_10_code
def yX6_sayYes : MethodName := ⟨RX6, "sayYes", "(ILLuckyTickets$Ticket;)Z"⟩
def RX7 : String := "LuckyTickets$Text"
def TX7 : u_T := fun k => match k with
  | 0 => ("LuckyTickets$Text", "letters", "[C", true)
  | _ => ("LuckyTickets$Text", "length", "I", false)
def tyX7 : Nat → FieldType := fun k => match k with
  | 0 => .array .char
  | _ => .int
abbrev wsX70 : List Cond := u_ws RX7 TX7 2
theorem nmX7 : ∀ a, a < 2 → ∀ b, b < 2 → a ≠ b → (TX7 a).2.1 ≠ (TX7 b).2.1 := by decide +kernel
theorem tyX7_ok : ∀ k, k < 2 → parseFieldDescriptor (TX7 k).2.2.1 = some (tyX7 k) := by decide +kernel
abbrev cX7_init : ByteArray := prog_9_method_1_code
def yX7_init : MethodName := ⟨RX7, "<init>", "()V"⟩
abbrev cX7_add : ByteArray := prog_9_method_2_code
def yX7_add : MethodName := ⟨RX7, "add", "(C)Z"⟩
abbrev cX7_letterAt : ByteArray := prog_9_method_3_code
def yX7_letterAt : MethodName := ⟨RX7, "letterAt", "(I)C"⟩
def RX8 : String := "LuckyTickets$Ticket"
def TX8 : u_T := fun k => match k with
  | 0 => ("LuckyTickets$Ticket", "row", "[I", true)
  | 1 => ("LuckyTickets$Ticket", "figures", "I", false)
  | _ => ("LuckyTickets$Ticket", "number", "I", false)
def tyX8 : Nat → FieldType := fun k => match k with
  | 0 => .array .int
  | 1 => .int
  | _ => .int
abbrev wsX80 : List Cond := u_ws RX8 TX8 3
theorem nmX8 : ∀ a, a < 3 → ∀ b, b < 3 → a ≠ b → (TX8 a).2.1 ≠ (TX8 b).2.1 := by decide +kernel
theorem tyX8_ok : ∀ k, k < 3 → parseFieldDescriptor (TX8 k).2.2.1 = some (tyX8 k) := by decide +kernel
abbrev cX8_init : ByteArray := prog_10_method_1_code
def yX8_init : MethodName := ⟨RX8, "<init>", "()V"⟩
abbrev cX8_spell : ByteArray := prog_10_method_2_code
def yX8_spell : MethodName := ⟨RX8, "spell", "(II)V"⟩
abbrev cX8_halvesApart : ByteArray := prog_10_method_3_code
def yX8_halvesApart : MethodName := ⟨RX8, "halvesApart", "()I"⟩
abbrev cX8_unlikePairs : ByteArray := prog_10_method_4_code
def yX8_unlikePairs : MethodName := ⟨RX8, "unlikePairs", "()I"⟩
abbrev cX8_timesThere : ByteArray := prog_10_method_5_code
def yX8_timesThere : MethodName := ⟨RX8, "timesThere", "(I)I"⟩
abbrev cX8_falls : ByteArray := prog_10_method_6_code
def yX8_falls : MethodName := ⟨RX8, "falls", "()I"⟩
def RX9 : String := "LuckyTickets$Tram"
def TX9 : u_T := fun k => match k with
  | 0 => ("LuckyTickets$Tram", "rules", "[I", true)
  | 1 => ("LuckyTickets$Tram", "rolls", "[I", true)
  | 2 => ("LuckyTickets$Tram", "riders", "[I", true)
  | 3 => ("LuckyTickets$Tram", "figures", "I", false)
  | 4 => ("LuckyTickets$Tram", "mode", "I", false)
  | 5 => ("LuckyTickets$Tram", "days", "I", false)
  | 6 => ("LuckyTickets$Tram", "ruleCount", "I", false)
  | 7 => ("LuckyTickets$Tram", "rollCount", "I", false)
  | _ => ("LuckyTickets$Tram", "riderCount", "I", false)
def tyX9 : Nat → FieldType := fun k => match k with
  | 0 => .array .int
  | 1 => .array .int
  | 2 => .array .int
  | 3 => .int
  | 4 => .int
  | 5 => .int
  | 6 => .int
  | 7 => .int
  | _ => .int
abbrev wsX90 : List Cond := u_ws RX9 TX9 9
theorem nmX9 : ∀ a, a < 9 → ∀ b, b < 9 → a ≠ b → (TX9 a).2.1 ≠ (TX9 b).2.1 := by decide +kernel
theorem tyX9_ok : ∀ k, k < 9 → parseFieldDescriptor (TX9 k).2.2.1 = some (tyX9 k) := by decide +kernel
abbrev cX9_init : ByteArray := prog_11_method_1_code
def yX9_init : MethodName := ⟨RX9, "<init>", "()V"⟩
abbrev cX9_clear : ByteArray := prog_11_method_2_code
def yX9_clear : MethodName := ⟨RX9, "clear", "()V"⟩
abbrev cX9_copyFrom : ByteArray := prog_11_method_3_code
def yX9_copyFrom : MethodName := ⟨RX9, "copyFrom", "(LLuckyTickets$Tram;)V"⟩
abbrev cX9_addRule : ByteArray := prog_11_method_4_code
def yX9_addRule : MethodName := ⟨RX9, "addRule", "(I)V"⟩
abbrev cX9_addRoll : ByteArray := prog_11_method_5_code
def yX9_addRoll : MethodName := ⟨RX9, "addRoll", "(II)V"⟩
abbrev cX9_addRider : ByteArray := prog_11_method_6_code
def yX9_addRider : MethodName := ⟨RX9, "addRider", "(I)V"⟩
abbrev cX9_numbers : ByteArray := prog_11_method_7_code
def yX9_numbers : MethodName := ⟨RX9, "numbers", "()I"⟩
abbrev cX9_hasNumber : ByteArray := prog_11_method_8_code
def yX9_hasNumber : MethodName := ⟨RX9, "hasNumber", "(I)Z"⟩
abbrev cX9_hasRule : ByteArray := prog_11_method_9_code
def yX9_hasRule : MethodName := ⟨RX9, "hasRule", "(I)Z"⟩
abbrev cX9_hasRoll : ByteArray := prog_11_method_10_code
def yX9_hasRoll : MethodName := ⟨RX9, "hasRoll", "(I)Z"⟩
abbrev cX9_hasRider : ByteArray := prog_11_method_11_code
def yX9_hasRider : MethodName := ⟨RX9, "hasRider", "(I)Z"⟩
abbrev cX9_nextTicket : ByteArray := prog_11_method_12_code
def yX9_nextTicket : MethodName := ⟨RX9, "nextTicket", "(I)I"⟩
abbrev cX9_ticketsLeft : ByteArray := prog_11_method_13_code
def yX9_ticketsLeft : MethodName := ⟨RX9, "ticketsLeft", "(I)I"⟩
abbrev cX9_riderCell : ByteArray := prog_11_method_14_code
def yX9_riderCell : MethodName := ⟨RX9, "riderCell", "(II)I"⟩
abbrev cX9_behind : ByteArray := prog_11_method_15_code
def yX9_behind : MethodName := ⟨RX9, "behind", "(I)I"⟩
abbrev cX9_putRoll : ByteArray := prog_11_method_16_code
def yX9_putRoll : MethodName := ⟨RX9, "putRoll", "(III)V"⟩
abbrev cX9_takeTicket : ByteArray := prog_11_method_17_code
def yX9_takeTicket : MethodName := ⟨RX9, "takeTicket", "(I)V"⟩
abbrev cX9_handOver : ByteArray := prog_11_method_18_code
def yX9_handOver : MethodName := ⟨RX9, "handOver", "(IZ)V"⟩
abbrev cX9_keepTicket : ByteArray := prog_11_method_19_code
def yX9_keepTicket : MethodName := ⟨RX9, "keepTicket", "(IZ)V"⟩
abbrev cX9_giveLucky : ByteArray := prog_11_method_20_code
def yX9_giveLucky : MethodName := ⟨RX9, "giveLucky", "(II)V"⟩
abbrev cX9_countOneMore : ByteArray := prog_11_method_21_code
def yX9_countOneMore : MethodName := ⟨RX9, "countOneMore", "(II)V"⟩
abbrev cX9_luckiestRider : ByteArray := prog_11_method_22_code
def yX9_luckiestRider : MethodName := ⟨RX9, "luckiestRider", "()I"⟩
def RX10 : String := "LuckyTickets"
def TX10 : u_T := fun k => match k with
  | 0 => ("LuckyTickets", "reader", "LLuckyTickets$Reader;", true)
  | 1 => ("LuckyTickets", "now", "LLuckyTickets$Tram;", true)
  | 2 => ("LuckyTickets", "table", "LLuckyTickets$LuckyTable;", true)
  | 3 => ("LuckyTickets", "past", "LLuckyTickets$Past;", true)
  | 4 => ("LuckyTickets", "guess", "LLuckyTickets$Guess;", true)
  | 5 => ("LuckyTickets", "book", "LLuckyTickets$Book;", true)
  | 6 => ("LuckyTickets", "images", "[LLuckyTickets$Image;", true)
  | 7 => ("LuckyTickets", "seedNow", "J", false)
  | _ => ("LuckyTickets", "faultAt", "I", false)
def tyX10 : Nat → FieldType := fun k => match k with
  | 0 => .object "LuckyTickets$Reader"
  | 1 => .object "LuckyTickets$Tram"
  | 2 => .object "LuckyTickets$LuckyTable"
  | 3 => .object "LuckyTickets$Past"
  | 4 => .object "LuckyTickets$Guess"
  | 5 => .object "LuckyTickets$Book"
  | 6 => .array (.object "LuckyTickets$Image")
  | 7 => .long
  | _ => .int
abbrev wsX100 : List Cond := u_ws RX10 TX10 9
theorem nmX10 : ∀ a, a < 9 → ∀ b, b < 9 → a ≠ b → (TX10 a).2.1 ≠ (TX10 b).2.1 := by decide +kernel
theorem tyX10_ok : ∀ k, k < 9 → parseFieldDescriptor (TX10 k).2.2.1 = some (tyX10 k) := by decide +kernel
abbrev cX10_init : ByteArray := prog_1_method_1_code
def yX10_init : MethodName := ⟨RX10, "<init>", "()V"⟩
abbrev cX10_feed : ByteArray := prog_1_method_2_code
def yX10_feed : MethodName := ⟨RX10, "feed", "(I)I"⟩
abbrev cX10_tram : ByteArray := prog_1_method_3_code
def yX10_tram : MethodName := ⟨RX10, "tram", "()I"⟩
abbrev cX10_fault : ByteArray := prog_1_method_4_code
def yX10_fault : MethodName := ⟨RX10, "fault", "()I"⟩
abbrev cX10_told : ByteArray := prog_1_method_5_code
def yX10_told : MethodName := ⟨RX10, "told", "(I)I"⟩
abbrev cX10_ruleOf : ByteArray := prog_1_method_6_code
def yX10_ruleOf : MethodName := ⟨RX10, "ruleOf", "(II)I"⟩
abbrev cX10_rollOf : ByteArray := prog_1_method_7_code
def yX10_rollOf : MethodName := ⟨RX10, "rollOf", "(II)I"⟩
abbrev cX10_rider : ByteArray := prog_1_method_8_code
def yX10_rider : MethodName := ⟨RX10, "rider", "(II)I"⟩
abbrev cX10_lucky : ByteArray := prog_1_method_9_code
def yX10_lucky : MethodName := ⟨RX10, "lucky", "(II)I"⟩
abbrev cX10_sell : ByteArray := prog_1_method_10_code
def yX10_sell : MethodName := ⟨RX10, "sell", "(II)I"⟩
abbrev cX10_line : ByteArray := prog_1_method_11_code
def yX10_line : MethodName := ⟨RX10, "line", "(II)I"⟩
abbrev cX10_give : ByteArray := prog_1_method_12_code
def yX10_give : MethodName := ⟨RX10, "give", "(II)I"⟩
abbrev cX10_rule : ByteArray := prog_1_method_13_code
def yX10_rule : MethodName := ⟨RX10, "rule", "(IIII)I"⟩
abbrev cX10_mode : ByteArray := prog_1_method_14_code
def yX10_mode : MethodName := ⟨RX10, "mode", "(I)I"⟩
abbrev cX10_roll : ByteArray := prog_1_method_15_code
def yX10_roll : MethodName := ⟨RX10, "roll", "(III)I"⟩
abbrev cX10_drift : ByteArray := prog_1_method_16_code
def yX10_drift : MethodName := ⟨RX10, "drift", "(I)I"⟩
abbrev cX10_undo : ByteArray := prog_1_method_17_code
def yX10_undo : MethodName := ⟨RX10, "undo", "()I"⟩
abbrev cX10_next : ByteArray := prog_1_method_18_code
def yX10_next : MethodName := ⟨RX10, "next", "(I)I"⟩
abbrev cX10_upTo : ByteArray := prog_1_method_19_code
def yX10_upTo : MethodName := ⟨RX10, "upTo", "(II)I"⟩
abbrev cX10_kth : ByteArray := prog_1_method_20_code
def yX10_kth : MethodName := ⟨RX10, "kth", "(I)I"⟩
abbrev cX10_waits : ByteArray := prog_1_method_21_code
def yX10_waits : MethodName := ⟨RX10, "waits", "(I)I"⟩
abbrev cX10_dry : ByteArray := prog_1_method_22_code
def yX10_dry : MethodName := ⟨RX10, "dry", "(II)I"⟩
abbrev cX10_see : ByteArray := prog_1_method_23_code
def yX10_see : MethodName := ⟨RX10, "see", "(IZ)I"⟩
abbrev cX10_could : ByteArray := prog_1_method_24_code
def yX10_could : MethodName := ⟨RX10, "could", "(II)I"⟩
abbrev cX10_write : ByteArray := prog_1_method_25_code
def yX10_write : MethodName := ⟨RX10, "write", "(IZ)I"⟩
abbrev cX10_tear : ByteArray := prog_1_method_26_code
def yX10_tear : MethodName := ⟨RX10, "tear", "()I"⟩
abbrev cX10_judge : ByteArray := prog_1_method_27_code
def yX10_judge : MethodName := ⟨RX10, "judge", "()I"⟩
abbrev cX10_seed : ByteArray := prog_1_method_28_code
def yX10_seed : MethodName := ⟨RX10, "seed", "(I)I"⟩
abbrev cX10_keep : ByteArray := prog_1_method_29_code
def yX10_keep : MethodName := ⟨RX10, "keep", "(I)I"⟩
abbrev cX10_goBack : ByteArray := prog_1_method_30_code
def yX10_goBack : MethodName := ⟨RX10, "goBack", "(I)I"⟩
abbrev cX10_sellOne : ByteArray := prog_1_method_31_code
def yX10_sellOne : MethodName := ⟨RX10, "sellOne", "(II)Z"⟩
abbrev cX10_liveOneDay : ByteArray := prog_1_method_32_code
def yX10_liveOneDay : MethodName := ⟨RX10, "liveOneDay", "()V"⟩
abbrev cX10_drawOf : ByteArray := prog_1_method_33_code
def yX10_drawOf : MethodName := ⟨RX10, "drawOf", "(I)I"⟩
abbrev cX10_soonFrom : ByteArray := prog_1_method_34_code
def yX10_soonFrom : MethodName := ⟨RX10, "soonFrom", "(I)I"⟩
abbrev cX10_whoGetsIt : ByteArray := prog_1_method_35_code
def yX10_whoGetsIt : MethodName := ⟨RX10, "whoGetsIt", "(I)I"⟩
abbrev cX10_bestRoll : ByteArray := prog_1_method_36_code
def yX10_bestRoll : MethodName := ⟨RX10, "bestRoll", "()I"⟩
abbrev cX10_luckyLeft : ByteArray := prog_1_method_37_code
def yX10_luckyLeft : MethodName := ⟨RX10, "luckyLeft", "(I)I"⟩
abbrev cX10_partDivisor : ByteArray := prog_1_method_38_code
def yX10_partDivisor : MethodName := ⟨RX10, "partDivisor", "(I)I"⟩
def RX11 : String := "LuckyTicketsModel"
def TX11 : u_T := fun k => match k with
  | 0 => ("LuckyTicketsModel", "figures", "I", false)
  | 1 => ("LuckyTicketsModel", "last", "I", false)
  | 2 => ("LuckyTicketsModel", "rules", "I", false)
  | 3 => ("LuckyTicketsModel", "rolls", "I", false)
  | 4 => ("LuckyTicketsModel", "riders", "I", false)
  | 5 => ("LuckyTicketsModel", "riderKind", "[I", true)
  | 6 => ("LuckyTicketsModel", "now", "[I", true)
  | 7 => ("LuckyTicketsModel", "seed", "I", false)
  | 8 => ("LuckyTicketsModel", "text", "[I", true)
  | 9 => ("LuckyTicketsModel", "texted", "I", false)
  | 10 => ("LuckyTicketsModel", "faultPlace", "I", false)
  | 11 => ("LuckyTicketsModel", "at0", "I", false)
  | 12 => ("LuckyTicketsModel", "number", "I", false)
  | 13 => ("LuckyTicketsModel", "numberAt", "I", false)
  | 14 => ("LuckyTicketsModel", "readFigures", "I", false)
  | 15 => ("LuckyTicketsModel", "readLast", "I", false)
  | 16 => ("LuckyTicketsModel", "hasMode", "Z", false)
  | 17 => ("LuckyTicketsModel", "readMode", "I", false)
  | 18 => ("LuckyTicketsModel", "readRules", "I", false)
  | 19 => ("LuckyTicketsModel", "readKind", "[I", true)
  | 20 => ("LuckyTicketsModel", "readA", "[I", true)
  | 21 => ("LuckyTicketsModel", "readB", "[I", true)
  | 22 => ("LuckyTicketsModel", "readRolls", "I", false)
  | 23 => ("LuckyTicketsModel", "readAt", "[I", true)
  | 24 => ("LuckyTicketsModel", "readLeft", "[I", true)
  | 25 => ("LuckyTicketsModel", "readRiders", "I", false)
  | 26 => ("LuckyTicketsModel", "readRider", "[I", true)
  | 27 => ("LuckyTicketsModel", "undos", "I", false)
  | 28 => ("LuckyTicketsModel", "past", "[I", true)
  | 29 => ("LuckyTicketsModel", "seen", "I", false)
  | 30 => ("LuckyTicketsModel", "seenAt", "[I", true)
  | 31 => ("LuckyTicketsModel", "seenSo", "[Z", true)
  | 32 => ("LuckyTicketsModel", "booked", "I", false)
  | 33 => ("LuckyTicketsModel", "bookOf", "[I", true)
  | 34 => ("LuckyTicketsModel", "bookSo", "[Z", true)
  | 35 => ("LuckyTicketsModel", "images", "[I", true)
  | _ => ("LuckyTicketsModel", "isKept", "[Z", true)
def tyX11 : Nat → FieldType := fun k => match k with
  | 0 => .int
  | 1 => .int
  | 2 => .int
  | 3 => .int
  | 4 => .int
  | 5 => .array .int
  | 6 => .array .int
  | 7 => .int
  | 8 => .array .int
  | 9 => .int
  | 10 => .int
  | 11 => .int
  | 12 => .int
  | 13 => .int
  | 14 => .int
  | 15 => .int
  | 16 => .boolean
  | 17 => .int
  | 18 => .int
  | 19 => .array .int
  | 20 => .array .int
  | 21 => .array .int
  | 22 => .int
  | 23 => .array .int
  | 24 => .array .int
  | 25 => .int
  | 26 => .array .int
  | 27 => .int
  | 28 => .array .int
  | 29 => .int
  | 30 => .array .int
  | 31 => .array .boolean
  | 32 => .int
  | 33 => .array .int
  | 34 => .array .boolean
  | 35 => .array .int
  | _ => .array .boolean
abbrev wsX110 : List Cond := u_ws RX11 TX11 37
theorem nmX11 : ∀ a, a < 37 → ∀ b, b < 37 → a ≠ b → (TX11 a).2.1 ≠ (TX11 b).2.1 := by decide +kernel
theorem tyX11_ok : ∀ k, k < 37 → parseFieldDescriptor (TX11 k).2.2.1 = some (tyX11 k) := by decide +kernel
abbrev cX11_init : ByteArray := prog_13_method_1_code
def yX11_init : MethodName := ⟨RX11, "<init>", "()V"⟩
abbrev cX11_in : ByteArray := prog_13_method_3_code
def yX11_in : MethodName := ⟨RX11, "in", "(JJJ)Z"⟩
abbrev cX11_isRule : ByteArray := prog_13_method_4_code
def yX11_isRule : MethodName := ⟨RX11, "isRule", "(I)Z"⟩
abbrev cX11_isRoll : ByteArray := prog_13_method_5_code
def yX11_isRoll : MethodName := ⟨RX11, "isRoll", "(I)Z"⟩
abbrev cX11_isRider : ByteArray := prog_13_method_6_code
def yX11_isRider : MethodName := ⟨RX11, "isRider", "(I)Z"⟩
abbrev cX11_isNumber : ByteArray := prog_13_method_7_code
def yX11_isNumber : MethodName := ⟨RX11, "isNumber", "(I)Z"⟩
abbrev cX11_areOf : ByteArray := prog_13_method_8_code
def yX11_areOf : MethodName := ⟨RX11, "areOf", "(III)Z"⟩
abbrev cX11_feed : ByteArray := prog_13_method_9_code
def yX11_feed : MethodName := ⟨RX11, "feed", "(I)I"⟩
abbrev cX11_here : ByteArray := prog_13_method_10_code
def yX11_here : MethodName := ⟨RX11, "here", "()I"⟩
abbrev cX11_fails : ByteArray := prog_13_method_11_code
def yX11_fails : MethodName := ⟨RX11, "fails", "(II)I"⟩
abbrev cX11_takeNumber : ByteArray := prog_13_method_12_code
def yX11_takeNumber : MethodName := ⟨RX11, "takeNumber", "(II)I"⟩
abbrev cX11_into : ByteArray := prog_13_method_13_code
def yX11_into : MethodName := ⟨RX11, "into", "([IIII)I"⟩
abbrev cX11_takeFigures : ByteArray := prog_13_method_14_code
def yX11_takeFigures : MethodName := ⟨RX11, "takeFigures", "()I"⟩
abbrev cX11_takeMode : ByteArray := prog_13_method_15_code
def yX11_takeMode : MethodName := ⟨RX11, "takeMode", "()I"⟩
abbrev cX11_takeRule : ByteArray := prog_13_method_16_code
def yX11_takeRule : MethodName := ⟨RX11, "takeRule", "()I"⟩
abbrev cX11_takeRoll : ByteArray := prog_13_method_17_code
def yX11_takeRoll : MethodName := ⟨RX11, "takeRoll", "()I"⟩
abbrev cX11_takeRider : ByteArray := prog_13_method_18_code
def yX11_takeRider : MethodName := ⟨RX11, "takeRider", "()I"⟩
abbrev cX11_isFull : ByteArray := prog_13_method_19_code
def yX11_isFull : MethodName := ⟨RX11, "isFull", "(I)Z"⟩
abbrev cX11_takeBody : ByteArray := prog_13_method_20_code
def yX11_takeBody : MethodName := ⟨RX11, "takeBody", "(I)I"⟩
abbrev cX11_takeClause : ByteArray := prog_13_method_21_code
def yX11_takeClause : MethodName := ⟨RX11, "takeClause", "()I"⟩
abbrev cX11_takeRead : ByteArray := prog_13_method_22_code
def yX11_takeRead : MethodName := ⟨RX11, "takeRead", "()V"⟩
abbrev cX11_tram : ByteArray := prog_13_method_23_code
def yX11_tram : MethodName := ⟨RX11, "tram", "()I"⟩
abbrev cX11_fault : ByteArray := prog_13_method_24_code
def yX11_fault : MethodName := ⟨RX11, "fault", "()I"⟩
abbrev cX11_figureOf : ByteArray := prog_13_method_25_code
def yX11_figureOf : MethodName := ⟨RX11, "figureOf", "(II)I"⟩
abbrev cX11_halves : ByteArray := prog_13_method_26_code
def yX11_halves : MethodName := ⟨RX11, "halves", "(II)Z"⟩
abbrev cX11_mirror : ByteArray := prog_13_method_27_code
def yX11_mirror : MethodName := ⟨RX11, "mirror", "(II)Z"⟩
abbrev cX11_counts : ByteArray := prog_13_method_28_code
def yX11_counts : MethodName := ⟨RX11, "counts", "(III)Z"⟩
abbrev cX11_rises : ByteArray := prog_13_method_29_code
def yX11_rises : MethodName := ⟨RX11, "rises", "(II)Z"⟩
abbrev cX11_saysYes : ByteArray := prog_13_method_30_code
def yX11_saysYes : MethodName := ⟨RX11, "saysYes", "(IIII)Z"⟩
abbrev cX11_isYes : ByteArray := prog_13_method_31_code
def yX11_isYes : MethodName := ⟨RX11, "isYes", "(II)Z"⟩
abbrev cX11_isLuckyBut : ByteArray := prog_13_method_32_code
def yX11_isLuckyBut : MethodName := ⟨RX11, "isLuckyBut", "(II)Z"⟩
abbrev cX11_isLucky : ByteArray := prog_13_method_33_code
def yX11_isLucky : MethodName := ⟨RX11, "isLucky", "(I)Z"⟩
abbrev cX11_manyBut : ByteArray := prog_13_method_34_code
def yX11_manyBut : MethodName := ⟨RX11, "manyBut", "(III)I"⟩
abbrev cX11_allLucky : ByteArray := prog_13_method_35_code
def yX11_allLucky : MethodName := ⟨RX11, "allLucky", "()I"⟩
abbrev cX11_soon : ByteArray := prog_13_method_36_code
def yX11_soon : MethodName := ⟨RX11, "soon", "(I)I"⟩
abbrev cX11_bestRoll : ByteArray := prog_13_method_37_code
def yX11_bestRoll : MethodName := ⟨RX11, "bestRoll", "()I"⟩
abbrev cX11_luckyLeft : ByteArray := prog_13_method_38_code
def yX11_luckyLeft : MethodName := ⟨RX11, "luckyLeft", "(I)I"⟩
abbrev cX11_part : ByteArray := prog_13_method_39_code
def yX11_part : MethodName := ⟨RX11, "part", "(IZ)I"⟩
abbrev cX11_luckiest : ByteArray := prog_13_method_40_code
def yX11_luckiest : MethodName := ⟨RX11, "luckiest", "()I"⟩
abbrev cX11_told : ByteArray := prog_13_method_41_code
def yX11_told : MethodName := ⟨RX11, "told", "(I)I"⟩
abbrev cX11_ruleOf : ByteArray := prog_13_method_42_code
def yX11_ruleOf : MethodName := ⟨RX11, "ruleOf", "(II)I"⟩
abbrev cX11_who : ByteArray := prog_13_method_43_code
def yX11_who : MethodName := ⟨RX11, "who", "(I)I"⟩
abbrev cX11_rollOf : ByteArray := prog_13_method_44_code
def yX11_rollOf : MethodName := ⟨RX11, "rollOf", "(II)I"⟩
abbrev cX11_rider : ByteArray := prog_13_method_45_code
def yX11_rider : MethodName := ⟨RX11, "rider", "(II)I"⟩
abbrev cX11_lucky : ByteArray := prog_13_method_46_code
def yX11_lucky : MethodName := ⟨RX11, "lucky", "(II)I"⟩
abbrev cX11_remember : ByteArray := prog_13_method_47_code
def yX11_remember : MethodName := ⟨RX11, "remember", "()V"⟩
abbrev cX11_more : ByteArray := prog_13_method_48_code
def yX11_more : MethodName := ⟨RX11, "more", "(I)V"⟩
abbrev cX11_sellNow : ByteArray := prog_13_method_49_code
def yX11_sellNow : MethodName := ⟨RX11, "sellNow", "(II)I"⟩
abbrev cX11_sell : ByteArray := prog_13_method_50_code
def yX11_sell : MethodName := ⟨RX11, "sell", "(II)I"⟩
abbrev cX11_line : ByteArray := prog_13_method_51_code
def yX11_line : MethodName := ⟨RX11, "line", "(II)I"⟩
abbrev cX11_give : ByteArray := prog_13_method_52_code
def yX11_give : MethodName := ⟨RX11, "give", "(II)I"⟩
abbrev cX11_rule : ByteArray := prog_13_method_53_code
def yX11_rule : MethodName := ⟨RX11, "rule", "(IIII)I"⟩
abbrev cX11_mode : ByteArray := prog_13_method_54_code
def yX11_mode : MethodName := ⟨RX11, "mode", "(I)I"⟩
abbrev cX11_roll : ByteArray := prog_13_method_55_code
def yX11_roll : MethodName := ⟨RX11, "roll", "(III)I"⟩
abbrev cX11_draw : ByteArray := prog_13_method_56_code
def yX11_draw : MethodName := ⟨RX11, "draw", "(I)I"⟩
abbrev cX11_chance : ByteArray := prog_13_method_57_code
def yX11_chance : MethodName := ⟨RX11, "chance", "()V"⟩
abbrev cX11_drift : ByteArray := prog_13_method_58_code
def yX11_drift : MethodName := ⟨RX11, "drift", "(I)I"⟩
abbrev cX11_undo : ByteArray := prog_13_method_59_code
def yX11_undo : MethodName := ⟨RX11, "undo", "()I"⟩
abbrev cX11_next : ByteArray := prog_13_method_60_code
def yX11_next : MethodName := ⟨RX11, "next", "(I)I"⟩
abbrev cX11_upTo : ByteArray := prog_13_method_61_code
def yX11_upTo : MethodName := ⟨RX11, "upTo", "(II)I"⟩
abbrev cX11_kth : ByteArray := prog_13_method_62_code
def yX11_kth : MethodName := ⟨RX11, "kth", "(I)I"⟩
abbrev cX11_waits : ByteArray := prog_13_method_63_code
def yX11_waits : MethodName := ⟨RX11, "waits", "(I)I"⟩
abbrev cX11_dry : ByteArray := prog_13_method_64_code
def yX11_dry : MethodName := ⟨RX11, "dry", "(II)I"⟩
abbrev cX11_see : ByteArray := prog_13_method_65_code
def yX11_see : MethodName := ⟨RX11, "see", "(IZ)I"⟩
abbrev cX11_kindOf : ByteArray := prog_13_method_66_code
def yX11_kindOf : MethodName := ⟨RX11, "kindOf", "(I)I"⟩
abbrev cX11_restOf : ByteArray := prog_13_method_67_code
def yX11_restOf : MethodName := ⟨RX11, "restOf", "(I)I"⟩
abbrev cX11_aOf : ByteArray := prog_13_method_68_code
def yX11_aOf : MethodName := ⟨RX11, "aOf", "(I)I"⟩
abbrev cX11_bOf : ByteArray := prog_13_method_69_code
def yX11_bOf : MethodName := ⟨RX11, "bOf", "(I)I"⟩
abbrev cX11_saysOf : ByteArray := prog_13_method_70_code
def yX11_saysOf : MethodName := ⟨RX11, "saysOf", "(II)Z"⟩
abbrev cX11_couldBe : ByteArray := prog_13_method_71_code
def yX11_couldBe : MethodName := ⟨RX11, "couldBe", "(I)Z"⟩
abbrev cX11_manyCould : ByteArray := prog_13_method_72_code
def yX11_manyCould : MethodName := ⟨RX11, "manyCould", "()I"⟩
abbrev cX11_could : ByteArray := prog_13_method_73_code
def yX11_could : MethodName := ⟨RX11, "could", "(II)I"⟩
abbrev cX11_manyYes : ByteArray := prog_13_method_74_code
def yX11_manyYes : MethodName := ⟨RX11, "manyYes", "(I)I"⟩
abbrev cX11_askNext : ByteArray := prog_13_method_75_code
def yX11_askNext : MethodName := ⟨RX11, "askNext", "()I"⟩
abbrev cX11_write : ByteArray := prog_13_method_76_code
def yX11_write : MethodName := ⟨RX11, "write", "(IZ)I"⟩
abbrev cX11_tear : ByteArray := prog_13_method_77_code
def yX11_tear : MethodName := ⟨RX11, "tear", "()I"⟩
abbrev cX11_judge : ByteArray := prog_13_method_78_code
def yX11_judge : MethodName := ⟨RX11, "judge", "()I"⟩
abbrev cX11_seed : ByteArray := prog_13_method_79_code
def yX11_seed : MethodName := ⟨RX11, "seed", "(I)I"⟩
abbrev cX11_keep : ByteArray := prog_13_method_80_code
def yX11_keep : MethodName := ⟨RX11, "keep", "(I)I"⟩
abbrev cX11_goBack : ByteArray := prog_13_method_81_code
def yX11_goBack : MethodName := ⟨RX11, "goBack", "(I)I"⟩
def RJ13 : String := "java/lang/Long"
def TJ13 : u_T := fun k => match k with
  | _ => ("", "", "", false)
def tyJ13 : Nat → FieldType := fun k => match k with
  | _ => .int
abbrev wsJ130 : List Cond := u_ws RJ13 TJ13 0
theorem nmJ13 : ∀ a, a < 0 → ∀ b, b < 0 → a ≠ b → (TJ13 a).2.1 ≠ (TJ13 b).2.1 := by decide +kernel
theorem tyJ13_ok : ∀ k, k < 0 → parseFieldDescriptor (TJ13 k).2.2.1 = some (tyJ13 k) := by decide +kernel
abbrev cJ13_bitCount_95d88 : ByteArray := prog_14_method_50_code
def yJ13_bitCount_95d88 : MethodName := ⟨RJ13, "bitCount", "(J)I"⟩
def RJ9 : String := "java/lang/Math"
def TJ9 : u_T := fun k => match k with
  | _ => ("", "", "", false)
def tyJ9 : Nat → FieldType := fun k => match k with
  | _ => .int
abbrev wsJ90 : List Cond := u_ws RJ9 TJ9 0
theorem nmJ9 : ∀ a, a < 0 → ∀ b, b < 0 → a ≠ b → (TJ9 a).2.1 ≠ (TJ9 b).2.1 := by decide +kernel
theorem tyJ9_ok : ∀ k, k < 0 → parseFieldDescriptor (TJ9 k).2.2.1 = some (tyJ9 k) := by decide +kernel
abbrev cJ9_abs_0f7a4 : ByteArray := prog_15_method_59_code
def yJ9_abs_0f7a4 : MethodName := ⟨RJ9, "abs", "(I)I"⟩
abbrev cJ9_max_7cf53 : ByteArray := prog_15_method_65_code
def yJ9_max_7cf53 : MethodName := ⟨RJ9, "max", "(II)I"⟩
abbrev cJ9_min_7cf53 : ByteArray := prog_15_method_69_code
def yJ9_min_7cf53 : MethodName := ⟨RJ9, "min", "(II)I"⟩
def RJ10 : String := "java/lang/System"
def TJ10 : u_T := fun k => match k with
  | _ => ("", "", "", false)
def tyJ10 : Nat → FieldType := fun k => match k with
  | _ => .int
abbrev wsJ100 : List Cond := u_ws RJ10 TJ10 0
theorem nmJ10 : ∀ a, a < 0 → ∀ b, b < 0 → a ≠ b → (TJ10 a).2.1 ≠ (TJ10 b).2.1 := by decide +kernel
theorem tyJ10_ok : ∀ k, k < 0 → parseFieldDescriptor (TJ10 k).2.2.1 = some (tyJ10 k) := by decide +kernel
def RL : String := "LuckyTicketsLaw"
abbrev cL_law : ByteArray := code
def yL_law : MethodName := ⟨RL, "law", "([I)Z"⟩
end
section
/-! THE MACHINE LAYER: a fixed world of cells, numbered; ints and longs of cell t at place k in a memory; judgements over the memory alone -/
/-- the words of the tables that a call hands on -/
def gm_tbl : List Cond := lw_tbl.filter goodWord
theorem gm_in_tbl {w : Cond} (k : Nat) (h : lw_tbl[k]? = some w) (hg : goodWord w = true) : w ∈ gm_tbl := List.mem_filter.mpr ⟨List.mem_of_getElem? h, hg⟩
abbrev gm_M : Type := (Nat → Nat → Int32) × (Nat → Nat → Int64)
abbrev gm_C : Type := va_G × (Nat → ClassId)
/-- of a cell: its kind (below 100 the class's number; 100 int, 101 char, 102 boolean, 103 long arrays; 104, 105, 106 arrays of rows, Trams, Images), its length, the first it refers to, the step -/
abbrev gm_H : Type := Nat → Nat × Nat × Nat × Nat
def gm_cls : List vw_C := [(RX0, TX0, 3), (RX1, TX1, 7), (RX2, TX2, 3), (RX3, TX3, 10), (RX4, TX4, 3), (RX5, TX5, 7), (RX6, TX6, 0), (RX7, TX7, 2), (RX8, TX8, 3), (RX9, TX9, 9), (RX10, TX10, 9), (RX11, TX11, 37)]
/-- of a class its fields: 0 an int, 1 a long, n + 2 the cell n behind this one -/
def gm_fd : Nat → List Nat
  | 0 => [3, 4, 0]
  | 1 => [3, 4, 0, 0, 0, 0, 0]
  | 2 => [3, 0, 1]
  | 3 => [3, 8, 9, 10, 0, 0, 0, 0, 0, 0]
  | 4 => [3, 0, 0]
  | 5 => [3, 5, 0, 0, 0, 0, 0]
  | 7 => [3, 0]
  | 8 => [3, 0, 0]
  | 9 => [3, 4, 5, 0, 0, 0, 0, 0, 0]
  | 10 => [3, 10, 14, 24, 90, 94, 97, 1, 0]
  | 11 => [0, 0, 0, 0, 0, 3, 4, 0, 5, 0, 0, 0, 0, 0, 0, 0, 0, 0, 0, 6, 7, 8, 0, 9, 10, 0, 11, 0, 12, 0, 13, 14, 0, 15, 16, 17, 18]
  | _ => []
def gm_tys (cf : gm_C) : List (ClassId × FieldType) := [(cf.2 0, .int), (cf.2 1, .char), (cf.2 2, .boolean), (cf.2 3, .long), (cf.2 4, .array .long), (cf.2 5, .object RX9), (cf.2 6, .object RX2)]
def gm_fv (ad : Nat → Nat) (I : Nat → Int32) (J : Nat → Int64) (t k d : Nat) : Value := match d with
  | 0 => .int (I k)
  | 1 => .long (J k)
  | n + 2 => .ref (ad (t + n))
def gm_fs (ad : Nat → Nat) (I : Nat → Int32) (J : Nat → Int64) (t : Nat) (ds : List Nat) : List Value := (List.range ds.length).map (fun k => gm_fv ad I J t k (ds.getD k 0))
def gm_cell (cf : gm_C) (ad : Nat → Nat) (sh : gm_H) (I : Nat → Int32) (J : Nat → Int64) (t : Nat) : va_E :=
  if (sh t).1 < 100 then .inr ((sh t).1, gm_fs ad I J t (gm_fd (sh t).1))
  else if (sh t).1 < 103 then .inl (cf.2 ((sh t).1 - 100), (sh t).2.1, .inl I)
  else if (sh t).1 = 103 then .inl (cf.2 3, (sh t).2.1, .inr (.inl J))
  else .inl (cf.2 ((sh t).1 - 100), (sh t).2.1, .inr (.inr (.inr (.inr (fun j => some (ad ((sh t).2.2.1 + (sh t).2.2.2 * j)))))))
def gm_W (cf : gm_C) (ad : Nat → Nat) (sh : gm_H) (N : Nat) (S : gm_M) : va_W := (List.range N).map (fun i => (ad i, gm_cell cf ad sh (S.1 i) (S.2 i) i))
def gm_A (ad : Nat → Nat) (N : Nat) : Nat → Prop := fun q => ∃ i, i < N ∧ ad i = q
def gm_ui (S : gm_M) (t k : Nat) (v : Int32) : gm_M := (va_up S.1 t (upd (S.1 t) k v), S.2)
def gm_uj (S : gm_M) (t k : Nat) (v : Int64) : gm_M := (S.1, va_up S.2 t (vp_updL (S.2 t) k v))
def gm_uf (S : gm_M) (t : Nat) (f : Nat → Int32) : gm_M := (va_up S.1 t f, S.2)
theorem gm_fs_at {ad : Nat → Nat} {I : Nat → Int32} {J : Nat → Int64} {t k d : Nat} {ds : List Nat} (h : ds[k]? = some d) : (gm_fs ad I J t ds)[k]? = some (gm_fv ad I J t k d) := by
  have hk : k < ds.length := (List.getElem?_eq_some_iff.mp h).1
  have hd : ds.getD k 0 = d := by rw [List.getD_eq_getElem?_getD, h]; rfl
  unfold gm_fs
  rw [List.getElem?_map, List.getElem?_range hk, Option.map_some, hd]
theorem gm_fs_len {ad : Nat → Nat} {I : Nat → Int32} {J : Nat → Int64} {t : Nat} {ds : List Nat} : (gm_fs ad I J t ds).length = ds.length := by
  simp [gm_fs]
theorem gm_fs_set {ad : Nat → Nat} {I I' : Nat → Int32} {J J' : Nat → Int64} {t k d : Nat} {ds : List Nat} (h : ds[k]? = some d) (hI : ∀ j, j ≠ k → I' j = I j) (hJ : ∀ j, j ≠ k → J' j = J j) : (gm_fs ad I J t ds).set k (gm_fv ad I' J' t k d) = gm_fs ad I' J' t ds := by
  have hk : k < ds.length := (List.getElem?_eq_some_iff.mp h).1
  have hd : ds.getD k 0 = d := by rw [List.getD_eq_getElem?_getD, h]; rfl
  apply List.ext_getElem?
  intro j
  by_cases hj : j < ds.length
  · by_cases e : k = j
    · subst e
      rw [List.getElem?_set_self (by rw [gm_fs_len]; exact hk), gm_fs_at h]
    · rw [List.getElem?_set_ne e]
      obtain ⟨dj, hdj⟩ : ∃ dj, ds[j]? = some dj := ⟨ds[j], List.getElem?_eq_getElem hj⟩
      rw [gm_fs_at hdj, gm_fs_at hdj]
      unfold gm_fv
      match dj with
      | 0 => simp only [hI j (Ne.symm e)]
      | 1 => simp only [hJ j (Ne.symm e)]
      | n + 2 => rfl
  · rw [List.getElem?_eq_none (by rw [List.length_set, gm_fs_len]; omega), List.getElem?_eq_none (by rw [gm_fs_len]; omega)]
theorem gm_at {cf : gm_C} {ad : Nat → Nat} {sh : gm_H} {N : Nat} {S : gm_M} {t : Nat} (h : t < N) : (gm_W cf ad sh N S)[t]? = some (ad t, gm_cell cf ad sh (S.1 t) (S.2 t) t) := by
  unfold gm_W
  rw [List.getElem?_map, List.getElem?_range h, Option.map_some]
theorem gm_set {cf : gm_C} {ad : Nat → Nat} {sh : gm_H} {N : Nat} {S S' : gm_M} {t : Nat} {e : va_E} (h : t < N) (he : e = gm_cell cf ad sh (S'.1 t) (S'.2 t) t) (h1 : ∀ j, j ≠ t → S'.1 j = S.1 j) (h2 : ∀ j, j ≠ t → S'.2 j = S.2 j) : (gm_W cf ad sh N S).set t (ad t, e) = gm_W cf ad sh N S' := by
  apply List.ext_getElem?
  intro j
  by_cases hj : j < N
  · by_cases e1 : t = j
    · subst e1
      rw [List.getElem?_set_self (by simp [gm_W]; exact h), gm_at h, he]
    · rw [List.getElem?_set_ne e1, gm_at hj, gm_at hj, h1 j (Ne.symm e1), h2 j (Ne.symm e1)]
  · rw [List.getElem?_eq_none (by rw [List.length_set]; simp [gm_W]; omega), List.getElem?_eq_none (by simp [gm_W]; omega)]
theorem gm_obj {cf : gm_C} {ad : Nat → Nat} {sh : gm_H} {I : Nat → Int32} {J : Nat → Int64} {t ci : Nat} (h : (sh t).1 = ci) (hc : ci < 100) : gm_cell cf ad sh I J t = .inr (ci, gm_fs ad I J t (gm_fd ci)) := by
  unfold gm_cell
  rw [h, if_pos hc]
theorem gm_iarr {cf : gm_C} {ad : Nat → Nat} {sh : gm_H} {I : Nat → Int32} {J : Nat → Int64} {t k n : Nat} (h : (sh t).1 = 100 + k) (hk : k < 3) (hn : (sh t).2.1 = n) : gm_cell cf ad sh I J t = .inl (cf.2 k, n, .inl I) := by
  unfold gm_cell
  rw [if_neg (by omega), if_pos (by omega), h, hn, Nat.add_sub_cancel_left]
theorem gm_larr {cf : gm_C} {ad : Nat → Nat} {sh : gm_H} {I : Nat → Int32} {J : Nat → Int64} {t n : Nat} (h : (sh t).1 = 103) (hn : (sh t).2.1 = n) : gm_cell cf ad sh I J t = .inl (cf.2 3, n, .inr (.inl J)) := by
  unfold gm_cell
  rw [if_neg (by omega), if_neg (by omega), if_pos h, hn]
theorem gm_rarr {cf : gm_C} {ad : Nat → Nat} {sh : gm_H} {I : Nat → Int32} {J : Nat → Int64} {t k n b d : Nat} (h : sh t = (100 + k, n, b, d)) (hk : 4 ≤ k) : gm_cell cf ad sh I J t = .inl (cf.2 k, n, .inr (.inr (.inr (.inr (fun j => some (ad (b + d * j))))))) := by
  unfold gm_cell
  rw [h]
  rw [if_neg (by omega), if_neg (by omega), if_neg (by omega), Nat.add_sub_cancel_left]
/-! the two static rows of the class Rules -/
def gm_la (j : Nat) : Int32 := ([0, 0, 0, 2, 0] : List Int32).getD j 0
def gm_ga (j : Nat) : Int32 := ([36, 2, 9, 12, 3] : List Int32).getD j 0
def gm_Z (A : Nat → Prop) (U : State) (H : Heap) : Prop := (∃ t : Nat, va_Z RX6 "LEAST_A" "[I" (.ref t) A U H ∧ va_T .int t 5 (fun j => .int (gm_la j)) A U H) ∧ (∃ t : Nat, va_Z RX6 "GREATEST_A" "[I" (.ref t) A U H ∧ va_T .int t 5 (fun j => .int (gm_ga j)) A U H)
theorem gm_Z.moved {A : Nat → Prop} {u U : State} {H : Heap} (hvm : u.vm.Alike U.vm) (h : gm_Z A u H) : gm_Z A U H := by
  obtain ⟨⟨t, h1, h2⟩, ⟨t', h3, h4⟩⟩ := h
  exact ⟨⟨t, h1.moved hvm, h2.moved hvm⟩, ⟨t', h3.moved hvm, h4.moved hvm⟩⟩
theorem gm_Z.kept {A : Nat → Prop} {U : State} {H H1 : Heap} (h : gm_Z A U H) (hq : ∀ a : Nat, a < H.size → ¬ A a → H1[a]? = H[a]?) : gm_Z A U H1 := by
  obtain ⟨⟨t, h1, h2⟩, ⟨t', h3, h4⟩⟩ := h
  exact ⟨⟨t, h1.kept hq, h2.kept hq⟩, ⟨t', h3.kept hq, h4.kept hq⟩⟩
theorem gm_Z.narrow {A B : Nat → Prop} {U : State} {H : Heap} (h : gm_Z A U H) (hAB : ∀ q, B q → A q) : gm_Z B U H := by
  obtain ⟨⟨t, h1, h2⟩, ⟨t', h3, h4⟩⟩ := h
  exact ⟨⟨t, h1.narrow hAB, h2.narrow hAB⟩, ⟨t', h3.narrow hAB, h4.narrow hAB⟩⟩
/-! contracts -/
def gm_P (cf : gm_C) (ad : Nat → Nat) (sh : gm_H) (N : Nat) (avs : List Value) (S : gm_M) : Array Value → State → Prop := fun v U => v = avs.toArray ∧ va_P cf.1 gm_cls (gm_W cf ad sh N S) U.heap ∧ va_K cf.1 gm_cls (gm_tys cf) U ∧ va_D (gm_A ad N) (gm_W cf ad sh N S) ∧ gm_Z (gm_A ad N) U U.heap
def gm_Q (cf : gm_C) (ad : Nat → Nat) (sh : gm_H) (N : Nat) (rv : Option Value) (S : gm_M) : Array Value → State → Outcome → State → Prop := fun _ st oc t => oc = .returned rv ∧ va_P cf.1 gm_cls (gm_W cf ad sh N S) t.heap ∧ va_D (gm_A ad N) (gm_W cf ad sh N S) ∧ va_F (gm_A ad N) st t
def gm_Met (l : Launch) (y : MethodName) (b : ByteArray) (maxL : Nat) (ret : Option FieldType) (fr lo : Nat) (cf : gm_C) (ad : Nat → Nat) (sh : gm_H) (N : Nat) (avs : List Value) (S : gm_M) (rv : Option Value) (S' : gm_M) : Prop :=
  Met l y (.code y b maxL ret :: gm_tbl) { frames := fr, cells := 0, slots := 0, locals := lo } (gm_P cf ad sh N avs S) (gm_Q cf ad sh N rv S') 0 0 (gm_A ad N)
theorem gm_P_blind {cf : gm_C} {ad : Nat → Nat} {sh : gm_H} {N : Nat} {avs : List Value} {S : gm_M} : FrameBlind (gm_P cf ad sh N avs S) := by
  intro a U g mk ⟨h1, h2, h3, h4, h5⟩
  exact ⟨h1, h2, va_K.moved (u := U) (U := U.calling g mk a) (Vm.Alike.refl U.vm) h3, h4, gm_Z.moved (u := U) (U := U.calling g mk a) (Vm.Alike.refl U.vm) h5⟩
/-- what holds all through a method's body -/
def gm_F (p : Program) (s : State) (m : MethodId) (args : Array Value) (meth : Method) (c : Code) (cf : gm_C) (ad : Nat → Nat) (N : Nat) (cc : ByteArray) (nL : Nat) (own : String) : Prop :=
  p.tables.exec = Jvm.exec ∧ c.code = cc ∧ c.maxLocals = nL ∧ s.vm.findClass own = some m.cls ∧ (∀ w ∈ gm_tbl, w.before args s = true) ∧ va_K cf.1 gm_cls (gm_tys cf) s ∧ meth.locks = false ∧ gm_Z (gm_A ad N) s s.heap
def gm_G (p : Program) (l : Launch) (e : Env) (R : Room) (s : State) (m : MethodId) (args : Array Value) (below : List Frame) (meth : Method) (c : Code) (Q : State → Prop) (cf : gm_C) (ad : Nat → Nat) (sh : gm_H) (N nL : Nat) (S : gm_M) (pc : Nat) (lv : List (Nat × Value)) (st : List Value) : Prop :=
  ∀ (H : Heap) (locs : List Loc) (ls : Array Slot), va_P cf.1 gm_cls (gm_W cf ad sh N S) H → va_D (gm_A ad N) (gm_W cf ad sh N S) → va_S (gm_A ad N) s.heap H locs → lv_has ls nL lv → W p l e R s m args below meth c H locs 0 0 Q (F0 m pc ls st)
theorem gm_met {l : Launch} {y : MethodName} {b : ByteArray} {maxL : Nat} {ret : Option FieldType} {fr lo : Nat} {cf : gm_C} {ad : Nat → Nat} {sh : gm_H} {N : Nat} {avs : List Value} {S S' : gm_M} {rv : Option Value} (hy : plainName y.cls = true) (hsz : (lg_sl avs).length ≤ maxL)
    (body : ∀ (p : Program) (e : Env) (s : State) (m : MethodId) (args : Array Value) (below : List Frame) (meth : Method) (c : Code), gm_F p s m args meth c cf ad N b maxL y.cls → meth.sig.returnType = ret → gm_G p l e { frames := fr, cells := 0, slots := 0, locals := lo } s m args below meth c (MQ below (gm_Q cf ad sh N rv S') args s 0 0 (gm_A ad N)) cf ad sh N maxL S 0 (lv_args 0 avs) []) :
    gm_Met l y b maxL ret fr lo cf ad sh N avs S rv S' := by
  refine Met.ofW (cc := b) (maxL := maxL) (ret := ret) hy rfl ?_
  intro p e s m args below meth c s₁ B hml hv
  obtain ⟨rfl, hP, hK, hD, hZ⟩ := hv
  have hts := atoms_spec (ws := .code y b maxL ret :: gm_tbl) B.pre
  have hown : s.vm.findClass y.cls = some m.cls := findClass_of_methodNamed B.named
  have hl := lv_entry avs (n := maxL) hsz
  rw [lg_entry_eq]
  exact body p e s m avs.toArray below meth c ⟨B.exec, B.bytes, hml, hown, fun w h => hts w (List.mem_cons_of_mem _ h), hK, B.notSynchronized, hZ⟩ B.returns s.heap [] _ hP hD va_S.rf hl
end
section
section GR
variable {p : Program} {l : Launch} {e : Env} {R : Room} {s : State} {m : MethodId} {args : Array Value} {below : List Frame} {meth : Method} {c : Code} {Q : State → Prop} {cf : gm_C} {ad : Nat → Nat} {sh : gm_H} {N nL : Nat} {S : gm_M} {pc : Nat} {lv : List (Nat × Value)} {st : List Value} {cc : ByteArray} {own : String}
theorem gm_iconst (C : gm_F p s m args meth c cf ad N cc nL own) {n : Int} {v : Int32} (hd : decode cc pc = .ok (.iconst n, 1)) (hv : Int32.ofInt n = v)
    (k : gm_G p l e R s m args below meth c Q cf ad sh N nL S (pc + 1) lv (.int v :: st)) : gm_G p l e R s m args below meth c Q cf ad sh N nL S pc lv (st) := fun H locs ls hP hD hS hl => lv_iconst C.1 C.2.1 hd hv (k H locs ls hP hD hS hl)
theorem gm_bipush (C : gm_F p s m args meth c cf ad N cc nL own) {n : Int} {v : Int32} (hd : decode cc pc = .ok (.bipush n, 2)) (hv : (Int8.ofInt n).toInt32 = v)
    (k : gm_G p l e R s m args below meth c Q cf ad sh N nL S (pc + 2) lv (.int v :: st)) : gm_G p l e R s m args below meth c Q cf ad sh N nL S pc lv (st) := fun H locs ls hP hD hS hl => lv_bipush C.1 C.2.1 hd hv (k H locs ls hP hD hS hl)
theorem gm_sipush (C : gm_F p s m args meth c cf ad N cc nL own) {n : Int} {v : Int32} (hd : decode cc pc = .ok (.sipush n, 3)) (hv : (Int16.ofInt n).toInt32 = v)
    (k : gm_G p l e R s m args below meth c Q cf ad sh N nL S (pc + 3) lv (.int v :: st)) : gm_G p l e R s m args below meth c Q cf ad sh N nL S pc lv (st) := fun H locs ls hP hD hS hl => lv_sipush C.1 C.2.1 hd hv (k H locs ls hP hD hS hl)
theorem gm_lconst (C : gm_F p s m args meth c cf ad N cc nL own) {n : Fin 2} {v : Int64} (hd : decode cc pc = .ok (.lconst n, 1)) (hv : Int64.ofNat (n : Nat) = v)
    (k : gm_G p l e R s m args below meth c Q cf ad sh N nL S (pc + 1) lv (.long v :: st)) : gm_G p l e R s m args below meth c Q cf ad sh N nL S pc lv (st) := fun H locs ls hP hD hS hl => lv_lconst C.1 C.2.1 hd hv (k H locs ls hP hD hS hl)
theorem gm_iload_n (C : gm_F p s m args meth c cf ad N cc nL own) {k : Fin 4} {i : Nat} {x : Int32} (hd : decode cc pc = .ok (.iload_n k, 1)) (hi : (k : Nat) = i) (j : Nat) (hj : lv[j]? = some (i, .int x))
    (k : gm_G p l e R s m args below meth c Q cf ad sh N nL S (pc + 1) lv (.int x :: st)) : gm_G p l e R s m args below meth c Q cf ad sh N nL S pc lv st := fun H locs ls hP hD hS hl => lv_iload_n C.1 C.2.1 hd hi (lv_at hl j hj) (k H locs ls hP hD hS hl)
theorem gm_iload (C : gm_F p s m args meth c cf ad N cc nL own) {i : Nat} {x : Int32} (hd : decode cc pc = .ok (.iload i, 2)) (j : Nat) (hj : lv[j]? = some (i, .int x))
    (k : gm_G p l e R s m args below meth c Q cf ad sh N nL S (pc + 2) lv (.int x :: st)) : gm_G p l e R s m args below meth c Q cf ad sh N nL S pc lv st := fun H locs ls hP hD hS hl => lv_iload C.1 C.2.1 hd (lv_at hl j hj) (k H locs ls hP hD hS hl)
theorem gm_lload_n (C : gm_F p s m args meth c cf ad N cc nL own) {k : Fin 4} {i : Nat} {x : Int64} (hd : decode cc pc = .ok (.lload_n k, 1)) (hi : (k : Nat) = i) (j : Nat) (hj : lv[j]? = some (i, .long x))
    (k : gm_G p l e R s m args below meth c Q cf ad sh N nL S (pc + 1) lv (.long x :: st)) : gm_G p l e R s m args below meth c Q cf ad sh N nL S pc lv st := fun H locs ls hP hD hS hl => lv_lload_n C.1 C.2.1 hd hi (lv_at hl j hj) (k H locs ls hP hD hS hl)
theorem gm_lload (C : gm_F p s m args meth c cf ad N cc nL own) {i : Nat} {x : Int64} (hd : decode cc pc = .ok (.lload i, 2)) (j : Nat) (hj : lv[j]? = some (i, .long x))
    (k : gm_G p l e R s m args below meth c Q cf ad sh N nL S (pc + 2) lv (.long x :: st)) : gm_G p l e R s m args below meth c Q cf ad sh N nL S pc lv st := fun H locs ls hP hD hS hl => lv_lload C.1 C.2.1 hd (lv_at hl j hj) (k H locs ls hP hD hS hl)
theorem gm_aload_n (C : gm_F p s m args meth c cf ad N cc nL own) {k : Fin 4} {i : Nat} {x : Nat} (hd : decode cc pc = .ok (.aload_n k, 1)) (hi : (k : Nat) = i) (j : Nat) (hj : lv[j]? = some (i, .ref x))
    (k : gm_G p l e R s m args below meth c Q cf ad sh N nL S (pc + 1) lv (.ref x :: st)) : gm_G p l e R s m args below meth c Q cf ad sh N nL S pc lv st := fun H locs ls hP hD hS hl => lv_aload_n C.1 C.2.1 hd hi (lv_at hl j hj) (k H locs ls hP hD hS hl)
theorem gm_aload (C : gm_F p s m args meth c cf ad N cc nL own) {i : Nat} {x : Nat} (hd : decode cc pc = .ok (.aload i, 2)) (j : Nat) (hj : lv[j]? = some (i, .ref x))
    (k : gm_G p l e R s m args below meth c Q cf ad sh N nL S (pc + 2) lv (.ref x :: st)) : gm_G p l e R s m args below meth c Q cf ad sh N nL S pc lv st := fun H locs ls hP hD hS hl => lv_aload C.1 C.2.1 hd (lv_at hl j hj) (k H locs ls hP hD hS hl)
theorem gm_istore_n (C : gm_F p s m args meth c cf ad N cc nL own) {k : Fin 4} {i : Nat} {x : Int32} {lv' : List (Nat × Value)} (hd : decode cc pc = .ok (.istore_n k, 1)) (hi : (k : Nat) = i) (hn : i < nL) (hl' : (i, Value.int x) :: lv.filter (fun q => !(q.1 == i) && !(q.1 + 1 == i && q.2.category == 2)) = lv')
    (k : gm_G p l e R s m args below meth c Q cf ad sh N nL S (pc + 1) lv' st) : gm_G p l e R s m args below meth c Q cf ad sh N nL S pc lv (.int x :: st) := fun H locs ls hP hD hS hl => lv_istore_n C.1 C.2.1 hd hi hl hn hl' (fun ls' hls => k H locs ls' hP hD hS hls)
theorem gm_istore (C : gm_F p s m args meth c cf ad N cc nL own) {i : Nat} {x : Int32} {lv' : List (Nat × Value)} (hd : decode cc pc = .ok (.istore i, 2)) (hn : i < nL) (hl' : (i, Value.int x) :: lv.filter (fun q => !(q.1 == i) && !(q.1 + 1 == i && q.2.category == 2)) = lv')
    (k : gm_G p l e R s m args below meth c Q cf ad sh N nL S (pc + 2) lv' st) : gm_G p l e R s m args below meth c Q cf ad sh N nL S pc lv (.int x :: st) := fun H locs ls hP hD hS hl => lv_istore C.1 C.2.1 hd hl hn hl' (fun ls' hls => k H locs ls' hP hD hS hls)
theorem gm_lstore_n (C : gm_F p s m args meth c cf ad N cc nL own) {k : Fin 4} {i : Nat} {x : Int64} {lv' : List (Nat × Value)} (hd : decode cc pc = .ok (.lstore_n k, 1)) (hi : (k : Nat) = i) (hn : i + 1 < nL) (hl' : (i, Value.long x) :: lv.filter (fun q => !(q.1 == i) && (!(q.1 == i + 1) && !(q.1 + 1 == i && q.2.category == 2))) = lv')
    (k : gm_G p l e R s m args below meth c Q cf ad sh N nL S (pc + 1) lv' st) : gm_G p l e R s m args below meth c Q cf ad sh N nL S pc lv (.long x :: st) := fun H locs ls hP hD hS hl => lv_lstore_n C.1 C.2.1 hd hi hl hn hl' (fun ls' hls => k H locs ls' hP hD hS hls)
theorem gm_lstore (C : gm_F p s m args meth c cf ad N cc nL own) {i : Nat} {x : Int64} {lv' : List (Nat × Value)} (hd : decode cc pc = .ok (.lstore i, 2)) (hn : i + 1 < nL) (hl' : (i, Value.long x) :: lv.filter (fun q => !(q.1 == i) && (!(q.1 == i + 1) && !(q.1 + 1 == i && q.2.category == 2))) = lv')
    (k : gm_G p l e R s m args below meth c Q cf ad sh N nL S (pc + 2) lv' st) : gm_G p l e R s m args below meth c Q cf ad sh N nL S pc lv (.long x :: st) := fun H locs ls hP hD hS hl => lv_lstore C.1 C.2.1 hd hl hn hl' (fun ls' hls => k H locs ls' hP hD hS hls)
theorem gm_astore_n (C : gm_F p s m args meth c cf ad N cc nL own) {k : Fin 4} {i : Nat} {x : Nat} {lv' : List (Nat × Value)} (hd : decode cc pc = .ok (.astore_n k, 1)) (hi : (k : Nat) = i) (hn : i < nL) (hl' : (i, Value.ref x) :: lv.filter (fun q => !(q.1 == i) && !(q.1 + 1 == i && q.2.category == 2)) = lv')
    (k : gm_G p l e R s m args below meth c Q cf ad sh N nL S (pc + 1) lv' st) : gm_G p l e R s m args below meth c Q cf ad sh N nL S pc lv (.ref x :: st) := fun H locs ls hP hD hS hl => lv_astore_n C.1 C.2.1 hd hi hl hn hl' (fun ls' hls => k H locs ls' hP hD hS hls)
theorem gm_astore (C : gm_F p s m args meth c cf ad N cc nL own) {i : Nat} {x : Nat} {lv' : List (Nat × Value)} (hd : decode cc pc = .ok (.astore i, 2)) (hn : i < nL) (hl' : (i, Value.ref x) :: lv.filter (fun q => !(q.1 == i) && !(q.1 + 1 == i && q.2.category == 2)) = lv')
    (k : gm_G p l e R s m args below meth c Q cf ad sh N nL S (pc + 2) lv' st) : gm_G p l e R s m args below meth c Q cf ad sh N nL S pc lv (.ref x :: st) := fun H locs ls hP hD hS hl => lv_astore C.1 C.2.1 hd hl hn hl' (fun ls' hls => k H locs ls' hP hD hS hls)
theorem gm_iinc (C : gm_F p s m args meth c cf ad N cc nL own) {i j : Nat} {n : Int} {x v : Int32} {lv' : List (Nat × Value)} (hd : decode cc pc = .ok (.iinc i n, 3)) (hj : lv[j]? = some (i, .int x)) (hv : v = x + Int32.ofInt n) (hn : i < nL) (hl' : (i, Value.int v) :: lv.filter (fun q => !(q.1 == i) && !(q.1 + 1 == i && q.2.category == 2)) = lv')
    (k : gm_G p l e R s m args below meth c Q cf ad sh N nL S (pc + 3) lv' st) : gm_G p l e R s m args below meth c Q cf ad sh N nL S pc lv st := fun H locs ls hP hD hS hl => lv_iinc C.1 C.2.1 hd hl hj hv.symm hn hl' (fun ls' hls => k H locs ls' hP hD hS hls)
theorem gm_iadd (C : gm_F p s m args meth c cf ad N cc nL own) {x y : Int32} (hd : decode cc pc = .ok (.iadd, 1)) 
    (k : gm_G p l e R s m args below meth c Q cf ad sh N nL S (pc + 1) lv (.int (x + y) :: st)) : gm_G p l e R s m args below meth c Q cf ad sh N nL S pc lv (.int y :: .int x :: st) := fun H locs ls hP hD hS hl => lv_iadd C.1 C.2.1 hd  (k H locs ls hP hD hS hl)
theorem gm_isub (C : gm_F p s m args meth c cf ad N cc nL own) {x y : Int32} (hd : decode cc pc = .ok (.isub, 1)) 
    (k : gm_G p l e R s m args below meth c Q cf ad sh N nL S (pc + 1) lv (.int (x - y) :: st)) : gm_G p l e R s m args below meth c Q cf ad sh N nL S pc lv (.int y :: .int x :: st) := fun H locs ls hP hD hS hl => lv_isub C.1 C.2.1 hd  (k H locs ls hP hD hS hl)
theorem gm_imul (C : gm_F p s m args meth c cf ad N cc nL own) {x y : Int32} (hd : decode cc pc = .ok (.imul, 1)) 
    (k : gm_G p l e R s m args below meth c Q cf ad sh N nL S (pc + 1) lv (.int (x * y) :: st)) : gm_G p l e R s m args below meth c Q cf ad sh N nL S pc lv (.int y :: .int x :: st) := fun H locs ls hP hD hS hl => lv_imul C.1 C.2.1 hd  (k H locs ls hP hD hS hl)
theorem gm_iand (C : gm_F p s m args meth c cf ad N cc nL own) {x y : Int32} (hd : decode cc pc = .ok (.iand, 1)) 
    (k : gm_G p l e R s m args below meth c Q cf ad sh N nL S (pc + 1) lv (.int (x &&& y) :: st)) : gm_G p l e R s m args below meth c Q cf ad sh N nL S pc lv (.int y :: .int x :: st) := fun H locs ls hP hD hS hl => lv_iand C.1 C.2.1 hd  (k H locs ls hP hD hS hl)
theorem gm_ior (C : gm_F p s m args meth c cf ad N cc nL own) {x y : Int32} (hd : decode cc pc = .ok (.ior, 1)) 
    (k : gm_G p l e R s m args below meth c Q cf ad sh N nL S (pc + 1) lv (.int (x ||| y) :: st)) : gm_G p l e R s m args below meth c Q cf ad sh N nL S pc lv (.int y :: .int x :: st) := fun H locs ls hP hD hS hl => lv_ior C.1 C.2.1 hd  (k H locs ls hP hD hS hl)
theorem gm_idiv (C : gm_F p s m args meth c cf ad N cc nL own) {x y : Int32} (hd : decode cc pc = .ok (.idiv, 1)) (hne : ¬ y = 0)
    (k : gm_G p l e R s m args below meth c Q cf ad sh N nL S (pc + 1) lv (.int (x / y) :: st)) : gm_G p l e R s m args below meth c Q cf ad sh N nL S pc lv (.int y :: .int x :: st) := fun H locs ls hP hD hS hl => lv_idiv C.1 C.2.1 hd hne (k H locs ls hP hD hS hl)
theorem gm_irem (C : gm_F p s m args meth c cf ad N cc nL own) {x y : Int32} (hd : decode cc pc = .ok (.irem, 1)) (hne : ¬ y = 0)
    (k : gm_G p l e R s m args below meth c Q cf ad sh N nL S (pc + 1) lv (.int (x - x / y * y) :: st)) : gm_G p l e R s m args below meth c Q cf ad sh N nL S pc lv (.int y :: .int x :: st) := fun H locs ls hP hD hS hl => lv_irem C.1 C.2.1 hd hne (k H locs ls hP hD hS hl)
theorem gm_ineg (C : gm_F p s m args meth c cf ad N cc nL own) {x : Int32} (hd : decode cc pc = .ok (.ineg, 1)) 
    (k : gm_G p l e R s m args below meth c Q cf ad sh N nL S (pc + 1) lv (.int (0 - x) :: st)) : gm_G p l e R s m args below meth c Q cf ad sh N nL S pc lv (.int x :: st) := fun H locs ls hP hD hS hl => lv_ineg C.1 C.2.1 hd  (k H locs ls hP hD hS hl)
theorem gm_ladd (C : gm_F p s m args meth c cf ad N cc nL own) {x y : Int64} (hd : decode cc pc = .ok (.ladd, 1)) 
    (k : gm_G p l e R s m args below meth c Q cf ad sh N nL S (pc + 1) lv (.long (x + y) :: st)) : gm_G p l e R s m args below meth c Q cf ad sh N nL S pc lv (.long y :: .long x :: st) := fun H locs ls hP hD hS hl => lv_ladd C.1 C.2.1 hd  (k H locs ls hP hD hS hl)
theorem gm_lsub (C : gm_F p s m args meth c cf ad N cc nL own) {x y : Int64} (hd : decode cc pc = .ok (.lsub, 1)) 
    (k : gm_G p l e R s m args below meth c Q cf ad sh N nL S (pc + 1) lv (.long (x - y) :: st)) : gm_G p l e R s m args below meth c Q cf ad sh N nL S pc lv (.long y :: .long x :: st) := fun H locs ls hP hD hS hl => lv_lsub C.1 C.2.1 hd  (k H locs ls hP hD hS hl)
theorem gm_lmul (C : gm_F p s m args meth c cf ad N cc nL own) {x y : Int64} (hd : decode cc pc = .ok (.lmul, 1)) 
    (k : gm_G p l e R s m args below meth c Q cf ad sh N nL S (pc + 1) lv (.long (x * y) :: st)) : gm_G p l e R s m args below meth c Q cf ad sh N nL S pc lv (.long y :: .long x :: st) := fun H locs ls hP hD hS hl => lv_lmul C.1 C.2.1 hd  (k H locs ls hP hD hS hl)
theorem gm_land (C : gm_F p s m args meth c cf ad N cc nL own) {x y : Int64} (hd : decode cc pc = .ok (.land, 1)) 
    (k : gm_G p l e R s m args below meth c Q cf ad sh N nL S (pc + 1) lv (.long (x &&& y) :: st)) : gm_G p l e R s m args below meth c Q cf ad sh N nL S pc lv (.long y :: .long x :: st) := fun H locs ls hP hD hS hl => lv_land C.1 C.2.1 hd  (k H locs ls hP hD hS hl)
theorem gm_lor (C : gm_F p s m args meth c cf ad N cc nL own) {x y : Int64} (hd : decode cc pc = .ok (.lor, 1)) 
    (k : gm_G p l e R s m args below meth c Q cf ad sh N nL S (pc + 1) lv (.long (x ||| y) :: st)) : gm_G p l e R s m args below meth c Q cf ad sh N nL S pc lv (.long y :: .long x :: st) := fun H locs ls hP hD hS hl => lv_lor C.1 C.2.1 hd  (k H locs ls hP hD hS hl)
theorem gm_ldiv (C : gm_F p s m args meth c cf ad N cc nL own) {x y : Int64} (hd : decode cc pc = .ok (.ldiv, 1)) (hne : ¬ y = 0)
    (k : gm_G p l e R s m args below meth c Q cf ad sh N nL S (pc + 1) lv (.long (x / y) :: st)) : gm_G p l e R s m args below meth c Q cf ad sh N nL S pc lv (.long y :: .long x :: st) := fun H locs ls hP hD hS hl => lv_ldiv C.1 C.2.1 hd hne (k H locs ls hP hD hS hl)
theorem gm_lrem (C : gm_F p s m args meth c cf ad N cc nL own) {x y : Int64} (hd : decode cc pc = .ok (.lrem, 1)) (hne : ¬ y = 0)
    (k : gm_G p l e R s m args below meth c Q cf ad sh N nL S (pc + 1) lv (.long (x - x / y * y) :: st)) : gm_G p l e R s m args below meth c Q cf ad sh N nL S pc lv (.long y :: .long x :: st) := fun H locs ls hP hD hS hl => lv_lrem C.1 C.2.1 hd hne (k H locs ls hP hD hS hl)
theorem gm_ishl (C : gm_F p s m args meth c cf ad N cc nL own) {x y : Int32} (hd : decode cc pc = .ok (.ishl, 1)) 
    (k : gm_G p l e R s m args below meth c Q cf ad sh N nL S (pc + 1) lv (.int (x <<< (y &&& 31)) :: st)) : gm_G p l e R s m args below meth c Q cf ad sh N nL S pc lv (.int y :: .int x :: st) := fun H locs ls hP hD hS hl => lv_ishl C.1 C.2.1 hd  (k H locs ls hP hD hS hl)
theorem gm_ishr (C : gm_F p s m args meth c cf ad N cc nL own) {x y : Int32} (hd : decode cc pc = .ok (.ishr, 1)) 
    (k : gm_G p l e R s m args below meth c Q cf ad sh N nL S (pc + 1) lv (.int (x >>> (y &&& 31)) :: st)) : gm_G p l e R s m args below meth c Q cf ad sh N nL S pc lv (.int y :: .int x :: st) := fun H locs ls hP hD hS hl => lv_ishr C.1 C.2.1 hd  (k H locs ls hP hD hS hl)
theorem gm_lushr (C : gm_F p s m args meth c cf ad N cc nL own) {x v : Int64} {y : Int32} (hd : decode cc pc = .ok (.lushr, 1)) (hv : (x.toUInt64 >>> (y.toInt64.toUInt64 &&& Int64.toUInt64 63)).toInt64 = v)
    (k : gm_G p l e R s m args below meth c Q cf ad sh N nL S (pc + 1) lv (.long v :: st)) : gm_G p l e R s m args below meth c Q cf ad sh N nL S pc lv (.int y :: .long x :: st) := fun H locs ls hP hD hS hl => lv_lushr C.1 C.2.1 hd hv (k H locs ls hP hD hS hl)
theorem gm_lshl (C : gm_F p s m args meth c cf ad N cc nL own) {x v : Int64} {y : Int32} (hd : decode cc pc = .ok (.lshl, 1)) (hv : x <<< (y.toInt64 &&& 63) = v)
    (k : gm_G p l e R s m args below meth c Q cf ad sh N nL S (pc + 1) lv (.long v :: st)) : gm_G p l e R s m args below meth c Q cf ad sh N nL S pc lv (.int y :: .long x :: st) := fun H locs ls hP hD hS hl => lv_lshl C.1 C.2.1 hd hv (k H locs ls hP hD hS hl)
theorem gm_lshr (C : gm_F p s m args meth c cf ad N cc nL own) {x v : Int64} {y : Int32} (hd : decode cc pc = .ok (.lshr, 1)) (hv : x >>> (y.toInt64 &&& 63) = v)
    (k : gm_G p l e R s m args below meth c Q cf ad sh N nL S (pc + 1) lv (.long v :: st)) : gm_G p l e R s m args below meth c Q cf ad sh N nL S pc lv (.int y :: .long x :: st) := fun H locs ls hP hD hS hl => lv_lshr C.1 C.2.1 hd hv (k H locs ls hP hD hS hl)
theorem gm_i2l (C : gm_F p s m args meth c cf ad N cc nL own) {x : Int32} {v : Int64} (hd : decode cc pc = .ok (.i2l, 1)) (hv : x.toInt64 = v)
    (k : gm_G p l e R s m args below meth c Q cf ad sh N nL S (pc + 1) lv (.long v :: st)) : gm_G p l e R s m args below meth c Q cf ad sh N nL S pc lv (.int x :: st) := fun H locs ls hP hD hS hl => lv_i2l C.1 C.2.1 hd hv (k H locs ls hP hD hS hl)
theorem gm_l2i (C : gm_F p s m args meth c cf ad N cc nL own) {x : Int64} {v : Int32} (hd : decode cc pc = .ok (.l2i, 1)) (hv : x.toInt32 = v)
    (k : gm_G p l e R s m args below meth c Q cf ad sh N nL S (pc + 1) lv (.int v :: st)) : gm_G p l e R s m args below meth c Q cf ad sh N nL S pc lv (.long x :: st) := fun H locs ls hP hD hS hl => lv_l2i C.1 C.2.1 hd hv (k H locs ls hP hD hS hl)
theorem gm_i2c (C : gm_F p s m args meth c cf ad N cc nL own) {x : Int32} {v : Int32} (hd : decode cc pc = .ok (.i2c, 1)) (hv : (x.toUInt32 % 65536).toInt32 = v)
    (k : gm_G p l e R s m args below meth c Q cf ad sh N nL S (pc + 1) lv (.int v :: st)) : gm_G p l e R s m args below meth c Q cf ad sh N nL S pc lv (.int x :: st) := fun H locs ls hP hD hS hl => lv_i2c C.1 C.2.1 hd hv (k H locs ls hP hD hS hl)
theorem gm_lcmp (C : gm_F p s m args meth c cf ad N cc nL own) {x y : Int64} (hd : decode cc pc = .ok (.lcmp, 1)) 
    (k : gm_G p l e R s m args below meth c Q cf ad sh N nL S (pc + 1) lv (.int (lg_cmp x y) :: st)) : gm_G p l e R s m args below meth c Q cf ad sh N nL S pc lv (.long y :: .long x :: st) := fun H locs ls hP hD hS hl => W.lcmp C.1 C.2.1 hd  (k H locs ls hP hD hS hl)
theorem gm_dup (C : gm_F p s m args meth c cf ad N cc nL own) {va : Value} (hd : decode cc pc = .ok (.dup, 1)) (hva : va.category = 1)
    (k : gm_G p l e R s m args below meth c Q cf ad sh N nL S (pc + 1) lv (va :: va :: st)) : gm_G p l e R s m args below meth c Q cf ad sh N nL S pc lv (va :: st) := fun H locs ls hP hD hS hl => lv_dup C.1 C.2.1 hd hva (k H locs ls hP hD hS hl)
theorem gm_pop (C : gm_F p s m args meth c cf ad N cc nL own) {va : Value} (hd : decode cc pc = .ok (.pop, 1)) (hva : va.category = 1)
    (k : gm_G p l e R s m args below meth c Q cf ad sh N nL S (pc + 1) lv (st)) : gm_G p l e R s m args below meth c Q cf ad sh N nL S pc lv (va :: st) := fun H locs ls hP hD hS hl => lv_pop C.1 C.2.1 hd hva (k H locs ls hP hD hS hl)
theorem gm_dup2_11 (C : gm_F p s m args meth c cf ad N cc nL own) {va vb : Value} (hd : decode cc pc = .ok (.dup2, 1)) (hva : va.category = 1) (hvb : vb.category = 1)
    (k : gm_G p l e R s m args below meth c Q cf ad sh N nL S (pc + 1) lv (va :: vb :: va :: vb :: st)) : gm_G p l e R s m args below meth c Q cf ad sh N nL S pc lv (va :: vb :: st) := fun H locs ls hP hD hS hl => lv_dup2_11 C.1 C.2.1 hd hva hvb (k H locs ls hP hD hS hl)
theorem gm_dup2_2 (C : gm_F p s m args meth c cf ad N cc nL own) {va : Value} (hd : decode cc pc = .ok (.dup2, 1)) (hva : va.category = 2)
    (k : gm_G p l e R s m args below meth c Q cf ad sh N nL S (pc + 1) lv (va :: va :: st)) : gm_G p l e R s m args below meth c Q cf ad sh N nL S pc lv (va :: st) := fun H locs ls hP hD hS hl => lv_dup2_2 C.1 C.2.1 hd hva (k H locs ls hP hD hS hl)
theorem gm_topi {x y : Int32} (h : y = x) (k : gm_G p l e R s m args below meth c Q cf ad sh N nL S pc lv (.int y :: st)) : gm_G p l e R s m args below meth c Q cf ad sh N nL S pc lv (.int x :: st) := h ▸ k
theorem gm_topl {x y : Int64} (h : y = x) (k : gm_G p l e R s m args below meth c Q cf ad sh N nL S pc lv (.long y :: st)) : gm_G p l e R s m args below meth c Q cf ad sh N nL S pc lv (.long x :: st) := h ▸ k
theorem gm_if_eq (C : gm_F p s m args meth c cf ad N cc nL own) {x : Int32} {off : Int} (tgt : Nat) (hd : decode cc pc = .ok (.ifCond .eq off, 3)) (ht : (pc : Int) + off = (tgt : Int))
    (kt : x = 0 → gm_G p l e R s m args below meth c Q cf ad sh N nL S tgt lv st) (kf : ¬ x = 0 → gm_G p l e R s m args below meth c Q cf ad sh N nL S (pc + 3) lv st) : gm_G p l e R s m args below meth c Q cf ad sh N nL S pc lv (.int x :: st) := fun H locs ls hP hD hS hl => lv_if_eq C.1 C.2.1 hd ht (fun h => kt h H locs ls hP hD hS hl) (fun h => kf h H locs ls hP hD hS hl)
theorem gm_icmp_eq (C : gm_F p s m args meth c cf ad N cc nL own) {x y : Int32} {off : Int} (tgt : Nat) (hd : decode cc pc = .ok (.if_icmp .eq off, 3)) (ht : (pc : Int) + off = (tgt : Int))
    (kt : x = y → gm_G p l e R s m args below meth c Q cf ad sh N nL S tgt lv st) (kf : ¬ x = y → gm_G p l e R s m args below meth c Q cf ad sh N nL S (pc + 3) lv st) : gm_G p l e R s m args below meth c Q cf ad sh N nL S pc lv (.int y :: .int x :: st) := fun H locs ls hP hD hS hl => lv_icmp_eq C.1 C.2.1 hd ht (fun h => kt h H locs ls hP hD hS hl) (fun h => kf h H locs ls hP hD hS hl)
theorem gm_if_lt (C : gm_F p s m args meth c cf ad N cc nL own) {x : Int32} {off : Int} (tgt : Nat) (hd : decode cc pc = .ok (.ifCond .lt off, 3)) (ht : (pc : Int) + off = (tgt : Int))
    (kt : x < 0 → gm_G p l e R s m args below meth c Q cf ad sh N nL S tgt lv st) (kf : ¬ x < 0 → gm_G p l e R s m args below meth c Q cf ad sh N nL S (pc + 3) lv st) : gm_G p l e R s m args below meth c Q cf ad sh N nL S pc lv (.int x :: st) := fun H locs ls hP hD hS hl => lv_if_lt C.1 C.2.1 hd ht (fun h => kt h H locs ls hP hD hS hl) (fun h => kf h H locs ls hP hD hS hl)
theorem gm_icmp_lt (C : gm_F p s m args meth c cf ad N cc nL own) {x y : Int32} {off : Int} (tgt : Nat) (hd : decode cc pc = .ok (.if_icmp .lt off, 3)) (ht : (pc : Int) + off = (tgt : Int))
    (kt : x < y → gm_G p l e R s m args below meth c Q cf ad sh N nL S tgt lv st) (kf : ¬ x < y → gm_G p l e R s m args below meth c Q cf ad sh N nL S (pc + 3) lv st) : gm_G p l e R s m args below meth c Q cf ad sh N nL S pc lv (.int y :: .int x :: st) := fun H locs ls hP hD hS hl => lv_icmp_lt C.1 C.2.1 hd ht (fun h => kt h H locs ls hP hD hS hl) (fun h => kf h H locs ls hP hD hS hl)
theorem gm_if_ge (C : gm_F p s m args meth c cf ad N cc nL own) {x : Int32} {off : Int} (tgt : Nat) (hd : decode cc pc = .ok (.ifCond .ge off, 3)) (ht : (pc : Int) + off = (tgt : Int))
    (kt : 0 ≤ x → gm_G p l e R s m args below meth c Q cf ad sh N nL S tgt lv st) (kf : ¬ 0 ≤ x → gm_G p l e R s m args below meth c Q cf ad sh N nL S (pc + 3) lv st) : gm_G p l e R s m args below meth c Q cf ad sh N nL S pc lv (.int x :: st) := fun H locs ls hP hD hS hl => lv_if_ge C.1 C.2.1 hd ht (fun h => kt h H locs ls hP hD hS hl) (fun h => kf h H locs ls hP hD hS hl)
theorem gm_icmp_ge (C : gm_F p s m args meth c cf ad N cc nL own) {x y : Int32} {off : Int} (tgt : Nat) (hd : decode cc pc = .ok (.if_icmp .ge off, 3)) (ht : (pc : Int) + off = (tgt : Int))
    (kt : y ≤ x → gm_G p l e R s m args below meth c Q cf ad sh N nL S tgt lv st) (kf : ¬ y ≤ x → gm_G p l e R s m args below meth c Q cf ad sh N nL S (pc + 3) lv st) : gm_G p l e R s m args below meth c Q cf ad sh N nL S pc lv (.int y :: .int x :: st) := fun H locs ls hP hD hS hl => lv_icmp_ge C.1 C.2.1 hd ht (fun h => kt h H locs ls hP hD hS hl) (fun h => kf h H locs ls hP hD hS hl)
theorem gm_if_gt (C : gm_F p s m args meth c cf ad N cc nL own) {x : Int32} {off : Int} (tgt : Nat) (hd : decode cc pc = .ok (.ifCond .gt off, 3)) (ht : (pc : Int) + off = (tgt : Int))
    (kt : 0 < x → gm_G p l e R s m args below meth c Q cf ad sh N nL S tgt lv st) (kf : ¬ 0 < x → gm_G p l e R s m args below meth c Q cf ad sh N nL S (pc + 3) lv st) : gm_G p l e R s m args below meth c Q cf ad sh N nL S pc lv (.int x :: st) := fun H locs ls hP hD hS hl => lv_if_gt C.1 C.2.1 hd ht (fun h => kt h H locs ls hP hD hS hl) (fun h => kf h H locs ls hP hD hS hl)
theorem gm_icmp_gt (C : gm_F p s m args meth c cf ad N cc nL own) {x y : Int32} {off : Int} (tgt : Nat) (hd : decode cc pc = .ok (.if_icmp .gt off, 3)) (ht : (pc : Int) + off = (tgt : Int))
    (kt : y < x → gm_G p l e R s m args below meth c Q cf ad sh N nL S tgt lv st) (kf : ¬ y < x → gm_G p l e R s m args below meth c Q cf ad sh N nL S (pc + 3) lv st) : gm_G p l e R s m args below meth c Q cf ad sh N nL S pc lv (.int y :: .int x :: st) := fun H locs ls hP hD hS hl => lv_icmp_gt C.1 C.2.1 hd ht (fun h => kt h H locs ls hP hD hS hl) (fun h => kf h H locs ls hP hD hS hl)
theorem gm_if_le (C : gm_F p s m args meth c cf ad N cc nL own) {x : Int32} {off : Int} (tgt : Nat) (hd : decode cc pc = .ok (.ifCond .le off, 3)) (ht : (pc : Int) + off = (tgt : Int))
    (kt : x ≤ 0 → gm_G p l e R s m args below meth c Q cf ad sh N nL S tgt lv st) (kf : ¬ x ≤ 0 → gm_G p l e R s m args below meth c Q cf ad sh N nL S (pc + 3) lv st) : gm_G p l e R s m args below meth c Q cf ad sh N nL S pc lv (.int x :: st) := fun H locs ls hP hD hS hl => lv_if_le C.1 C.2.1 hd ht (fun h => kt h H locs ls hP hD hS hl) (fun h => kf h H locs ls hP hD hS hl)
theorem gm_icmp_le (C : gm_F p s m args meth c cf ad N cc nL own) {x y : Int32} {off : Int} (tgt : Nat) (hd : decode cc pc = .ok (.if_icmp .le off, 3)) (ht : (pc : Int) + off = (tgt : Int))
    (kt : x ≤ y → gm_G p l e R s m args below meth c Q cf ad sh N nL S tgt lv st) (kf : ¬ x ≤ y → gm_G p l e R s m args below meth c Q cf ad sh N nL S (pc + 3) lv st) : gm_G p l e R s m args below meth c Q cf ad sh N nL S pc lv (.int y :: .int x :: st) := fun H locs ls hP hD hS hl => lv_icmp_le C.1 C.2.1 hd ht (fun h => kt h H locs ls hP hD hS hl) (fun h => kf h H locs ls hP hD hS hl)
theorem gm_if_ne (C : gm_F p s m args meth c cf ad N cc nL own) {x : Int32} {off : Int} (tgt : Nat) (hd : decode cc pc = .ok (.ifCond .ne off, 3)) (ht : (pc : Int) + off = (tgt : Int))
    (kt : ¬ x = 0 → gm_G p l e R s m args below meth c Q cf ad sh N nL S tgt lv st) (kf : x = 0 → gm_G p l e R s m args below meth c Q cf ad sh N nL S (pc + 3) lv st) : gm_G p l e R s m args below meth c Q cf ad sh N nL S pc lv (.int x :: st) := fun H locs ls hP hD hS hl => lv_if_ne C.1 C.2.1 hd ht (fun h => kt h H locs ls hP hD hS hl) (fun h => kf h H locs ls hP hD hS hl)
theorem gm_icmp_ne (C : gm_F p s m args meth c cf ad N cc nL own) {x y : Int32} {off : Int} (tgt : Nat) (hd : decode cc pc = .ok (.if_icmp .ne off, 3)) (ht : (pc : Int) + off = (tgt : Int))
    (kt : ¬ x = y → gm_G p l e R s m args below meth c Q cf ad sh N nL S tgt lv st) (kf : x = y → gm_G p l e R s m args below meth c Q cf ad sh N nL S (pc + 3) lv st) : gm_G p l e R s m args below meth c Q cf ad sh N nL S pc lv (.int y :: .int x :: st) := fun H locs ls hP hD hS hl => lv_icmp_ne C.1 C.2.1 hd ht (fun h => kt h H locs ls hP hD hS hl) (fun h => kf h H locs ls hP hD hS hl)
theorem gm_goto (C : gm_F p s m args meth c cf ad N cc nL own) {off : Int} (tgt : Nat) (hd : decode cc pc = .ok (.goto off, 3)) (ht : (pc : Int) + off = (tgt : Int)) (k : gm_G p l e R s m args below meth c Q cf ad sh N nL S tgt lv st) : gm_G p l e R s m args below meth c Q cf ad sh N nL S pc lv st := fun H locs ls hP hD hS hl => lv_goto C.1 C.2.1 hd ht (k H locs ls hP hD hS hl)
theorem gm_tableIn (C : gm_F p s m args meth c cf ad N cc nL own) {dflt lo hi : Int} {offs : Array Int} {len : Nat} {x : Int32} {off : Int} (tgt : Nat) (hd : decode cc pc = .ok (.tableswitch dflt lo hi offs, len)) (h1 : ¬ x.toInt < lo) (h2 : ¬ hi < x.toInt) (ho : offs[(x.toInt - lo).toNat]? = some off) (ht : (pc : Int) + off = (tgt : Int)) (k : gm_G p l e R s m args below meth c Q cf ad sh N nL S tgt lv st) : gm_G p l e R s m args below meth c Q cf ad sh N nL S pc lv (.int x :: st) := fun H locs ls hP hD hS hl => lv_tableIn C.1 C.2.1 hd h1 h2 ho ht (k H locs ls hP hD hS hl)
theorem gm_tableOut (C : gm_F p s m args meth c cf ad N cc nL own) {dflt lo hi : Int} {offs : Array Int} {len : Nat} {x : Int32} (tgt : Nat) (hd : decode cc pc = .ok (.tableswitch dflt lo hi offs, len)) (h : x.toInt < lo ∨ hi < x.toInt) (ht : (pc : Int) + dflt = (tgt : Int)) (k : gm_G p l e R s m args below meth c Q cf ad sh N nL S tgt lv st) : gm_G p l e R s m args below meth c Q cf ad sh N nL S pc lv (.int x :: st) := fun H locs ls hP hD hS hl => lv_tableOut C.1 C.2.1 hd h ht (k H locs ls hP hD hS hl)
theorem gm_lookup (C : gm_F p s m args meth c cf ad N cc nL own) {dflt : Int} {ps : Array (Int × Int)} {len : Nat} {x : Int32} {off : Int} (tgt : Nat) (hd : decode cc pc = .ok (.lookupswitch dflt ps, len)) (hp : (ps.toList.zip (ps.toList.drop 1)).all (fun (a, next) => a.1 < next.1) = true) (ho : Op.lookupswitch.offset ps.toList dflt x.toInt = off) (ht : (pc : Int) + off = (tgt : Int)) (k : gm_G p l e R s m args below meth c Q cf ad sh N nL S tgt lv st) : gm_G p l e R s m args below meth c Q cf ad sh N nL S pc lv (.int x :: st) := fun H locs ls hP hD hS hl => lv_lookup C.1 C.2.1 hd hp ho ht (k H locs ls hP hD hS hl)
theorem gm_ldc (C : gm_F p s m args meth c cf ad N cc nL own) {index : Nat} {v : Int32} (hw : Jvm.Cond.constant own index v ∈ gm_tbl) (hd : decode cc pc = .ok (.ldc index, 2)) (k : gm_G p l e R s m args below meth c Q cf ad sh N nL S (pc + 2) lv (.int v :: st)) : gm_G p l e R s m args below meth c Q cf ad sh N nL S pc lv st := fun H locs ls hP hD hS hl => lv_ldc C.1 C.2.1 C.2.2.2.1 (C.2.2.2.2.1 _ hw) hd (k H locs ls hP hD hS hl)
theorem gm_ldcw (C : gm_F p s m args meth c cf ad N cc nL own) {index : Nat} {v : Int32} (hw : Jvm.Cond.constant own index v ∈ gm_tbl) (hd : decode cc pc = .ok (.ldc_w index, 3)) (k : gm_G p l e R s m args below meth c Q cf ad sh N nL S (pc + 3) lv (.int v :: st)) : gm_G p l e R s m args below meth c Q cf ad sh N nL S pc lv st := fun H locs ls hP hD hS hl => lv_ldcw C.1 C.2.1 C.2.2.2.1 (C.2.2.2.2.1 _ hw) hd (k H locs ls hP hD hS hl)
theorem gm_ldc2 (C : gm_F p s m args meth c cf ad N cc nL own) {index : Nat} {v : Int64} (hw : Jvm.Cond.constantLong own index v ∈ gm_tbl) (hd : decode cc pc = .ok (.ldc2_w index, 3)) (k : gm_G p l e R s m args below meth c Q cf ad sh N nL S (pc + 3) lv (.long v :: st)) : gm_G p l e R s m args below meth c Q cf ad sh N nL S pc lv st := fun H locs ls hP hD hS hl => lv_ldc2 C.1 C.2.1 C.2.2.2.1 (C.2.2.2.2.1 _ hw) hd (k H locs ls hP hD hS hl)
/-- of the class of number ci: its name, its fields, how many, their types; what the tables say of them -/
def gm_kc (ci : Nat) (Cn : String) (T : u_T) (n : Nat) (ty : Nat → FieldType) : Prop := ci < 100 ∧ gm_cls[ci]? = some (Cn, T, n) ∧ (∀ w ∈ u_ws Cn T n, w ∈ gm_tbl) ∧ (∀ k, k < n → parseFieldDescriptor (T k).2.2.1 = some (ty k)) ∧ (∀ a, a < n → ∀ b, b < n → a ≠ b → (T a).2.1 ≠ (T b).2.1)
theorem gm_geti (C : gm_F p s m args meth c cf ad N cc nL own) {t ci n k : Nat} {Cn : String} {T : u_T} {ty : Nat → FieldType} {index : Nat} (hN : t < N) (hk : (sh t).1 = ci) (K : gm_kc ci Cn T n ty) (hf : (gm_fd ci)[k]? = some (0)) (hkn : k < n) (hr : (T k).1 = Cn) (hw : Cond.fieldLink own index Cn (T k).2.1 (T k).2.2.1 ∈ gm_tbl) (hd : decode cc pc = .ok (.getfield index, 3))
    (kk : gm_G p l e R s m args below meth c Q cf ad sh N nL S (pc + 3) lv (.int (S.1 t k) :: st)) : gm_G p l e R s m args below meth c Q cf ad sh N nL S pc lv (.ref (ad t) :: st) := by
  intro H locs ls hP hD hS hl
  refine va_get C.1 C.2.1 C.2.2.2.2.1 K.2.2.1 C.2.2.2.1 C.2.2.2.2.2.1 hP t (by rw [gm_at hN, gm_obj hk K.1]) K.2.1 k hkn (C.2.2.2.2.1 _ hw) (fun x h => by rw [← hr]; exact h) (gm_fs_at hf) hd ?_
  exact kk H locs ls hP hD hS hl
theorem gm_getl (C : gm_F p s m args meth c cf ad N cc nL own) {t ci n k : Nat} {Cn : String} {T : u_T} {ty : Nat → FieldType} {index : Nat} (hN : t < N) (hk : (sh t).1 = ci) (K : gm_kc ci Cn T n ty) (hf : (gm_fd ci)[k]? = some (1)) (hkn : k < n) (hr : (T k).1 = Cn) (hw : Cond.fieldLink own index Cn (T k).2.1 (T k).2.2.1 ∈ gm_tbl) (hd : decode cc pc = .ok (.getfield index, 3))
    (kk : gm_G p l e R s m args below meth c Q cf ad sh N nL S (pc + 3) lv (.long (S.2 t k) :: st)) : gm_G p l e R s m args below meth c Q cf ad sh N nL S pc lv (.ref (ad t) :: st) := by
  intro H locs ls hP hD hS hl
  refine va_get C.1 C.2.1 C.2.2.2.2.1 K.2.2.1 C.2.2.2.1 C.2.2.2.2.2.1 hP t (by rw [gm_at hN, gm_obj hk K.1]) K.2.1 k hkn (C.2.2.2.2.1 _ hw) (fun x h => by rw [← hr]; exact h) (gm_fs_at hf) hd ?_
  exact kk H locs ls hP hD hS hl
theorem gm_getr (C : gm_F p s m args meth c cf ad N cc nL own) {j u : Nat} {t ci n k : Nat} {Cn : String} {T : u_T} {ty : Nat → FieldType} {index : Nat} (hN : t < N) (hk : (sh t).1 = ci) (K : gm_kc ci Cn T n ty) (hf : (gm_fd ci)[k]? = some (j + 2)) (hkn : k < n) (hu : t + j = u) (hr : (T k).1 = Cn) (hw : Cond.fieldLink own index Cn (T k).2.1 (T k).2.2.1 ∈ gm_tbl) (hd : decode cc pc = .ok (.getfield index, 3))
    (kk : gm_G p l e R s m args below meth c Q cf ad sh N nL S (pc + 3) lv (.ref (ad u) :: st)) : gm_G p l e R s m args below meth c Q cf ad sh N nL S pc lv (.ref (ad t) :: st) := by
  intro H locs ls hP hD hS hl
  subst hu
  refine va_get C.1 C.2.1 C.2.2.2.2.1 K.2.2.1 C.2.2.2.1 C.2.2.2.2.2.1 hP t (by rw [gm_at hN, gm_obj hk K.1]) K.2.1 k hkn (C.2.2.2.2.1 _ hw) (fun x h => by rw [← hr]; exact h) (gm_fs_at hf) hd ?_
  exact kk H locs ls hP hD hS hl
theorem gm_puti (C : gm_F p s m args meth c cf ad N cc nL own) {v : Int32} {t ci n k : Nat} {Cn : String} {T : u_T} {ty : Nat → FieldType} {index : Nat} (hN : t < N) (hk : (sh t).1 = ci) (K : gm_kc ci Cn T n ty) (hf : (gm_fd ci)[k]? = some 0) (hkn : k < n) (hr : (T k).1 = Cn) (hfin : (T k).2.2.2 = false) {ty1 : FieldType} (hp : parseFieldDescriptor (T k).2.2.1 = some ty1) (hn : narrow ty1 (.int v) = .int v) (hfit : fits ty1 (.int v) = true) (hw : Cond.fieldLink own index Cn (T k).2.1 (T k).2.2.1 ∈ gm_tbl) (hd : decode cc pc = .ok (.putfield index, 3))
    (kk : gm_G p l e R s m args below meth c Q cf ad sh N nL (gm_ui S t k v) (pc + 3) lv st) : gm_G p l e R s m args below meth c Q cf ad sh N nL S pc lv (.int v :: .ref (ad t) :: st) := by
  intro H locs ls hP hD hS hl
  refine va_put C.1 C.2.1 C.2.2.2.2.1 K.2.2.1 ty K.2.2.2.1 K.2.2.2.2 C.2.2.2.1 C.2.2.2.2.2.1 hP hD hS t (by rw [gm_at hN, gm_obj hk K.1]) K.2.1 k hkn (C.2.2.2.2.1 _ hw) (fun x h => by rw [← hr]; exact h) hfin hp hn hfit (by rw [gm_fs_len]; exact (List.getElem?_eq_some_iff.mp hf).1) hd (fun H1 locs1 hP1 hD1 hS1 => ?_)
  have hs : (gm_fs ad (S.1 t) (S.2 t) t (gm_fd ci)).set k (.int v) = gm_fs ad (upd (S.1 t) k v) (S.2 t) t (gm_fd ci) := by
    rw [← gm_fs_set (I' := upd (S.1 t) k v) (J' := S.2 t) hf (fun j hj => pk_un hj) (fun _ _ => rfl)]
    simp only [gm_fv, pk_us]
  have he := gm_set (cf := cf) (ad := ad) (sh := sh) (S := S) (S' := gm_ui S t k v) (e := .inr (ci, (gm_fs ad (S.1 t) (S.2 t) t (gm_fd ci)).set k (.int v))) hN (by rw [gm_obj hk K.1, hs]; simp only [gm_ui, va_up_self]) (fun j hj => va_up_ne _ _ hj) (fun _ _ => rfl)
  rw [he] at hP1 hD1
  exact kk H1 locs1 ls hP1 hD1 hS1 hl
theorem gm_putl (C : gm_F p s m args meth c cf ad N cc nL own) {v : Int64} {t ci n k : Nat} {Cn : String} {T : u_T} {ty : Nat → FieldType} {index : Nat} (hN : t < N) (hk : (sh t).1 = ci) (K : gm_kc ci Cn T n ty) (hf : (gm_fd ci)[k]? = some 1) (hkn : k < n) (hr : (T k).1 = Cn) (hfin : (T k).2.2.2 = false) {ty1 : FieldType} (hp : parseFieldDescriptor (T k).2.2.1 = some ty1) (hn : narrow ty1 (.long v) = .long v) (hfit : fits ty1 (.long v) = true) (hw : Cond.fieldLink own index Cn (T k).2.1 (T k).2.2.1 ∈ gm_tbl) (hd : decode cc pc = .ok (.putfield index, 3))
    (kk : gm_G p l e R s m args below meth c Q cf ad sh N nL (gm_uj S t k v) (pc + 3) lv st) : gm_G p l e R s m args below meth c Q cf ad sh N nL S pc lv (.long v :: .ref (ad t) :: st) := by
  intro H locs ls hP hD hS hl
  refine va_put C.1 C.2.1 C.2.2.2.2.1 K.2.2.1 ty K.2.2.2.1 K.2.2.2.2 C.2.2.2.1 C.2.2.2.2.2.1 hP hD hS t (by rw [gm_at hN, gm_obj hk K.1]) K.2.1 k hkn (C.2.2.2.2.1 _ hw) (fun x h => by rw [← hr]; exact h) hfin hp hn hfit (by rw [gm_fs_len]; exact (List.getElem?_eq_some_iff.mp hf).1) hd (fun H1 locs1 hP1 hD1 hS1 => ?_)
  have hs : (gm_fs ad (S.1 t) (S.2 t) t (gm_fd ci)).set k (.long v) = gm_fs ad (S.1 t) (vp_updL (S.2 t) k v) t (gm_fd ci) := by
    rw [← gm_fs_set (I' := S.1 t) (J' := vp_updL (S.2 t) k v) hf (fun _ _ => rfl) (fun j hj => pk_uLn hj)]
    simp only [gm_fv, pk_uLs]
  have he := gm_set (cf := cf) (ad := ad) (sh := sh) (S := S) (S' := gm_uj S t k v) (e := .inr (ci, (gm_fs ad (S.1 t) (S.2 t) t (gm_fd ci)).set k (.long v))) hN (by rw [gm_obj hk K.1, hs]; simp only [gm_uj, va_up_self]) (fun _ _ => rfl) (fun j hj => va_up_ne _ _ hj)
  rw [he] at hP1 hD1
  exact kk H1 locs1 ls hP1 hD1 hS1 hl
theorem gm_iald (C : gm_F p s m args meth c cf ad N cc nL own) {t n : Nat} {i : Int32} (hN : t < N) (hk : (sh t).1 = 100) (hn : (sh t).2.1 = n) (hin : vp_in i n) (hd : decode cc pc = .ok (.iaload, 1))
    (kk : gm_G p l e R s m args below meth c Q cf ad sh N nL S (pc + 1) lv (.int (S.1 t i.toNatClampNeg) :: st)) : gm_G p l e R s m args below meth c Q cf ad sh N nL S pc lv (.int i :: .ref (ad t) :: st) := fun H locs ls hP hD hS hl => va_iald C.1 C.2.1 C.2.2.2.2.2.1 hP t 0 (by rw [gm_at hN, gm_iarr (k := 0) hk (by decide) hn]) rfl hin hd (kk H locs ls hP hD hS hl)
theorem gm_cald (C : gm_F p s m args meth c cf ad N cc nL own) {t n : Nat} {i : Int32} (hN : t < N) (hk : (sh t).1 = 101) (hn : (sh t).2.1 = n) (hin : vp_in i n) (hd : decode cc pc = .ok (.caload, 1))
    (kk : gm_G p l e R s m args below meth c Q cf ad sh N nL S (pc + 1) lv (.int (S.1 t i.toNatClampNeg) :: st)) : gm_G p l e R s m args below meth c Q cf ad sh N nL S pc lv (.int i :: .ref (ad t) :: st) := fun H locs ls hP hD hS hl => va_cald C.1 C.2.1 C.2.2.2.2.2.1 hP t 1 (by rw [gm_at hN, gm_iarr (k := 1) hk (by decide) hn]) rfl hin hd (kk H locs ls hP hD hS hl)
theorem gm_zald (C : gm_F p s m args meth c cf ad N cc nL own) {t n : Nat} {i : Int32} (hN : t < N) (hk : (sh t).1 = 102) (hn : (sh t).2.1 = n) (hin : vp_in i n) (hd : decode cc pc = .ok (.baload, 1))
    (kk : gm_G p l e R s m args below meth c Q cf ad sh N nL S (pc + 1) lv (.int (S.1 t i.toNatClampNeg) :: st)) : gm_G p l e R s m args below meth c Q cf ad sh N nL S pc lv (.int i :: .ref (ad t) :: st) := fun H locs ls hP hD hS hl => va_zald C.1 C.2.1 C.2.2.2.2.2.1 hP t 2 (by rw [gm_at hN, gm_iarr (k := 2) hk (by decide) hn]) rfl hin hd (kk H locs ls hP hD hS hl)
theorem gm_iast (C : gm_F p s m args meth c cf ad N cc nL own) {t n : Nat} {i x : Int32} (hN : t < N) (hk : (sh t).1 = 100) (hn : (sh t).2.1 = n) (hin : vp_in i n) (hd : decode cc pc = .ok (.iastore, 1))
    (kk : gm_G p l e R s m args below meth c Q cf ad sh N nL (gm_ui S t i.toNatClampNeg x) (pc + 1) lv st) : gm_G p l e R s m args below meth c Q cf ad sh N nL S pc lv (.int x :: .int i :: .ref (ad t) :: st) := by
  intro H locs ls hP hD hS hl
  refine va_iast C.1 C.2.1 C.2.2.2.2.2.1 hP hD hS t 0 (by rw [gm_at hN, gm_iarr (k := 0) hk (by decide) hn]) rfl hin hd (fun H1 locs1 hP1 hD1 hS1 => ?_)
  have he := gm_set (cf := cf) (ad := ad) (sh := sh) (S := S) (S' := gm_ui S t i.toNatClampNeg x) (e := .inl (cf.2 0, n, .inl (upd (S.1 t) i.toNatClampNeg x))) hN (by rw [gm_iarr (k := 0) hk (by decide) hn]; simp only [gm_ui, va_up_self]) (fun j hj => va_up_ne _ _ hj) (fun _ _ => rfl)
  rw [he] at hP1 hD1
  exact kk H1 locs1 ls hP1 hD1 hS1 hl
theorem gm_cast (C : gm_F p s m args meth c cf ad N cc nL own) {t n : Nat} {i x : Int32} (hN : t < N) (hk : (sh t).1 = 101) (hn : (sh t).2.1 = n) (hin : vp_in i n) (hd : decode cc pc = .ok (.castore, 1))
    (kk : gm_G p l e R s m args below meth c Q cf ad sh N nL (gm_ui S t i.toNatClampNeg (vp_nar .char x)) (pc + 1) lv st) : gm_G p l e R s m args below meth c Q cf ad sh N nL S pc lv (.int x :: .int i :: .ref (ad t) :: st) := by
  intro H locs ls hP hD hS hl
  refine va_cast C.1 C.2.1 C.2.2.2.2.2.1 hP hD hS t 1 (by rw [gm_at hN, gm_iarr (k := 1) hk (by decide) hn]) rfl hin hd (fun H1 locs1 hP1 hD1 hS1 => ?_)
  have he := gm_set (cf := cf) (ad := ad) (sh := sh) (S := S) (S' := gm_ui S t i.toNatClampNeg (vp_nar .char x)) (e := .inl (cf.2 1, n, .inl (upd (S.1 t) i.toNatClampNeg (vp_nar .char x)))) hN (by rw [gm_iarr (k := 1) hk (by decide) hn]; simp only [gm_ui, va_up_self]) (fun j hj => va_up_ne _ _ hj) (fun _ _ => rfl)
  rw [he] at hP1 hD1
  exact kk H1 locs1 ls hP1 hD1 hS1 hl
theorem gm_zast (C : gm_F p s m args meth c cf ad N cc nL own) {t n : Nat} {i x : Int32} (hN : t < N) (hk : (sh t).1 = 102) (hn : (sh t).2.1 = n) (hin : vp_in i n) (hd : decode cc pc = .ok (.bastore, 1))
    (kk : gm_G p l e R s m args below meth c Q cf ad sh N nL (gm_ui S t i.toNatClampNeg (vp_nar .boolean x)) (pc + 1) lv st) : gm_G p l e R s m args below meth c Q cf ad sh N nL S pc lv (.int x :: .int i :: .ref (ad t) :: st) := by
  intro H locs ls hP hD hS hl
  refine va_zast C.1 C.2.1 C.2.2.2.2.2.1 hP hD hS t 2 (by rw [gm_at hN, gm_iarr (k := 2) hk (by decide) hn]) rfl hin hd (fun H1 locs1 hP1 hD1 hS1 => ?_)
  have he := gm_set (cf := cf) (ad := ad) (sh := sh) (S := S) (S' := gm_ui S t i.toNatClampNeg (vp_nar .boolean x)) (e := .inl (cf.2 2, n, .inl (upd (S.1 t) i.toNatClampNeg (vp_nar .boolean x)))) hN (by rw [gm_iarr (k := 2) hk (by decide) hn]; simp only [gm_ui, va_up_self]) (fun j hj => va_up_ne _ _ hj) (fun _ _ => rfl)
  rw [he] at hP1 hD1
  exact kk H1 locs1 ls hP1 hD1 hS1 hl
theorem gm_lald (C : gm_F p s m args meth c cf ad N cc nL own) {t n : Nat} {i : Int32} (hN : t < N) (hk : (sh t).1 = 103) (hn : (sh t).2.1 = n) (hin : vp_in i n) (hd : decode cc pc = .ok (.laload, 1))
    (kk : gm_G p l e R s m args below meth c Q cf ad sh N nL S (pc + 1) lv (.long (S.2 t i.toNatClampNeg) :: st)) : gm_G p l e R s m args below meth c Q cf ad sh N nL S pc lv (.int i :: .ref (ad t) :: st) := fun H locs ls hP hD hS hl => va_lald C.1 C.2.1 C.2.2.2.2.2.1 hP t 3 (by rw [gm_at hN, gm_larr hk hn]) rfl hin hd (kk H locs ls hP hD hS hl)
theorem gm_last (C : gm_F p s m args meth c cf ad N cc nL own) {t n : Nat} {i : Int32} {x : Int64} (hN : t < N) (hk : (sh t).1 = 103) (hn : (sh t).2.1 = n) (hin : vp_in i n) (hd : decode cc pc = .ok (.lastore, 1))
    (kk : gm_G p l e R s m args below meth c Q cf ad sh N nL (gm_uj S t i.toNatClampNeg x) (pc + 1) lv st) : gm_G p l e R s m args below meth c Q cf ad sh N nL S pc lv (.long x :: .int i :: .ref (ad t) :: st) := by
  intro H locs ls hP hD hS hl
  refine va_last C.1 C.2.1 C.2.2.2.2.2.1 hP hD hS t 3 (by rw [gm_at hN, gm_larr hk hn]) rfl hin hd (fun H1 locs1 hP1 hD1 hS1 => ?_)
  have he := gm_set (cf := cf) (ad := ad) (sh := sh) (S := S) (S' := gm_uj S t i.toNatClampNeg x) (e := .inl (cf.2 3, n, .inr (.inl (vp_updL (S.2 t) i.toNatClampNeg x)))) hN (by rw [gm_larr hk hn]; simp only [gm_uj, va_up_self]) (fun _ _ => rfl) (fun j hj => va_up_ne _ _ hj)
  rw [he] at hP1 hD1
  exact kk H1 locs1 ls hP1 hD1 hS1 hl
theorem gm_aald (C : gm_F p s m args meth c cf ad N cc nL own) {t k n b d : Nat} {i : Int32} {ty : FieldType} (hN : t < N) (hk : sh t = (100 + k, n, b, d)) (h4 : 4 ≤ k) (hty : (gm_tys cf)[k]? = some (cf.2 k, ty)) (href : ty.isReference = true) (hin : vp_in i n) (hd : decode cc pc = .ok (.aaload, 1))
    (kk : gm_G p l e R s m args below meth c Q cf ad sh N nL S (pc + 1) lv (.ref (ad (b + d * i.toNatClampNeg)) :: st)) : gm_G p l e R s m args below meth c Q cf ad sh N nL S pc lv (.int i :: .ref (ad t) :: st) := by
  intro H locs ls hP hD hS hl
  have hlt : i.toNatClampNeg < n := Nat.not_le.mp fun q => hin (Or.inr q)
  have ha := gm_at (cf := cf) (ad := ad) (sh := sh) (S := S) hN
  rw [gm_rarr hk h4] at ha
  exact W.aald (v := va_rf (some (ad (b + d * i.toNatClampNeg)))) (ty := ty) C.1 C.2.1 (hP t _ ha) ((C.2.2.2.2.2.1.2 k _ hty).1 n (fun j => va_rf (some (ad (b + d * j))))) href (fun q => by cases q) (by show ¬ (i < 0 ∨ (arrV _ _ _).slots.size ≤ _); rw [arrV_size]; exact hin) (by show (arrV _ _ _).slots[_]? = _; rw [arrV_read _ _ hlt]) rfl rfl hd (kk H locs ls hP hD hS hl)
theorem gm_alen (C : gm_F p s m args meth c cf ad N cc nL own) {t n : Nat} {v : Int32} (hN : t < N) (hk : (sh t).1 = 100) (hn : (sh t).2.1 = n) (hv : Int32.ofNat n = v) (hd : decode cc pc = .ok (.arraylength, 1))
    (kk : gm_G p l e R s m args below meth c Q cf ad sh N nL S (pc + 1) lv (.int v :: st)) : gm_G p l e R s m args below meth c Q cf ad sh N nL S pc lv (.ref (ad t) :: st) := fun H locs ls hP hD hS hl => va_alen C.1 C.2.1 C.2.2.2.2.2.1 hP t 0 (by rw [gm_at hN, gm_iarr (k := 0) hk (by decide) hn]) rfl hv hd (kk H locs ls hP hD hS hl)
theorem gm_copy (C : gm_F p s m args meth c cf ad N cc nL own) {t0 t1 n : Nat} {index : Nat} {v : Int32} (hN0 : t0 < N) (hk0 : (sh t0).1 = 100) (hn0 : (sh t0).2.1 = n) (hN1 : t1 < N) (hk1 : (sh t1).1 = 100) (hn1 : (sh t1).2.1 = n) (h3 : ¬ v < 0) (hv : v.toNatClampNeg = n) (hw : Cond.methodLink own index arraycopyName ∈ gm_tbl) (hw2 : Cond.native arraycopyName ∈ gm_tbl) (hw3 : Cond.static arraycopyName ∈ gm_tbl) (hw4 : Cond.initialized "java/lang/System" ∈ gm_tbl) (hfr : 1 ≤ R.frames) (hlo : (st.map fun v => v.category).sum + (nativeFrameWords "java/lang/System" "arraycopy" 5 + 11) ≤ R.locals) (hd : decode cc pc = .ok (.invokestatic index, 3))
    (kk : gm_G p l e R s m args below meth c Q cf ad sh N nL (gm_uf S t1 (va_cpy (S.1 t0) (S.1 t1) 0 0 n)) (pc + 3) lv st) : gm_G p l e R s m args below meth c Q cf ad sh N nL S pc lv (.int v :: .int 0 :: .ref (ad t1) :: .int 0 :: .ref (ad t0) :: st) := by
  intro H locs ls hP hD hS hl
  refine va_copyi C.1 C.2.1 (C.2.2.1.trans hl.1.symm) C.2.2.2.1 (C.2.2.2.2.1 _ hw) (C.2.2.2.2.1 _ hw2) (C.2.2.2.2.1 _ hw3) (C.2.2.2.2.1 _ hw4) C.2.2.2.2.2.1 hP hD hS t0 t1 0 0 (by rw [gm_at hN0, gm_iarr (k := 0) hk0 (by decide) hn0]) (by rw [gm_at hN1, gm_iarr (k := 0) hk1 (by decide) hn1]) rfl rfl rfl (by decide) (by decide) h3 (by rw [hv, sb_cl0]; omega) (by rw [hv, sb_cl0]; omega) (fun _ _ => rfl) hfr hlo hd (fun H1 locs1 hP1 hD1 hS1 => ?_)
  rw [sb_cl0, hv] at hP1 hD1
  have he := gm_set (cf := cf) (ad := ad) (sh := sh) (S := S) (S' := gm_uf S t1 (va_cpy (S.1 t0) (S.1 t1) 0 0 n)) (e := .inl (cf.2 0, n, .inl (va_cpy (S.1 t0) (S.1 t1) 0 0 n))) hN1 (by rw [gm_iarr (k := 0) hk1 (by decide) hn1]; simp only [gm_uf, va_up_self]) (fun j hj => va_up_ne _ _ hj) (fun _ _ => rfl)
  rw [he] at hP1 hD1
  exact kk H1 locs1 ls hP1 hD1 hS1 hl
theorem gm_least (C : gm_F p s m args meth c cf ad N cc nL own) {index : Nat} (hw : Cond.fieldLink own index RX6 "LEAST_A" "[I" ∈ gm_tbl) (hd : decode cc pc = .ok (.getstatic index, 3)) (kk : ∀ t : Nat, va_T .int t 5 (fun j => .int (gm_la j)) (gm_A ad N) s s.heap → gm_G p l e R s m args below meth c Q cf ad sh N nL S (pc + 3) lv (.ref t :: st)) : gm_G p l e R s m args below meth c Q cf ad sh N nL S pc lv st := by
  intro H locs ls hP hD hS hl
  obtain ⟨t, h1, h2⟩ := C.2.2.2.2.2.2.2.1
  exact va_gets C.1 C.2.1 h1 hS C.2.2.2.1 (C.2.2.2.2.1 _ hw) (fun x h => h) hd (kk t h2 H locs ls hP hD hS hl)
theorem gm_great (C : gm_F p s m args meth c cf ad N cc nL own) {index : Nat} (hw : Cond.fieldLink own index RX6 "GREATEST_A" "[I" ∈ gm_tbl) (hd : decode cc pc = .ok (.getstatic index, 3)) (kk : ∀ t : Nat, va_T .int t 5 (fun j => .int (gm_ga j)) (gm_A ad N) s s.heap → gm_G p l e R s m args below meth c Q cf ad sh N nL S (pc + 3) lv (.ref t :: st)) : gm_G p l e R s m args below meth c Q cf ad sh N nL S pc lv st := by
  intro H locs ls hP hD hS hl
  obtain ⟨t, h1, h2⟩ := C.2.2.2.2.2.2.2.2
  exact va_gets C.1 C.2.1 h1 hS C.2.2.2.1 (C.2.2.2.2.1 _ hw) (fun x h => h) hd (kk t h2 H locs ls hP hD hS hl)
theorem gm_tald (C : gm_F p s m args meth c cf ad N cc nL own) {t n : Nat} {f : Nat → Int32} {i : Int32} (hT : va_T .int t n (fun j => .int (f j)) (gm_A ad N) s s.heap) (hin : vp_in i n) (hd : decode cc pc = .ok (.iaload, 1)) (kk : gm_G p l e R s m args below meth c Q cf ad sh N nL S (pc + 1) lv (.int (f i.toNatClampNeg) :: st)) : gm_G p l e R s m args below meth c Q cf ad sh N nL S pc lv (.int i :: .ref t :: st) := fun H locs ls hP hD hS hl => va_ti C.1 C.2.1 hT hS hin rfl hd (kk H locs ls hP hD hS hl)
theorem gm_mmax (C : gm_F p s m args meth c cf ad N cc nL own) {index : Nat} {x y : Int32} (hw : Cond.methodLink own index Lib.Math.max.name ∈ gm_tbl) (hw2 : Cond.static Lib.Math.max.name ∈ gm_tbl) (hw3 : Cond.initialized "java/lang/Math" ∈ gm_tbl) (hw4 : Cond.code Lib.Math.max.name Lib.Math.max.code 2 (some .int) ∈ gm_tbl) (hfr : 1 ≤ R.frames) (hlo : (st.map fun v => v.category).sum + 13 ≤ R.locals) (hd : decode cc pc = .ok (.invokestatic index, 3)) (kk : gm_G p l e R s m args below meth c Q cf ad sh N nL S (pc + 3) lv (.int (if x < y then y else x) :: st)) : gm_G p l e R s m args below meth c Q cf ad sh N nL S pc lv (.int y :: .int x :: st) := fun H locs ls hP hD hS hl => va_mmax C.1 C.2.1 (C.2.2.1.trans hl.1.symm) C.2.2.2.1 (C.2.2.2.2.1 _ hw) (C.2.2.2.2.1 _ hw2) (C.2.2.2.2.1 _ hw3) (C.2.2.2.2.1 _ hw4) hfr hlo (Nat.zero_le _) (Nat.zero_le _) hd (kk H locs ls hP hD hS hl)
theorem gm_mmin (C : gm_F p s m args meth c cf ad N cc nL own) {index : Nat} {x y : Int32} (hw : Cond.methodLink own index Lib.Math.min.name ∈ gm_tbl) (hw2 : Cond.static Lib.Math.min.name ∈ gm_tbl) (hw3 : Cond.initialized "java/lang/Math" ∈ gm_tbl) (hw4 : Cond.code Lib.Math.min.name Lib.Math.min.code 2 (some .int) ∈ gm_tbl) (hfr : 1 ≤ R.frames) (hlo : (st.map fun v => v.category).sum + 13 ≤ R.locals) (hd : decode cc pc = .ok (.invokestatic index, 3)) (kk : gm_G p l e R s m args below meth c Q cf ad sh N nL S (pc + 3) lv (.int (if y < x then y else x) :: st)) : gm_G p l e R s m args below meth c Q cf ad sh N nL S pc lv (.int y :: .int x :: st) := fun H locs ls hP hD hS hl => va_mmin C.1 C.2.1 (C.2.2.1.trans hl.1.symm) C.2.2.2.1 (C.2.2.2.2.1 _ hw) (C.2.2.2.2.1 _ hw2) (C.2.2.2.2.1 _ hw3) (C.2.2.2.2.1 _ hw4) hfr hlo (Nat.zero_le _) (Nat.zero_le _) hd (kk H locs ls hP hD hS hl)
theorem gm_mabs (C : gm_F p s m args meth c cf ad N cc nL own) {index : Nat} {x : Int32} (hw : Cond.methodLink own index Lib.Math.abs.name ∈ gm_tbl) (hw2 : Cond.static Lib.Math.abs.name ∈ gm_tbl) (hw3 : Cond.initialized "java/lang/Math" ∈ gm_tbl) (hw4 : Cond.code Lib.Math.abs.name Lib.Math.abs.code 1 (some .int) ∈ gm_tbl) (hfr : 1 ≤ R.frames) (hlo : (st.map fun v => v.category).sum + 13 ≤ R.locals) (hd : decode cc pc = .ok (.invokestatic index, 3)) (kk : gm_G p l e R s m args below meth c Q cf ad sh N nL S (pc + 3) lv (.int (if 0 ≤ x then x else 0 - x) :: st)) : gm_G p l e R s m args below meth c Q cf ad sh N nL S pc lv (.int x :: st) := fun H locs ls hP hD hS hl => va_mabs C.1 C.2.1 (C.2.2.1.trans hl.1.symm) C.2.2.2.1 (C.2.2.2.2.1 _ hw) (C.2.2.2.2.1 _ hw2) (C.2.2.2.2.1 _ hw3) (C.2.2.2.2.1 _ hw4) hfr hlo (Nat.zero_le _) (Nat.zero_le _) hd (kk H locs ls hP hD hS hl)
end GR
section GE
variable {p : Program} {l : Launch} {e : Env} {R : Room} {s : State} {m : MethodId} {args : Array Value} {below : List Frame} {meth : Method} {c : Code} {cf : gm_C} {ad : Nat → Nat} {sh : gm_H} {N nL : Nat} {S S' : gm_M} {pc : Nat} {lv : List (Nat × Value)} {cc : ByteArray} {own : String}
theorem gm_iret (C : gm_F p s m args meth c cf ad N cc nL own) {v r : Int32} {ty : FieldType} (hr : meth.sig.returnType = some ty) (hn : narrow ty (.int v) = .int v) (hd : decode cc pc = .ok (.ireturn, 1)) (hf : some (v, S) = some (r, S')) : gm_G p l e R s m args below meth c (MQ below (gm_Q cf ad sh N (some (.int r)) S') args s 0 0 (gm_A ad N)) cf ad sh N nL S pc lv [.int v] := by
  cases hf
  intro H locs ls hP hD hS hl
  exact W.zret C.1 C.2.1 hr hn (fun t ht hW => ⟨rfl, by rw [ht]; exact hP, hD, hS.F ht⟩) hS.2.2 hd C.2.2.2.2.2.2.1
theorem gm_lret (C : gm_F p s m args meth c cf ad N cc nL own) {v r : Int64} (hr : meth.sig.returnType = some .long) (hd : decode cc pc = .ok (.lreturn, 1)) (hf : some (v, S) = some (r, S')) : gm_G p l e R s m args below meth c (MQ below (gm_Q cf ad sh N (some (.long r)) S') args s 0 0 (gm_A ad N)) cf ad sh N nL S pc lv [.long v] := by
  cases hf
  intro H locs ls hP hD hS hl
  exact W.lret C.1 C.2.1 hr (fun t ht hW => ⟨rfl, by rw [ht]; exact hP, hD, hS.F ht⟩) hS.2.2 hd C.2.2.2.2.2.2.1
theorem gm_vret (C : gm_F p s m args meth c cf ad N cc nL own) (hr : meth.sig.returnType = none) (hd : decode cc pc = .ok (.return_, 1)) (hf : some S = some S') : gm_G p l e R s m args below meth c (MQ below (gm_Q cf ad sh N none S') args s 0 0 (gm_A ad N)) cf ad sh N nL S pc lv [] := by
  cases hf
  intro H locs ls hP hD hS hl
  exact W.vret C.1 C.2.1 hr (fun t ht hW => ⟨rfl, by rw [ht]; exact hP, hD, hS.F ht⟩) hS.2.2 hd C.2.2.2.2.2.2.1
end GE
theorem gm_good : ∀ w ∈ gm_tbl, (w.onTables && w.keeps) = true ∨ ∃ ty, w = .arrayClass ty := fun w h => good_of_word (List.mem_filter.mp h).2
theorem gm_goodIn {ws : List Cond} (h : ∀ w ∈ ws, w ∈ gm_tbl) : GoodIn gm_tbl ws := fun w hw => ⟨h w hw, gm_good w (h w hw)⟩
/-- what the tables say of a method that is called -/
def gm_y (y : MethodName) (b : ByteArray) (maxL : Nat) (ret : Option FieldType) (n : Nat) : Prop := Cond.code y b maxL ret ∈ gm_tbl ∧ Cond.initialized y.cls ∈ gm_tbl ∧ y.cls ≠ "java/lang/invoke/MethodHandle" ∧ y.cls ≠ "java/lang/invoke/VarHandle" ∧ (parseMethodDescriptor y.desc).map (fun d => d.parameters.length) = some n
def gm_yv (y : MethodName) (b : ByteArray) (maxL : Nat) (ret : Option FieldType) (n : Nat) : Prop := gm_y y b maxL ret n ∧ Cond.instanceMethod y ∈ gm_tbl ∧ Cond.selects y.cls y y ∈ gm_tbl
def gm_ys (y : MethodName) (b : ByteArray) (maxL : Nat) (ret : Option FieldType) (n : Nat) : Prop := gm_y y b maxL ret n ∧ Cond.static y ∈ gm_tbl
section GC
variable {p : Program} {l : Launch} {e : Env} {R : Room} {s : State} {m : MethodId} {args : Array Value} {below : List Frame} {meth : Method} {c : Code} {Q : State → Prop} {cf : gm_C} {ad : Nat → Nat} {sh : gm_H} {N nL : Nat} {S S1 : gm_M} {pc : Nat} {lv : List (Nat × Value)} {st rest : List Value} {cc : ByteArray} {own : String} {y : MethodName} {b : ByteArray} {maxL n index fr lo : Nat} {ret : Option FieldType} {As : List Value} {rv : Option Value}
/-- behind a call: the callee's memory -/
theorem gm_after {H : Heap} {locs : List Loc} {ls : Array Slot} {avs : Array Value} (hl : lv_has ls nL lv) (hS : va_S (gm_A ad N) s.heap H locs) (hr : va_Run p l e R s m args below meth c H locs 0 0 0 0 (F0 m pc ls st) rest (gm_Q cf ad sh N rv S1 avs) (gm_A ad N))
    (kk : gm_G p l e R s m args below meth c Q cf ad sh N nL S1 (pc + 3) lv (rv.toList ++ rest)) : W p l e R s m args below meth c H locs 0 0 Q (F0 m pc ls st) := by
  intro T hT X
  obtain ⟨v, st₀, t, T', L, h0, X', hL, e1, e2, ⟨hv, hP1, hD1, hz, hk⟩, go⟩ := hr T hT X
  cases hv
  rw [h0] at hz hk
  rw [← e1] at hP1 hz hk
  obtain ⟨t2, a1, b1⟩ := kk T'.heap (locs ++ L) ls hP1 hD1 ⟨Nat.le_trans hS.1 hz, fun q h1 h2 => by rw [hk q (Nat.lt_of_lt_of_le h1 hS.1) h2]; exact hS.2.1 q h1 h2, fun q hq => by
      rcases List.mem_append.mp hq with h | h
      · exact hS.2.2 q h
      · exact hL q h⟩ hl T' rfl X'
  exact ⟨t2, go t2 a1, b1⟩
theorem gm_pre {H : Heap} {locs : List Loc} {avs : List Value} (hK : va_K cf.1 gm_cls (gm_tys cf) s) (hZ : gm_Z (gm_A ad N) s s.heap) (hP : va_P cf.1 gm_cls (gm_W cf ad sh N S) H) (hD : va_D (gm_A ad N) (gm_W cf ad sh N S)) (hS : va_S (gm_A ad N) s.heap H locs) : ∀ U : State, U.heap = H → s.WarmedH U.vm → gm_P cf ad sh N avs S avs.toArray U := by
  intro U hU hW
  refine ⟨rfl, by rw [hU]; exact hP, va_K.moved hW.alike hK, hD, ?_⟩
  rw [hU]
  exact (hZ.kept hS.2.1).moved hW.alike
theorem gm_callV (C : gm_F p s m args meth c cf ad N cc nL own) {t ci : Nat} {Cn : String} {T : u_T} {nf : Nat} {ty : Nat → FieldType} (hM : gm_Met l y b maxL ret fr lo cf ad sh N (.ref (ad t) :: As) S rv S1) (hN : t < N) (hk : (sh t).1 = ci) (K : gm_kc ci Cn T nf ty) (hy : gm_yv y b maxL ret n) (hc : y.cls = Cn) (hw : Cond.methodLink own index y ∈ gm_tbl) (hn : As.length = n) (hR : fr + 1 ≤ R.frames ∧ 8 + (maxL + 11) + lo ≤ R.locals) (hst : st = As.reverse ++ .ref (ad t) :: rest) (hro : (rest.map fun v => v.category).sum ≤ 8) (hd : decode cc pc = .ok (.invokevirtual index, 3))
    (kk : gm_G p l e R s m args below meth c Q cf ad sh N nL S1 (pc + 3) lv (rv.toList ++ rest)) : gm_G p l e R s m args below meth c Q cf ad sh N nL S pc lv st := by
  intro H locs ls hP hD hS hl
  subst hst
  subst hc
  have he := gm_at (cf := cf) (ad := ad) (sh := sh) (S := S) hN
  rw [gm_obj hk K.1] at he
  refine gm_after hl hS (va_runV (Ts := gm_tbl) (own := own) (C := y.cls) ⟨C.1, C.2.1, C.2.2.1, C.2.2.2.1, C.2.2.2.2.1⟩ hM (cwV n C.2.2.2.2.1 (gm_goodIn (fun w h => ?_)) rfl rfl rfl ⟨rfl, hy.1.2.2⟩ hR) ⟨gm_P_blind, va_recv C.2.2.2.2.2.1 hP K.2.1 he, gm_pre C.2.2.2.2.2.1 C.2.2.2.2.2.2.2 hP hD hS⟩ rfl hn hl.1 rfl (lv_room hro) hd ⟨Nat.zero_le _, Nat.zero_le _⟩) kk
  unfold wsV at h
  rcases List.mem_append.mp h with h | h
  · rcases List.mem_cons.mp h with h | h
    · rw [h]; exact hw
    rcases List.mem_cons.mp h with h | h
    · rw [h]; exact hy.2.1
    rcases List.mem_cons.mp h with h | h
    · rw [h]; exact hy.2.2
    rw [List.mem_singleton.mp h]; exact hy.1.2.1
  · rcases List.mem_cons.mp h with h | h
    · rw [h]; exact hy.1.1
    · exact h
theorem gm_callS (C : gm_F p s m args meth c cf ad N cc nL own) (hM : gm_Met l y b maxL ret fr lo cf ad sh N As S rv S1) (hy : gm_ys y b maxL ret n) (hw : Cond.methodLink own index y ∈ gm_tbl) (hn : As.length = n) (hR : fr + 1 ≤ R.frames ∧ 8 + (maxL + 11) + lo ≤ R.locals) (hst : st = As.reverse ++ rest) (hro : (rest.map fun v => v.category).sum ≤ 8) (hd : decode cc pc = .ok (.invokestatic index, 3))
    (kk : gm_G p l e R s m args below meth c Q cf ad sh N nL S1 (pc + 3) lv (rv.toList ++ rest)) : gm_G p l e R s m args below meth c Q cf ad sh N nL S pc lv st := by
  intro H locs ls hP hD hS hl
  subst hst
  refine gm_after hl hS (va_runS (Ts := gm_tbl) (own := own) ⟨C.1, C.2.1, C.2.2.1, C.2.2.2.1, C.2.2.2.2.1⟩ hM (va_cwS n C.2.2.2.2.1 (gm_goodIn (fun w h => ?_)) rfl rfl rfl hy.1.2.2 hR) ⟨gm_P_blind, gm_pre C.2.2.2.2.2.1 C.2.2.2.2.2.2.2 hP hD hS⟩ rfl hn hl.1 rfl (lv_room hro) hd ⟨Nat.zero_le _, Nat.zero_le _⟩) kk
  unfold va_wsS at h
  rcases List.mem_append.mp h with h | h
  · rcases List.mem_cons.mp h with h | h
    · rw [h]; exact hw
    rcases List.mem_cons.mp h with h | h
    · rw [h]; exact hy.2
    rw [List.mem_singleton.mp h]; exact hy.1.2.1
  · rcases List.mem_cons.mp h with h | h
    · rw [h]; exact hy.1.1
    · exact h
end GC
/-! words of the pure programs -/
def gm_lt {α β : Type} (x : α) (k : α → Option β) : Option β := k x
def gm_ck {β : Type} (i : Int32) (n : Nat) (k : Option β) : Option β := if 0 ≤ i.toInt ∧ i.toInt < n then k else none
def gm_b1 {β : Type} (x : Option Int32) (k : Int32 → Option β) : Option β := match x with
  | none => none
  | some v => k v
def gm_b2 {β : Type} (x : Option (Int32 × gm_M)) (k : Int32 → gm_M → Option β) : Option β := match x with
  | none => none
  | some v => k v.1 v.2
def gm_b3 {β : Type} (x : Option gm_M) (k : gm_M → Option β) : Option β := match x with
  | none => none
  | some v => k v
def gm_b4 {β : Type} (x : Option Int64) (k : Int64 → Option β) : Option β := match x with
  | none => none
  | some v => k v
theorem gm_lt_s {α β : Type} {x : α} {k : α → Option β} {r : β} (h : gm_lt x k = some r) : ∃ y, y = x ∧ k y = some r := ⟨x, rfl, h⟩
theorem gm_ck_s {β : Type} {i : Int32} {n : Nat} {k : Option β} {r : β} (h : gm_ck i n k = some r) : vp_in i n ∧ k = some r := by
  unfold gm_ck at h
  by_cases c : 0 ≤ i.toInt ∧ i.toInt < n
  · rw [if_pos c] at h
    exact ⟨vp_in_iff.mpr c, h⟩
  · rw [if_neg c] at h
    cases h
theorem gm_b1_s {β : Type} {x : Option Int32} {k : Int32 → Option β} {r : β} (h : gm_b1 x k = some r) : ∃ v, x = some v ∧ k v = some r := by
  cases x with
  | none => cases h
  | some v => exact ⟨v, rfl, h⟩
theorem gm_b2_s {β : Type} {x : Option (Int32 × gm_M)} {k : Int32 → gm_M → Option β} {r : β} (h : gm_b2 x k = some r) : ∃ v S1, x = some (v, S1) ∧ k v S1 = some r := by
  cases x with
  | none => cases h
  | some v => exact ⟨v.1, v.2, rfl, h⟩
theorem gm_b3_s {β : Type} {x : Option gm_M} {k : gm_M → Option β} {r : β} (h : gm_b3 x k = some r) : ∃ S1, x = some S1 ∧ k S1 = some r := by
  cases x with
  | none => cases h
  | some v => exact ⟨v, rfl, h⟩
theorem gm_b4_s {β : Type} {x : Option Int64} {k : Int64 → Option β} {r : β} (h : gm_b4 x k = some r) : ∃ v, x = some v ∧ k v = some r := by
  cases x with
  | none => cases h
  | some v => exact ⟨v, rfl, h⟩
theorem gm_it {c : Prop} (dc : Decidable c) {β : Type} {a b : β} {r : β} (hc : c) (h : (@ite β c dc a b) = r) : a = r := by rw [if_pos hc] at h; exact h
theorem gm_if {c : Prop} (dc : Decidable c) {β : Type} {a b : β} {r : β} (hc : ¬ c) (h : (@ite β c dc a b) = r) : b = r := by rw [if_neg hc] at h; exact h
theorem gm_in {c : Prop} (dc : Decidable c) {β : Type} {a : Option β} {r : β} (h : (@ite (Option β) c dc a none) = some r) : c ∧ a = some r := by
  by_cases hc : c
  · rw [if_pos hc] at h; exact ⟨hc, h⟩
  · rw [if_neg hc] at h; cases h
theorem gm_iz {c : Prop} (dc : Decidable c) {β : Type} {a : Option β} {r : β} (h : (@ite (Option β) c dc none a) = some r) : ¬ c ∧ a = some r := by
  by_cases hc : c
  · rw [if_pos hc] at h; cases h
  · rw [if_neg hc] at h; exact ⟨hc, h⟩
theorem gm_nt {x y : Int32} (h : ¬ x = y) : x.toInt ≠ y.toInt := fun q => h (Int32.toInt_inj.mp q)
theorem gm_zb {v : Int32} (h : vp_nar .boolean v = v) : narrow .boolean (.int v) = .int v := by
  have : narrow .boolean (.int v) = .int (vp_nar .boolean v) := by simp [vp_nar, narrow]
  rw [this, h]
theorem gm_zc {v : Int32} (h : vp_nar .char v = v) : narrow .char (.int v) = .int v := by
  have : narrow .char (.int v) = .int (vp_nar .char v) := by simp [vp_nar, narrow]
  rw [this, h]
end
