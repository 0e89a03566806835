section
-- ===== PART A: goes FIRST, ahead of the names: the tables' words, and 'selects' of the private methods out of them =====
/-- a private method of a class that the tables say can be made, by its rows of tables_1 -/
def lw_okq (q : MethodName × Nat) : Prop := (q.1.cls ≠ "java/lang/invoke/MethodHandle" ∧ q.1.cls ≠ "java/lang/invoke/VarHandle") ∧ Cond.instantiable q.1.cls q.2 ∈ tables_1 ∧ Cond.privateMethod q.1 ∈ tables_1 ∧ Cond.instanceMethod q.1 ∈ tables_1
theorem lw_p0 : lw_okq (⟨"LetterDebts$RulesText", "endOfToken", "(I)I"⟩, 3) := ⟨⟨by decide +kernel, by decide +kernel⟩, List.mem_of_getElem? (i := 28) (by decide +kernel), List.mem_of_getElem? (i := 342) (by decide +kernel), List.mem_of_getElem? (i := 343) (by decide +kernel)⟩
theorem lw_p1 : lw_okq (⟨"LetterDebts$RulesText", "isLetter", "(I)Z"⟩, 3) := ⟨⟨by decide +kernel, by decide +kernel⟩, List.mem_of_getElem? (i := 28) (by decide +kernel), List.mem_of_getElem? (i := 346) (by decide +kernel), List.mem_of_getElem? (i := 347) (by decide +kernel)⟩
theorem lw_p2 : lw_okq (⟨"LetterDebts$RulesText", "isDigit", "(I)Z"⟩, 3) := ⟨⟨by decide +kernel, by decide +kernel⟩, List.mem_of_getElem? (i := 28) (by decide +kernel), List.mem_of_getElem? (i := 350) (by decide +kernel), List.mem_of_getElem? (i := 351) (by decide +kernel)⟩
theorem lw_p3 : lw_okq (⟨"LetterDebts$RulesText", "canStand", "(III)Z"⟩, 3) := ⟨⟨by decide +kernel, by decide +kernel⟩, List.mem_of_getElem? (i := 28) (by decide +kernel), List.mem_of_getElem? (i := 354) (by decide +kernel), List.mem_of_getElem? (i := 355) (by decide +kernel)⟩
theorem lw_p4 : lw_okq (⟨"LetterDebts$RulesText", "putNumber", "([IIIII)Z"⟩, 3) := ⟨⟨by decide +kernel, by decide +kernel⟩, List.mem_of_getElem? (i := 28) (by decide +kernel), List.mem_of_getElem? (i := 358) (by decide +kernel), List.mem_of_getElem? (i := 359) (by decide +kernel)⟩
theorem lw_p5 : lw_okq (⟨"LetterDebts$RulesText", "numberAt", "(II)I"⟩, 3) := ⟨⟨by decide +kernel, by decide +kernel⟩, List.mem_of_getElem? (i := 28) (by decide +kernel), List.mem_of_getElem? (i := 362) (by decide +kernel), List.mem_of_getElem? (i := 363) (by decide +kernel)⟩
theorem lw_p6 : lw_okq (⟨"LetterDebts$RulesText", "isToken", "(Ljava/lang/String;II)Z"⟩, 3) := ⟨⟨by decide +kernel, by decide +kernel⟩, List.mem_of_getElem? (i := 28) (by decide +kernel), List.mem_of_getElem? (i := 376) (by decide +kernel), List.mem_of_getElem? (i := 377) (by decide +kernel)⟩
theorem lw_p7 : lw_okq (⟨"LetterDebts", "lookAt", "(II)V"⟩, 7) := ⟨⟨by decide +kernel, by decide +kernel⟩, List.mem_of_getElem? (i := 20) (by decide +kernel), List.mem_of_getElem? (i := 487) (by decide +kernel), List.mem_of_getElem? (i := 488) (by decide +kernel)⟩
theorem lw_p8 : lw_okq (⟨"LetterDebts$AsOf", "show", "(II)V"⟩, 7) := ⟨⟨by decide +kernel, by decide +kernel⟩, List.mem_of_getElem? (i := 82) (by decide +kernel), List.mem_of_getElem? (i := 510) (by decide +kernel), List.mem_of_getElem? (i := 511) (by decide +kernel)⟩
theorem lw_p9 : lw_okq (⟨"LetterDebts$Tables", "makeWayRow", "(I)V"⟩, 7) := ⟨⟨by decide +kernel, by decide +kernel⟩, List.mem_of_getElem? (i := 88) (by decide +kernel), List.mem_of_getElem? (i := 541) (by decide +kernel), List.mem_of_getElem? (i := 542) (by decide +kernel)⟩
theorem lw_p10 : lw_okq (⟨"LetterDebts", "lookAtBounds", "(II)V"⟩, 7) := ⟨⟨by decide +kernel, by decide +kernel⟩, List.mem_of_getElem? (i := 20) (by decide +kernel), List.mem_of_getElem? (i := 567) (by decide +kernel), List.mem_of_getElem? (i := 568) (by decide +kernel)⟩
theorem lw_p11 : lw_okq (⟨"LetterDebts$Tables", "makeDueRow", "(I)V"⟩, 7) := ⟨⟨by decide +kernel, by decide +kernel⟩, List.mem_of_getElem? (i := 88) (by decide +kernel), List.mem_of_getElem? (i := 576) (by decide +kernel), List.mem_of_getElem? (i := 577) (by decide +kernel)⟩
theorem lw_p12 : lw_okq (⟨"LetterDebts$AsOf", "looseSum", "(I[I)I"⟩, 7) := ⟨⟨by decide +kernel, by decide +kernel⟩, List.mem_of_getElem? (i := 82) (by decide +kernel), List.mem_of_getElem? (i := 629) (by decide +kernel), List.mem_of_getElem? (i := 630) (by decide +kernel)⟩
theorem lw_p13 : lw_okq (⟨"LetterDebts$AsOf", "settlesBy", "(I[I)Z"⟩, 7) := ⟨⟨by decide +kernel, by decide +kernel⟩, List.mem_of_getElem? (i := 82) (by decide +kernel), List.mem_of_getElem? (i := 643) (by decide +kernel), List.mem_of_getElem? (i := 644) (by decide +kernel)⟩
theorem lw_p14 : lw_okq (⟨"LetterDebts$AsOf", "unshow", "(II)V"⟩, 7) := ⟨⟨by decide +kernel, by decide +kernel⟩, List.mem_of_getElem? (i := 82) (by decide +kernel), List.mem_of_getElem? (i := 648) (by decide +kernel), List.mem_of_getElem? (i := 649) (by decide +kernel)⟩
theorem lw_p15 : lw_okq (⟨"LetterDebts$AsOf", "worstSpread", "(LLetterDebts$Person;I)I"⟩, 7) := ⟨⟨by decide +kernel, by decide +kernel⟩, List.mem_of_getElem? (i := 82) (by decide +kernel), List.mem_of_getElem? (i := 661) (by decide +kernel), List.mem_of_getElem? (i := 662) (by decide +kernel)⟩
def lw_privs_1 : List (MethodName × Nat) := [(⟨"LetterDebts$RulesText", "endOfToken", "(I)I"⟩, 3), (⟨"LetterDebts$RulesText", "isLetter", "(I)Z"⟩, 3), (⟨"LetterDebts$RulesText", "isDigit", "(I)Z"⟩, 3), (⟨"LetterDebts$RulesText", "canStand", "(III)Z"⟩, 3), (⟨"LetterDebts$RulesText", "putNumber", "([IIIII)Z"⟩, 3), (⟨"LetterDebts$RulesText", "numberAt", "(II)I"⟩, 3), (⟨"LetterDebts$RulesText", "isToken", "(Ljava/lang/String;II)Z"⟩, 3), (⟨"LetterDebts", "lookAt", "(II)V"⟩, 7), (⟨"LetterDebts$AsOf", "show", "(II)V"⟩, 7), (⟨"LetterDebts$Tables", "makeWayRow", "(I)V"⟩, 7), (⟨"LetterDebts", "lookAtBounds", "(II)V"⟩, 7), (⟨"LetterDebts$Tables", "makeDueRow", "(I)V"⟩, 7), (⟨"LetterDebts$AsOf", "looseSum", "(I[I)I"⟩, 7), (⟨"LetterDebts$AsOf", "settlesBy", "(I[I)Z"⟩, 7), (⟨"LetterDebts$AsOf", "unshow", "(II)V"⟩, 7), (⟨"LetterDebts$AsOf", "worstSpread", "(LLetterDebts$Person;I)I"⟩, 7)]
theorem lw_r1 : ∀ q ∈ lw_privs_1, lw_okq q := List.forall_mem_cons.mpr ⟨lw_p0, List.forall_mem_cons.mpr ⟨lw_p1, List.forall_mem_cons.mpr ⟨lw_p2, List.forall_mem_cons.mpr ⟨lw_p3, List.forall_mem_cons.mpr ⟨lw_p4, List.forall_mem_cons.mpr ⟨lw_p5, List.forall_mem_cons.mpr ⟨lw_p6, List.forall_mem_cons.mpr ⟨lw_p7, List.forall_mem_cons.mpr ⟨lw_p8, List.forall_mem_cons.mpr ⟨lw_p9, List.forall_mem_cons.mpr ⟨lw_p10, List.forall_mem_cons.mpr ⟨lw_p11, List.forall_mem_cons.mpr ⟨lw_p12, List.forall_mem_cons.mpr ⟨lw_p13, List.forall_mem_cons.mpr ⟨lw_p14, List.forall_mem_cons.mpr ⟨lw_p15, fun _ h => absurd h List.not_mem_nil⟩⟩⟩⟩⟩⟩⟩⟩⟩⟩⟩⟩⟩⟩⟩⟩
theorem lw_p16 : lw_okq (⟨"LetterDebts", "mayBeHeld", "(I)Z"⟩, 7) := ⟨⟨by decide +kernel, by decide +kernel⟩, List.mem_of_getElem? (i := 20) (by decide +kernel), List.mem_of_getElem? (i := 679) (by decide +kernel), List.mem_of_getElem? (i := 680) (by decide +kernel)⟩
theorem lw_p17 : lw_okq (⟨"LetterDebts", "howItIs", "(I)I"⟩, 7) := ⟨⟨by decide +kernel, by decide +kernel⟩, List.mem_of_getElem? (i := 20) (by decide +kernel), List.mem_of_getElem? (i := 683) (by decide +kernel), List.mem_of_getElem? (i := 684) (by decide +kernel)⟩
theorem lw_p18 : lw_okq (⟨"LetterDebts", "noDebt", "(I)Z"⟩, 7) := ⟨⟨by decide +kernel, by decide +kernel⟩, List.mem_of_getElem? (i := 20) (by decide +kernel), List.mem_of_getElem? (i := 697) (by decide +kernel), List.mem_of_getElem? (i := 698) (by decide +kernel)⟩
theorem lw_p19 : lw_okq (⟨"LetterDebts", "weigh", "(ILLetterDebts$Person;I)I"⟩, 7) := ⟨⟨by decide +kernel, by decide +kernel⟩, List.mem_of_getElem? (i := 20) (by decide +kernel), List.mem_of_getElem? (i := 763) (by decide +kernel), List.mem_of_getElem? (i := 764) (by decide +kernel)⟩
theorem lw_p20 : lw_okq (⟨"LetterDebts", "firmsOfAll", "()I"⟩, 7) := ⟨⟨by decide +kernel, by decide +kernel⟩, List.mem_of_getElem? (i := 20) (by decide +kernel), List.mem_of_getElem? (i := 812) (by decide +kernel), List.mem_of_getElem? (i := 813) (by decide +kernel)⟩
theorem lw_p21 : lw_okq (⟨"LetterDebts", "slipsOfAll", "()I"⟩, 7) := ⟨⟨by decide +kernel, by decide +kernel⟩, List.mem_of_getElem? (i := 20) (by decide +kernel), List.mem_of_getElem? (i := 816) (by decide +kernel), List.mem_of_getElem? (i := 817) (by decide +kernel)⟩
theorem lw_p22 : lw_okq (⟨"LetterDebtsModel", "next", "()V"⟩, 51) := ⟨⟨by decide +kernel, by decide +kernel⟩, List.mem_of_getElem? (i := 837) (by decide +kernel), List.mem_of_getElem? (i := 1015) (by decide +kernel), List.mem_of_getElem? (i := 1016) (by decide +kernel)⟩
theorem lw_p23 : lw_okq (⟨"LetterDebtsModel", "here", "()I"⟩, 51) := ⟨⟨by decide +kernel, by decide +kernel⟩, List.mem_of_getElem? (i := 837) (by decide +kernel), List.mem_of_getElem? (i := 1019) (by decide +kernel), List.mem_of_getElem? (i := 1020) (by decide +kernel)⟩
theorem lw_p24 : lw_okq (⟨"LetterDebtsModel", "wordOf", "(II)I"⟩, 51) := ⟨⟨by decide +kernel, by decide +kernel⟩, List.mem_of_getElem? (i := 837) (by decide +kernel), List.mem_of_getElem? (i := 1023) (by decide +kernel), List.mem_of_getElem? (i := 1024) (by decide +kernel)⟩
theorem lw_p25 : lw_okq (⟨"LetterDebtsModel", "wants", "(Z)I"⟩, 51) := ⟨⟨by decide +kernel, by decide +kernel⟩, List.mem_of_getElem? (i := 837) (by decide +kernel), List.mem_of_getElem? (i := 1035) (by decide +kernel), List.mem_of_getElem? (i := 1036) (by decide +kernel)⟩
theorem lw_p26 : lw_okq (⟨"LetterDebtsModel", "number", "(II)I"⟩, 51) := ⟨⟨by decide +kernel, by decide +kernel⟩, List.mem_of_getElem? (i := 837) (by decide +kernel), List.mem_of_getElem? (i := 1039) (by decide +kernel), List.mem_of_getElem? (i := 1040) (by decide +kernel)⟩
theorem lw_p27 : lw_okq (⟨"LetterDebtsModel", "word", "(I)V"⟩, 51) := ⟨⟨by decide +kernel, by decide +kernel⟩, List.mem_of_getElem? (i := 837) (by decide +kernel), List.mem_of_getElem? (i := 1043) (by decide +kernel), List.mem_of_getElem? (i := 1044) (by decide +kernel)⟩
theorem lw_p28 : lw_okq (⟨"LetterDebtsModel", "sign", "(I)V"⟩, 51) := ⟨⟨by decide +kernel, by decide +kernel⟩, List.mem_of_getElem? (i := 837) (by decide +kernel), List.mem_of_getElem? (i := 1047) (by decide +kernel), List.mem_of_getElem? (i := 1048) (by decide +kernel)⟩
theorem lw_p29 : lw_okq (⟨"LetterDebtsModel", "dueOf", "(II)I"⟩, 51) := ⟨⟨by decide +kernel, by decide +kernel⟩, List.mem_of_getElem? (i := 837) (by decide +kernel), List.mem_of_getElem? (i := 1058) (by decide +kernel), List.mem_of_getElem? (i := 1059) (by decide +kernel)⟩
theorem lw_p30 : lw_okq (⟨"LetterDebtsModel", "firmOf", "(III)I"⟩, 51) := ⟨⟨by decide +kernel, by decide +kernel⟩, List.mem_of_getElem? (i := 837) (by decide +kernel), List.mem_of_getElem? (i := 1076) (by decide +kernel), List.mem_of_getElem? (i := 1077) (by decide +kernel)⟩
theorem lw_p31 : lw_okq (⟨"LetterDebtsModel", "findHeld", "(II)V"⟩, 51) := ⟨⟨by decide +kernel, by decide +kernel⟩, List.mem_of_getElem? (i := 837) (by decide +kernel), List.mem_of_getElem? (i := 1084) (by decide +kernel), List.mem_of_getElem? (i := 1085) (by decide +kernel)⟩
def lw_privs_2 : List (MethodName × Nat) := [(⟨"LetterDebts", "mayBeHeld", "(I)Z"⟩, 7), (⟨"LetterDebts", "howItIs", "(I)I"⟩, 7), (⟨"LetterDebts", "noDebt", "(I)Z"⟩, 7), (⟨"LetterDebts", "weigh", "(ILLetterDebts$Person;I)I"⟩, 7), (⟨"LetterDebts", "firmsOfAll", "()I"⟩, 7), (⟨"LetterDebts", "slipsOfAll", "()I"⟩, 7), (⟨"LetterDebtsModel", "next", "()V"⟩, 51), (⟨"LetterDebtsModel", "here", "()I"⟩, 51), (⟨"LetterDebtsModel", "wordOf", "(II)I"⟩, 51), (⟨"LetterDebtsModel", "wants", "(Z)I"⟩, 51), (⟨"LetterDebtsModel", "number", "(II)I"⟩, 51), (⟨"LetterDebtsModel", "word", "(I)V"⟩, 51), (⟨"LetterDebtsModel", "sign", "(I)V"⟩, 51), (⟨"LetterDebtsModel", "dueOf", "(II)I"⟩, 51), (⟨"LetterDebtsModel", "firmOf", "(III)I"⟩, 51), (⟨"LetterDebtsModel", "findHeld", "(II)V"⟩, 51)]
theorem lw_r2 : ∀ q ∈ lw_privs_2, lw_okq q := List.forall_mem_cons.mpr ⟨lw_p16, List.forall_mem_cons.mpr ⟨lw_p17, List.forall_mem_cons.mpr ⟨lw_p18, List.forall_mem_cons.mpr ⟨lw_p19, List.forall_mem_cons.mpr ⟨lw_p20, List.forall_mem_cons.mpr ⟨lw_p21, List.forall_mem_cons.mpr ⟨lw_p22, List.forall_mem_cons.mpr ⟨lw_p23, List.forall_mem_cons.mpr ⟨lw_p24, List.forall_mem_cons.mpr ⟨lw_p25, List.forall_mem_cons.mpr ⟨lw_p26, List.forall_mem_cons.mpr ⟨lw_p27, List.forall_mem_cons.mpr ⟨lw_p28, List.forall_mem_cons.mpr ⟨lw_p29, List.forall_mem_cons.mpr ⟨lw_p30, List.forall_mem_cons.mpr ⟨lw_p31, fun _ h => absurd h List.not_mem_nil⟩⟩⟩⟩⟩⟩⟩⟩⟩⟩⟩⟩⟩⟩⟩⟩
theorem lw_p32 : lw_okq (⟨"LetterDebtsModel", "goThrough", "(II)Z"⟩, 51) := ⟨⟨by decide +kernel, by decide +kernel⟩, List.mem_of_getElem? (i := 837) (by decide +kernel), List.mem_of_getElem? (i := 1088) (by decide +kernel), List.mem_of_getElem? (i := 1089) (by decide +kernel)⟩
theorem lw_p33 : lw_okq (⟨"LetterDebtsModel", "add", "(IIII)V"⟩, 51) := ⟨⟨by decide +kernel, by decide +kernel⟩, List.mem_of_getElem? (i := 837) (by decide +kernel), List.mem_of_getElem? (i := 1092) (by decide +kernel), List.mem_of_getElem? (i := 1093) (by decide +kernel)⟩
theorem lw_p34 : lw_okq (⟨"LetterDebtsModel", "paid", "(III)I"⟩, 51) := ⟨⟨by decide +kernel, by decide +kernel⟩, List.mem_of_getElem? (i := 837) (by decide +kernel), List.mem_of_getElem? (i := 1096) (by decide +kernel), List.mem_of_getElem? (i := 1097) (by decide +kernel)⟩
theorem lw_p35 : lw_okq (⟨"LetterDebtsModel", "look", "(II)V"⟩, 51) := ⟨⟨by decide +kernel, by decide +kernel⟩, List.mem_of_getElem? (i := 837) (by decide +kernel), List.mem_of_getElem? (i := 1105) (by decide +kernel), List.mem_of_getElem? (i := 1106) (by decide +kernel)⟩
theorem lw_p36 : lw_okq (⟨"LetterDebtsModel", "owedOf", "(III)I"⟩, 51) := ⟨⟨by decide +kernel, by decide +kernel⟩, List.mem_of_getElem? (i := 837) (by decide +kernel), List.mem_of_getElem? (i := 1113) (by decide +kernel), List.mem_of_getElem? (i := 1114) (by decide +kernel)⟩
theorem lw_p37 : lw_okq (⟨"LetterDebtsModel", "owedBy", "(IIZ)I"⟩, 51) := ⟨⟨by decide +kernel, by decide +kernel⟩, List.mem_of_getElem? (i := 837) (by decide +kernel), List.mem_of_getElem? (i := 1117) (by decide +kernel), List.mem_of_getElem? (i := 1118) (by decide +kernel)⟩
theorem lw_p38 : lw_okq (⟨"LetterDebtsModel", "average", "(II)I"⟩, 51) := ⟨⟨by decide +kernel, by decide +kernel⟩, List.mem_of_getElem? (i := 837) (by decide +kernel), List.mem_of_getElem? (i := 1121) (by decide +kernel), List.mem_of_getElem? (i := 1122) (by decide +kernel)⟩
theorem lw_p39 : lw_okq (⟨"LetterDebtsModel", "isOne", "()Z"⟩, 51) := ⟨⟨by decide +kernel, by decide +kernel⟩, List.mem_of_getElem? (i := 837) (by decide +kernel), List.mem_of_getElem? (i := 1132) (by decide +kernel), List.mem_of_getElem? (i := 1133) (by decide +kernel)⟩
theorem lw_p40 : lw_okq (⟨"LetterDebtsModel", "settling", "(II)I"⟩, 51) := ⟨⟨by decide +kernel, by decide +kernel⟩, List.mem_of_getElem? (i := 837) (by decide +kernel), List.mem_of_getElem? (i := 1144) (by decide +kernel), List.mem_of_getElem? (i := 1145) (by decide +kernel)⟩
theorem lw_p41 : lw_okq (⟨"LetterDebtsModel", "inSpans", "(II)I"⟩, 51) := ⟨⟨by decide +kernel, by decide +kernel⟩, List.mem_of_getElem? (i := 837) (by decide +kernel), List.mem_of_getElem? (i := 1148) (by decide +kernel), List.mem_of_getElem? (i := 1149) (by decide +kernel)⟩
theorem lw_p42 : lw_okq (⟨"LetterDebtsModel", "showing", "(III)Z"⟩, 51) := ⟨⟨by decide +kernel, by decide +kernel⟩, List.mem_of_getElem? (i := 837) (by decide +kernel), List.mem_of_getElem? (i := 1152) (by decide +kernel), List.mem_of_getElem? (i := 1153) (by decide +kernel)⟩
theorem lw_p43 : lw_okq (⟨"LetterDebtsModel", "placeOf", "(III)I"⟩, 51) := ⟨⟨by decide +kernel, by decide +kernel⟩, List.mem_of_getElem? (i := 837) (by decide +kernel), List.mem_of_getElem? (i := 1171) (by decide +kernel), List.mem_of_getElem? (i := 1172) (by decide +kernel)⟩
theorem lw_p44 : lw_okq (⟨"LetterDebtsModel", "isDebt", "(I)Z"⟩, 51) := ⟨⟨by decide +kernel, by decide +kernel⟩, List.mem_of_getElem? (i := 837) (by decide +kernel), List.mem_of_getElem? (i := 1179) (by decide +kernel), List.mem_of_getElem? (i := 1180) (by decide +kernel)⟩
theorem lw_p45 : lw_okq (⟨"LetterDebtsModel", "stateOf", "(I)I"⟩, 51) := ⟨⟨by decide +kernel, by decide +kernel⟩, List.mem_of_getElem? (i := 837) (by decide +kernel), List.mem_of_getElem? (i := 1187) (by decide +kernel), List.mem_of_getElem? (i := 1188) (by decide +kernel)⟩
theorem lw_p46 : lw_okq (⟨"LetterDebtsModel", "mayHold", "(I)Z"⟩, 51) := ⟨⟨by decide +kernel, by decide +kernel⟩, List.mem_of_getElem? (i := 837) (by decide +kernel), List.mem_of_getElem? (i := 1195) (by decide +kernel), List.mem_of_getElem? (i := 1196) (by decide +kernel)⟩
theorem lw_p47 : lw_okq (⟨"LetterDebtsModel", "heardFrom", "(I)I"⟩, 51) := ⟨⟨by decide +kernel, by decide +kernel⟩, List.mem_of_getElem? (i := 837) (by decide +kernel), List.mem_of_getElem? (i := 1215) (by decide +kernel), List.mem_of_getElem? (i := 1216) (by decide +kernel)⟩
def lw_privs_3 : List (MethodName × Nat) := [(⟨"LetterDebtsModel", "goThrough", "(II)Z"⟩, 51), (⟨"LetterDebtsModel", "add", "(IIII)V"⟩, 51), (⟨"LetterDebtsModel", "paid", "(III)I"⟩, 51), (⟨"LetterDebtsModel", "look", "(II)V"⟩, 51), (⟨"LetterDebtsModel", "owedOf", "(III)I"⟩, 51), (⟨"LetterDebtsModel", "owedBy", "(IIZ)I"⟩, 51), (⟨"LetterDebtsModel", "average", "(II)I"⟩, 51), (⟨"LetterDebtsModel", "isOne", "()Z"⟩, 51), (⟨"LetterDebtsModel", "settling", "(II)I"⟩, 51), (⟨"LetterDebtsModel", "inSpans", "(II)I"⟩, 51), (⟨"LetterDebtsModel", "showing", "(III)Z"⟩, 51), (⟨"LetterDebtsModel", "placeOf", "(III)I"⟩, 51), (⟨"LetterDebtsModel", "isDebt", "(I)Z"⟩, 51), (⟨"LetterDebtsModel", "stateOf", "(I)I"⟩, 51), (⟨"LetterDebtsModel", "mayHold", "(I)Z"⟩, 51), (⟨"LetterDebtsModel", "heardFrom", "(I)I"⟩, 51)]
theorem lw_r3 : ∀ q ∈ lw_privs_3, lw_okq q := List.forall_mem_cons.mpr ⟨lw_p32, List.forall_mem_cons.mpr ⟨lw_p33, List.forall_mem_cons.mpr ⟨lw_p34, List.forall_mem_cons.mpr ⟨lw_p35, List.forall_mem_cons.mpr ⟨lw_p36, List.forall_mem_cons.mpr ⟨lw_p37, List.forall_mem_cons.mpr ⟨lw_p38, List.forall_mem_cons.mpr ⟨lw_p39, List.forall_mem_cons.mpr ⟨lw_p40, List.forall_mem_cons.mpr ⟨lw_p41, List.forall_mem_cons.mpr ⟨lw_p42, List.forall_mem_cons.mpr ⟨lw_p43, List.forall_mem_cons.mpr ⟨lw_p44, List.forall_mem_cons.mpr ⟨lw_p45, List.forall_mem_cons.mpr ⟨lw_p46, List.forall_mem_cons.mpr ⟨lw_p47, fun _ h => absurd h List.not_mem_nil⟩⟩⟩⟩⟩⟩⟩⟩⟩⟩⟩⟩⟩⟩⟩⟩
theorem lw_p48 : lw_okq (⟨"LetterDebtsModel", "moveAll", "(II)V"⟩, 51) := ⟨⟨by decide +kernel, by decide +kernel⟩, List.mem_of_getElem? (i := 837) (by decide +kernel), List.mem_of_getElem? (i := 1238) (by decide +kernel), List.mem_of_getElem? (i := 1239) (by decide +kernel)⟩
def lw_privs_4 : List (MethodName × Nat) := [(⟨"LetterDebtsModel", "moveAll", "(II)V"⟩, 51)]
theorem lw_r4 : ∀ q ∈ lw_privs_4, lw_okq q := List.forall_mem_cons.mpr ⟨lw_p48, fun _ h => absurd h List.not_mem_nil⟩
def lw_privs : List (MethodName × Nat) := lw_privs_1 ++ (lw_privs_2 ++ (lw_privs_3 ++ (lw_privs_4)))
def lw_tbl : List Cond := k2_sels lw_privs ++ tables_1
theorem lw_privs_ok : ∀ q ∈ lw_privs, lw_okq q := by
  show ∀ q ∈ lw_privs_1 ++ (lw_privs_2 ++ (lw_privs_3 ++ (lw_privs_4))), lw_okq q
  exact List.forall_mem_append.mpr ⟨lw_r1, List.forall_mem_append.mpr ⟨lw_r2, List.forall_mem_append.mpr ⟨lw_r3, lw_r4⟩⟩⟩
end
section
/-! ===== BEGIN words of one list among another's, by their places ===== -/
theorem goodIn_r {big : List Cond} (ws : List Cond) (ps : List Nat) (hp : ws = ps.filterMap (fun i => big[i]?)) (h : ws.all goodWord = true) : GoodIn big ws := by
  intro w hw
  have h1 := List.all_eq_true.mp h w hw
  rw [hp] at hw
  obtain ⟨i, -, hi⟩ := List.mem_filterMap.mp hw
  have hm : w ∈ big := by first | exact List.mem_of_getElem? hi | exact List.getElem?_mem hi
  exact ⟨hm, good_of_word h1⟩
theorem goodIn_app {big a b : List Cond} (ha : GoodIn big a) (hb : GoodIn big b) : GoodIn big (a ++ b) := fun w h => (List.mem_append.mp h).elim (ha w) (hb w)
theorem goodIn_ca {big a b : List Cond} {c : Cond} (ha : GoodIn big (c :: a)) (hb : GoodIn big b) : GoodIn big (c :: (a ++ b)) := fun w h => (List.mem_cons.mp h).elim (fun e => ha w (List.mem_cons.mpr (Or.inl e))) (fun h => (List.mem_append.mp h).elim (fun h => ha w (List.mem_cons.mpr (Or.inr h))) (hb w))
theorem goodIn_sub {big ws : List Cond} (hm : ∀ w ∈ ws, w ∈ big) (h : ws.all goodWord = true) : GoodIn big ws := fun w hw => ⟨hm w hw, good_of_word (List.all_eq_true.mp h w hw)⟩
/-! ===== END ===== -/

/-! ===== BEGIN new T[n][m]: the outer array a place, the inner ones among the pooled ===== -/
/-- f, but v at every address of l -/
def vr_up {α : Type} (f : Nat → α) (l : List Nat) (v : α) : Nat → α := fun a => if a ∈ l then v else f a
theorem vr_up_in {α : Type} {f : Nat → α} {l : List Nat} {v : α} {a : Nat} (h : a ∈ l) : vr_up f l v a = v := if_pos h
theorem vr_up_ne {α : Type} {f : Nat → α} {l : List Nat} {v : α} {a : Nat} (h : a ∉ l) : vr_up f l v a = f a := if_neg h
theorem vr_rows {L l : List Nat} {f : Nat → va_E} {e : va_E} (h : ∀ a, a ∈ l → a ∉ L) : va_pl L f ++ l.map (fun a => (a, e)) = va_pl (L ++ l) (vr_up f l e) := by
  unfold va_pl
  rw [List.map_append]
  congr 1
  · apply List.map_congr_left
    intro a ha
    rw [vr_up_ne (fun q => h a q ha)]
  · apply List.map_congr_left
    intro a ha
    rw [vr_up_in ha]
theorem vr_lay {X rows : va_W} {x : Nat × va_E} {pl : va_W} {D : va_G} {cl : List vw_C} {H : Heap} (hP : va_P D cl (((X ++ pl) ++ [x]) ++ rows) H) : va_P D cl ((X ++ [x]) ++ (pl ++ rows)) H := by
  rw [List.append_assoc (X ++ pl)] at hP
  have h := va_P.swap hP
  rw [← List.append_assoc X] at h
  have h2 := va_P.swap h
  rw [List.append_assoc (X ++ [x])] at h2
  exact h2
theorem vr_layD {X rows : va_W} {x : Nat × va_E} {pl : va_W} {A : Nat → Prop} (hD : va_D A (((X ++ pl) ++ [x]) ++ rows)) : va_D A ((X ++ [x]) ++ (pl ++ rows)) := by
  rw [List.append_assoc (X ++ pl)] at hD
  have h := va_D.swap hD
  rw [← List.append_assoc X] at h
  have h2 := va_D.swap h
  rw [List.append_assoc (X ++ [x])] at h2
  exact h2
theorem vr_outer (c : ClassId) (N h0 : Nat) : ∀ i : Nat, Jvm.Free.Multi.outerC c N h0 i = arrV c N (fun j => va_rf (if j < i then some (h0 + 1 + j) else none))
  | 0 => by
    show ({ cls := c, slots := Array.replicate N .null, vm := .none } : Cell) = _
    rw [arrV_new]
    refine congrArg (arrV c N) (funext fun j => ?_)
    simp [va_rf]
  | i + 1 => by
    show (Jvm.Free.Multi.outerC c N h0 i).setSlot i (.ref (h0 + 1 + i)) = _
    rw [vr_outer c N h0 i, arrV_store]
    refine congrArg (arrV c N) (funext fun j => ?_)
    by_cases e : j = i
    · subst e
      simp [updV, va_rf]
    · by_cases h : j < i
      · simp [updV, e, h, Nat.lt_succ_of_lt h]
      · simp [updV, e, h, show ¬ j < i + 1 by omega]
/-- the tables' word on arrays of arrays, without the call's arguments -/
def va_AOA (ty : FieldType) (U : State) : Prop := (Cond.arrayOver (.array ty)).before #[] U = true
theorem va_AOA.of {ty : FieldType} {A : Array Value} {U : State} (h : (Cond.arrayOver (.array ty)).before A U = true) : va_AOA ty U := h
theorem va_AOA.use {ty : FieldType} {A : Array Value} {U : State} (h : va_AOA ty U) : (Cond.arrayOver (.array ty)).before A U = true := h
section VGM
variable {p : Program} {l : Launch} {e : Env} {R : Room} {s : State} {m : MethodId} {args : Array Value} {below : List Frame} {meth : Method} {c : Code} {H : Heap} {locs : List Loc} {cells slots : Nat} {Q : State → Prop}
variable {cc : ByteArray} {pc : Nat} {ls : Array Slot} {rest : List Value} {D : va_G} {cl : List vw_C} {A : Nat → Prop} {a : Nat} {tys : List (ClassId × FieldType)} {ws : va_W} {H0 : Heap}
theorem va_mna {X : va_W} {L : List Nat} {f : Nat → va_E} {cc : ByteArray} (hexec : p.tables.exec = Jvm.exec) (hb : c.code = cc) {own : String} {index : Nat} {ty : FieldType} {cy : ClassId} (hown : s.vm.findClass own = some m.cls) (hclink : (Cond.classLink own index ("[" ++ (FieldType.array ty).toString)).before args s = true) (hover : va_AOA ty s) (harr : (Cond.arrayClass ty).before args s = true) (hcy : s.vm.findClass (FieldType.array ty).toString = some cy)
    (hK : va_K D cl tys s) (hP : va_P D cl (X ++ va_pl L f) H) (hD : va_D A (X ++ va_pl L f)) (hS : va_S A H0 H locs) (hA : ∀ q, H0.size ≤ q → A q) {n k : Int32} {N' K' : Nat} {z : vp_A} (hn : ¬ n < 0) (hk : ¬ k < 0) (hN : n.toNatClampNeg = N') (hM : k.toNatClampNeg = K')
    (hb1 : N' * 4 ≤ 536870912) (hb2 : K' * componentBytes ty ≤ 536870912) (hb3 : K' ≤ 536870912) (hdf : fits ty (defaultValue ty) = true) (hdd : (defaultValue ty).isDefault = true) (hcells : cells + (1 + N') ≤ R.cells) (hslots : slots + (N' + N' * K') ≤ R.slots) (hz : ∀ c : ClassId, Jvm.Free.Multi.innerC c K' (defaultValue ty) = vp_cell c z) (hdg : decode cc pc = .ok (.multianewarray index 2, 4))
    (kk : ∀ (q : Nat) (r : Nat → Nat) (cA : ClassId) (H1 : Heap), (∀ i j : Nat, i < N' → j < N' → r i = r j → i = j) → (∀ i : Nat, i < N' → r i ∉ L) → va_K D cl (tys ++ [(cA, .array ty)]) s →
      va_P D cl ((X ++ [(q, .inl (cA, N', .inr (.inr (.inr (.inr (fun i => if i < N' then some (r i) else none))))))]) ++ va_pl (L ++ (List.range N').map r) (vr_up f ((List.range N').map r) (.inl (cy, z)))) H1 → va_D A ((X ++ [(q, .inl (cA, N', .inr (.inr (.inr (.inr (fun i => if i < N' then some (r i) else none))))))]) ++ va_pl (L ++ (List.range N').map r) (vr_up f ((List.range N').map r) (.inl (cy, z)))) → va_S A H0 H1 locs →
      W p l e R s m args below meth c H1 locs (cells + 1 + N') (slots + N' + N' * K') Q (F0 m (pc + 4) ls (.ref q :: rest))) : W p l e R s m args below meth c H locs cells slots Q (F0 m pc ls (.int k :: .int n :: rest)) := by
  subst hN
  subst hM
  intro T hT Xs
  obtain ⟨vm₁, cA, comp, -, fA, fC, hO, -, X', step⟩ := Xs.multianewarray2F hexec hown hclink (va_AOA.use hover) harr (g := F0 m pc ls (.int k :: .int n :: rest)) rfl (by rw [hb]; exact hdg) rfl hn hk hb1 hb2 hb3 hdf hdd hcells hslots
  have ec : some cy = some comp := hcy.symm.trans fC
  cases ec
  generalize hF : Jvm.Free.Multi.fill (T.setVm vm₁) cA cy n.toNatClampNeg k.toNatClampNeg (defaultValue ty) n.toNatClampNeg = F at X' step
  have hTh : (T.setVm vm₁).heap = H := hT
  obtain ⟨f1, f2, -, -⟩ := Jvm.Free.Multi.fill_facts (T.setVm vm₁) cA cy n.toNatClampNeg k.toNatClampNeg (defaultValue ty) n.toNatClampNeg
  rw [hF, hTh] at f1 f2
  have hold : ∀ x : Nat, x < H.size → F.heap[x]? = H[x]? := fun x hx => by
    have := Jvm.Free.Multi.fill_old (T.setVm vm₁) cA cy n.toNatClampNeg k.toNatClampNeg (defaultValue ty) (a := x) (by rw [hTh]; exact hx) n.toNatClampNeg
    rw [hF, hTh] at this
    exact this
  have hrow : ∀ j : Nat, j < n.toNatClampNeg → F.heap[H.size + 1 + j]? = some (vp_cell cy z) := fun j hj => by
    have := Jvm.Free.Multi.fill_inner (T.setVm vm₁) cA cy n.toNatClampNeg k.toNatClampNeg (defaultValue ty) n.toNatClampNeg j hj
    rw [hF, hTh, hz] at this
    exact this
  have hout : Jvm.Free.Multi.outerC cA n.toNatClampNeg H.size n.toNatClampNeg = vp_cell cA (n.toNatClampNeg, .inr (.inr (.inr (.inr (fun i => if i < n.toNatClampNeg then some (H.size + 1 + i) else none))))) := by
    rw [vp_cell_q]
    exact vr_outer cA n.toNatClampNeg H.size n.toNatClampNeg
  rw [hout] at f2
  have hlt : ∀ a, a ∈ L → a < H.size := fun a ha => by
    obtain ⟨k9, hk9⟩ := va_pl_get (X := X) (f := f) ha
    exact (hP k9 _ hk9).lt
  have hnl : ∀ i : Nat, i < n.toNatClampNeg → H.size + 1 + i ∉ L := fun i _ h => by
    have := hlt _ h
    omega
  have hnm : ∀ a, a ∈ (List.range n.toNatClampNeg).map (fun i => H.size + 1 + i) → a ∉ L := fun a ha h => by
    obtain ⟨i, -, rfl⟩ := List.mem_map.mp ha
    have := hlt _ h
    omega
  have hP0 : va_P D cl (X ++ va_pl L f) F.heap := hP.kept (fun k9 x hx => hold x.1 ((hP k9 x hx).lt))
  have hP1 : va_P D cl ((X ++ va_pl L f) ++ [(H.size, .inl (cA, n.toNatClampNeg, .inr (.inr (.inr (.inr (fun i => if i < n.toNatClampNeg then some (H.size + 1 + i) else none))))))]) F.heap := hP0.app (fun k9 x hx => by
    have h0 : k9 < 1 := (List.getElem?_eq_some_iff.mp hx).1
    rw [show k9 = 0 by omega] at hx
    cases hx
    exact f2)
  have hP2 : va_P D cl (((X ++ va_pl L f) ++ [(H.size, .inl (cA, n.toNatClampNeg, .inr (.inr (.inr (.inr (fun i => if i < n.toNatClampNeg then some (H.size + 1 + i) else none))))))]) ++ ((List.range n.toNatClampNeg).map (fun i => H.size + 1 + i)).map (fun a => (a, .inl (cy, z)))) F.heap := hP1.app (fun k9 x hx => by
    obtain ⟨a, ha, rfl⟩ := List.mem_map.mp (List.mem_of_getElem? hx)
    obtain ⟨i, hi, rfl⟩ := List.mem_map.mp ha
    exact hrow i (List.mem_range.mp hi))
  have hD2 : va_D A (((X ++ va_pl L f) ++ [(H.size, .inl (cA, n.toNatClampNeg, .inr (.inr (.inr (.inr (fun i => if i < n.toNatClampNeg then some (H.size + 1 + i) else none))))))]) ++ ((List.range n.toNatClampNeg).map (fun i => H.size + 1 + i)).map (fun a => (a, .inl (cy, z)))) := by
    have hD1 := hD.push (e := .inl (cA, n.toNatClampNeg, .inr (.inr (.inr (.inr (fun i => if i < n.toNatClampNeg then some (H.size + 1 + i) else none)))))) hP rfl (hA _ hS.1)
    generalize hW1 : (X ++ va_pl L f) ++ [(H.size, .inl (cA, n.toNatClampNeg, .inr (.inr (.inr (.inr (fun i => if i < n.toNatClampNeg then some (H.size + 1 + i) else none))))))] = W1 at hD1 hP1 ⊢
    have hle : ∀ (k9 : Nat) (x : Nat × va_E), W1[k9]? = some x → x.1 ≤ H.size := fun k9 x hx => by
      rw [← hW1] at hx
      by_cases hl : k9 < (X ++ va_pl L f).length
      · rw [List.getElem?_append_left hl] at hx
        exact Nat.le_of_lt ((hP k9 x hx).lt)
      · rw [List.getElem?_append_right (by omega)] at hx
        have h0 : k9 - (X ++ va_pl L f).length < 1 := (List.getElem?_eq_some_iff.mp hx).1
        rw [show k9 - (X ++ va_pl L f).length = 0 by omega] at hx
        cases hx
        exact Nat.le_refl _
    have hr : ∀ (k9 : Nat) (x : Nat × va_E), (((List.range n.toNatClampNeg).map (fun i => H.size + 1 + i)).map (fun a => ((a, .inl (cy, z)) : Nat × va_E)))[k9]? = some x → x.1 = H.size + 1 + k9 := fun k9 x hx => by
      rw [List.getElem?_map, List.getElem?_map] at hx
      by_cases h9 : k9 < n.toNatClampNeg
      · rw [List.getElem?_range h9] at hx
        cases hx
        rfl
      · have hn0 : (List.range n.toNatClampNeg)[k9]? = none := List.getElem?_eq_none (by rw [List.length_range]; omega)
        rw [hn0] at hx
        cases hx
    refine ⟨fun i j x y hi hj hxy => ?_, fun k9 x hx => ?_⟩
    · by_cases h1 : i < W1.length <;> by_cases h2 : j < W1.length
      · rw [List.getElem?_append_left h1] at hi
        rw [List.getElem?_append_left h2] at hj
        exact hD1.1 i j x y hi hj hxy
      · rw [List.getElem?_append_left h1] at hi
        rw [List.getElem?_append_right (by omega)] at hj
        have := hle _ _ hi
        have := hr _ _ hj
        omega
      · rw [List.getElem?_append_right (by omega)] at hi
        rw [List.getElem?_append_left h2] at hj
        have := hle _ _ hj
        have := hr _ _ hi
        omega
      · rw [List.getElem?_append_right (by omega)] at hi hj
        have := hr _ _ hi
        have := hr _ _ hj
        omega
    · by_cases h1 : k9 < W1.length
      · rw [List.getElem?_append_left h1] at hx
        exact hD1.2 k9 x hx
      · rw [List.getElem?_append_right (by omega)] at hx
        have := hr _ _ hx
        exact hA _ (by have := hS.1; omega)
  have hAr : ArrOfT s cA (.array ty) := fun N9 z9 => by
    obtain ⟨-, k9, hk9, cm9, hkk9⟩ := (hO 0 0 0).1
    exact ⟨(fun q hq => by cases hq), k9, hk9, cm9, hkk9⟩
  have hK2 : va_K D cl (tys ++ [(cA, .array ty)]) s := ⟨hK.1, fun k9 x hx => by
    by_cases hl : k9 < tys.length
    · rw [List.getElem?_append_left hl] at hx
      exact hK.2 k9 x hx
    · rw [List.getElem?_append_right (by omega)] at hx
      have h0 : k9 - tys.length < 1 := (List.getElem?_eq_some_iff.mp hx).1
      rw [show k9 - tys.length = 0 by omega] at hx
      cases hx
      exact ⟨hAr, fA⟩⟩
  obtain ⟨t, a1, b1⟩ := kk H.size (fun i => H.size + 1 + i) cA F.heap (fun i j _ _ h => by have h9 : H.size + 1 + i = H.size + 1 + j := h; omega) hnl hK2 (by rw [← vr_rows hnm]; exact vr_lay hP2) (by rw [← vr_rows hnm]; exact vr_layD hD2) ⟨by rw [f1]; have := hS.1; omega, fun x h1 h2 => (hold x (Nat.lt_of_lt_of_le h1 hS.1)).trans (hS.2.1 x h1 h2), hS.2.2⟩ F rfl X'
  refine ⟨t, step t ?_, b1⟩
  have e : T.heap.size = H.size := by rw [hT]
  rw [e]
  exact a1
end VGM
/-! ===== END ===== -/

/-! ===== BEGIN printed: names, fields, word lists, decode rows ===== -/
def RX0 : String := "LetterDebts$AsOf"
def TX0 : u_T := fun k => match k with
  | 0 => ("LetterDebts$AsOf", "tables", "LLetterDebts$Tables;", true)
  | 1 => ("LetterDebts$AsOf", "firmOf", "[I", true)
  | 2 => ("LetterDebts$AsOf", "left", "[I", true)
  | 3 => ("LetterDebts$AsOf", "loose", "[I", true)
  | 4 => ("LetterDebts$AsOf", "looseSet", "I", false)
  | 5 => ("LetterDebts$AsOf", "paid", "I", false)
  | _ => ("LetterDebts$AsOf", "shownDue", "I", false)
def tyX0 : Nat → FieldType := fun k => match k with
  | 0 => .object "LetterDebts$Tables"
  | 1 => .array .int
  | 2 => .array .int
  | 3 => .array .int
  | 4 => .int
  | 5 => .int
  | _ => .int
abbrev wsX00 : List Cond := u_ws RX0 TX0 7
theorem nmX0 : ∀ a, a < 7 → ∀ b, b < 7 → a ≠ b → (TX0 a).2.1 ≠ (TX0 b).2.1 := by decide +kernel
theorem tyX0_ok : ∀ k, k < 7 → parseFieldDescriptor (TX0 k).2.2.1 = some (tyX0 k) := by decide +kernel
abbrev cX0_init : ByteArray := prog_2_method_1_code
def yX0_init : MethodName := ⟨RX0, "<init>", "()V"⟩
abbrev cX0_look : ByteArray := prog_2_method_2_code
def yX0_look : MethodName := ⟨RX0, "look", "(LLetterDebts$Person;I)V"⟩
abbrev cX0_isInSpan : ByteArray := prog_2_method_3_code
def yX0_isInSpan : MethodName := ⟨RX0, "isInSpan", "(I)Z"⟩
abbrev cX0_isLoose : ByteArray := prog_2_method_4_code
def yX0_isLoose : MethodName := ⟨RX0, "isLoose", "(I)Z"⟩
abbrev cX0_show : ByteArray := prog_2_method_5_code
def yX0_show : MethodName := ⟨RX0, "show", "(II)V"⟩
abbrev cX0_unshow : ByteArray := prog_2_method_6_code
def yX0_unshow : MethodName := ⟨RX0, "unshow", "(II)V"⟩
abbrev cX0_leastPay : ByteArray := prog_2_method_7_code
def yX0_leastPay : MethodName := ⟨RX0, "leastPay", "(LLetterDebts$Person;I)I"⟩
abbrev cX0_mostPay : ByteArray := prog_2_method_8_code
def yX0_mostPay : MethodName := ⟨RX0, "mostPay", "(LLetterDebts$Person;I)I"⟩
abbrev cX0_mostLoose : ByteArray := prog_2_method_9_code
def yX0_mostLoose : MethodName := ⟨RX0, "mostLoose", "()I"⟩
abbrev cX0_ways : ByteArray := prog_2_method_10_code
def yX0_ways : MethodName := ⟨RX0, "ways", "()I"⟩
abbrev cX0_leastOwed : ByteArray := prog_2_method_11_code
def yX0_leastOwed : MethodName := ⟨RX0, "leastOwed", "()I"⟩
abbrev cX0_mostOwed : ByteArray := prog_2_method_12_code
def yX0_mostOwed : MethodName := ⟨RX0, "mostOwed", "()I"⟩
abbrev cX0_spread : ByteArray := prog_2_method_13_code
def yX0_spread : MethodName := ⟨RX0, "spread", "()I"⟩
abbrev cX0_owedBy : ByteArray := prog_2_method_14_code
def yX0_owedBy : MethodName := ⟨RX0, "owedBy", "(LLetterDebts$Person;I)I"⟩
abbrev cX0_couldBe : ByteArray := prog_2_method_15_code
def yX0_couldBe : MethodName := ⟨RX0, "couldBe", "(LLetterDebts$Person;[I)Z"⟩
abbrev cX0_looseSum : ByteArray := prog_2_method_16_code
def yX0_looseSum : MethodName := ⟨RX0, "looseSum", "(I[I)I"⟩
abbrev cX0_settlingSet : ByteArray := prog_2_method_17_code
def yX0_settlingSet : MethodName := ⟨RX0, "settlingSet", "([I)I"⟩
abbrev cX0_settlesBy : ByteArray := prog_2_method_18_code
def yX0_settlesBy : MethodName := ⟨RX0, "settlesBy", "(I[I)Z"⟩
abbrev cX0_tellingMost : ByteArray := prog_2_method_19_code
def yX0_tellingMost : MethodName := ⟨RX0, "tellingMost", "(LLetterDebts$Person;)I"⟩
abbrev cX0_worstSpread : ByteArray := prog_2_method_20_code
def yX0_worstSpread : MethodName := ⟨RX0, "worstSpread", "(LLetterDebts$Person;I)I"⟩
abbrev cX0_sumOfSpan : ByteArray := prog_2_method_21_code
def yX0_sumOfSpan : MethodName := ⟨RX0, "sumOfSpan", "(LLetterDebts$Person;I)I"⟩
abbrev cX0_tooMuch : ByteArray := prog_2_method_22_code
def yX0_tooMuch : MethodName := ⟨RX0, "tooMuch", "(LLetterDebts$Person;I)I"⟩
def RX1 : String := "LetterDebts$Books"
def TX1 : u_T := fun k => match k with
  | 0 => ("LetterDebts$Books", "debts", "LLetterDebts$Debts;", true)
  | 1 => ("LetterDebts$Books", "letters", "LLetterDebts$Letters;", true)
  | 2 => ("LetterDebts$Books", "line", "LLetterDebts$Line;", true)
  | 3 => ("LetterDebts$Books", "today", "I", false)
  | _ => ("LetterDebts$Books", "kept", "Z", false)
def tyX1 : Nat → FieldType := fun k => match k with
  | 0 => .object "LetterDebts$Debts"
  | 1 => .object "LetterDebts$Letters"
  | 2 => .object "LetterDebts$Line"
  | 3 => .int
  | _ => .boolean
abbrev wsX10 : List Cond := u_ws RX1 TX1 5
theorem nmX1 : ∀ a, a < 5 → ∀ b, b < 5 → a ≠ b → (TX1 a).2.1 ≠ (TX1 b).2.1 := by decide +kernel
theorem tyX1_ok : ∀ k, k < 5 → parseFieldDescriptor (TX1 k).2.2.1 = some (tyX1 k) := by decide +kernel
abbrev cX1_init : ByteArray := prog_3_method_1_code
def yX1_init : MethodName := ⟨RX1, "<init>", "()V"⟩
abbrev cX1_takeOver : ByteArray := prog_3_method_2_code
def yX1_takeOver : MethodName := ⟨RX1, "takeOver", "(LLetterDebts$Books;)V"⟩
def RX2 : String := "LetterDebts$Debts"
def TX2 : u_T := fun k => match k with
  | 0 => ("LetterDebts$Debts", "person", "[I", true)
  | 1 => ("LetterDebts$Debts", "amount", "[I", true)
  | 2 => ("LetterDebts$Debts", "open", "[I", true)
  | 3 => ("LetterDebts$Debts", "held", "[I", true)
  | 4 => ("LetterDebts$Debts", "aside", "[I", true)
  | 5 => ("LetterDebts$Debts", "made", "[I", true)
  | 6 => ("LetterDebts$Debts", "fee", "[I", true)
  | _ => ("LetterDebts$Debts", "size", "I", false)
def tyX2 : Nat → FieldType := fun k => match k with
  | 0 => .array .int
  | 1 => .array .int
  | 2 => .array .int
  | 3 => .array .int
  | 4 => .array .int
  | 5 => .array .int
  | 6 => .array .int
  | _ => .int
abbrev wsX20 : List Cond := u_ws RX2 TX2 8
theorem nmX2 : ∀ a, a < 8 → ∀ b, b < 8 → a ≠ b → (TX2 a).2.1 ≠ (TX2 b).2.1 := by decide +kernel
theorem tyX2_ok : ∀ k, k < 8 → parseFieldDescriptor (TX2 k).2.2.1 = some (tyX2 k) := by decide +kernel
abbrev cX2_init : ByteArray := prog_4_method_1_code
def yX2_init : MethodName := ⟨RX2, "<init>", "()V"⟩
abbrev cX2_add : ByteArray := prog_4_method_2_code
def yX2_add : MethodName := ⟨RX2, "add", "(III)I"⟩
abbrev cX2_holdOf : ByteArray := prog_4_method_3_code
def yX2_holdOf : MethodName := ⟨RX2, "holdOf", "(II)I"⟩
abbrev cX2_isAside : ByteArray := prog_4_method_4_code
def yX2_isAside : MethodName := ⟨RX2, "isAside", "(I)Z"⟩
abbrev cX2_putAside : ByteArray := prog_4_method_5_code
def yX2_putAside : MethodName := ⟨RX2, "putAside", "(I)I"⟩
abbrev cX2_told : ByteArray := prog_4_method_6_code
def yX2_told : MethodName := ⟨RX2, "told", "(II)I"⟩
abbrev cX2_heldOfAll : ByteArray := prog_4_method_7_code
def yX2_heldOfAll : MethodName := ⟨RX2, "heldOfAll", "()I"⟩
abbrev cX2_feesOfAll : ByteArray := prog_4_method_8_code
def yX2_feesOfAll : MethodName := ⟨RX2, "feesOfAll", "()I"⟩
abbrev cX2_lostOfAll : ByteArray := prog_4_method_9_code
def yX2_lostOfAll : MethodName := ⟨RX2, "lostOfAll", "()I"⟩
abbrev cX2_takeOver : ByteArray := prog_4_method_10_code
def yX2_takeOver : MethodName := ⟨RX2, "takeOver", "(LLetterDebts$Debts;)V"⟩
def RX3 : String := "LetterDebts$Letters"
def TX3 : u_T := fun k => match k with
  | 0 => ("LetterDebts$Letters", "debt", "[I", true)
  | 1 => ("LetterDebts$Letters", "sent", "[I", true)
  | 2 => ("LetterDebts$Letters", "place", "[I", true)
  | _ => ("LetterDebts$Letters", "size", "I", false)
def tyX3 : Nat → FieldType := fun k => match k with
  | 0 => .array .int
  | 1 => .array .int
  | 2 => .array .int
  | _ => .int
abbrev wsX30 : List Cond := u_ws RX3 TX3 4
theorem nmX3 : ∀ a, a < 4 → ∀ b, b < 4 → a ≠ b → (TX3 a).2.1 ≠ (TX3 b).2.1 := by decide +kernel
theorem tyX3_ok : ∀ k, k < 4 → parseFieldDescriptor (TX3 k).2.2.1 = some (tyX3 k) := by decide +kernel
abbrev cX3_init : ByteArray := prog_5_method_1_code
def yX3_init : MethodName := ⟨RX3, "<init>", "()V"⟩
abbrev cX3_add : ByteArray := prog_5_method_2_code
def yX3_add : MethodName := ⟨RX3, "add", "(III)I"⟩
abbrev cX3_takeOver : ByteArray := prog_5_method_3_code
def yX3_takeOver : MethodName := ⟨RX3, "takeOver", "(LLetterDebts$Letters;)V"⟩
def RX4 : String := "LetterDebts$Line"
def TX4 : u_T := fun k => match k with
  | 0 => ("LetterDebts$Line", "minutes", "[I", true)
  | _ => ("LetterDebts$Line", "size", "I", false)
def tyX4 : Nat → FieldType := fun k => match k with
  | 0 => .array .int
  | _ => .int
abbrev wsX40 : List Cond := u_ws RX4 TX4 2
theorem nmX4 : ∀ a, a < 2 → ∀ b, b < 2 → a ≠ b → (TX4 a).2.1 ≠ (TX4 b).2.1 := by decide +kernel
theorem tyX4_ok : ∀ k, k < 2 → parseFieldDescriptor (TX4 k).2.2.1 = some (tyX4 k) := by decide +kernel
abbrev cX4_init : ByteArray := prog_6_method_1_code
def yX4_init : MethodName := ⟨RX4, "<init>", "()V"⟩
abbrev cX4_add : ByteArray := prog_6_method_2_code
def yX4_add : MethodName := ⟨RX4, "add", "(I)Z"⟩
abbrev cX4_waitOfLast : ByteArray := prog_6_method_3_code
def yX4_waitOfLast : MethodName := ⟨RX4, "waitOfLast", "()I"⟩
abbrev cX4_hear : ByteArray := prog_6_method_4_code
def yX4_hear : MethodName := ⟨RX4, "hear", "()I"⟩
abbrev cX4_takeOver : ByteArray := prog_6_method_5_code
def yX4_takeOver : MethodName := ⟨RX4, "takeOver", "(LLetterDebts$Line;)V"⟩
def RX5 : String := "LetterDebts$Person"
def TX5 : u_T := fun k => match k with
  | 0 => ("LetterDebts$Person", "told", "[I", true)
  | 1 => ("LetterDebts$Person", "truth", "[I", true)
  | 2 => ("LetterDebts$Person", "slipPay", "[I", true)
  | 3 => ("LetterDebts$Person", "slipDay", "[I", true)
  | 4 => ("LetterDebts$Person", "firmFrom", "[I", true)
  | 5 => ("LetterDebts$Person", "firmTo", "[I", true)
  | 6 => ("LetterDebts$Person", "firmSum", "[I", true)
  | 7 => ("LetterDebts$Person", "firmDay", "[I", true)
  | 8 => ("LetterDebts$Person", "lives", "[I", true)
  | 9 => ("LetterDebts$Person", "known", "[I", true)
  | _ => ("LetterDebts$Person", "firms", "I", false)
def tyX5 : Nat → FieldType := fun k => match k with
  | 0 => .array .int
  | 1 => .array .int
  | 2 => .array .int
  | 3 => .array .int
  | 4 => .array .int
  | 5 => .array .int
  | 6 => .array .int
  | 7 => .array .int
  | 8 => .array .int
  | 9 => .array .int
  | _ => .int
abbrev wsX50 : List Cond := u_ws RX5 TX5 11
theorem nmX5 : ∀ a, a < 11 → ∀ b, b < 11 → a ≠ b → (TX5 a).2.1 ≠ (TX5 b).2.1 := by decide +kernel
theorem tyX5_ok : ∀ k, k < 11 → parseFieldDescriptor (TX5 k).2.2.1 = some (tyX5 k) := by decide +kernel
abbrev cX5_init : ByteArray := prog_7_method_1_code
def yX5_init : MethodName := ⟨RX5, "<init>", "()V"⟩
abbrev cX5_addFirm : ByteArray := prog_7_method_2_code
def yX5_addFirm : MethodName := ⟨RX5, "addFirm", "(IIII)I"⟩
abbrev cX5_firmWith : ByteArray := prog_7_method_3_code
def yX5_firmWith : MethodName := ⟨RX5, "firmWith", "(II)I"⟩
abbrev cX5_isShown : ByteArray := prog_7_method_4_code
def yX5_isShown : MethodName := ⟨RX5, "isShown", "(II)Z"⟩
abbrev cX5_average : ByteArray := prog_7_method_5_code
def yX5_average : MethodName := ⟨RX5, "average", "(II)I"⟩
def RX6 : String := "LetterDebts$RuleBook"
def TX6 : u_T := fun k => match k with
  | 0 => ("LetterDebts$RuleBook", "from", "[I", true)
  | 1 => ("LetterDebts$RuleBook", "base", "[I", true)
  | 2 => ("LetterDebts$RuleBook", "free", "[I", true)
  | 3 => ("LetterDebts$RuleBook", "take", "[I", true)
  | 4 => ("LetterDebts$RuleBook", "by", "[I", true)
  | _ => ("LetterDebts$RuleBook", "size", "I", false)
def tyX6 : Nat → FieldType := fun k => match k with
  | 0 => .array .int
  | 1 => .array .int
  | 2 => .array .int
  | 3 => .array .int
  | 4 => .array .int
  | _ => .int
abbrev wsX60 : List Cond := u_ws RX6 TX6 6
theorem nmX6 : ∀ a, a < 6 → ∀ b, b < 6 → a ≠ b → (TX6 a).2.1 ≠ (TX6 b).2.1 := by decide +kernel
theorem tyX6_ok : ∀ k, k < 6 → parseFieldDescriptor (TX6 k).2.2.1 = some (tyX6 k) := by decide +kernel
abbrev cX6_init : ByteArray := prog_8_method_1_code
def yX6_init : MethodName := ⟨RX6, "<init>", "()V"⟩
abbrev cX6_inForce : ByteArray := prog_8_method_2_code
def yX6_inForce : MethodName := ⟨RX6, "inForce", "(I)I"⟩
abbrev cX6_dueBy : ByteArray := prog_8_method_3_code
def yX6_dueBy : MethodName := ⟨RX6, "dueBy", "(II)I"⟩
abbrev cX6_takeOver : ByteArray := prog_8_method_4_code
def yX6_takeOver : MethodName := ⟨RX6, "takeOver", "(LLetterDebts$RuleBook;)V"⟩
def RX7 : String := "LetterDebts$RulesText"
def TX7 : u_T := fun k => match k with
  | 0 => ("LetterDebts$RulesText", "bytes", "[C", true)
  | 1 => ("LetterDebts$RulesText", "draft", "LLetterDebts$RuleBook;", true)
  | _ => ("LetterDebts$RulesText", "length", "I", false)
def tyX7 : Nat → FieldType := fun k => match k with
  | 0 => .array .char
  | 1 => .object "LetterDebts$RuleBook"
  | _ => .int
abbrev wsX70 : List Cond := u_ws RX7 TX7 3
theorem nmX7 : ∀ a, a < 3 → ∀ b, b < 3 → a ≠ b → (TX7 a).2.1 ≠ (TX7 b).2.1 := by decide +kernel
theorem tyX7_ok : ∀ k, k < 3 → parseFieldDescriptor (TX7 k).2.2.1 = some (tyX7 k) := by decide +kernel
abbrev cX7_init : ByteArray := prog_9_method_1_code
def yX7_init : MethodName := ⟨RX7, "<init>", "()V"⟩
abbrev cX7_append : ByteArray := prog_9_method_2_code
def yX7_append : MethodName := ⟨RX7, "append", "(JI)V"⟩
abbrev cX7_read : ByteArray := prog_9_method_3_code
def yX7_read : MethodName := ⟨RX7, "read", "()I"⟩
abbrev cX7_endOfToken : ByteArray := prog_9_method_4_code
def yX7_endOfToken : MethodName := ⟨RX7, "endOfToken", "(I)I"⟩
abbrev cX7_isLetter : ByteArray := prog_9_method_5_code
def yX7_isLetter : MethodName := ⟨RX7, "isLetter", "(I)Z"⟩
abbrev cX7_isDigit : ByteArray := prog_9_method_6_code
def yX7_isDigit : MethodName := ⟨RX7, "isDigit", "(I)Z"⟩
abbrev cX7_canStand : ByteArray := prog_9_method_7_code
def yX7_canStand : MethodName := ⟨RX7, "canStand", "(III)Z"⟩
abbrev cX7_putNumber : ByteArray := prog_9_method_8_code
def yX7_putNumber : MethodName := ⟨RX7, "putNumber", "([IIIII)Z"⟩
abbrev cX7_numberAt : ByteArray := prog_9_method_9_code
def yX7_numberAt : MethodName := ⟨RX7, "numberAt", "(II)I"⟩
abbrev cX7_fixedToken : ByteArray := prog_9_method_10_code
def yX7_fixedToken : MethodName := ⟨RX7, "fixedToken", "(I)Ljava/lang/String;"⟩
abbrev cX7_isToken : ByteArray := prog_9_method_11_code
def yX7_isToken : MethodName := ⟨RX7, "isToken", "(Ljava/lang/String;II)Z"⟩
def RX8 : String := "LetterDebts$Tables"
def TX8 : u_T := fun k => match k with
  | 0 => ("LetterDebts$Tables", "dueOf", "[I", true)
  | 1 => ("LetterDebts$Tables", "least", "[[I", true)
  | 2 => ("LetterDebts$Tables", "most", "[[I", true)
  | 3 => ("LetterDebts$Tables", "ways", "[[I", true)
  | 4 => ("LetterDebts$Tables", "rule", "I", false)
  | 5 => ("LetterDebts$Tables", "dueRows", "I", false)
  | _ => ("LetterDebts$Tables", "wayRows", "I", false)
def tyX8 : Nat → FieldType := fun k => match k with
  | 0 => .array .int
  | 1 => .array (.array .int)
  | 2 => .array (.array .int)
  | 3 => .array (.array .int)
  | 4 => .int
  | 5 => .int
  | _ => .int
abbrev wsX80 : List Cond := u_ws RX8 TX8 7
theorem nmX8 : ∀ a, a < 7 → ∀ b, b < 7 → a ≠ b → (TX8 a).2.1 ≠ (TX8 b).2.1 := by decide +kernel
theorem tyX8_ok : ∀ k, k < 7 → parseFieldDescriptor (TX8 k).2.2.1 = some (tyX8 k) := by decide +kernel
abbrev cX8_init : ByteArray := prog_10_method_1_code
def yX8_init : MethodName := ⟨RX8, "<init>", "()V"⟩
abbrev cX8_forget : ByteArray := prog_10_method_2_code
def yX8_forget : MethodName := ⟨RX8, "forget", "()V"⟩
abbrev cX8_use : ByteArray := prog_10_method_3_code
def yX8_use : MethodName := ⟨RX8, "use", "(LLetterDebts$RuleBook;I)V"⟩
abbrev cX8_dueFor : ByteArray := prog_10_method_4_code
def yX8_dueFor : MethodName := ⟨RX8, "dueFor", "(I)I"⟩
abbrev cX8_makeDueRows : ByteArray := prog_10_method_5_code
def yX8_makeDueRows : MethodName := ⟨RX8, "makeDueRows", "(I)V"⟩
abbrev cX8_makeWayRows : ByteArray := prog_10_method_6_code
def yX8_makeWayRows : MethodName := ⟨RX8, "makeWayRows", "(I)V"⟩
abbrev cX8_leastFor : ByteArray := prog_10_method_7_code
def yX8_leastFor : MethodName := ⟨RX8, "leastFor", "(II)I"⟩
abbrev cX8_mostFor : ByteArray := prog_10_method_8_code
def yX8_mostFor : MethodName := ⟨RX8, "mostFor", "(II)I"⟩
abbrev cX8_waysFor : ByteArray := prog_10_method_9_code
def yX8_waysFor : MethodName := ⟨RX8, "waysFor", "(II)I"⟩
abbrev cX8_isMade : ByteArray := prog_10_method_10_code
def yX8_isMade : MethodName := ⟨RX8, "isMade", "(III)Z"⟩
abbrev cX8_makeWayRow : ByteArray := prog_10_method_11_code
def yX8_makeWayRow : MethodName := ⟨RX8, "makeWayRow", "(I)V"⟩
abbrev cX8_makeDueRow : ByteArray := prog_10_method_12_code
def yX8_makeDueRow : MethodName := ⟨RX8, "makeDueRow", "(I)V"⟩
abbrev cX8_lowestLast : ByteArray := prog_10_method_13_code
def yX8_lowestLast : MethodName := ⟨RX8, "lowestLast", "(II)I"⟩
def RX9 : String := "LetterDebts"
def TX9 : u_T := fun k => match k with
  | 0 => ("LetterDebts", "text", "LLetterDebts$RulesText;", true)
  | 1 => ("LetterDebts", "book", "LLetterDebts$RuleBook;", true)
  | 2 => ("LetterDebts", "view", "LLetterDebts$AsOf;", true)
  | 3 => ("LetterDebts", "persons", "[LLetterDebts$Person;", true)
  | 4 => ("LetterDebts", "now", "LLetterDebts$Books;", true)
  | 5 => ("LetterDebts", "images", "[LLetterDebts$Books;", true)
  | _ => ("LetterDebts", "traced", "J", false)
def tyX9 : Nat → FieldType := fun k => match k with
  | 0 => .object "LetterDebts$RulesText"
  | 1 => .object "LetterDebts$RuleBook"
  | 2 => .object "LetterDebts$AsOf"
  | 3 => .array (.object "LetterDebts$Person")
  | 4 => .object "LetterDebts$Books"
  | 5 => .array (.object "LetterDebts$Books")
  | _ => .long
abbrev wsX90 : List Cond := u_ws RX9 TX9 7
theorem nmX9 : ∀ a, a < 7 → ∀ b, b < 7 → a ≠ b → (TX9 a).2.1 ≠ (TX9 b).2.1 := by decide +kernel
theorem tyX9_ok : ∀ k, k < 7 → parseFieldDescriptor (TX9 k).2.2.1 = some (tyX9 k) := by decide +kernel
abbrev cX9_init : ByteArray := prog_1_method_1_code
def yX9_init : MethodName := ⟨RX9, "<init>", "()V"⟩
abbrev cX9_type : ByteArray := prog_1_method_2_code
def yX9_type : MethodName := ⟨RX9, "type", "(JI)I"⟩
abbrev cX9_clear : ByteArray := prog_1_method_3_code
def yX9_clear : MethodName := ⟨RX9, "clear", "()I"⟩
abbrev cX9_rules : ByteArray := prog_1_method_4_code
def yX9_rules : MethodName := ⟨RX9, "rules", "()I"⟩
abbrev cX9_due : ByteArray := prog_1_method_5_code
def yX9_due : MethodName := ⟨RX9, "due", "(II)I"⟩
abbrev cX9_pay : ByteArray := prog_1_method_6_code
def yX9_pay : MethodName := ⟨RX9, "pay", "(IIII)I"⟩
abbrev cX9_firm : ByteArray := prog_1_method_7_code
def yX9_firm : MethodName := ⟨RX9, "firm", "(IIII)I"⟩
abbrev cX9_slip : ByteArray := prog_1_method_8_code
def yX9_slip : MethodName := ⟨RX9, "slip", "(III)I"⟩
abbrev cX9_could : ByteArray := prog_1_method_9_code
def yX9_could : MethodName := ⟨RX9, "could", "(II)I"⟩
abbrev cX9_owed : ByteArray := prog_1_method_10_code
def yX9_owed : MethodName := ⟨RX9, "owed", "(III)I"⟩
abbrev cX9_stands : ByteArray := prog_1_method_11_code
def yX9_stands : MethodName := ⟨RX9, "stands", "(II)I"⟩
abbrev cX9_span : ByteArray := prog_1_method_12_code
def yX9_span : MethodName := ⟨RX9, "span", "(IIII)I"⟩
abbrev cX9_settles : ByteArray := prog_1_method_13_code
def yX9_settles : MethodName := ⟨RX9, "settles", "(III)I"⟩
abbrev cX9_tells : ByteArray := prog_1_method_14_code
def yX9_tells : MethodName := ⟨RX9, "tells", "(II)I"⟩
abbrev cX9_debt : ByteArray := prog_1_method_15_code
def yX9_debt : MethodName := ⟨RX9, "debt", "(II)I"⟩
abbrev cX9_hold : ByteArray := prog_1_method_16_code
def yX9_hold : MethodName := ⟨RX9, "hold", "(IIII)I"⟩
abbrev cX9_set : ByteArray := prog_1_method_17_code
def yX9_set : MethodName := ⟨RX9, "set", "(I)I"⟩
abbrev cX9_about : ByteArray := prog_1_method_18_code
def yX9_about : MethodName := ⟨RX9, "about", "(II)I"⟩
abbrev cX9_right : ByteArray := prog_1_method_19_code
def yX9_right : MethodName := ⟨RX9, "right", "(II)I"⟩
abbrev cX9_place : ByteArray := prog_1_method_20_code
def yX9_place : MethodName := ⟨RX9, "place", "(III)I"⟩
abbrev cX9_letter : ByteArray := prog_1_method_21_code
def yX9_letter : MethodName := ⟨RX9, "letter", "(I)I"⟩
abbrev cX9_post : ByteArray := prog_1_method_22_code
def yX9_post : MethodName := ⟨RX9, "post", "(II)I"⟩
abbrev cX9_call : ByteArray := prog_1_method_23_code
def yX9_call : MethodName := ⟨RX9, "call", "(II)I"⟩
abbrev cX9_day : ByteArray := prog_1_method_24_code
def yX9_day : MethodName := ⟨RX9, "day", "()I"⟩
abbrev cX9_weight : ByteArray := prog_1_method_25_code
def yX9_weight : MethodName := ⟨RX9, "weight", "(III)I"⟩
abbrev cX9_keep : ByteArray := prog_1_method_26_code
def yX9_keep : MethodName := ⟨RX9, "keep", "(I)I"⟩
abbrev cX9_back : ByteArray := prog_1_method_27_code
def yX9_back : MethodName := ⟨RX9, "back", "(I)I"⟩
abbrev cX9_count : ByteArray := prog_1_method_28_code
def yX9_count : MethodName := ⟨RX9, "count", "(I)I"⟩
abbrev cX9_trace : ByteArray := prog_1_method_29_code
def yX9_trace : MethodName := ⟨RX9, "trace", "()J"⟩
abbrev cX9_outside : ByteArray := prog_1_method_30_code
def yX9_outside : MethodName := ⟨RX9, "outside", "(III)Z"⟩
abbrev cX9_noPerson : ByteArray := prog_1_method_31_code
def yX9_noPerson : MethodName := ⟨RX9, "noPerson", "(I)Z"⟩
abbrev cX9_noFortnight : ByteArray := prog_1_method_32_code
def yX9_noFortnight : MethodName := ⟨RX9, "noFortnight", "(I)Z"⟩
abbrev cX9_noDebt : ByteArray := prog_1_method_33_code
def yX9_noDebt : MethodName := ⟨RX9, "noDebt", "(I)Z"⟩
abbrev cX9_lookAt : ByteArray := prog_1_method_34_code
def yX9_lookAt : MethodName := ⟨RX9, "lookAt", "(II)V"⟩
abbrev cX9_lookAtBounds : ByteArray := prog_1_method_35_code
def yX9_lookAtBounds : MethodName := ⟨RX9, "lookAtBounds", "(II)V"⟩
abbrev cX9_howItIs : ByteArray := prog_1_method_36_code
def yX9_howItIs : MethodName := ⟨RX9, "howItIs", "(I)I"⟩
abbrev cX9_mayBeHeld : ByteArray := prog_1_method_37_code
def yX9_mayBeHeld : MethodName := ⟨RX9, "mayBeHeld", "(I)Z"⟩
abbrev cX9_weigh : ByteArray := prog_1_method_38_code
def yX9_weigh : MethodName := ⟨RX9, "weigh", "(ILLetterDebts$Person;I)I"⟩
abbrev cX9_firmsOfAll : ByteArray := prog_1_method_39_code
def yX9_firmsOfAll : MethodName := ⟨RX9, "firmsOfAll", "()I"⟩
abbrev cX9_slipsOfAll : ByteArray := prog_1_method_40_code
def yX9_slipsOfAll : MethodName := ⟨RX9, "slipsOfAll", "()I"⟩
abbrev cX9_copy : ByteArray := prog_1_method_41_code
def yX9_copy : MethodName := ⟨RX9, "copy", "([I[I)V"⟩
def RX10 : String := "LetterDebtsModel"
def TX10 : u_T := fun k => match k with
  | 0 => ("LetterDebtsModel", "trace", "J", false)
  | 1 => ("LetterDebtsModel", "today", "I", false)
  | 2 => ("LetterDebtsModel", "text", "[B", true)
  | 3 => ("LetterDebtsModel", "typed", "I", false)
  | 4 => ("LetterDebtsModel", "rules", "I", false)
  | 5 => ("LetterDebtsModel", "ruleDay", "[I", true)
  | 6 => ("LetterDebtsModel", "base", "[I", true)
  | 7 => ("LetterDebtsModel", "free", "[I", true)
  | 8 => ("LetterDebtsModel", "take", "[I", true)
  | 9 => ("LetterDebtsModel", "by", "[I", true)
  | 10 => ("LetterDebtsModel", "at", "I", false)
  | 11 => ("LetterDebtsModel", "start", "I", false)
  | 12 => ("LetterDebtsModel", "sort", "I", false)
  | 13 => ("LetterDebtsModel", "value", "I", false)
  | 14 => ("LetterDebtsModel", "fault", "I", false)
  | 15 => ("LetterDebtsModel", "told", "[I", true)
  | 16 => ("LetterDebtsModel", "truth", "[I", true)
  | 17 => ("LetterDebtsModel", "slipPay", "[I", true)
  | 18 => ("LetterDebtsModel", "slipDay", "[I", true)
  | 19 => ("LetterDebtsModel", "firms", "[I", true)
  | 20 => ("LetterDebtsModel", "firmFrom", "[I", true)
  | 21 => ("LetterDebtsModel", "firmTo", "[I", true)
  | 22 => ("LetterDebtsModel", "firmSum", "[I", true)
  | 23 => ("LetterDebtsModel", "firmDay", "[I", true)
  | 24 => ("LetterDebtsModel", "held", "[I", true)
  | 25 => ("LetterDebtsModel", "ways", "[J", true)
  | 26 => ("LetterDebtsModel", "low", "[I", true)
  | 27 => ("LetterDebtsModel", "high", "[I", true)
  | 28 => ("LetterDebtsModel", "allWays", "J", false)
  | 29 => ("LetterDebtsModel", "least", "I", false)
  | 30 => ("LetterDebtsModel", "most", "I", false)
  | 31 => ("LetterDebtsModel", "isWay", "[Z", true)
  | 32 => ("LetterDebtsModel", "debts", "[I", true)
  | 33 => ("LetterDebtsModel", "letters", "[I", true)
  | 34 => ("LetterDebtsModel", "calls", "[I", true)
  | 35 => ("LetterDebtsModel", "lost", "[I", true)
  | 36 => ("LetterDebtsModel", "days", "[I", true)
  | 37 => ("LetterDebtsModel", "debtPerson", "[I", true)
  | 38 => ("LetterDebtsModel", "amount", "[I", true)
  | 39 => ("LetterDebtsModel", "open", "[I", true)
  | 40 => ("LetterDebtsModel", "holds", "[I", true)
  | 41 => ("LetterDebtsModel", "aside", "[I", true)
  | 42 => ("LetterDebtsModel", "debtDay", "[I", true)
  | 43 => ("LetterDebtsModel", "kept", "[I", true)
  | 44 => ("LetterDebtsModel", "isAside", "[I", true)
  | 45 => ("LetterDebtsModel", "letterDebt", "[I", true)
  | 46 => ("LetterDebtsModel", "sent", "[I", true)
  | 47 => ("LetterDebtsModel", "letterPlace", "[I", true)
  | 48 => ("LetterDebtsModel", "minutes", "[I", true)
  | 49 => ("LetterDebtsModel", "places", "[I", true)
  | _ => ("LetterDebtsModel", "isKept", "[Z", true)
def tyX10 : Nat → FieldType := fun k => match k with
  | 0 => .long
  | 1 => .int
  | 2 => .array .byte
  | 3 => .int
  | 4 => .int
  | 5 => .array .int
  | 6 => .array .int
  | 7 => .array .int
  | 8 => .array .int
  | 9 => .array .int
  | 10 => .int
  | 11 => .int
  | 12 => .int
  | 13 => .int
  | 14 => .int
  | 15 => .array .int
  | 16 => .array .int
  | 17 => .array .int
  | 18 => .array .int
  | 19 => .array .int
  | 20 => .array .int
  | 21 => .array .int
  | 22 => .array .int
  | 23 => .array .int
  | 24 => .array .int
  | 25 => .array .long
  | 26 => .array .int
  | 27 => .array .int
  | 28 => .long
  | 29 => .int
  | 30 => .int
  | 31 => .array .boolean
  | 32 => .array .int
  | 33 => .array .int
  | 34 => .array .int
  | 35 => .array .int
  | 36 => .array .int
  | 37 => .array .int
  | 38 => .array .int
  | 39 => .array .int
  | 40 => .array .int
  | 41 => .array .int
  | 42 => .array .int
  | 43 => .array .int
  | 44 => .array .int
  | 45 => .array .int
  | 46 => .array .int
  | 47 => .array .int
  | 48 => .array .int
  | 49 => .array .int
  | _ => .array .boolean
abbrev wsX100 : List Cond := u_ws RX10 TX10 51
theorem nmX10 : ∀ a, a < 51 → ∀ b, b < 51 → a ≠ b → (TX10 a).2.1 ≠ (TX10 b).2.1 := by decide +kernel
theorem tyX10_ok : ∀ k, k < 51 → parseFieldDescriptor (TX10 k).2.2.1 = some (tyX10 k) := by decide +kernel
abbrev cX10_init : ByteArray := prog_12_method_1_code
def yX10_init : MethodName := ⟨RX10, "<init>", "()V"⟩
abbrev cX10_in : ByteArray := prog_12_method_3_code
def yX10_in : MethodName := ⟨RX10, "in", "(III)Z"⟩
abbrev cX10_type : ByteArray := prog_12_method_4_code
def yX10_type : MethodName := ⟨RX10, "type", "(JI)I"⟩
abbrev cX10_clear : ByteArray := prog_12_method_5_code
def yX10_clear : MethodName := ⟨RX10, "clear", "()I"⟩
abbrev cX10_here : ByteArray := prog_12_method_6_code
def yX10_here : MethodName := ⟨RX10, "here", "()I"⟩
abbrev cX10_more : ByteArray := prog_12_method_7_code
def yX10_more : MethodName := ⟨RX10, "more", "(JI)J"⟩
abbrev cX10_code : ByteArray := prog_12_method_8_code
def yX10_code : MethodName := ⟨RX10, "code", "(IIII)J"⟩
abbrev cX10_wordOf : ByteArray := prog_12_method_9_code
def yX10_wordOf : MethodName := ⟨RX10, "wordOf", "(II)I"⟩
abbrev cX10_next : ByteArray := prog_12_method_10_code
def yX10_next : MethodName := ⟨RX10, "next", "()V"⟩
abbrev cX10_wants : ByteArray := prog_12_method_11_code
def yX10_wants : MethodName := ⟨RX10, "wants", "(Z)I"⟩
abbrev cX10_number : ByteArray := prog_12_method_12_code
def yX10_number : MethodName := ⟨RX10, "number", "(II)I"⟩
abbrev cX10_word : ByteArray := prog_12_method_13_code
def yX10_word : MethodName := ⟨RX10, "word", "(I)V"⟩
abbrev cX10_sign : ByteArray := prog_12_method_14_code
def yX10_sign : MethodName := ⟨RX10, "sign", "(I)V"⟩
abbrev cX10_rules : ByteArray := prog_12_method_15_code
def yX10_rules : MethodName := ⟨RX10, "rules", "()I"⟩
abbrev cX10_isDay : ByteArray := prog_12_method_16_code
def yX10_isDay : MethodName := ⟨RX10, "isDay", "(I)Z"⟩
abbrev cX10_dueOf : ByteArray := prog_12_method_17_code
def yX10_dueOf : MethodName := ⟨RX10, "dueOf", "(II)I"⟩
abbrev cX10_due : ByteArray := prog_12_method_18_code
def yX10_due : MethodName := ⟨RX10, "due", "(II)I"⟩
abbrev cX10_isPerson : ByteArray := prog_12_method_19_code
def yX10_isPerson : MethodName := ⟨RX10, "isPerson", "(I)Z"⟩
abbrev cX10_isFortnight : ByteArray := prog_12_method_20_code
def yX10_isFortnight : MethodName := ⟨RX10, "isFortnight", "(I)Z"⟩
abbrev cX10_pay : ByteArray := prog_12_method_21_code
def yX10_pay : MethodName := ⟨RX10, "pay", "(IIII)I"⟩
abbrev cX10_firmOf : ByteArray := prog_12_method_22_code
def yX10_firmOf : MethodName := ⟨RX10, "firmOf", "(III)I"⟩
abbrev cX10_firm : ByteArray := prog_12_method_23_code
def yX10_firm : MethodName := ⟨RX10, "firm", "(IIII)I"⟩
abbrev cX10_findHeld : ByteArray := prog_12_method_24_code
def yX10_findHeld : MethodName := ⟨RX10, "findHeld", "(II)V"⟩
abbrev cX10_paid : ByteArray := prog_12_method_25_code
def yX10_paid : MethodName := ⟨RX10, "paid", "(III)I"⟩
abbrev cX10_add : ByteArray := prog_12_method_26_code
def yX10_add : MethodName := ⟨RX10, "add", "(IIII)V"⟩
abbrev cX10_goThrough : ByteArray := prog_12_method_27_code
def yX10_goThrough : MethodName := ⟨RX10, "goThrough", "(II)Z"⟩
abbrev cX10_over : ByteArray := prog_12_method_28_code
def yX10_over : MethodName := ⟨RX10, "over", "(I)I"⟩
abbrev cX10_slip : ByteArray := prog_12_method_29_code
def yX10_slip : MethodName := ⟨RX10, "slip", "(III)I"⟩
abbrev cX10_look : ByteArray := prog_12_method_30_code
def yX10_look : MethodName := ⟨RX10, "look", "(II)V"⟩
abbrev cX10_could : ByteArray := prog_12_method_31_code
def yX10_could : MethodName := ⟨RX10, "could", "(II)I"⟩
abbrev cX10_average : ByteArray := prog_12_method_32_code
def yX10_average : MethodName := ⟨RX10, "average", "(II)I"⟩
abbrev cX10_owedBy : ByteArray := prog_12_method_33_code
def yX10_owedBy : MethodName := ⟨RX10, "owedBy", "(IIZ)I"⟩
abbrev cX10_owedOf : ByteArray := prog_12_method_34_code
def yX10_owedOf : MethodName := ⟨RX10, "owedOf", "(III)I"⟩
abbrev cX10_owed : ByteArray := prog_12_method_35_code
def yX10_owed : MethodName := ⟨RX10, "owed", "(III)I"⟩
abbrev cX10_isOne : ByteArray := prog_12_method_36_code
def yX10_isOne : MethodName := ⟨RX10, "isOne", "()Z"⟩
abbrev cX10_stands : ByteArray := prog_12_method_37_code
def yX10_stands : MethodName := ⟨RX10, "stands", "(II)I"⟩
abbrev cX10_span : ByteArray := prog_12_method_38_code
def yX10_span : MethodName := ⟨RX10, "span", "(IIII)I"⟩
abbrev cX10_bitsIn : ByteArray := prog_12_method_39_code
def yX10_bitsIn : MethodName := ⟨RX10, "bitsIn", "(I)I"⟩
abbrev cX10_inSpans : ByteArray := prog_12_method_40_code
def yX10_inSpans : MethodName := ⟨RX10, "inSpans", "(II)I"⟩
abbrev cX10_showing : ByteArray := prog_12_method_41_code
def yX10_showing : MethodName := ⟨RX10, "showing", "(III)Z"⟩
abbrev cX10_settling : ByteArray := prog_12_method_42_code
def yX10_settling : MethodName := ⟨RX10, "settling", "(II)I"⟩
abbrev cX10_settles : ByteArray := prog_12_method_43_code
def yX10_settles : MethodName := ⟨RX10, "settles", "(III)I"⟩
abbrev cX10_tells : ByteArray := prog_12_method_44_code
def yX10_tells : MethodName := ⟨RX10, "tells", "(II)I"⟩
abbrev cX10_isDebt : ByteArray := prog_12_method_45_code
def yX10_isDebt : MethodName := ⟨RX10, "isDebt", "(I)Z"⟩
abbrev cX10_debt : ByteArray := prog_12_method_46_code
def yX10_debt : MethodName := ⟨RX10, "debt", "(II)I"⟩
abbrev cX10_placeOf : ByteArray := prog_12_method_47_code
def yX10_placeOf : MethodName := ⟨RX10, "placeOf", "(III)I"⟩
abbrev cX10_place : ByteArray := prog_12_method_48_code
def yX10_place : MethodName := ⟨RX10, "place", "(III)I"⟩
abbrev cX10_letter : ByteArray := prog_12_method_49_code
def yX10_letter : MethodName := ⟨RX10, "letter", "(I)I"⟩
abbrev cX10_stateOf : ByteArray := prog_12_method_50_code
def yX10_stateOf : MethodName := ⟨RX10, "stateOf", "(I)I"⟩
abbrev cX10_post : ByteArray := prog_12_method_51_code
def yX10_post : MethodName := ⟨RX10, "post", "(II)I"⟩
abbrev cX10_mayHold : ByteArray := prog_12_method_52_code
def yX10_mayHold : MethodName := ⟨RX10, "mayHold", "(I)Z"⟩
abbrev cX10_hold : ByteArray := prog_12_method_53_code
def yX10_hold : MethodName := ⟨RX10, "hold", "(IIII)I"⟩
abbrev cX10_set : ByteArray := prog_12_method_54_code
def yX10_set : MethodName := ⟨RX10, "set", "(I)I"⟩
abbrev cX10_about : ByteArray := prog_12_method_55_code
def yX10_about : MethodName := ⟨RX10, "about", "(II)I"⟩
abbrev cX10_right : ByteArray := prog_12_method_56_code
def yX10_right : MethodName := ⟨RX10, "right", "(II)I"⟩
abbrev cX10_heardFrom : ByteArray := prog_12_method_57_code
def yX10_heardFrom : MethodName := ⟨RX10, "heardFrom", "(I)I"⟩
abbrev cX10_call : ByteArray := prog_12_method_58_code
def yX10_call : MethodName := ⟨RX10, "call", "(II)I"⟩
abbrev cX10_day : ByteArray := prog_12_method_59_code
def yX10_day : MethodName := ⟨RX10, "day", "()I"⟩
abbrev cX10_weight : ByteArray := prog_12_method_60_code
def yX10_weight : MethodName := ⟨RX10, "weight", "(III)I"⟩
abbrev cX10_move : ByteArray := prog_12_method_61_code
def yX10_move : MethodName := ⟨RX10, "move", "([IIII)V"⟩
abbrev cX10_moveAll : ByteArray := prog_12_method_62_code
def yX10_moveAll : MethodName := ⟨RX10, "moveAll", "(II)V"⟩
abbrev cX10_keep : ByteArray := prog_12_method_63_code
def yX10_keep : MethodName := ⟨RX10, "keep", "(I)I"⟩
abbrev cX10_back : ByteArray := prog_12_method_64_code
def yX10_back : MethodName := ⟨RX10, "back", "(I)I"⟩
abbrev cX10_count : ByteArray := prog_12_method_65_code
def yX10_count : MethodName := ⟨RX10, "count", "(I)I"⟩
abbrev cX10_trace : ByteArray := prog_12_method_66_code
def yX10_trace : MethodName := ⟨RX10, "trace", "()J"⟩
def RJ6 : String := "java/lang/Integer"
def TJ6 : u_T := fun k => match k with
  | _ => ("", "", "", false)
def tyJ6 : Nat → FieldType := fun k => match k with
  | _ => .int
abbrev wsJ60 : List Cond := u_ws RJ6 TJ6 0
theorem nmJ6 : ∀ a, a < 0 → ∀ b, b < 0 → a ≠ b → (TJ6 a).2.1 ≠ (TJ6 b).2.1 := by decide +kernel
theorem tyJ6_ok : ∀ k, k < 0 → parseFieldDescriptor (TJ6 k).2.2.1 = some (tyJ6 k) := by decide +kernel
abbrev cJ6_bitCount_0f7a4 : ByteArray := prog_13_method_49_code
def yJ6_bitCount_0f7a4 : MethodName := ⟨RJ6, "bitCount", "(I)I"⟩
def RJ9 : String := "java/lang/Math"
def TJ9 : u_T := fun k => match k with
  | _ => ("", "", "", false)
def tyJ9 : Nat → FieldType := fun k => match k with
  | _ => .int
abbrev wsJ90 : List Cond := u_ws RJ9 TJ9 0
theorem nmJ9 : ∀ a, a < 0 → ∀ b, b < 0 → a ≠ b → (TJ9 a).2.1 ≠ (TJ9 b).2.1 := by decide +kernel
theorem tyJ9_ok : ∀ k, k < 0 → parseFieldDescriptor (TJ9 k).2.2.1 = some (tyJ9 k) := by decide +kernel
abbrev cJ9_max_7cf53 : ByteArray := prog_14_method_65_code
def yJ9_max_7cf53 : MethodName := ⟨RJ9, "max", "(II)I"⟩
abbrev cJ9_min_7cf53 : ByteArray := prog_14_method_69_code
def yJ9_min_7cf53 : MethodName := ⟨RJ9, "min", "(II)I"⟩
def RJ0 : String := "java/lang/String"
def TJ0 : u_T := fun k => match k with
  | _ => ("", "", "", false)
def tyJ0 : Nat → FieldType := fun k => match k with
  | _ => .int
abbrev wsJ00 : List Cond := u_ws RJ0 TJ0 0
theorem nmJ0 : ∀ a, a < 0 → ∀ b, b < 0 → a ≠ b → (TJ0 a).2.1 ≠ (TJ0 b).2.1 := by decide +kernel
theorem tyJ0_ok : ∀ k, k < 0 → parseFieldDescriptor (TJ0 k).2.2.1 = some (tyJ0 k) := by decide +kernel
abbrev cJ0_length_8abf5 : ByteArray := prog_15_method_54_code
def yJ0_length_8abf5 : MethodName := ⟨RJ0, "length", "()I"⟩
abbrev cJ0_charAt_5068e : ByteArray := prog_15_method_56_code
def yJ0_charAt_5068e : MethodName := ⟨RJ0, "charAt", "(I)C"⟩
abbrev cJ0_coder_7d493 : ByteArray := prog_15_method_152_code
def yJ0_coder_7d493 : MethodName := ⟨RJ0, "coder", "()B"⟩
abbrev cJ0_isLatin1_aae02 : ByteArray := prog_15_method_154_code
def yJ0_isLatin1_aae02 : MethodName := ⟨RJ0, "isLatin1", "()Z"⟩
abbrev cJ0_checkIndex_df160 : ByteArray := prog_15_method_155_code
def yJ0_checkIndex_df160 : MethodName := ⟨RJ0, "checkIndex", "(II)V"⟩
def RJ1 : String := "java/lang/StringLatin1"
def TJ1 : u_T := fun k => match k with
  | _ => ("", "", "", false)
def tyJ1 : Nat → FieldType := fun k => match k with
  | _ => .int
abbrev wsJ10 : List Cond := u_ws RJ1 TJ1 0
theorem nmJ1 : ∀ a, a < 0 → ∀ b, b < 0 → a ≠ b → (TJ1 a).2.1 ≠ (TJ1 b).2.1 := by decide +kernel
theorem tyJ1_ok : ∀ k, k < 0 → parseFieldDescriptor (TJ1 k).2.2.1 = some (tyJ1 k) := by decide +kernel
abbrev cJ1_charAt_3b067 : ByteArray := prog_16_method_2_code
def yJ1_charAt_3b067 : MethodName := ⟨RJ1, "charAt", "([BI)C"⟩
def RJ2 : String := "java/lang/StringUTF16"
def TJ2 : u_T := fun k => match k with
  | _ => ("", "", "", false)
def tyJ2 : Nat → FieldType := fun k => match k with
  | _ => .int
abbrev wsJ20 : List Cond := u_ws RJ2 TJ2 0
theorem nmJ2 : ∀ a, a < 0 → ∀ b, b < 0 → a ≠ b → (TJ2 a).2.1 ≠ (TJ2 b).2.1 := by decide +kernel
theorem tyJ2_ok : ∀ k, k < 0 → parseFieldDescriptor (TJ2 k).2.2.1 = some (tyJ2 k) := by decide +kernel
abbrev cJ2_getChar_3b067 : ByteArray := prog_17_method_5_code
def yJ2_getChar_3b067 : MethodName := ⟨RJ2, "getChar", "([BI)C"⟩
abbrev cJ2_length_9d52b : ByteArray := prog_17_method_6_code
def yJ2_length_9d52b : MethodName := ⟨RJ2, "length", "([B)I"⟩
abbrev cJ2_charAt_3b067 : ByteArray := prog_17_method_83_code
def yJ2_charAt_3b067 : MethodName := ⟨RJ2, "charAt", "([BI)C"⟩
abbrev cJ2_checkIndex_2214a : ByteArray := prog_17_method_91_code
def yJ2_checkIndex_2214a : MethodName := ⟨RJ2, "checkIndex", "(I[B)V"⟩
def RJ10 : String := "java/lang/System"
def TJ10 : u_T := fun k => match k with
  | _ => ("", "", "", false)
def tyJ10 : Nat → FieldType := fun k => match k with
  | _ => .int
abbrev wsJ100 : List Cond := u_ws RJ10 TJ10 0
theorem nmJ10 : ∀ a, a < 0 → ∀ b, b < 0 → a ≠ b → (TJ10 a).2.1 ≠ (TJ10 b).2.1 := by decide +kernel
theorem tyJ10_ok : ∀ k, k < 0 → parseFieldDescriptor (TJ10 k).2.2.1 = some (tyJ10 k) := by decide +kernel
def RJ3 : String := "jdk/internal/util/Preconditions"
def TJ3 : u_T := fun k => match k with
  | _ => ("", "", "", false)
def tyJ3 : Nat → FieldType := fun k => match k with
  | _ => .int
abbrev wsJ30 : List Cond := u_ws RJ3 TJ3 0
theorem nmJ3 : ∀ a, a < 0 → ∀ b, b < 0 → a ≠ b → (TJ3 a).2.1 ≠ (TJ3 b).2.1 := by decide +kernel
theorem tyJ3_ok : ∀ k, k < 0 → parseFieldDescriptor (TJ3 k).2.2.1 = some (tyJ3 k) := by decide +kernel
abbrev cJ3_checkIndex_8e157 : ByteArray := prog_19_method_11_code
def yJ3_checkIndex_8e157 : MethodName := ⟨RJ3, "checkIndex", "(IILjava/util/function/BiFunction;)I"⟩
def RL : String := "LetterDebtsLaw"
abbrev cL_law : ByteArray := code
def yL_law : MethodName := ⟨RL, "law", "([I)Z"⟩
abbrev vwCl : List vw_C := [(RX0, TX0, 7), (RX1, TX1, 5), (RX2, TX2, 8), (RX3, TX3, 4), (RX4, TX4, 2), (RX5, TX5, 11), (RX6, TX6, 6), (RX7, TX7, 3), (RX8, TX8, 7), (RX9, TX9, 7), (RX10, TX10, 51)]
theorem inX0 : ∀ w ∈ wsX00, w ∈ lw_tbl := by decide +kernel
theorem inX1 : ∀ w ∈ wsX10, w ∈ lw_tbl := by decide +kernel
theorem inX2 : ∀ w ∈ wsX20, w ∈ lw_tbl := by decide +kernel
theorem inX3 : ∀ w ∈ wsX30, w ∈ lw_tbl := by decide +kernel
theorem inX4 : ∀ w ∈ wsX40, w ∈ lw_tbl := by decide +kernel
theorem inX5 : ∀ w ∈ wsX50, w ∈ lw_tbl := by decide +kernel
theorem inX6 : ∀ w ∈ wsX60, w ∈ lw_tbl := by decide +kernel
theorem inX7 : ∀ w ∈ wsX70, w ∈ lw_tbl := by decide +kernel
theorem inX8 : ∀ w ∈ wsX80, w ∈ lw_tbl := by decide +kernel
theorem inX9 : ∀ w ∈ wsX90, w ∈ lw_tbl := by decide +kernel
theorem inX10 : ∀ w ∈ wsX100, w ∈ lw_tbl := by decide +kernel
end
section
/-! THE ENGINE: a run of bytecode over abstract values. A value: an int of an interval; a variable (its interval stands in the box); a long (known, or any); a reference to a cell by its place in the list of cells, or null; a reference to a thing outside (0: the script; k + 1: a static table). -/
abbrev zA : Type := (Int × Int) ⊕ Nat ⊕ (Option Int) ⊕ (Option Nat) ⊕ Nat
/-- a table: its old rows by eights; the new or changed ones -/
abbrev zT (α : Type) : Type := List (List α) × List (Nat × α)
/-- a cell: an object (class, fields) or an array (kind, length, what its places hold, but for these). Kinds: 0 int, 1 byte, 2 char, 3 boolean, 4 long, 5 Person[], 6 Books[], 7 int[][] -/
abbrev zC : Type := (Nat × zT zA) ⊕ (Nat × Nat × zA × List (Nat × zA))
/-- an instruction: its place, itself, its length, two numbers that tell what it links, or how far a jump goes -/
abbrev zI : Type := Nat × Instr × Nat × Nat × Int
abbrev zE : Type := List (Int × Int)
abbrev zL : Type := List (Nat × zA)
/-- the cells: how many, how many slots; themselves -/
abbrev zH : Type := (Nat × Nat) × zT zC
/-- what an instruction does: goes on; jumps (where to, and a hint); calls; returns; can't go on (a variable, where to part its interval) -/
abbrev zS : Type := (zL × List zA × zH) ⊕ (Nat × Bool × Nat × List zA) ⊕ (Nat × List zA × List zA) ⊕ (Option zA) ⊕ (Nat × Int)
abbrev zk (c : Int) : zA := .inl (c, c)
abbrev zlg (o : Option Int) : zA := .inr (.inr (.inl o))
abbrev zrf (i : Nat) : zA := .inr (.inr (.inr (.inl (some i))))
abbrev znl : zA := .inr (.inr (.inr (.inl none)))
abbrev zpx (k : Nat) : zA := .inr (.inr (.inr (.inr k)))
abbrev zgo (al : zL) (st : List zA) (h : zH) : zS := .inl (al, st, h)
abbrev zjp (t : Nat) (b : Bool) (k : Nat) (st : List zA) : zS := .inr (.inl (t, b, k, st))
abbrev zcl (j : Nat) (as st : List zA) : zS := .inr (.inr (.inl (j, as, st)))
abbrev zrt (r : Option zA) : zS := .inr (.inr (.inr (.inl r)))
abbrev zno (q : Nat × Int) : zS := .inr (.inr (.inr (.inr q)))
noncomputable def zlk {α : Type} (l : List (Nat × α)) (i : Nat) : Option α := List.rec (motive := fun _ => Option α) none (fun q _ ih => bif Nat.beq q.1 i then some q.2 else ih) l
noncomputable def zrm {α : Type} (l : List (Nat × α)) (i : Nat) : List (Nat × α) := List.rec (motive := fun _ => List (Nat × α)) [] (fun q _ ih => bif Nat.beq q.1 i then ih else q :: ih) l
noncomputable def znt {α : Type} (l : List α) : Nat → Option α := List.rec (motive := fun _ => Nat → Option α) (fun _ => none) (fun a _ ih n => Nat.rec (motive := fun _ => Option α) (some a) (fun k _ => ih k) n) l
noncomputable def zg {α : Type} (t : zT α) (i : Nat) : Option α := match zlk t.2 i with
  | some c => some c
  | none => match znt t.1 (i / 8) with
    | some r => znt r (i % 8)
    | none => none
noncomputable def zu {α : Type} (t : zT α) (i : Nat) (c : α) : zT α := (t.1, (i, c) :: zrm t.2 i)
noncomputable def zgt (h : zH) (i : Nat) : Option zC := zg h.2 i
noncomputable def zsc (h : zH) (i : Nat) (c : zC) : zH := (h.1, zu h.2 i c)
noncomputable def zph (h : zH) (c : zC) (n : Nat) : zH := ((h.1.1 + 1, h.1.2 + n), h.2.1, (h.1.1, c) :: h.2.2)
noncomputable def zpn (h : zH) (c : zC) (n : Nat) (k : Nat) : zH := Nat.rec (motive := fun _ => zH) h (fun _ ih => zph ih c n) k
/-- what the place j of an array holds -/
noncomputable def zag (d : zA) (ov : List (Nat × zA)) (j : Nat) : zA := match zlk ov j with
  | some a => a
  | none => d
/-- the n uppermost of a stack, the lowest first, and the rest -/
noncomputable def ztk (n : Nat) : List zA → List zA → List zA × List zA := Nat.rec (motive := fun _ => List zA → List zA → List zA × List zA) (fun st acc => (acc, st)) (fun _ ih st acc => match st with
  | a :: r => ih r (a :: acc)
  | [] => ([], [])) n
noncomputable def zz : Int × Int := (-2147483648, 2147483647)
noncomputable def zle : Int → Int → Bool
  | .ofNat a, .ofNat b => Nat.ble a b
  | .ofNat _, .negSucc _ => false
  | .negSucc _, .ofNat _ => true
  | .negSucc a, .negSucc b => Nat.ble b a
noncomputable def zeq : Int → Int → Bool
  | .ofNat a, .ofNat b => Nat.beq a b
  | .negSucc a, .negSucc b => Nat.beq a b
  | _, _ => false
noncomputable def zlt (a b : Int) : Bool := !(zle b a)
/-- the interval of a value -/
noncomputable def ziv (E : zE) : zA → Option (Int × Int)
  | .inl p => some p
  | .inr (.inl k) => znt E k
  | _ => none
/-- the number of a value, if it is one -/
noncomputable def zcn (E : zE) (a : zA) : Option Int := match ziv E a with
  | some (l, u) => bif zeq l u then some l else none
  | none => none
/-- asks to part the interval of some variable that is small -/
noncomputable def zfb (E : zE) : Nat → Nat × Int
  | 0 => (900, 0)
  | n + 1 => match znt E (4 - n) with
    | some (l, u) => bif zlt l u && zle u (l + 32) then (4 - n, (l + u + 1) / 2) else zfb E n
    | none => zfb E n
/-- asks to part a variable's interval at c, or in the middle -/
noncomputable def zpt (E : zE) (a : zA) (c : Option Int) : Nat × Int := match a with
  | .inr (.inl k) => match znt E k with
    | some (l, u) => match c with
      | some c => bif zlt l c && zle c u then (k, c) else (k, (l + u + 1) / 2)
      | none => (k, (l + u + 1) / 2)
    | none => (900, 0)
  | _ => zfb E 4
noncomputable def znm (p : Int × Int) : Int × Int := bif zle (-2147483648) p.1 && zle p.2 2147483647 then p else zz
noncomputable def zad (E : zE) (a b : zA) (neg : Bool) : zA ⊕ (Nat × Int) :=
  match ziv E a, ziv E b with
  | some p, some q => .inl (.inl (znm (bif neg then (p.1 - q.2, p.2 - q.1) else (p.1 + q.1, p.2 + q.2))))
  | _, _ => .inr (902, 0)
/-- a number out of two numbers, by a function of the machine's ints -/
noncomputable def zo2 (E : zE) (f : Int32 → Int32 → Int32) (a b : zA) : zA ⊕ (Nat × Int) :=
  match ziv E a, ziv E b with
  | some p, some q => bif zeq p.1 p.2 && zeq q.1 q.2 then .inl (zk (f (Int32.ofInt p.1) (Int32.ofInt q.1)).toInt) else .inl (.inl zz)
  | _, _ => .inr (903, 0)
noncomputable def zan (E : zE) (a b : zA) : zA ⊕ (Nat × Int) := match a, zcn E b with
  | .inr (.inl 0), some c => bif zeq c 31 then .inl (.inr (.inl 5)) else zo2 E (· &&& ·) a b
  | _, _ => zo2 E (· &&& ·) a b
noncomputable def zdv (E : zE) (f : Int32 → Int32 → Int32) (a b : zA) : zA ⊕ (Nat × Int) := match ziv E b with
  | some q => bif zlt 0 q.1 || zlt q.2 0 then zo2 E f a b else .inr (zpt E b (some 1))
  | none => .inr (904, 0)
/-- a comparison: known, or not -/
noncomputable def zlts (p q : Int × Int) : Option Bool := bif zlt p.2 q.1 then some true else bif zle q.2 p.1 then some false else none
noncomputable def zles (p q : Int × Int) : Option Bool := bif zle p.2 q.1 then some true else bif zlt q.2 p.1 then some false else none
noncomputable def zeqs (p q : Int × Int) : Option Bool := bif zlt p.2 q.1 || zlt q.2 p.1 then some false else bif zeq p.1 p.2 && (zeq q.1 q.2 && zeq p.1 q.1) then some true else none
noncomputable def zcr (k : Jvm.ClassFile.Cond) (p q : Int × Int) : Option Bool := match k with
  | .eq => zeqs p q
  | .ne => (zeqs p q).map (!·)
  | .lt => zlts p q
  | .ge => zles q p
  | .gt => zlts q p
  | .le => zles p q
/-- where to part, when a comparison isn't known -/
noncomputable def zcs (E : zE) (k : Jvm.ClassFile.Cond) (a b : zA) (p q : Int × Int) : Nat × Int :=
  match a, b with
  | .inr (.inl _), .inr (.inl _) => bif zeq q.1 q.2 then zpt E a (some (match k with | .lt | .ge => q.1 | .le | .gt => q.1 + 1 | _ => bif zlt p.1 q.1 then q.1 else q.1 + 1)) else
    bif zeq p.1 p.2 then zpt E b (some (match k with | .gt | .le => p.1 | .ge | .lt => p.1 + 1 | _ => bif zlt q.1 p.1 then p.1 else p.1 + 1)) else zpt E b none
  | .inr (.inl _), _ => bif zeq q.1 q.2 then zpt E a (some (match k with | .lt | .ge => q.1 | .le | .gt => q.1 + 1 | _ => bif zlt p.1 q.1 then q.1 else q.1 + 1)) else zfb E 4
  | _, .inr (.inl _) => bif zeq p.1 p.2 then zpt E b (some (match k with | .gt | .le => p.1 | .ge | .lt => p.1 + 1 | _ => bif zlt q.1 p.1 then p.1 else p.1 + 1)) else zfb E 4
  | _, _ => zfb E 4
noncomputable def zcm (E : zE) (k : Jvm.ClassFile.Cond) (a b : zA) : Bool ⊕ (Nat × Int) := match ziv E a, ziv E b with
  | some p, some q => match zcr k p q with
    | some r => .inl r
    | none => .inr (zcs E k a b p q)
  | _, _ => .inr (906, 0)
/-- a place of an array of n -/
noncomputable def zix (E : zE) (a : zA) (n : Nat) : Nat ⊕ (Nat × Int) := match zcn E a with
  | some (.ofNat i) => bif Nat.blt i n then .inl i else .inr (907, 0)
  | some (.negSucc _) => .inr (908, 0)
  | none => .inr (zpt E a none)
noncomputable def zca : zA → Nat
  | .inr (.inr (.inl _)) => 2
  | _ => 1
noncomputable def zrl (l : zL) (i : Nat) : zL := List.rec (motive := fun _ => zL) [] (fun q _ ih => bif Nat.beq q.1 i then ih else bif Nat.beq (q.1 + 1) i && Nat.beq (zca q.2) 2 then ih else q :: ih) l
noncomputable def zst (al : zL) (i : Nat) (a : zA) : zL := (i, a) :: zrl al i
noncomputable def zst2 (al : zL) (i : Nat) (a : zA) : zL := (i, a) :: zrl (zrm al (i + 1)) i
noncomputable def zint : zA → Bool
  | .inl _ => true
  | .inr (.inl _) => true
  | _ => false
noncomputable def ztb : Nat → List Int
  | 0 => [-1, 0, 0, 2, 0, 4, 0, 4]
  | _ => [1, 10, 100, 1000, 10000, 100000, 1000000, 10000000]
noncomputable def zak (t : ArrayType) : Option Nat := match t with
  | .int => some 0
  | .byte => some 1
  | .char => some 2
  | .boolean => some 3
  | .long => some 4
  | _ => none
/-- the value that a fresh field has -/
noncomputable def zdf : FieldType → zA
  | .long => zlg (some 0)
  | .object _ => znl
  | .array _ => znl
  | _ => zk 0
noncomputable def zty : Nat → Nat → FieldType
  | 0 => tyX0 | 1 => tyX1 | 2 => tyX2 | 3 => tyX3 | 4 => tyX4 | 5 => tyX5 | 6 => tyX6 | 7 => tyX7 | 8 => tyX8 | 9 => tyX9 | _ => tyX10
noncomputable def zN : Nat → Nat
  | 0 => 7 | 1 => 5 | 2 => 8 | 3 => 4 | 4 => 2 | 5 => 11 | 6 => 6 | 7 => 3 | 8 => 7 | 9 => 7 | _ => 51
noncomputable def zfs : Nat → List (List zA)
  | 0 => [[znl, znl, znl, znl, zk 0, zk 0, zk 0]]
  | 1 => [[znl, znl, znl, zk 0, zk 0]]
  | 2 => [[znl, znl, znl, znl, znl, znl, znl, zk 0]]
  | 3 => [[znl, znl, znl, zk 0]]
  | 4 => [[znl, zk 0]]
  | 5 => [[znl, znl, znl, znl, znl, znl, znl, znl], [znl, znl, zk 0]]
  | 6 => [[znl, znl, znl, znl, znl, zk 0]]
  | 7 => [[znl, znl, zk 0]]
  | 8 => [[znl, znl, znl, znl, zk 0, zk 0, zk 0]]
  | 9 => [[znl, znl, znl, znl, znl, znl, zlg (some 0)]]
  | _ => [[zlg (some 0), zk 0, znl, zk 0, zk 0, znl, znl, znl], [znl, znl, zk 0, zk 0, zk 0, zk 0, zk 0, znl], [znl, znl, znl, znl, znl, znl, znl, znl], [znl, znl, znl, znl, zlg (some 0), zk 0, zk 0, znl], [znl, znl, znl, znl, znl, znl, znl, znl], [znl, znl, znl, znl, znl, znl, znl, znl], [znl, znl, znl]]
noncomputable def zl2 (f : Int64 → Int64 → Int64) (a b : Option Int) : Option Int := match a, b with
  | some a, some b => some (f (Int64.ofInt a) (Int64.ofInt b)).toInt
  | _, _ => none
noncomputable def zpu (al : zL) (st : List zA) (h : zH) (r : zA ⊕ (Nat × Int)) : zS := match r with
  | .inl v => zgo al (v :: st) h
  | .inr q => zno q
noncomputable def zgj (pc : Nat) (off : Int) (r1 : Nat) (r2 : Int) (st : List zA) : zS := match (pc : Int) + off with
  | .ofNat t => zjp t (Nat.beq r1 0) r2.toNat st
  | .negSucc _ => zno (909, 0)
noncomputable def zbr (pc : Nat) (off : Int) (r1 : Nat) (r2 : Int) (al : zL) (st : List zA) (h : zH) (r : Bool ⊕ (Nat × Int)) : zS := match r with
  | .inl true => zgj pc off r1 r2 st
  | .inl false => zgo al st h
  | .inr q => zno q
noncomputable def zqA : zA → zA → Bool
  | .inl p, .inl q => zeq p.1 q.1 && zeq p.2 q.2
  | .inr (.inl a), .inr (.inl b) => Nat.beq a b
  | .inr (.inr (.inl none)), .inr (.inr (.inl none)) => true
  | .inr (.inr (.inl (some a))), .inr (.inr (.inl (some b))) => zeq a b
  | .inr (.inr (.inr (.inl none))), .inr (.inr (.inr (.inl none))) => true
  | .inr (.inr (.inr (.inl (some a)))), .inr (.inr (.inr (.inl (some b)))) => Nat.beq a b
  | .inr (.inr (.inr (.inr a))), .inr (.inr (.inr (.inr b))) => Nat.beq a b
  | _, _ => false
/-- no place from l on, m of them, holds anything but a, as far as these say -/
noncomputable def zun (a : zA) (l m : Nat) (ov : List (Nat × zA)) : Bool := List.rec (motive := fun _ => Bool) true (fun q _ ih => (Nat.blt q.1 l || Nat.ble (l + m) q.1 || zqA a q.2) && ih) ov
/-- m places from l on hold a -/
noncomputable def zal (a d : zA) (ov : List (Nat × zA)) (l m : Nat) : Bool := Nat.rec (motive := fun _ => Bool) true (fun k ih => zqA a (zag d ov (l + k)) && ih) m
/-- an interval of places of an array of n: the first and how many; only where it is more than one -/
noncomputable def zir (E : zE) (a : zA) (n : Nat) : Option (Nat × Nat) := match ziv E a with
  | some (.ofNat l, .ofNat u) => bif Nat.blt l u && Nat.blt u n then some (l, u + 1 - l) else none
  | _ => none
noncomputable def zld (E : zE) (h : zH) (ks : Nat → Bool) (i : zA) (r : Nat) : zA ⊕ (Nat × Int) := match zgt h r with
  | some (.inr (k, n, d, ov)) => bif ks k then (match zix E i n with
    | .inl j => .inl (zag d ov j)
    | .inr q => match zir E i n with
      | some (l, m) => bif zun d l m ov then .inl d else bif zal (zag d ov l) d ov l m then .inl (zag d ov l) else .inr q
      | none => .inr q) else .inr (911, 0)
  | _ => .inr (912, 0)
noncomputable def zsv (E : zE) (al : zL) (st : List zA) (h : zH) (ks : Nat → Bool) (cv : Nat → zA → zA) (v i : zA) (r : Nat) : zS := match zgt h r with
  | some (.inr (k, n, d, ov)) => bif ks k then (match zix E i n with
    | .inl j => zgo al st (zsc h r (.inr (k, n, d, (j, cv k v) :: ov)))
    | .inr q => zno q) else zno (913, 0)
  | _ => zno (914, 0)
noncomputable def zcvb (k : Nat) (v : zA) : zA := match k, v with
  | 3, .inl (l, u) => bif zle 0 l && zle u 1 then .inl (l, u) else .inl zz
  | _, _ => .inl zz
abbrev zF : Type := zE → Bool → zL → List zA → zH → zS
noncomputable def zs_iload (k : Nat) : zF := fun _ _ al st h => match zlk al k with
  | some a => bif zint a then zgo al (a :: st) h else zno (920, 0)
  | none => zno (921, 0)
noncomputable def zs_aload (k : Nat) : zF := fun _ _ al st h => match zlk al k with
  | some (.inr (.inr (.inr (.inl (some i))))) => zgo al (zrf i :: st) h
  | some (.inr (.inr (.inr (.inr i)))) => zgo al (zpx i :: st) h
  | _ => zno (922, 0)
noncomputable def zs_lload (k : Nat) : zF := fun _ _ al st h => match zlk al k with
  | some (.inr (.inr (.inl o))) => zgo al (zlg o :: st) h
  | _ => zno (923, 0)
noncomputable def zs_istore (k : Nat) : zF := fun _ _ al st h => match st with
  | a :: st => bif zint a then zgo (zst al k a) st h else zno (924, 0)
  | _ => zno (924, 0)
noncomputable def zs_astore (k : Nat) : zF := fun _ _ al st h => match st with
  | .inr (.inr (.inr (.inl (some i)))) :: st => zgo (zst al k (zrf i)) st h
  | .inr (.inr (.inr (.inr i))) :: st => zgo (zst al k (zpx i)) st h
  | _ => zno (925, 0)
noncomputable def zs_lstore (k : Nat) : zF := fun _ _ al st h => match st with
  | .inr (.inr (.inl o)) :: st => zgo (zst2 al k (zlg o)) st h
  | _ => zno (926, 0)
noncomputable def zs_push (a : zA) : zF := fun _ _ al st h => zgo al (a :: st) h
/-- a binary operation of ints -/
noncomputable def zs_bin (f : zE → zA → zA → zA ⊕ (Nat × Int)) : zF := fun E _ al st h => match st with
  | b :: a :: st => zpu al st h (f E a b)
  | _ => zno (930, 0)
noncomputable def zsr (E : zE) (a b : zA) : zA ⊕ (Nat × Int) := match zcn E a with
  | some c => bif zeq c 0 && zint b then .inl (zk 0) else zo2 E (fun x y => x >>> (y &&& 31)) a b
  | none => zo2 E (fun x y => x >>> (y &&& 31)) a b
noncomputable def zs_iinc (k : Nat) (n : Int) : zF := fun E _ al st h => match zlk al k with
  | some a => bif zint a then (match zad E a (zk n) false with
    | .inl v => zgo (zst al k v) st h
    | .inr q => zno q) else zno (931, 0)
  | none => zno (931, 0)
noncomputable def zs_l2 (f : Int64 → Int64 → Int64) : zF := fun _ _ al st h => match st with
  | .inr (.inr (.inl b)) :: .inr (.inr (.inl a)) :: st => zgo al (zlg (zl2 f a b) :: st) h
  | _ => zno (932, 0)
noncomputable def zs_lrem : zF := fun _ _ al st h => match st with
  | .inr (.inr (.inl (some b))) :: .inr (.inr (.inl a)) :: st => bif zeq (Int64.ofInt b).toInt 0 then zno (932, 0) else zgo al (zlg (zl2 (fun x y => x - x / y * y) a (some b)) :: st) h
  | _ => zno (932, 0)
noncomputable def zs_lsh : zF := fun _ _ al st h => match st with
  | b :: .inr (.inr (.inl _)) :: st => bif zint b then zgo al (zlg none :: st) h else zno (933, 0)
  | _ => zno (933, 0)
noncomputable def zs_i2l : zF := fun E _ al st h => match st with
  | a :: st => bif zint a then zgo al (zlg (zcn E a) :: st) h else zno (934, 0)
  | _ => zno (934, 0)
noncomputable def zs_l2i : zF := fun _ _ al st h => match st with
  | .inr (.inr (.inl (some c))) :: st => zgo al (zk (Int64.ofInt c).toInt32.toInt :: st) h
  | .inr (.inr (.inl none)) :: st => zgo al (.inl zz :: st) h
  | _ => zno (935, 0)
noncomputable def zs_i2x : zF := fun _ _ al st h => match st with
  | a :: st => bif zint a then zgo al (.inl zz :: st) h else zno (936, 0)
  | _ => zno (936, 0)
noncomputable def zs_lcmp : zF := fun _ _ al st h => match st with
  | .inr (.inr (.inl (some b))) :: .inr (.inr (.inl (some a))) :: st => zgo al (zk (bif zlt b a then 1 else bif zeq a b then 0 else -1) :: st) h
  | _ => zno (937, 0)
noncomputable def zs_dup : zF := fun _ _ al st h => match st with
  | a :: st => bif Nat.beq (zca a) 1 then zgo al (a :: a :: st) h else zno (938, 0)
  | _ => zno (938, 0)
noncomputable def zs_dup2 : zF := fun _ _ al st h => match st with
  | a :: b :: st => bif Nat.beq (zca a) 1 && Nat.beq (zca b) 1 then zgo al (a :: b :: a :: b :: st) h else zno (939, 0)
  | _ => zno (939, 0)
noncomputable def zs_pop : zF := fun _ _ al st h => match st with
  | a :: st => bif Nat.beq (zca a) 1 then zgo al st h else zno (940, 0)
  | _ => zno (940, 0)
noncomputable def zs_goto (pc : Nat) (off : Int) (r1 : Nat) (r2 : Int) : zF := fun _ _ _ st _ => zgj pc off r1 r2 st
noncomputable def zs_icmp (k : Jvm.ClassFile.Cond) (pc : Nat) (off : Int) (r1 : Nat) (r2 : Int) : zF := fun E _ al st h => match st with
  | b :: a :: st => zbr pc off r1 r2 al st h (zcm E k a b)
  | _ => zno (941, 0)
noncomputable def zs_if (k : Jvm.ClassFile.Cond) (pc : Nat) (off : Int) (r1 : Nat) (r2 : Int) : zF := fun E _ al st h => match st with
  | a :: st => zbr pc off r1 r2 al st h (zcm E k a (zk 0))
  | _ => zno (942, 0)
noncomputable def zs_table (pc : Nat) (df lo hi : Int) (offs : Array Int) : zF := fun E _ _ st _ => match st with
  | a :: st => match ziv E a with
    | some p => bif zlt p.2 lo || zlt hi p.1 then zgj pc df 1 0 st else
      bif zeq p.1 p.2 then (match offs[(p.1 - lo).toNat]? with
        | some off => zgj pc off 1 0 st
        | none => zno (943, 0)) else
      bif zlt p.1 lo then zno (zpt E a (some lo)) else bif zlt hi p.2 then zno (zpt E a (some (hi + 1))) else zno (zpt E a none)
    | none => zno (944, 0)
  | _ => zno (945, 0)
noncomputable def zs_getf (r1 r2 : Nat) : zF := fun _ _ al st h => match st with
  | .inr (.inr (.inr (.inl (some i)))) :: st => match zgt h i with
    | some (.inl (ci, fs)) => bif Nat.beq ci r1 then (match zg fs r2 with
      | some v => zgo al (v :: st) h
      | none => zno (946, 0)) else zno (947, 0)
    | _ => zno (948, 0)
  | _ => zno (949, 0)
/-- does a value fit a field of this type? -/
noncomputable def zfit (E : zE) (t : FieldType) (v : zA) : Bool := match t, v with
  | .int, a => zint a
  | .boolean, .inl p => zle 0 p.1 && zle p.2 1
  | .long, .inr (.inr (.inl _)) => true
  | .object _, .inr (.inr (.inr (.inl (some _)))) => true
  | .array _, .inr (.inr (.inr (.inl (some _)))) => true
  | _, _ => false
noncomputable def zs_putf (r1 r2 : Nat) : zF := fun E _ al st h => match st with
  | v :: .inr (.inr (.inr (.inl (some i)))) :: st => match zgt h i with
    | some (.inl (ci, fs)) => bif Nat.beq ci r1 && (zfit E (zty r1 r2) v && Nat.blt r2 (zN r1)) then zgo al st (zsc h i (.inl (ci, zu fs r2 v))) else zno (950, 0)
    | _ => zno (951, 0)
  | _ => zno (952, 0)
noncomputable def zs_gets (r1 : Nat) : zF := fun _ _ al st h => bif Nat.ble r1 1 then zgo al (zpx (r1 + 1) :: st) h else zno (952, 1)
noncomputable def zs_iald : zF := fun E top al st h => match st with
  | i :: .inr (.inr (.inr (.inl (some r)))) :: st => zpu al st h (zld E h (fun k => Nat.beq k 0) i r)
  | i :: .inr (.inr (.inr (.inr 0))) :: st => bif top then (match zix E i 5 with
    | .inl j => zgo al (.inr (.inl j) :: st) h
    | .inr q => zno q) else zno (953, 0)
  | i :: .inr (.inr (.inr (.inr (k + 1)))) :: st => bif Nat.ble k 1 then (match zix E i 8 with
    | .inl j => zgo al (zk ((ztb k).getD j 0) :: st) h
    | .inr q => zno q) else zno (953, 1)
  | _ => zno (954, 0)
noncomputable def zs_xald (ks : Nat → Bool) : zF := fun E _ al st h => match st with
  | i :: .inr (.inr (.inr (.inl (some r)))) :: st => zpu al st h (zld E h ks i r)
  | _ => zno (955, 0)
noncomputable def zs_iast : zF := fun E _ al st h => match st with
  | v :: i :: .inr (.inr (.inr (.inl (some r)))) :: st => bif zint v then (match zgt h r with
    | some (.inr (k, n, d, ov)) => bif Nat.beq k 0 then (match zix E i n with
      | .inl j => zgo al st (zsc h r (.inr (k, n, d, (j, v) :: ov)))
      | .inr q => match zir E i n with
        | some _ => zgo al st (zsc h r (.inr (k, n, .inl zz, [])))
        | none => zno q) else zno (955, 2)
    | _ => zno (955, 1)) else zno (956, 0)
  | _ => zno (956, 0)
noncomputable def zs_xast (ks : Nat → Bool) (cv : Nat → zA → zA) : zF := fun E _ al st h => match st with
  | v :: i :: .inr (.inr (.inr (.inl (some r)))) :: st => bif zint v then zsv E al st h ks cv v i r else zno (956, 0)
  | _ => zno (956, 0)
noncomputable def zs_aast : zF := fun E _ al st h => match st with
  | .inr (.inr (.inr (.inl (some w)))) :: i :: .inr (.inr (.inr (.inl (some r)))) :: st => match zgt h w with
    | some (.inl (ci, _)) => zsv E al st h (fun k => (Nat.beq k 5 && Nat.beq ci 5) || (Nat.beq k 6 && Nat.beq ci 1)) (fun _ v => v) (zrf w) i r
    | _ => zno (957, 0)
  | _ => zno (958, 0)
noncomputable def zs_alen : zF := fun _ top al st h => match st with
  | .inr (.inr (.inr (.inl (some r)))) :: st => match zgt h r with
    | some (.inr (_, n, _)) => bif Nat.ble n 1000000 then zgo al (zk n :: st) h else zno (959, 0)
    | _ => zno (959, 0)
  | .inr (.inr (.inr (.inr 0))) :: st => bif top then zgo al (zk 5 :: st) h else zno (960, 0)
  | _ => zno (961, 0)
noncomputable def zs_new (r1 : Nat) : zF := fun _ _ al st h => bif Nat.ble r1 10 then zgo al (zrf h.1.1 :: st) (zph h (.inl (r1, zfs r1, [])) (zN r1)) else zno (961, 1)
noncomputable def zs_newa (t : ArrayType) : zF := fun E _ al st h => match st with
  | a :: st => match zcn E a, zak t with
    | some (.ofNat n), some k => bif Nat.ble n 1000000 then zgo al (zrf h.1.1 :: st) (zph h (.inr (k, n, (bif Nat.beq k 4 then zlg (some 0) else zk 0), [])) n) else zno (962, 0)
    | _, _ => zno (963, 0)
  | _ => zno (964, 0)
noncomputable def zs_newq (r1 : Nat) : zF := fun E _ al st h => match st with
  | a :: st => match zcn E a with
    | some (.ofNat n) => bif Nat.ble n 1000000 && (Nat.beq r1 5 || Nat.beq r1 6) then zgo al (zrf h.1.1 :: st) (zph h (.inr (r1, n, znl, [])) n) else zno (965, 0)
    | _ => zno (966, 0)
  | _ => zno (967, 0)
noncomputable def zs_mna : zF := fun E _ al st h => match st with
  | b :: a :: st => match zcn E a, zcn E b with
    | some (.ofNat n), some (.ofNat k) => bif Nat.ble n 1000 && Nat.ble k 1000 then zgo al (zrf h.1.1 :: st) (zpn (zph h (.inr (7, n, znl, (List.range n).map fun i => (i, zrf (h.1.1 + 1 + i)))) n) (.inr (0, k, zk 0, [])) k n) else zno (968, 0)
    | _, _ => zno (969, 0)
  | _ => zno (970, 0)
noncomputable def zs_inv (r1 r2 : Nat) : zF := fun _ _ _ st _ => match ztk r2 st [] with
  | (as, .inr (.inr (.inr (.inl (some o)))) :: st') => zcl r1 (zrf o :: as) st'
  | _ => zno (971, 0)
noncomputable def zs_ins (r1 r2 : Nat) : zF := fun _ _ _ st _ => match ztk r2 st [] with
  | (as, st') => bif Nat.beq as.length r2 then zcl r1 as st' else zno (971, 1)
noncomputable def zc3 (E : zE) (n dp sp : zA) (n1 : Nat) : Bool := match zcn E n, zcn E dp, zcn E sp with
  | some b, some c, some d => zeq b n1 && (zeq c 0 && zeq d 0)
  | _, _, _ => false
noncomputable def zs_copy : zF := fun E _ al st h => match st with
  | [n, dp, .inr (.inr (.inr (.inl (some r)))), sp, .inr (.inr (.inr (.inl (some q))))] => match zgt h q, zgt h r with
    | some (.inr (k, n1, d, ov)), some (.inr (k2, n2, _, _)) => bif zc3 E n dp sp n1 && ((Nat.beq k 0 && Nat.beq k2 0) && (Nat.beq n1 n2 && Nat.ble n1 1000000)) then zgo al [] (zsc h r (.inr (0, n1, d, ov))) else zno (972, 0)
    | _, _ => zno (973, 0)
  | _ => zno (974, 0)
noncomputable def zs_obj : zF := fun _ _ al st h => match st with
  | [.inr (.inr (.inr (.inl (some _))))] => zgo al [] h
  | _ => zno (975, 0)
noncomputable def zs_iret : zF := fun _ _ _ st _ => match st with
  | [a] => bif zint a then zrt (some a) else zno (977, 0)
  | _ => zno (977, 0)
noncomputable def zs_lret : zF := fun _ _ _ st _ => match st with
  | [.inr (.inr (.inl o))] => zrt (some (zlg o))
  | _ => zno (978, 0)
noncomputable def zs_vret : zF := fun _ _ _ st _ => match st with
  | [] => zrt none
  | _ => zno (979, 0)
noncomputable def zs_no : zF := fun _ _ _ _ _ => zno (980, 0)
/-- the greater, the lesser of two ints -/
noncomputable def zmx (E : zE) (a b : zA) : zA ⊕ (Nat × Int) := match ziv E a, ziv E b with
  | some p, some q => .inl (.inl (bif zle p.1 q.1 then q.1 else p.1, bif zle p.2 q.2 then q.2 else p.2))
  | _, _ => .inr (902, 1)
noncomputable def zmn (E : zE) (a b : zA) : zA ⊕ (Nat × Int) := match ziv E a, ziv E b with
  | some p, some q => .inl (.inl (bif zle p.1 q.1 then p.1 else q.1, bif zle p.2 q.2 then p.2 else q.2))
  | _, _ => .inr (902, 1)
noncomputable def zs_mm (f : zE → zA → zA → zA ⊕ (Nat × Int)) : zF := fun E _ al st h => match st with
  | b :: a :: st => bif Nat.ble ((st.map zca).sum) 8 then zpu al st h (f E a b) else zno (930, 1)
  | _ => zno (930, 0)
noncomputable def zsel (pc : Nat) (r1 : Nat) (r2 : Int) (ins : Instr) : zF := match ins with
  | .iload_n k => zs_iload k
  | .iload k => zs_iload k
  | .aload_n k => zs_aload k
  | .aload k => zs_aload k
  | .lload_n k => zs_lload k
  | .istore_n k => zs_istore k
  | .istore k => zs_istore k
  | .astore_n k => zs_astore k
  | .astore k => zs_astore k
  | .lstore_n k => zs_lstore k
  | .iconst n => zs_push (zk n)
  | .bipush n => zs_push (zk n)
  | .sipush n => zs_push (zk n)
  | .lconst n => zs_push (zlg (some (n : Nat)))
  | .ldc_w _ => zs_push (zk r2)
  | .ldc2_w _ => zs_push (zlg (some r2))
  | .iadd => zs_bin (fun E a b => zad E a b false)
  | .isub => zs_bin (fun E a b => zad E a b true)
  | .imul => zs_bin (fun E => zo2 E (· * ·))
  | .idiv => zs_bin (fun E => zdv E (· / ·))
  | .irem => zs_bin (fun E => zdv E (fun x y => x - x / y * y))
  | .iand => zs_bin zan
  | .ior => zs_bin (fun E => zo2 E (· ||| ·))
  | .ixor => zs_bin (fun E => zo2 E (· ^^^ ·))
  | .ishl => zs_bin (fun E => zo2 E (fun x y => x <<< (y &&& 31)))
  | .ishr => zs_bin zsr
  | .iushr => zs_bin (fun E => zo2 E (fun x y => (x.toUInt32 >>> (y.toUInt32 &&& Int32.toUInt32 31)).toInt32))
  | .iinc k n => zs_iinc k n
  | .ladd => zs_l2 (· + ·)
  | .lmul => zs_l2 (· * ·)
  | .lrem => zs_lrem
  | .land => zs_l2 (· &&& ·)
  | .lor => zs_l2 (· ||| ·)
  | .lshl => zs_lsh
  | .lshr => zs_lsh
  | .lushr => zs_lsh
  | .i2l => zs_i2l
  | .l2i => zs_l2i
  | .i2b => zs_i2x
  | .i2c => zs_i2x
  | .lcmp => zs_lcmp
  | .dup => zs_dup
  | .dup2 => zs_dup2
  | .pop => zs_pop
  | .goto off => zs_goto pc off r1 r2
  | .if_icmp k off => zs_icmp k pc off r1 r2
  | .ifCond k off => zs_if k pc off r1 r2
  | .tableswitch df lo hi offs => zs_table pc df lo hi offs
  | .getfield _ => zs_getf r1 r2.toNat
  | .putfield _ => zs_putf r1 r2.toNat
  | .getstatic _ => zs_gets r1
  | .iaload => zs_iald
  | .baload => zs_xald (fun k => Nat.beq k 1 || Nat.beq k 3)
  | .caload => zs_xald (fun k => Nat.beq k 2)
  | .aaload => zs_xald (fun k => Nat.ble 5 k && Nat.ble k 7)
  | .iastore => zs_iast
  | .bastore => zs_xast (fun k => Nat.beq k 1 || Nat.beq k 3) zcvb
  | .castore => zs_xast (fun k => Nat.beq k 2) (fun _ _ => .inl zz)
  | .aastore => zs_aast
  | .arraylength => zs_alen
  | .new _ => zs_new r1
  | .newarray t => zs_newa t
  | .anewarray _ => zs_newq r1
  | .multianewarray _ _ => zs_mna
  | .invokevirtual _ => zs_inv r1 r2.toNat
  | .invokestatic _ => bif Nat.beq r1 1001 then zs_copy else bif Nat.beq r1 1002 then zs_mm zmx else bif Nat.beq r1 1003 then zs_mm zmn else zs_ins r1 r2.toNat
  | .invokespecial _ => bif Nat.beq r1 1000 then zs_obj else zs_inv r1 r2.toNat
  | .ireturn => zs_iret
  | .lreturn => zs_lret
  | .return_ => zs_vret
  | _ => zs_no
abbrev zO : Type := (Option zA × zH) ⊕ (Nat × Int)
/-- the code from the place t on: k behind what comes next, or sought from the start -/
noncomputable def zsk (t : Nat) (b : Bool) (k : Nat) (cd tl : List zI) : List zI := bif b then tl.drop k else bif Nat.beq k 0 then cd.dropWhile (fun q => !(Nat.beq q.1 t)) else cd.drop k
/-- the cells that there were are there still -/
noncomputable def zmo (h h' : zH) : Bool := Nat.ble h.1.1 h'.1.1 && Nat.ble h.1.2 h'.1.2
noncomputable def zisj : Instr → Bool
  | .goto _ => true
  | .if_icmp _ _ => true
  | .ifCond _ _ => true
  | .tableswitch _ _ _ _ => true
  | _ => false
noncomputable def zisc : Instr → Bool
  | .invokevirtual _ => true
  | .invokestatic _ => true
  | .invokespecial _ => true
  | _ => false
noncomputable def zisr : Instr → Bool
  | .ireturn => true
  | .lreturn => true
  | .return_ => true
  | _ => false
noncomputable def zr3 (ih : List zI → Nat → zL → List zA → zH → zO) (tl : List zI) (pc : Nat) (al : zL) (st : List zA) (h : zH) (o : zO) : zO := match o with
  | .inl r => bif zmo h r.2 then (match r.1 with
    | some v => ih tl pc al (v :: st) r.2
    | none => ih tl pc al st r.2) else .inr (989, 0)
  | .inr q => .inr q
noncomputable def zr2 (cd : List zI) (call : Nat → List zA → zH → zO) (ih : List zI → Nat → zL → List zA → zH → zO) (x : zI) (tl : List zI) (al : zL) (h : zH) (s : zS) : zO := match s with
  | .inl r => bif zmo h r.2.2 then ih tl (x.1 + x.2.2.1) r.1 r.2.1 r.2.2 else .inr (988, 0)
  | .inr (.inl r) => bif zisj x.2.1 then ih (zsk r.1 r.2.1 r.2.2.1 cd tl) r.1 al r.2.2.2 h else .inr (987, 0)
  | .inr (.inr (.inl r)) => bif zisc x.2.1 && Nat.ble ((r.2.2.map zca).sum) 8 then zr3 ih tl (x.1 + x.2.2.1) al r.2.2 h (call r.1 r.2.1 h) else .inr (994, 0)
  | .inr (.inr (.inr (.inl r))) => bif zisr x.2.1 then .inl (r, h) else .inr (986, 0)
  | .inr (.inr (.inr (.inr q))) => .inr q
noncomputable def zr1 (E : zE) (top : Bool) (cd : List zI) (call : Nat → List zA → zH → zO) (ih : List zI → Nat → zL → List zA → zH → zO) (rest : List zI) (pc : Nat) (al : zL) (st : List zA) (h : zH) : zO := match rest with
  | [] => .inr (991, 0)
  | x :: tl => bif Nat.beq x.1 pc then zr2 cd call ih x tl al h (zsel x.1 x.2.2.2.1 x.2.2.2.2 x.2.1 E top al st h) else .inr (993, 0)
noncomputable def zrun (E : zE) (top : Bool) (cd : List zI) (call : Nat → List zA → zH → zO) (n : Nat) : List zI → Nat → zL → List zA → zH → zO :=
  Nat.rec (motive := fun _ => List zI → Nat → zL → List zA → zH → zO) (fun _ _ _ _ _ => .inr (990, 0)) (fun _ ih => zr1 E top cd call ih) n
noncomputable def zent : Nat → List zA → zL
  | _, [] => []
  | i, a :: as => (i, a) :: zent (i + zca a) as
end
section
def zc_X0_init : List zI := [(0, .aload_n 0, 1, 0, 0), (1, .invokespecial 3, 3, 1000, 0), (4, .aload_n 0, 1, 0, 0), (5, .new 9, 3, 8, 0), (8, .dup, 1, 0, 0), (9, .invokespecial 11, 3, 8, 0), (12, .putfield 12, 3, 0, 0), (15, .aload_n 0, 1, 0, 0), (16, .bipush 10, 2, 0, 0), (18, .newarray .int, 2, 0, 0), (20, .putfield 18, 3, 0, 1), (23, .aload_n 0, 1, 0, 0), (24, .iconst 3, 1, 0, 0), (25, .newarray .int, 2, 0, 0), (27, .putfield 22, 3, 0, 2), (30, .aload_n 0, 1, 0, 0), (31, .iconst 3, 1, 0, 0), (32, .newarray .int, 2, 0, 0), (34, .putfield 25, 3, 0, 3), (37, .aload_n 0, 1, 0, 0), (38, .iconst 0, 1, 0, 0), (39, .putfield 28, 3, 0, 4), (42, .aload_n 0, 1, 0, 0), (43, .iconst 0, 1, 0, 0), (44, .putfield 32, 3, 0, 5), (47, .aload_n 0, 1, 0, 0), (48, .iconst 0, 1, 0, 0), (49, .putfield 35, 3, 0, 6), (52, .return_, 1, 0, 0)]
def zc_X1_init : List zI := [(0, .aload_n 0, 1, 0, 0), (1, .invokespecial 1, 3, 1000, 0), (4, .aload_n 0, 1, 0, 0), (5, .new 7, 3, 2, 0), (8, .dup, 1, 0, 0), (9, .invokespecial 9, 3, 2, 0), (12, .putfield 10, 3, 1, 0), (15, .aload_n 0, 1, 0, 0), (16, .new 16, 3, 3, 0), (19, .dup, 1, 0, 0), (20, .invokespecial 18, 3, 3, 0), (23, .putfield 19, 3, 1, 1), (26, .aload_n 0, 1, 0, 0), (27, .new 23, 3, 4, 0), (30, .dup, 1, 0, 0), (31, .invokespecial 25, 3, 4, 0), (34, .putfield 26, 3, 1, 2), (37, .aload_n 0, 1, 0, 0), (38, .iconst 0, 1, 0, 0), (39, .putfield 30, 3, 1, 3), (42, .aload_n 0, 1, 0, 0), (43, .iconst 0, 1, 0, 0), (44, .putfield 34, 3, 1, 4), (47, .return_, 1, 0, 0)]
def zc_X2_init : List zI := [(0, .aload_n 0, 1, 0, 0), (1, .invokespecial 3, 3, 1000, 0), (4, .aload_n 0, 1, 0, 0), (5, .bipush 20, 2, 0, 0), (7, .newarray .int, 2, 0, 0), (9, .putfield 9, 3, 2, 0), (12, .aload_n 0, 1, 0, 0), (13, .bipush 20, 2, 0, 0), (15, .newarray .int, 2, 0, 0), (17, .putfield 15, 3, 2, 1), (20, .aload_n 0, 1, 0, 0), (21, .bipush 20, 2, 0, 0), (23, .newarray .int, 2, 0, 0), (25, .putfield 18, 3, 2, 2), (28, .aload_n 0, 1, 0, 0), (29, .bipush 20, 2, 0, 0), (31, .newarray .int, 2, 0, 0), (33, .putfield 21, 3, 2, 3), (36, .aload_n 0, 1, 0, 0), (37, .bipush 20, 2, 0, 0), (39, .newarray .int, 2, 0, 0), (41, .putfield 24, 3, 2, 4), (44, .aload_n 0, 1, 0, 0), (45, .bipush 20, 2, 0, 0), (47, .newarray .int, 2, 0, 0), (49, .putfield 27, 3, 2, 5), (52, .aload_n 0, 1, 0, 0), (53, .bipush 20, 2, 0, 0), (55, .newarray .int, 2, 0, 0), (57, .putfield 30, 3, 2, 6), (60, .aload_n 0, 1, 0, 0), (61, .iconst 0, 1, 0, 0), (62, .putfield 33, 3, 2, 7), (65, .return_, 1, 0, 0)]
def zc_X3_init : List zI := [(0, .aload_n 0, 1, 0, 0), (1, .invokespecial 3, 3, 1000, 0), (4, .aload_n 0, 1, 0, 0), (5, .bipush 30, 2, 0, 0), (7, .newarray .int, 2, 0, 0), (9, .putfield 9, 3, 3, 0), (12, .aload_n 0, 1, 0, 0), (13, .bipush 30, 2, 0, 0), (15, .newarray .int, 2, 0, 0), (17, .putfield 15, 3, 3, 1), (20, .aload_n 0, 1, 0, 0), (21, .bipush 30, 2, 0, 0), (23, .newarray .int, 2, 0, 0), (25, .putfield 18, 3, 3, 2), (28, .aload_n 0, 1, 0, 0), (29, .iconst 0, 1, 0, 0), (30, .putfield 21, 3, 3, 3), (33, .return_, 1, 0, 0)]
def zc_X4_init : List zI := [(0, .aload_n 0, 1, 0, 0), (1, .invokespecial 3, 3, 1000, 0), (4, .aload_n 0, 1, 0, 0), (5, .bipush 40, 2, 0, 0), (7, .newarray .int, 2, 0, 0), (9, .putfield 9, 3, 4, 0), (12, .aload_n 0, 1, 0, 0), (13, .iconst 0, 1, 0, 0), (14, .putfield 15, 3, 4, 1), (17, .return_, 1, 0, 0)]
def zc_X5_init : List zI := [(0, .aload_n 0, 1, 0, 0), (1, .invokespecial 3, 3, 1000, 0), (4, .aload_n 0, 1, 0, 0), (5, .bipush 10, 2, 0, 0), (7, .newarray .int, 2, 0, 0), (9, .putfield 9, 3, 5, 0), (12, .aload_n 0, 1, 0, 0), (13, .bipush 10, 2, 0, 0), (15, .newarray .int, 2, 0, 0), (17, .putfield 15, 3, 5, 1), (20, .aload_n 0, 1, 0, 0), (21, .bipush 10, 2, 0, 0), (23, .newarray .int, 2, 0, 0), (25, .putfield 18, 3, 5, 2), (28, .aload_n 0, 1, 0, 0), (29, .bipush 10, 2, 0, 0), (31, .newarray .int, 2, 0, 0), (33, .putfield 21, 3, 5, 3), (36, .aload_n 0, 1, 0, 0), (37, .iconst 3, 1, 0, 0), (38, .newarray .int, 2, 0, 0), (40, .putfield 24, 3, 5, 4), (43, .aload_n 0, 1, 0, 0), (44, .iconst 3, 1, 0, 0), (45, .newarray .int, 2, 0, 0), (47, .putfield 27, 3, 5, 5), (50, .aload_n 0, 1, 0, 0), (51, .iconst 3, 1, 0, 0), (52, .newarray .int, 2, 0, 0), (54, .putfield 30, 3, 5, 6), (57, .aload_n 0, 1, 0, 0), (58, .iconst 3, 1, 0, 0), (59, .newarray .int, 2, 0, 0), (61, .putfield 33, 3, 5, 7), (64, .aload_n 0, 1, 0, 0), (65, .sipush 201, 3, 0, 0), (68, .newarray .int, 2, 0, 0), (70, .putfield 36, 3, 5, 8), (73, .aload_n 0, 1, 0, 0), (74, .sipush 201, 3, 0, 0), (77, .newarray .int, 2, 0, 0), (79, .putfield 39, 3, 5, 9), (82, .aload_n 0, 1, 0, 0), (83, .iconst 0, 1, 0, 0), (84, .putfield 42, 3, 5, 10), (87, .iconst 0, 1, 0, 0), (88, .istore_n 1, 1, 0, 0), (89, .iload_n 1, 1, 0, 0), (90, .bipush 10, 2, 0, 0), (92, .if_icmp .ge 16, 3, 0, 7), (95, .aload_n 0, 1, 0, 0), (96, .getfield 18, 3, 5, 2), (99, .iload_n 1, 1, 0, 0), (100, .iconst (-1), 1, 0, 0), (101, .iastore, 1, 0, 0), (102, .iinc 1 1, 3, 0, 0), (105, .goto (-16), 3, 1, 47), (108, .return_, 1, 0, 0)]
def zc_X6_init : List zI := [(0, .aload_n 0, 1, 0, 0), (1, .invokespecial 3, 3, 1000, 0), (4, .aload_n 0, 1, 0, 0), (5, .bipush 6, 2, 0, 0), (7, .newarray .int, 2, 0, 0), (9, .putfield 9, 3, 6, 0), (12, .aload_n 0, 1, 0, 0), (13, .bipush 6, 2, 0, 0), (15, .newarray .int, 2, 0, 0), (17, .putfield 15, 3, 6, 1), (20, .aload_n 0, 1, 0, 0), (21, .bipush 6, 2, 0, 0), (23, .newarray .int, 2, 0, 0), (25, .putfield 18, 3, 6, 2), (28, .aload_n 0, 1, 0, 0), (29, .bipush 6, 2, 0, 0), (31, .newarray .int, 2, 0, 0), (33, .putfield 21, 3, 6, 3), (36, .aload_n 0, 1, 0, 0), (37, .bipush 6, 2, 0, 0), (39, .newarray .int, 2, 0, 0), (41, .putfield 24, 3, 6, 4), (44, .aload_n 0, 1, 0, 0), (45, .iconst 0, 1, 0, 0), (46, .putfield 27, 3, 6, 5), (49, .return_, 1, 0, 0)]
def zc_X7_init : List zI := [(0, .aload_n 0, 1, 0, 0), (1, .invokespecial 3, 3, 1000, 0), (4, .aload_n 0, 1, 0, 0), (5, .sipush 300, 3, 0, 0), (8, .newarray .char, 2, 0, 0), (10, .putfield 9, 3, 7, 0), (13, .aload_n 0, 1, 0, 0), (14, .new 15, 3, 6, 0), (17, .dup, 1, 0, 0), (18, .invokespecial 17, 3, 6, 0), (21, .putfield 18, 3, 7, 1), (24, .aload_n 0, 1, 0, 0), (25, .iconst 0, 1, 0, 0), (26, .putfield 22, 3, 7, 2), (29, .return_, 1, 0, 0)]
def zc_X8_init : List zI := [(0, .aload_n 0, 1, 0, 0), (1, .invokespecial 3, 3, 1000, 0), (4, .aload_n 0, 1, 0, 0), (5, .bipush 21, 2, 0, 0), (7, .newarray .int, 2, 0, 0), (9, .putfield 9, 3, 8, 0), (12, .aload_n 0, 1, 0, 0), (13, .bipush 11, 2, 0, 0), (15, .sipush 201, 3, 0, 0), (18, .multianewarray 15 2, 4, 0, 0), (22, .putfield 17, 3, 8, 1), (25, .aload_n 0, 1, 0, 0), (26, .bipush 11, 2, 0, 0), (28, .sipush 201, 3, 0, 0), (31, .multianewarray 15 2, 4, 0, 0), (35, .putfield 20, 3, 8, 2), (38, .aload_n 0, 1, 0, 0), (39, .bipush 11, 2, 0, 0), (41, .sipush 201, 3, 0, 0), (44, .multianewarray 15 2, 4, 0, 0), (48, .putfield 23, 3, 8, 3), (51, .aload_n 0, 1, 0, 0), (52, .bipush (-2), 2, 0, 0), (54, .putfield 26, 3, 8, 4), (57, .aload_n 0, 1, 0, 0), (58, .iconst 1, 1, 0, 0), (59, .putfield 30, 3, 8, 5), (62, .aload_n 0, 1, 0, 0), (63, .iconst 1, 1, 0, 0), (64, .putfield 33, 3, 8, 6), (67, .aload_n 0, 1, 0, 0), (68, .getfield 23, 3, 8, 3), (71, .iconst 0, 1, 0, 0), (72, .aaload, 1, 0, 0), (73, .iconst 0, 1, 0, 0), (74, .iconst 1, 1, 0, 0), (75, .iastore, 1, 0, 0), (76, .return_, 1, 0, 0)]
def zc_X9_init : List zI := [(0, .aload_n 0, 1, 0, 0), (1, .invokespecial 3, 3, 1000, 0), (4, .aload_n 0, 1, 0, 0), (5, .new 9, 3, 7, 0), (8, .dup, 1, 0, 0), (9, .invokespecial 11, 3, 7, 0), (12, .putfield 12, 3, 9, 0), (15, .aload_n 0, 1, 0, 0), (16, .new 16, 3, 6, 0), (19, .dup, 1, 0, 0), (20, .invokespecial 18, 3, 6, 0), (23, .putfield 19, 3, 9, 1), (26, .aload_n 0, 1, 0, 0), (27, .new 23, 3, 0, 0), (30, .dup, 1, 0, 0), (31, .invokespecial 25, 3, 0, 0), (34, .putfield 26, 3, 9, 2), (37, .aload_n 0, 1, 0, 0), (38, .bipush 6, 2, 0, 0), (40, .anewarray 30, 3, 5, 0), (43, .putfield 32, 3, 9, 3), (46, .aload_n 0, 1, 0, 0), (47, .new 36, 3, 1, 0), (50, .dup, 1, 0, 0), (51, .invokespecial 38, 3, 1, 0), (54, .putfield 39, 3, 9, 4), (57, .aload_n 0, 1, 0, 0), (58, .iconst 2, 1, 0, 0), (59, .anewarray 36, 3, 6, 0), (62, .putfield 43, 3, 9, 5), (65, .aload_n 0, 1, 0, 0), (66, .lconst 0, 1, 0, 0), (67, .putfield 47, 3, 9, 6), (70, .iconst 0, 1, 0, 0), (71, .istore_n 1, 1, 0, 0), (72, .iload_n 1, 1, 0, 0), (73, .bipush 6, 2, 0, 0), (75, .if_icmp .ge 22, 3, 0, 9), (78, .aload_n 0, 1, 0, 0), (79, .getfield 32, 3, 9, 3), (82, .iload_n 1, 1, 0, 0), (83, .new 30, 3, 5, 0), (86, .dup, 1, 0, 0), (87, .invokespecial 51, 3, 5, 0), (90, .aastore, 1, 0, 0), (91, .iinc 1 1, 3, 0, 0), (94, .goto (-22), 3, 1, 35), (97, .iconst 0, 1, 0, 0), (98, .istore_n 1, 1, 0, 0), (99, .iload_n 1, 1, 0, 0), (100, .iconst 2, 1, 0, 0), (101, .if_icmp .ge 22, 3, 0, 9), (104, .aload_n 0, 1, 0, 0), (105, .getfield 43, 3, 9, 5), (108, .iload_n 1, 1, 0, 0), (109, .new 36, 3, 1, 0), (112, .dup, 1, 0, 0), (113, .invokespecial 38, 3, 1, 0), (116, .aastore, 1, 0, 0), (117, .iinc 1 1, 3, 0, 0), (120, .goto (-21), 3, 1, 49), (123, .return_, 1, 0, 0)]
def zc_X10_init : List zI := [(0, .aload_n 0, 1, 0, 0), (1, .invokespecial 1, 3, 1000, 0), (4, .aload_n 0, 1, 0, 0), (5, .sipush 300, 3, 0, 0), (8, .newarray .byte, 2, 0, 0), (10, .putfield 7, 3, 10, 2), (13, .aload_n 0, 1, 0, 0), (14, .bipush 12, 2, 0, 0), (16, .newarray .int, 2, 0, 0), (18, .putfield 13, 3, 10, 5), (21, .aload_n 0, 1, 0, 0), (22, .bipush 12, 2, 0, 0), (24, .newarray .int, 2, 0, 0), (26, .putfield 17, 3, 10, 6), (29, .aload_n 0, 1, 0, 0), (30, .bipush 12, 2, 0, 0), (32, .newarray .int, 2, 0, 0), (34, .putfield 20, 3, 10, 7), (37, .aload_n 0, 1, 0, 0), (38, .bipush 12, 2, 0, 0), (40, .newarray .int, 2, 0, 0), (42, .putfield 23, 3, 10, 8), (45, .aload_n 0, 1, 0, 0), (46, .bipush 12, 2, 0, 0), (48, .newarray .int, 2, 0, 0), (50, .putfield 26, 3, 10, 9), (53, .aload_n 0, 1, 0, 0), (54, .bipush 60, 2, 0, 0), (56, .newarray .int, 2, 0, 0), (58, .putfield 29, 3, 10, 15), (61, .aload_n 0, 1, 0, 0), (62, .bipush 60, 2, 0, 0), (64, .newarray .int, 2, 0, 0), (66, .putfield 32, 3, 10, 16), (69, .aload_n 0, 1, 0, 0), (70, .bipush 60, 2, 0, 0), (72, .newarray .int, 2, 0, 0), (74, .putfield 35, 3, 10, 17), (77, .aload_n 0, 1, 0, 0), (78, .bipush 60, 2, 0, 0), (80, .newarray .int, 2, 0, 0), (82, .putfield 38, 3, 10, 18), (85, .aload_n 0, 1, 0, 0), (86, .bipush 6, 2, 0, 0), (88, .newarray .int, 2, 0, 0), (90, .putfield 41, 3, 10, 19), (93, .aload_n 0, 1, 0, 0), (94, .bipush 18, 2, 0, 0), (96, .newarray .int, 2, 0, 0), (98, .putfield 44, 3, 10, 20), (101, .aload_n 0, 1, 0, 0), (102, .bipush 18, 2, 0, 0), (104, .newarray .int, 2, 0, 0), (106, .putfield 47, 3, 10, 21), (109, .aload_n 0, 1, 0, 0), (110, .bipush 18, 2, 0, 0), (112, .newarray .int, 2, 0, 0), (114, .putfield 50, 3, 10, 22), (117, .aload_n 0, 1, 0, 0), (118, .bipush 18, 2, 0, 0), (120, .newarray .int, 2, 0, 0), (122, .putfield 53, 3, 10, 23), (125, .aload_n 0, 1, 0, 0), (126, .bipush 10, 2, 0, 0), (128, .newarray .int, 2, 0, 0), (130, .putfield 56, 3, 10, 24), (133, .aload_n 0, 1, 0, 0), (134, .sipush 201, 3, 0, 0), (137, .newarray .long, 2, 0, 0), (139, .putfield 59, 3, 10, 25), (142, .aload_n 0, 1, 0, 0), (143, .sipush 201, 3, 0, 0), (146, .newarray .int, 2, 0, 0), (148, .putfield 63, 3, 10, 26), (151, .aload_n 0, 1, 0, 0), (152, .sipush 201, 3, 0, 0), (155, .newarray .int, 2, 0, 0), (157, .putfield 66, 3, 10, 27), (160, .aload_n 0, 1, 0, 0), (161, .sipush 201, 3, 0, 0), (164, .newarray .boolean, 2, 0, 0), (166, .putfield 69, 3, 10, 31), (169, .aload_n 0, 1, 0, 0), (170, .iconst 3, 1, 0, 0), (171, .newarray .int, 2, 0, 0), (173, .putfield 73, 3, 10, 32), (176, .aload_n 0, 1, 0, 0), (177, .iconst 3, 1, 0, 0), (178, .newarray .int, 2, 0, 0), (180, .putfield 76, 3, 10, 33), (183, .aload_n 0, 1, 0, 0), (184, .iconst 3, 1, 0, 0), (185, .newarray .int, 2, 0, 0), (187, .putfield 79, 3, 10, 34), (190, .aload_n 0, 1, 0, 0), (191, .iconst 3, 1, 0, 0), (192, .newarray .int, 2, 0, 0), (194, .putfield 82, 3, 10, 35), (197, .aload_n 0, 1, 0, 0), (198, .iconst 3, 1, 0, 0), (199, .newarray .int, 2, 0, 0), (201, .putfield 85, 3, 10, 36), (204, .aload_n 0, 1, 0, 0), (205, .bipush 60, 2, 0, 0), (207, .newarray .int, 2, 0, 0), (209, .putfield 88, 3, 10, 37), (212, .aload_n 0, 1, 0, 0), (213, .bipush 60, 2, 0, 0), (215, .newarray .int, 2, 0, 0), (217, .putfield 91, 3, 10, 38), (220, .aload_n 0, 1, 0, 0), (221, .bipush 60, 2, 0, 0), (223, .newarray .int, 2, 0, 0), (225, .putfield 94, 3, 10, 39), (228, .aload_n 0, 1, 0, 0), (229, .bipush 60, 2, 0, 0), (231, .newarray .int, 2, 0, 0), (233, .putfield 97, 3, 10, 40), (236, .aload_n 0, 1, 0, 0), (237, .bipush 60, 2, 0, 0), (239, .newarray .int, 2, 0, 0), (241, .putfield 100, 3, 10, 41), (244, .aload_n 0, 1, 0, 0), (245, .bipush 60, 2, 0, 0), (247, .newarray .int, 2, 0, 0), (249, .putfield 103, 3, 10, 42), (252, .aload_n 0, 1, 0, 0), (253, .bipush 60, 2, 0, 0), (255, .newarray .int, 2, 0, 0), (257, .putfield 106, 3, 10, 43), (260, .aload_n 0, 1, 0, 0), (261, .bipush 60, 2, 0, 0), (263, .newarray .int, 2, 0, 0), (265, .putfield 109, 3, 10, 44), (268, .aload_n 0, 1, 0, 0), (269, .bipush 90, 2, 0, 0), (271, .newarray .int, 2, 0, 0), (273, .putfield 112, 3, 10, 45), (276, .aload_n 0, 1, 0, 0), (277, .bipush 90, 2, 0, 0), (279, .newarray .int, 2, 0, 0), (281, .putfield 115, 3, 10, 46), (284, .aload_n 0, 1, 0, 0), (285, .bipush 90, 2, 0, 0), (287, .newarray .int, 2, 0, 0), (289, .putfield 118, 3, 10, 47), (292, .aload_n 0, 1, 0, 0), (293, .bipush 120, 2, 0, 0), (295, .newarray .int, 2, 0, 0), (297, .putfield 121, 3, 10, 48), (300, .aload_n 0, 1, 0, 0), (301, .sipush 2412, 3, 0, 0), (304, .newarray .int, 2, 0, 0), (306, .putfield 124, 3, 10, 49), (309, .aload_n 0, 1, 0, 0), (310, .iconst 2, 1, 0, 0), (311, .newarray .boolean, 2, 0, 0), (313, .putfield 127, 3, 10, 50), (316, .iconst 0, 1, 0, 0), (317, .istore_n 1, 1, 0, 0), (318, .iload_n 1, 1, 0, 0), (319, .bipush 60, 2, 0, 0), (321, .if_icmp .ge 17, 3, 0, 7), (324, .aload_n 0, 1, 0, 0), (325, .getfield 35, 3, 10, 17), (328, .iload_n 1, 1, 0, 0), (329, .bipush (-9), 2, 0, 0), (331, .iastore, 1, 0, 0), (332, .iinc 1 1, 3, 0, 0), (335, .goto (-17), 3, 1, 160), (338, .return_, 1, 0, 0)]
def zlaw : List zI := [(0, .new 7, 3, 9, 0), (3, .dup, 1, 0, 0), (4, .invokespecial 9, 3, 9, 0), (7, .astore_n 1, 1, 0, 0), (8, .new 10, 3, 10, 0), (11, .dup, 1, 0, 0), (12, .invokespecial 12, 3, 10, 0), (15, .astore_n 2, 1, 0, 0), (16, .iconst 0, 1, 0, 0), (17, .istore_n 3, 1, 0, 0)]
abbrev zM : Type := MethodName × ByteArray × Nat × Option FieldType × Nat × List zI
def zms_0 : List zM := [(yX0_init, cX0_init, 1, none, 1, zc_X0_init), (yX1_init, cX1_init, 1, none, 2, zc_X1_init), (yX2_init, cX2_init, 1, none, 3, zc_X2_init), (yX3_init, cX3_init, 1, none, 4, zc_X3_init), (yX4_init, cX4_init, 1, none, 5, zc_X4_init), (yX5_init, cX5_init, 2, none, 6, zc_X5_init), (yX6_init, cX6_init, 1, none, 7, zc_X6_init), (yX7_init, cX7_init, 1, none, 8, zc_X7_init), (yX8_init, cX8_init, 1, none, 9, zc_X8_init), (yX9_init, cX9_init, 2, none, 10, zc_X9_init), (yX10_init, cX10_init, 2, none, 11, zc_X10_init)]
def zms : List (List zM) := [zms_0]
noncomputable def zmt (j : Nat) : Option zM := match znt zms (j / 16) with
  | some r => znt r (j % 16)
  | none => none
noncomputable def zrk (ret : Option FieldType) (r : Option zA) : Bool := match ret, r with
  | none, none => true
  | some .int, some a => zint a
  | some .boolean, some (.inl p) => zle 0 p.1 && zle p.2 1
  | some .long, some (.inr (.inr (.inl _))) => true
  | _, _ => false
noncomputable def zx2 (ret : Option FieldType) (o : zO) : zO := match o with
  | .inl r => bif zrk ret r.1 then .inl r else .inr (996, 0)
  | .inr q => .inr q
/-- the receiver is an object of the method's class -/
noncomputable def zrc (k : Nat) (as : List zA) (h : zH) : Bool := match k with
  | 0 => true
  | ci + 1 => match as with
    | .inr (.inr (.inr (.inl (some o)))) :: _ => match zgt h o with
      | some (.inl (c, _)) => Nat.beq c ci
      | _ => false
    | _ => false
noncomputable def zx1 (E : zE) (call : Nat → List zA → zH → zO) (as : List zA) (h : zH) (m : Option zM) : zO := match m with
  | some m => bif zrc m.2.2.2.2.1 as h && Nat.ble ((as.map zca).sum) m.2.2.1 then zx2 m.2.2.2.1 (zrun E false m.2.2.2.2.2 call 100000 m.2.2.2.2.2 0 (zent 0 as) [] h) else .inr (998, 0)
  | none => .inr (997, 0)
noncomputable def zx (E : zE) (d : Nat) : Nat → List zA → zH → zO :=
  Nat.rec (motive := fun _ => Nat → List zA → zH → zO) (fun _ _ _ => .inr (995, 0)) (fun _ ih j as h => zx1 E ih as h (zmt j)) d
end
section
theorem zle_iff : ∀ {a b : Int}, zle a b = true ↔ a ≤ b
  | .ofNat a, .ofNat b => by
    rw [show zle (.ofNat a) (.ofNat b) = Nat.ble a b from rfl, Nat.ble_eq, Int.ofNat_eq_natCast, Int.ofNat_eq_natCast]
    omega
  | .ofNat a, .negSucc b => by
    rw [show zle (.ofNat a) (.negSucc b) = false from rfl, Int.ofNat_eq_natCast, Int.negSucc_eq]
    exact ⟨(fun h => absurd h (by decide)), (fun h => absurd h (by omega))⟩
  | .negSucc a, .ofNat b => by
    rw [show zle (.negSucc a) (.ofNat b) = true from rfl, Int.ofNat_eq_natCast, Int.negSucc_eq]
    exact ⟨(fun _ => by omega), (fun _ => rfl)⟩
  | .negSucc a, .negSucc b => by
    rw [show zle (.negSucc a) (.negSucc b) = Nat.ble b a from rfl, Nat.ble_eq, Int.negSucc_eq, Int.negSucc_eq]
    omega
theorem zeq_iff : ∀ {a b : Int}, zeq a b = true ↔ a = b
  | .ofNat a, .ofNat b => by
    rw [show zeq (.ofNat a) (.ofNat b) = Nat.beq a b from rfl, Nat.beq_eq, Int.ofNat_eq_natCast, Int.ofNat_eq_natCast]
    omega
  | .ofNat a, .negSucc b => by
    rw [show zeq (.ofNat a) (.negSucc b) = false from rfl, Int.ofNat_eq_natCast, Int.negSucc_eq]
    exact ⟨(fun h => absurd h (by decide)), (fun h => absurd h (by omega))⟩
  | .negSucc a, .ofNat b => by
    rw [show zeq (.negSucc a) (.ofNat b) = false from rfl, Int.ofNat_eq_natCast, Int.negSucc_eq]
    exact ⟨(fun h => absurd h (by decide)), (fun h => absurd h (by omega))⟩
  | .negSucc a, .negSucc b => by
    rw [show zeq (.negSucc a) (.negSucc b) = Nat.beq a b from rfl, Nat.beq_eq, Int.negSucc_eq, Int.negSucc_eq]
    omega
theorem zlt_iff {a b : Int} : zlt a b = true ↔ a < b := by
  unfold zlt
  rw [Bool.not_eq_true', ← Bool.not_eq_true, zle_iff]
  omega
theorem zqA_eq {a b : zA} (h : zqA a b = true) : a = b := by
  unfold zqA at h
  split at h
  · rename_i p q
    obtain ⟨p1, p2⟩ := p
    obtain ⟨q1, q2⟩ := q
    simp only [Bool.and_eq_true, zeq_iff] at h
    rw [h.1, h.2]
  · rw [Nat.eq_of_beq_eq_true h]
  · rfl
  · rw [zeq_iff.mp h]
  · rfl
  · rw [Nat.eq_of_beq_eq_true h]
  · rw [Nat.eq_of_beq_eq_true h]
  · cases h
noncomputable def zqL : List zA → List zA → Bool
  | [], [] => true
  | a :: as, b :: bs => zqA a b && zqL as bs
  | _, _ => false
theorem zqL_eq : ∀ {a b : List zA}, zqL a b = true → a = b
  | [], [], _ => rfl
  | [], _ :: _, h => by cases h
  | _ :: _, [], h => by cases h
  | a :: as, b :: bs, h => by
    simp only [zqL, Bool.and_eq_true] at h
    rw [zqA_eq h.1, zqL_eq h.2]
noncomputable def zqO : List (Nat × zA) → List (Nat × zA) → Bool
  | [], [] => true
  | a :: as, b :: bs => (Nat.beq a.1 b.1 && zqA a.2 b.2) && zqO as bs
  | _, _ => false
/-- what the cell a says, the cell b says too -/
noncomputable def zqC : zC → zC → Bool
  | .inl (i, a), .inl (j, b) => Nat.beq i j && (List.range 56).all fun k => match zg a k with
    | none => true
    | some v => match zg b k with
      | none => false
      | some w => zqA v w
  | .inr (i, n, d, a), .inr (j, m, e, b) => Nat.beq i j && (Nat.beq n m && (List.range n).all fun k => zqA (zag d a k) (zag e b k))
  | _, _ => false
/-- what the cells g say, the cells h say too -/
noncomputable def zqH (g h : zH) : Bool := Nat.beq g.1.1 h.1.1 && (Nat.beq g.1.2 h.1.2 && (List.range 216).all fun i => match zgt g i with
  | none => true
  | some a => match zgt h i with
    | some b => zqC a b
    | none => false)
noncomputable def zis (o : zO) (g : zH) : Bool := match o with
  | .inl (none, h) => zqH g h
  | _ => false
def zh0 : zH := ((210, 15606), [[.inl (9, [[zrf 1, zrf 9, zrf 15, zrf 57, zrf 58, zrf 73, zlg (some 0)]], []), .inl (7, [[zrf 2, zrf 3, zk 0]], []), .inr (2, 300, zk 0, []), .inl (6, [[zrf 4, zrf 5, zrf 6, zrf 7, zrf 8, zk 0]], []), .inr (0, 6, zk 0, []), .inr (0, 6, zk 0, []), .inr (0, 6, zk 0, []), .inr (0, 6, zk 0, [])],
  [.inr (0, 6, zk 0, []), .inl (6, [[zrf 10, zrf 11, zrf 12, zrf 13, zrf 14, zk 0]], []), .inr (0, 6, zk 0, []), .inr (0, 6, zk 0, []), .inr (0, 6, zk 0, []), .inr (0, 6, zk 0, []), .inr (0, 6, zk 0, []), .inl (0, [[zrf 16, zrf 54, zrf 55, zrf 56, zk 0, zk 0, zk 0]], [])],
  [.inl (8, [[zrf 17, zrf 18, zrf 30, zrf 42, zk (-2), zk 1, zk 1]], []), .inr (0, 21, zk 0, []), .inr (7, 11, .inr (.inr (.inr (.inl none))), [(0, zrf 19), (1, zrf 20), (2, zrf 21), (3, zrf 22), (4, zrf 23), (5, zrf 24), (6, zrf 25), (7, zrf 26), (8, zrf 27), (9, zrf 28), (10, zrf 29)]), .inr (0, 201, zk 0, []), .inr (0, 201, zk 0, []), .inr (0, 201, zk 0, []), .inr (0, 201, zk 0, []), .inr (0, 201, zk 0, [])],
  [.inr (0, 201, zk 0, []), .inr (0, 201, zk 0, []), .inr (0, 201, zk 0, []), .inr (0, 201, zk 0, []), .inr (0, 201, zk 0, []), .inr (0, 201, zk 0, []), .inr (7, 11, .inr (.inr (.inr (.inl none))), [(0, zrf 31), (1, zrf 32), (2, zrf 33), (3, zrf 34), (4, zrf 35), (5, zrf 36), (6, zrf 37), (7, zrf 38), (8, zrf 39), (9, zrf 40), (10, zrf 41)]), .inr (0, 201, zk 0, [])],
  [.inr (0, 201, zk 0, []), .inr (0, 201, zk 0, []), .inr (0, 201, zk 0, []), .inr (0, 201, zk 0, []), .inr (0, 201, zk 0, []), .inr (0, 201, zk 0, []), .inr (0, 201, zk 0, []), .inr (0, 201, zk 0, [])],
  [.inr (0, 201, zk 0, []), .inr (0, 201, zk 0, []), .inr (7, 11, .inr (.inr (.inr (.inl none))), [(0, zrf 43), (1, zrf 44), (2, zrf 45), (3, zrf 46), (4, zrf 47), (5, zrf 48), (6, zrf 49), (7, zrf 50), (8, zrf 51), (9, zrf 52), (10, zrf 53)]), .inr (0, 201, zk 0, [(0, zk 1)]), .inr (0, 201, zk 0, []), .inr (0, 201, zk 0, []), .inr (0, 201, zk 0, []), .inr (0, 201, zk 0, [])],
  [.inr (0, 201, zk 0, []), .inr (0, 201, zk 0, []), .inr (0, 201, zk 0, []), .inr (0, 201, zk 0, []), .inr (0, 201, zk 0, []), .inr (0, 201, zk 0, []), .inr (0, 10, zk 0, []), .inr (0, 3, zk 0, [])],
  [.inr (0, 3, zk 0, []), .inr (5, 6, .inr (.inr (.inr (.inl none))), [(0, zrf 74), (1, zrf 85), (2, zrf 96), (3, zrf 107), (4, zrf 118), (5, zrf 129)]), .inl (1, [[zrf 59, zrf 67, zrf 71, zk 0, zk 0]], []), .inl (2, [[zrf 60, zrf 61, zrf 62, zrf 63, zrf 64, zrf 65, zrf 66, zk 0]], []), .inr (0, 20, zk 0, []), .inr (0, 20, zk 0, []), .inr (0, 20, zk 0, []), .inr (0, 20, zk 0, [])],
  [.inr (0, 20, zk 0, []), .inr (0, 20, zk 0, []), .inr (0, 20, zk 0, []), .inl (3, [[zrf 68, zrf 69, zrf 70, zk 0]], []), .inr (0, 30, zk 0, []), .inr (0, 30, zk 0, []), .inr (0, 30, zk 0, []), .inl (4, [[zrf 72, zk 0]], [])],
  [.inr (0, 40, zk 0, []), .inr (6, 2, .inr (.inr (.inr (.inl none))), [(0, zrf 140), (1, zrf 155)]), .inl (5, [[zrf 75, zrf 76, zrf 77, zrf 78, zrf 79, zrf 80, zrf 81, zrf 82], [zrf 83, zrf 84, zk 0]], []), .inr (0, 10, zk 0, []), .inr (0, 10, zk 0, []), .inr (0, 10, zk (-1), []), .inr (0, 10, zk 0, []), .inr (0, 3, zk 0, [])],
  [.inr (0, 3, zk 0, []), .inr (0, 3, zk 0, []), .inr (0, 3, zk 0, []), .inr (0, 201, zk 0, []), .inr (0, 201, zk 0, []), .inl (5, [[zrf 86, zrf 87, zrf 88, zrf 89, zrf 90, zrf 91, zrf 92, zrf 93], [zrf 94, zrf 95, zk 0]], []), .inr (0, 10, zk 0, []), .inr (0, 10, zk 0, [])],
  [.inr (0, 10, zk (-1), []), .inr (0, 10, zk 0, []), .inr (0, 3, zk 0, []), .inr (0, 3, zk 0, []), .inr (0, 3, zk 0, []), .inr (0, 3, zk 0, []), .inr (0, 201, zk 0, []), .inr (0, 201, zk 0, [])],
  [.inl (5, [[zrf 97, zrf 98, zrf 99, zrf 100, zrf 101, zrf 102, zrf 103, zrf 104], [zrf 105, zrf 106, zk 0]], []), .inr (0, 10, zk 0, []), .inr (0, 10, zk 0, []), .inr (0, 10, zk (-1), []), .inr (0, 10, zk 0, []), .inr (0, 3, zk 0, []), .inr (0, 3, zk 0, []), .inr (0, 3, zk 0, [])],
  [.inr (0, 3, zk 0, []), .inr (0, 201, zk 0, []), .inr (0, 201, zk 0, []), .inl (5, [[zrf 108, zrf 109, zrf 110, zrf 111, zrf 112, zrf 113, zrf 114, zrf 115], [zrf 116, zrf 117, zk 0]], []), .inr (0, 10, zk 0, []), .inr (0, 10, zk 0, []), .inr (0, 10, zk (-1), []), .inr (0, 10, zk 0, [])],
  [.inr (0, 3, zk 0, []), .inr (0, 3, zk 0, []), .inr (0, 3, zk 0, []), .inr (0, 3, zk 0, []), .inr (0, 201, zk 0, []), .inr (0, 201, zk 0, []), .inl (5, [[zrf 119, zrf 120, zrf 121, zrf 122, zrf 123, zrf 124, zrf 125, zrf 126], [zrf 127, zrf 128, zk 0]], []), .inr (0, 10, zk 0, [])],
  [.inr (0, 10, zk 0, []), .inr (0, 10, zk (-1), []), .inr (0, 10, zk 0, []), .inr (0, 3, zk 0, []), .inr (0, 3, zk 0, []), .inr (0, 3, zk 0, []), .inr (0, 3, zk 0, []), .inr (0, 201, zk 0, [])],
  [.inr (0, 201, zk 0, []), .inl (5, [[zrf 130, zrf 131, zrf 132, zrf 133, zrf 134, zrf 135, zrf 136, zrf 137], [zrf 138, zrf 139, zk 0]], []), .inr (0, 10, zk 0, []), .inr (0, 10, zk 0, []), .inr (0, 10, zk (-1), []), .inr (0, 10, zk 0, []), .inr (0, 3, zk 0, []), .inr (0, 3, zk 0, [])],
  [.inr (0, 3, zk 0, []), .inr (0, 3, zk 0, []), .inr (0, 201, zk 0, []), .inr (0, 201, zk 0, []), .inl (1, [[zrf 141, zrf 149, zrf 153, zk 0, zk 0]], []), .inl (2, [[zrf 142, zrf 143, zrf 144, zrf 145, zrf 146, zrf 147, zrf 148, zk 0]], []), .inr (0, 20, zk 0, []), .inr (0, 20, zk 0, [])],
  [.inr (0, 20, zk 0, []), .inr (0, 20, zk 0, []), .inr (0, 20, zk 0, []), .inr (0, 20, zk 0, []), .inr (0, 20, zk 0, []), .inl (3, [[zrf 150, zrf 151, zrf 152, zk 0]], []), .inr (0, 30, zk 0, []), .inr (0, 30, zk 0, [])],
  [.inr (0, 30, zk 0, []), .inl (4, [[zrf 154, zk 0]], []), .inr (0, 40, zk 0, []), .inl (1, [[zrf 156, zrf 164, zrf 168, zk 0, zk 0]], []), .inl (2, [[zrf 157, zrf 158, zrf 159, zrf 160, zrf 161, zrf 162, zrf 163, zk 0]], []), .inr (0, 20, zk 0, []), .inr (0, 20, zk 0, []), .inr (0, 20, zk 0, [])],
  [.inr (0, 20, zk 0, []), .inr (0, 20, zk 0, []), .inr (0, 20, zk 0, []), .inr (0, 20, zk 0, []), .inl (3, [[zrf 165, zrf 166, zrf 167, zk 0]], []), .inr (0, 30, zk 0, []), .inr (0, 30, zk 0, []), .inr (0, 30, zk 0, [])],
  [.inl (4, [[zrf 169, zk 0]], []), .inr (0, 40, zk 0, []), .inl (10, [[zlg (some 0), zk 0, zrf 171, zk 0, zk 0, zrf 172, zrf 173, zrf 174], [zrf 175, zrf 176, zk 0, zk 0, zk 0, zk 0, zk 0, zrf 177], [zrf 178, zrf 179, zrf 180, zrf 181, zrf 182, zrf 183, zrf 184, zrf 185], [zrf 186, zrf 187, zrf 188, zrf 189, zlg (some 0), zk 0, zk 0, zrf 190], [zrf 191, zrf 192, zrf 193, zrf 194, zrf 195, zrf 196, zrf 197, zrf 198], [zrf 199, zrf 200, zrf 201, zrf 202, zrf 203, zrf 204, zrf 205, zrf 206], [zrf 207, zrf 208, zrf 209]], []), .inr (1, 300, zk 0, []), .inr (0, 12, zk 0, []), .inr (0, 12, zk 0, []), .inr (0, 12, zk 0, []), .inr (0, 12, zk 0, [])],
  [.inr (0, 12, zk 0, []), .inr (0, 60, zk 0, []), .inr (0, 60, zk 0, []), .inr (0, 60, zk (-9), []), .inr (0, 60, zk 0, []), .inr (0, 6, zk 0, []), .inr (0, 18, zk 0, []), .inr (0, 18, zk 0, [])],
  [.inr (0, 18, zk 0, []), .inr (0, 18, zk 0, []), .inr (0, 10, zk 0, []), .inr (4, 201, zlg (some 0), []), .inr (0, 201, zk 0, []), .inr (0, 201, zk 0, []), .inr (3, 201, zk 0, []), .inr (0, 3, zk 0, [])],
  [.inr (0, 3, zk 0, []), .inr (0, 3, zk 0, []), .inr (0, 3, zk 0, []), .inr (0, 3, zk 0, []), .inr (0, 60, zk 0, []), .inr (0, 60, zk 0, []), .inr (0, 60, zk 0, []), .inr (0, 60, zk 0, [])],
  [.inr (0, 60, zk 0, []), .inr (0, 60, zk 0, []), .inr (0, 60, zk 0, []), .inr (0, 60, zk 0, []), .inr (0, 90, zk 0, []), .inr (0, 90, zk 0, []), .inr (0, 90, zk 0, []), .inr (0, 120, zk 0, [])],
  [.inr (0, 2412, zk 0, []), .inr (3, 2, zk 0, [])]], [])
/-- the law's two constructors, one behind the other -/
noncomputable def zfr : zO := match zx [] 30 9 [zrf 0] (zph ((0, 0), [], []) (.inl (9, zfs 9, [])) 7) with
  | .inl (none, h) => zx [] 30 10 [zrf h.1.1] (zph h (.inl (10, zfs 10, [])) 51)
  | o => o
set_option maxRecDepth 100000 in
theorem zt1 : zis zfr zh0 = true := by decide +kernel
end
section
/-! plain facts on numbers (begun from kit/laws) -/
theorem fa_lt (a b : Int32) : a < b ↔ a.toInt < b.toInt := Int32.lt_iff_toInt_lt
theorem fa_le (a b : Int32) : a ≤ b ↔ a.toInt ≤ b.toInt := Int32.le_iff_toInt_le
theorem fa_eq (a b : Int32) : a = b ↔ a.toInt = b.toInt := Int32.toInt_inj.symm
theorem fa_lt64 (a b : Int64) : a < b ↔ a.toInt < b.toInt := Int64.lt_iff_toInt_lt
theorem fa_eq64 (a b : Int64) : a = b ↔ a.toInt = b.toInt := Int64.toInt_inj.symm
theorem fb_rng (x : Int32) : -2147483648 ≤ x.toInt ∧ x.toInt < 2147483648 := by
  have h1 := Int32.le_toInt x
  have h2 := Int32.toInt_lt x
  omega
theorem fb_bmod {z : Int} (h1 : -2147483648 ≤ z) (h2 : z < 2147483648) : z.bmod (2 ^ 32) = z := by
  rw [Int.bmod_eq_of_le (by omega) (by omega)]
theorem fb_addI {x y : Int32} (h1 : -2147483648 ≤ x.toInt + y.toInt) (h2 : x.toInt + y.toInt < 2147483648) : (x + y).toInt = x.toInt + y.toInt := by
  rw [Int32.toInt_add, fb_bmod h1 h2]
theorem fb_subI {x y : Int32} (h1 : -2147483648 ≤ x.toInt - y.toInt) (h2 : x.toInt - y.toInt < 2147483648) : (x - y).toInt = x.toInt - y.toInt := by
  rw [Int32.toInt_sub, fb_bmod h1 h2]
theorem fb_ofI {z : Int} (h1 : -2147483648 ≤ z) (h2 : z < 2147483648) : (Int32.ofInt z).toInt = z := by
  rw [Int32.toInt_ofInt, fb_bmod h1 h2]
theorem fb_asI (x : Int32) : Int32.ofInt x.toInt = x := Int32.ofInt_toInt x
theorem fb_asL (x : Int64) : Int64.ofInt x.toInt = x := Int64.ofInt_toInt x
/-! WHAT ABSTRACT VALUES, CELLS, HEAPS SAY -/
/-- the script's cell, the static tables' cells, the variables' values -/
abbrev zG : Type := Nat × (Nat → Nat) × (Nat → Int32)
def zV (g : zG) (ad : List Nat) : zA → Value → Prop
  | .inl p, v => ∃ x : Int32, v = .int x ∧ p.1 ≤ x.toInt ∧ x.toInt ≤ p.2
  | .inr (.inl k), v => v = .int (g.2.2 k)
  | .inr (.inr (.inl o)), v => ∃ x : Int64, v = .long x ∧ ∀ c, o = some c → x.toInt = c
  | .inr (.inr (.inr (.inl none))), v => v = .null
  | .inr (.inr (.inr (.inl (some i)))), v => ∃ q, ad[i]? = some q ∧ v = .ref q
  | .inr (.inr (.inr (.inr 0))), v => v = .ref g.1
  | .inr (.inr (.inr (.inr (k + 1)))), v => v = .ref (g.2.1 k)
def zEv (g : zG) (E : zE) : Prop := (∀ k p, znt E k = some p → p.1 ≤ (g.2.2 k).toInt ∧ (g.2.2 k).toInt ≤ p.2) ∧ g.2.2 5 = g.2.2 0 &&& 31
theorem zV_grow {g : zG} {ad : List Nat} (l : List Nat) : ∀ {a : zA} {v : Value}, zV g ad a v → zV g (ad ++ l) a v
  | .inl _, _, h => h
  | .inr (.inl _), _, h => h
  | .inr (.inr (.inl _)), _, h => h
  | .inr (.inr (.inr (.inl none))), _, h => h
  | .inr (.inr (.inr (.inl (some i)))), _, h => by
    obtain ⟨q, h1, h2⟩ := h
    exact ⟨q, by rw [List.getElem?_append_left (List.getElem?_eq_some_iff.mp h1).1]; exact h1, h2⟩
  | .inr (.inr (.inr (.inr 0))), _, h => h
  | .inr (.inr (.inr (.inr (_ + 1)))), _, h => h
theorem zV_int {g : zG} {ad : List Nat} : ∀ {a : zA} {v : Value}, zint a = true → zV g ad a v → ∃ x : Int32, v = .int x
  | .inl _, _, _, h => ⟨h.choose, h.choose_spec.1⟩
  | .inr (.inl k), _, _, h => ⟨g.2.2 k, h⟩
  | .inr (.inr _), _, h, _ => by cases h
theorem zV_iv {g : zG} {ad : List Nat} {E : zE} (hE : zEv g E) : ∀ {a : zA} {v : Value} {p : Int × Int}, ziv E a = some p → zV g ad a v → ∃ x : Int32, v = .int x ∧ p.1 ≤ x.toInt ∧ x.toInt ≤ p.2
  | .inl _, _, _, e, h => by
    cases e
    exact h
  | .inr (.inl k), _, _, e, h => ⟨g.2.2 k, h, hE.1 k _ e⟩
  | .inr (.inr _), _, _, e, _ => by cases e
theorem zV_cn {g : zG} {ad : List Nat} {E : zE} (hE : zEv g E) {a : zA} {v : Value} {c : Int} (e : zcn E a = some c) (h : zV g ad a v) : ∃ x : Int32, v = .int x ∧ x.toInt = c := by
  unfold zcn at e
  split at e
  · rename_i lo hi hp
    obtain ⟨x, h1, h2, h3⟩ := zV_iv hE hp h
    cases hq : zeq lo hi with
    | false => rw [hq] at e; cases e
    | true =>
      rw [hq] at e
      cases e
      have := zeq_iff.mp hq
      exact ⟨x, h1, by simp only at h2 h3; omega⟩
  · cases e
theorem zV_k {g : zG} {ad : List Nat} {x : Int32} {c : Int} (h : x.toInt = c) : zV g ad (zk c) (.int x) := ⟨x, rfl, by show c ≤ _; omega, by show _ ≤ c; omega⟩
theorem zV_z {g : zG} {ad : List Nat} (x : Int32) : zV g ad (.inl zz) (.int x) := ⟨x, rfl, by have := fb_rng x; show (-2147483648 : Int) ≤ _; omega, by have := fb_rng x; show _ ≤ (2147483647 : Int); omega⟩
theorem zV_lg {g : zG} {ad : List Nat} {o : Option Int} {x : Int64} (h : ∀ c, o = some c → x.toInt = c) : zV g ad (zlg o) (.long x) := ⟨x, rfl, h⟩
/-- two ints, out of two values, of which the intervals are known -/
theorem zV_ad {g : zG} {ad : List Nat} {E : zE} (hE : zEv g E) {a b r : zA} {n : Bool} {v w : Value} (e : zad E a b n = .inl r) (h : zV g ad a v) (h2 : zV g ad b w) : ∃ x y : Int32, v = .int x ∧ w = .int y ∧ zV g ad r (.int (bif n then x - y else x + y)) := by
  unfold zad at e
  split at e
  · rename_i p q hp hq
    cases e
    obtain ⟨x, rfl, h3, h4⟩ := zV_iv hE hp h
    obtain ⟨y, rfl, h5, h6⟩ := zV_iv hE hq h2
    refine ⟨x, y, rfl, rfl, ?_⟩
    have hx := fb_rng x
    have hy := fb_rng y
    cases n with
    | false =>
      show zV g ad (.inl (znm (p.1 + q.1, p.2 + q.2))) (.int (x + y))
      unfold znm
      cases hz : (zle (-2147483648) (p.1 + q.1) && zle (p.2 + q.2) 2147483647) with
      | false => exact zV_z _
      | true =>
        simp only [Bool.and_eq_true, zle_iff] at hz
        have e1 : (x + y).toInt = x.toInt + y.toInt := fb_addI (by omega) (by omega)
        exact ⟨_, rfl, by rw [e1]; show p.1 + q.1 ≤ _; omega, by rw [e1]; show _ ≤ p.2 + q.2; omega⟩
    | true =>
      show zV g ad (.inl (znm (p.1 - q.2, p.2 - q.1))) (.int (x - y))
      unfold znm
      cases hz : (zle (-2147483648) (p.1 - q.2) && zle (p.2 - q.1) 2147483647) with
      | false => exact zV_z _
      | true =>
        simp only [Bool.and_eq_true, zle_iff] at hz
        have e1 : (x - y).toInt = x.toInt - y.toInt := fb_subI (by omega) (by omega)
        exact ⟨_, rfl, by rw [e1]; show p.1 - q.2 ≤ _; omega, by rw [e1]; show _ ≤ p.2 - q.1; omega⟩
  · cases e
theorem zV_o2 {g : zG} {ad : List Nat} {E : zE} (hE : zEv g E) {f : Int32 → Int32 → Int32} {a b r : zA} {v w : Value} (e : zo2 E f a b = .inl r) (h : zV g ad a v) (h2 : zV g ad b w) : ∃ x y : Int32, v = .int x ∧ w = .int y ∧ zV g ad r (.int (f x y)) := by
  unfold zo2 at e
  split at e
  · rename_i p q hp hq
    obtain ⟨x, rfl, h3, h4⟩ := zV_iv hE hp h
    obtain ⟨y, rfl, h5, h6⟩ := zV_iv hE hq h2
    refine ⟨x, y, rfl, rfl, ?_⟩
    cases hz : (zeq p.1 p.2 && zeq q.1 q.2) with
    | false =>
      rw [hz] at e
      cases e
      exact zV_z _
    | true =>
      rw [hz] at e
      cases e
      simp only [Bool.and_eq_true, zeq_iff] at hz
      have e1 : x.toInt = p.1 := by omega
      have e2 : y.toInt = q.1 := by omega
      exact zV_k (by rw [← e1, ← e2, fb_asI, fb_asI])
  · cases e
theorem zV_sr {g : zG} {ad : List Nat} {E : zE} (hE : zEv g E) {a b r : zA} {v w : Value} (e : zsr E a b = .inl r) (h : zV g ad a v) (h2 : zV g ad b w) : ∃ x y : Int32, v = .int x ∧ w = .int y ∧ zV g ad r (.int (x >>> (y &&& 31))) := by
  unfold zsr at e
  split at e
  · rename_i c hc
    cases hz : (zeq c 0 && zint b) with
    | false =>
      rw [hz] at e
      exact zV_o2 hE (f := fun x y => x >>> (y &&& 31)) e h h2
    | true =>
      rw [hz] at e
      cases e
      simp only [Bool.and_eq_true, zeq_iff] at hz
      obtain ⟨x, rfl, h3⟩ := zV_cn hE hc h
      obtain ⟨y, rfl⟩ := zV_int hz.2 h2
      have hx : x = 0 := (fa_eq _ _).mpr (by rw [h3, hz.1]; rfl)
      refine ⟨x, y, rfl, rfl, zV_k ?_⟩
      rw [hx]
      have : (0 : Int32) >>> (y &&& 31) = 0 := by simp
      rw [this]
      rfl
  · exact zV_o2 hE (f := fun x y => x >>> (y &&& 31)) e h h2
theorem zV_an {g : zG} {ad : List Nat} {E : zE} (hE : zEv g E) {a b r : zA} {v w : Value} (e : zan E a b = .inl r) (h : zV g ad a v) (h2 : zV g ad b w) : ∃ x y : Int32, v = .int x ∧ w = .int y ∧ zV g ad r (.int (x &&& y)) := by
  unfold zan at e
  split at e
  · rename_i c hc
    cases hz : zeq c 31 with
    | false =>
      rw [hz] at e
      exact zV_o2 hE (f := (· &&& ·)) e h h2
    | true =>
      rw [hz] at e
      cases e
      obtain ⟨y, rfl, h3⟩ := zV_cn hE hc h2
      have hy : y = 31 := (fa_eq _ _).mpr (by rw [h3, zeq_iff.mp hz]; rfl)
      refine ⟨g.2.2 0, y, h, rfl, ?_⟩
      show _ = _
      rw [hy, hE.2]
  · exact zV_o2 hE (f := (· &&& ·)) e h h2
theorem zV_dv {g : zG} {ad : List Nat} {E : zE} (hE : zEv g E) {f : Int32 → Int32 → Int32} {a b r : zA} {v w : Value} (e : zdv E f a b = .inl r) (h : zV g ad a v) (h2 : zV g ad b w) : ∃ x y : Int32, v = .int x ∧ w = .int y ∧ ¬ y = 0 ∧ zV g ad r (.int (f x y)) := by
  unfold zdv at e
  split at e
  · rename_i q hq
    cases hz : (zlt 0 q.1 || zlt q.2 0) with
    | false => rw [hz] at e; cases e
    | true =>
      rw [hz] at e
      obtain ⟨x, y, rfl, rfl, h3⟩ := zV_o2 hE (f := f) e h h2
      refine ⟨x, y, rfl, rfl, fun h0 => ?_, h3⟩
      obtain ⟨y', e', h5, h6⟩ := zV_iv hE hq h2
      cases e'
      simp only [Bool.or_eq_true, zlt_iff] at hz
      rw [h0] at h5 h6
      have : (0 : Int32).toInt = 0 := rfl
      omega
  · cases e
def zrel (k : Jvm.ClassFile.Cond) (x y : Int32) : Prop := match k with
  | .eq => x = y
  | .ne => ¬ x = y
  | .lt => x < y
  | .ge => y ≤ x
  | .gt => y < x
  | .le => x ≤ y
theorem zlts_ok {p q : Int × Int} {r : Bool} {x y : Int} (e : zlts p q = some r) (h1 : p.1 ≤ x) (h2 : x ≤ p.2) (h3 : q.1 ≤ y) (h4 : y ≤ q.2) : r = true ↔ x < y := by
  unfold zlts at e
  cases hz : zlt p.2 q.1 with
  | true =>
    rw [hz] at e
    cases e
    have := zlt_iff.mp hz
    simp only [true_iff]
    omega
  | false =>
    rw [hz] at e
    cases hz2 : zle q.2 p.1 with
    | true =>
      rw [hz2] at e
      cases e
      have := zle_iff.mp hz2
      simp only [Bool.false_eq_true, false_iff]
      omega
    | false => rw [hz2] at e; cases e
theorem zles_ok {p q : Int × Int} {r : Bool} {x y : Int} (e : zles p q = some r) (h1 : p.1 ≤ x) (h2 : x ≤ p.2) (h3 : q.1 ≤ y) (h4 : y ≤ q.2) : r = true ↔ x ≤ y := by
  unfold zles at e
  cases hz : zle p.2 q.1 with
  | true =>
    rw [hz] at e
    cases e
    have := zle_iff.mp hz
    simp only [true_iff]
    omega
  | false =>
    rw [hz] at e
    cases hz2 : zlt q.2 p.1 with
    | true =>
      rw [hz2] at e
      cases e
      have := zlt_iff.mp hz2
      simp only [Bool.false_eq_true, false_iff]
      omega
    | false => rw [hz2] at e; cases e
theorem zeqs_ok {p q : Int × Int} {r : Bool} {x y : Int} (e : zeqs p q = some r) (h1 : p.1 ≤ x) (h2 : x ≤ p.2) (h3 : q.1 ≤ y) (h4 : y ≤ q.2) : r = true ↔ x = y := by
  unfold zeqs at e
  cases hz : (zlt p.2 q.1 || zlt q.2 p.1) with
  | true =>
    rw [hz] at e
    cases e
    simp only [Bool.or_eq_true, zlt_iff] at hz
    simp only [Bool.false_eq_true, false_iff]
    omega
  | false =>
    rw [hz] at e
    cases hz2 : (zeq p.1 p.2 && (zeq q.1 q.2 && zeq p.1 q.1)) with
    | true =>
      rw [hz2] at e
      cases e
      simp only [Bool.and_eq_true, zeq_iff] at hz2
      simp only [true_iff]
      omega
    | false => rw [hz2] at e; cases e
theorem zcr_ok {k : Jvm.ClassFile.Cond} {p q : Int × Int} {r : Bool} {x y : Int32} (e : zcr k p q = some r) (h1 : p.1 ≤ x.toInt) (h2 : x.toInt ≤ p.2) (h3 : q.1 ≤ y.toInt) (h4 : y.toInt ≤ q.2) : r = true ↔ zrel k x y := by
  cases k with
  | eq => exact (zeqs_ok e h1 h2 h3 h4).trans (fa_eq x y).symm
  | ne =>
    have e : (zeqs p q).map (!·) = some r := e
    cases hz : zeqs p q with
    | none => rw [hz] at e; cases e
    | some r0 =>
      rw [hz] at e
      cases e
      have := zeqs_ok hz h1 h2 h3 h4
      show (!r0) = true ↔ ¬ x = y
      rw [fa_eq x y, ← this]
      simp
  | lt => exact (zlts_ok e h1 h2 h3 h4).trans (fa_lt x y).symm
  | ge => exact (zles_ok e h3 h4 h1 h2).trans (fa_le y x).symm
  | gt => exact (zlts_ok e h3 h4 h1 h2).trans (fa_lt y x).symm
  | le => exact (zles_ok e h1 h2 h3 h4).trans (fa_le x y).symm
theorem zcm_ok {g : zG} {ad : List Nat} {E : zE} (hE : zEv g E) {k : Jvm.ClassFile.Cond} {a b : zA} {r : Bool} {v w : Value} (e : zcm E k a b = .inl r) (h : zV g ad a v) (h2 : zV g ad b w) : ∃ x y : Int32, v = .int x ∧ w = .int y ∧ (r = true ↔ zrel k x y) := by
  unfold zcm at e
  split at e
  · rename_i p q hp hq
    obtain ⟨x, rfl, h3, h4⟩ := zV_iv hE hp h
    obtain ⟨y, rfl, h5, h6⟩ := zV_iv hE hq h2
    split at e
    · rename_i r' hr
      cases e
      exact ⟨x, y, rfl, rfl, zcr_ok hr h3 h4 h5 h6⟩
    · cases e
  · cases e
theorem zix_ok {g : zG} {ad : List Nat} {E : zE} (hE : zEv g E) {a : zA} {n j : Nat} {v : Value} (e : zix E a n = .inl j) (h : zV g ad a v) : ∃ x : Int32, v = .int x ∧ x.toInt = j ∧ j < n := by
  unfold zix at e
  split at e
  · rename_i i hi
    obtain ⟨x, h1, h2⟩ := zV_cn hE hi h
    cases hz : Nat.blt i n with
    | false => rw [hz] at e; cases e
    | true =>
      rw [hz] at e
      cases e
      exact ⟨x, h1, h2, Nat.le_of_ble_eq_true hz⟩
  · cases e
  · cases e
theorem zir_ok {g : zG} {ad : List Nat} {E : zE} (hE : zEv g E) {a : zA} {n l m : Nat} {v : Value} (e : zir E a n = some (l, m)) (h : zV g ad a v) : ∃ (x : Int32) (j : Nat), v = .int x ∧ x.toInt = j ∧ j < n ∧ l ≤ j ∧ j < l + m := by
  unfold zir at e
  split at e
  · rename_i l0 u0 hp
    obtain ⟨x, h1, h2, h3⟩ := zV_iv hE hp h
    cases hz : (Nat.blt l0 u0 && Nat.blt u0 n) with
    | false => rw [hz] at e; cases e
    | true =>
      rw [hz] at e
      cases e
      simp only [Bool.and_eq_true] at hz
      have hz2 : u0 < n := Nat.le_of_ble_eq_true hz.2
      have hz1 : l < u0 := Nat.le_of_ble_eq_true hz.1
      have h2 : ((l : Nat) : Int) ≤ x.toInt := h2
      have h3 : x.toInt ≤ ((u0 : Nat) : Int) := h3
      refine ⟨x, x.toInt.toNat, h1, by omega, by omega, by omega, by omega⟩
  · cases e
theorem zvin {x : Int32} {j n : Nat} (h : x.toInt = j) (hj : j < n) : vp_in x n := vp_in_iff.mpr ⟨by omega, by omega⟩
theorem zclamp {x : Int32} {j : Nat} (h : x.toInt = j) : x.toNatClampNeg = j := by
  show x.toInt.toNat = j
  omega
/-! lists of values -/
def zVs (g : zG) (ad : List Nat) : List zA → List Value → Prop
  | [], [] => True
  | a :: as, v :: vs => zV g ad a v ∧ zVs g ad as vs
  | _, _ => False
theorem zVs_nil {g : zG} {ad : List Nat} {vs : List Value} (h : zVs g ad [] vs) : vs = [] := by
  cases vs with
  | nil => rfl
  | cons _ _ => exact h.elim
theorem zVs_cons {g : zG} {ad : List Nat} {a : zA} {as : List zA} {vs : List Value} (h : zVs g ad (a :: as) vs) : ∃ v ws, vs = v :: ws ∧ zV g ad a v ∧ zVs g ad as ws := by
  cases vs with
  | nil => exact h.elim
  | cons v ws => exact ⟨v, ws, rfl, h.1, h.2⟩
theorem zVs_grow {g : zG} {ad : List Nat} (l : List Nat) : ∀ {as : List zA} {vs : List Value}, zVs g ad as vs → zVs g (ad ++ l) as vs
  | [], [], _ => trivial
  | [], _ :: _, h => h.elim
  | _ :: _, [], h => h.elim
  | _ :: _, _ :: _, h => ⟨zV_grow l h.1, zVs_grow l h.2⟩
theorem zV_cat {g : zG} {ad : List Nat} : ∀ {a : zA} {v : Value}, zV g ad a v → v.category = zca a
  | .inl _, _, h => by
    obtain ⟨x, rfl, -⟩ := h
    rfl
  | .inr (.inl _), _, h => by
    have h : _ = _ := h
    subst h
    rfl
  | .inr (.inr (.inl _)), _, h => by
    obtain ⟨x, rfl, -⟩ := h
    rfl
  | .inr (.inr (.inr (.inl none))), _, h => by
    have h : _ = _ := h
    subst h
    rfl
  | .inr (.inr (.inr (.inl (some i)))), _, h => by
    obtain ⟨q, -, rfl⟩ := h
    rfl
  | .inr (.inr (.inr (.inr 0))), _, h => by
    have h : _ = _ := h
    subst h
    rfl
  | .inr (.inr (.inr (.inr (_ + 1)))), _, h => by
    have h : _ = _ := h
    subst h
    rfl
theorem zVs_cat {g : zG} {ad : List Nat} : ∀ {as : List zA} {vs : List Value}, zVs g ad as vs → vs.map (fun v => v.category) = as.map zca
  | [], [], _ => rfl
  | [], _ :: _, h => h.elim
  | _ :: _, [], h => h.elim
  | a :: as, v :: vs, h => by
    rw [List.map_cons, List.map_cons, zV_cat h.1, zVs_cat h.2]
/-! locals -/
def zLs (g : zG) (ad : List Nat) : zL → List (Nat × Value) → Prop
  | [], [] => True
  | a :: as, v :: vs => (a.1 = v.1 ∧ zV g ad a.2 v.2) ∧ zLs g ad as vs
  | _, _ => False
theorem zLs_grow {g : zG} {ad : List Nat} (l : List Nat) : ∀ {as : zL} {vs : List (Nat × Value)}, zLs g ad as vs → zLs g (ad ++ l) as vs
  | [], [], _ => trivial
  | [], _ :: _, h => h.elim
  | _ :: _, [], h => h.elim
  | _ :: _, _ :: _, h => ⟨⟨h.1.1, zV_grow l h.1.2⟩, zLs_grow l h.2⟩
theorem zlk_cons {α : Type} (q : Nat × α) (r : List (Nat × α)) (i : Nat) : zlk (q :: r) i = bif Nat.beq q.1 i then some q.2 else zlk r i := rfl
theorem zrm_cons {α : Type} (q : Nat × α) (r : List (Nat × α)) (i : Nat) : zrm (q :: r) i = bif Nat.beq q.1 i then zrm r i else q :: zrm r i := rfl
theorem zrl_cons (q : Nat × zA) (r : zL) (i : Nat) : zrl (q :: r) i = bif Nat.beq q.1 i then zrl r i else bif Nat.beq (q.1 + 1) i && Nat.beq (zca q.2) 2 then zrl r i else q :: zrl r i := rfl
theorem zlk_ok {g : zG} {ad : List Nat} {i : Nat} {a : zA} : ∀ {al : zL} {lv : List (Nat × Value)}, zLs g ad al lv → zlk al i = some a → ∃ v, (i, v) ∈ lv ∧ zV g ad a v
  | [], [], _, e => by cases e
  | [], _ :: _, h, _ => h.elim
  | _ :: _, [], h, _ => h.elim
  | q :: al, r :: lv, h, e => by
    rw [zlk_cons] at e
    cases hz : Nat.beq q.1 i with
    | true =>
      rw [hz] at e
      cases e
      have := Nat.eq_of_beq_eq_true hz
      refine ⟨r.2, ?_, h.1.2⟩
      have e2 : r.1 = i := by rw [← h.1.1, this]
      rw [← e2]
      exact List.mem_cons_self
    | false =>
      rw [hz] at e
      obtain ⟨v, h1, h2⟩ := zlk_ok h.2 e
      exact ⟨v, List.mem_cons_of_mem _ h1, h2⟩
theorem zbeq (a b : Nat) : (a == b) = Nat.beq a b := by
  by_cases h : a = b
  · subst h
    simp
  · have h1 : (a == b) = false := by simp [h]
    have h2 : Nat.beq a b = false := by
      cases hz : Nat.beq a b with
      | false => rfl
      | true => exact absurd (Nat.eq_of_beq_eq_true hz) h
    rw [h1, h2]
theorem zrl_ok {g : zG} {ad : List Nat} {i : Nat} : ∀ {al : zL} {lv : List (Nat × Value)}, zLs g ad al lv → zLs g ad (zrl al i) (lv.filter (fun q => !(q.1 == i) && !(q.1 + 1 == i && q.2.category == 2)))
  | [], [], _ => trivial
  | [], _ :: _, h => h.elim
  | _ :: _, [], h => h.elim
  | q :: al, r :: lv, h => by
    have ih := zrl_ok (i := i) h.2
    rw [zrl_cons, List.filter_cons]
    have e1 : r.1 = q.1 := h.1.1.symm
    have e2 : r.2.category = zca q.2 := zV_cat h.1.2
    simp only [zbeq] at ih ⊢
    rw [e1, e2]
    cases h1 : Nat.beq q.1 i with
    | true => exact ih
    | false =>
      cases h2 : (Nat.beq (q.1 + 1) i && Nat.beq (zca q.2) 2) with
      | true => exact ih
      | false => exact ⟨⟨h.1.1, h.1.2⟩, ih⟩
theorem zrl2_ok {g : zG} {ad : List Nat} {i : Nat} : ∀ {al : zL} {lv : List (Nat × Value)}, zLs g ad al lv → zLs g ad (zrl (zrm al (i + 1)) i) (lv.filter (fun q => !(q.1 == i) && (!(q.1 == i + 1) && !(q.1 + 1 == i && q.2.category == 2))))
  | [], [], _ => trivial
  | [], _ :: _, h => h.elim
  | _ :: _, [], h => h.elim
  | q :: al, r :: lv, h => by
    have ih := zrl2_ok (i := i) h.2
    rw [zrm_cons, List.filter_cons]
    have e1 : r.1 = q.1 := h.1.1.symm
    have e2 : r.2.category = zca q.2 := zV_cat h.1.2
    simp only [zbeq] at ih ⊢
    rw [e1, e2]
    cases h0 : Nat.beq q.1 (i + 1) with
    | true =>
      have : (!Nat.beq q.1 i && (!true && !(Nat.beq (q.1 + 1) i && Nat.beq (zca q.2) 2))) = false := by simp
      rw [this]
      exact ih
    | false =>
      show zLs g ad (zrl (q :: zrm al (i + 1)) i) _
      rw [zrl_cons]
      cases h1 : Nat.beq q.1 i with
      | true => exact ih
      | false =>
        cases h2 : (Nat.beq (q.1 + 1) i && Nat.beq (zca q.2) 2) with
        | true => exact ih
        | false => exact ⟨⟨h.1.1, h.1.2⟩, ih⟩
/-! tables -/
theorem zlk_rm_same {α : Type} (i : Nat) : ∀ (l : List (Nat × α)), zlk (zrm l i) i = none
  | [] => rfl
  | q :: r => by
    rw [zrm_cons]
    cases h : Nat.beq q.1 i with
    | true => exact zlk_rm_same i r
    | false =>
      show zlk (q :: zrm r i) i = none
      rw [zlk_cons, h]
      exact zlk_rm_same i r
theorem zlk_rm_ne {α : Type} {i j : Nat} (hj : j ≠ i) : ∀ (l : List (Nat × α)), zlk (zrm l i) j = zlk l j
  | [] => rfl
  | q :: r => by
    rw [zrm_cons, zlk_cons]
    cases h : Nat.beq q.1 i with
    | true =>
      have h2 : Nat.beq q.1 j = false := by
        cases hz : Nat.beq q.1 j with
        | false => rfl
        | true => exact absurd ((Nat.eq_of_beq_eq_true hz).symm.trans (Nat.eq_of_beq_eq_true h)) hj
      rw [h2]
      exact zlk_rm_ne hj r
    | false =>
      show zlk (q :: zrm r i) j = _
      rw [zlk_cons, zlk_rm_ne hj r]
theorem zbeq_self (i : Nat) : Nat.beq i i = true := Nat.beq_refl i
theorem zbeq_ne {i j : Nat} (h : i ≠ j) : Nat.beq i j = false := by
  cases hz : Nat.beq i j with
  | false => rfl
  | true => exact absurd (Nat.eq_of_beq_eq_true hz) h
theorem zg_same {α : Type} (t : zT α) (i : Nat) (c : α) : zg (zu t i c) i = some c := by
  unfold zg zu
  simp only [zlk_cons, zbeq_self, cond_true]
theorem zg_ne {α : Type} (t : zT α) {i j : Nat} (c : α) (h : j ≠ i) : zg (zu t i c) j = zg t j := by
  unfold zg zu
  simp only [zlk_cons, zbeq_ne (Ne.symm h), cond_false, zlk_rm_ne h]
theorem zag_cons (d : zA) (ov : List (Nat × zA)) (i : Nat) (a : zA) (j : Nat) : zag d ((i, a) :: ov) j = if j = i then a else zag d ov j := by
  unfold zag
  rw [zlk_cons]
  by_cases h : j = i
  · subst h
    simp only [zbeq_self, cond_true, if_true]
  · simp only [zbeq_ne (Ne.symm h), cond_false, if_neg h]
end
section
/-! WHAT AN INSTRUCTION OF THE ENGINE MEANS ON THE MACHINE -/
noncomputable def zW : List Jvm.Cond := lw_tbl.filter goodWord
/-- a word on a link within a nest -/
noncomputable def zisN : Jvm.Cond → Bool
  | .methodLinkNest _ _ _ _ => true
  | _ => false
noncomputable def zNs : List Jvm.Cond := lw_tbl.filter zisN
theorem zW_in {w : Jvm.Cond} (h : w ∈ lw_tbl) (hg : goodWord w = true) : w ∈ zW := List.mem_filter.mpr ⟨h, hg⟩
abbrev zKs (kk : Nat → ClassId) : List (ClassId × FieldType) := [(kk 0, .int), (kk 1, .byte), (kk 2, .char), (kk 3, .boolean), (kk 4, .long), (kk 5, .object RX5), (kk 6, .object RX1), (kk 7, .array .int)]
/-- what is known of things outside: arrays that can be made, the two static tables -/
def zX (g : zG) (A : Nat → Prop) (U : State) (H : Heap) : Prop := (va_AO RX5 U ∧ ∀ w ∈ zNs, va_Nw w U) ∧ va_AO RX1 U ∧ va_AOA .int U ∧
  (va_Z "LetterDebts" "ABOVE" "[I" (.ref (g.2.1 0)) A U H ∧ va_T .int (g.2.1 0) 8 (fun j => .int (Int32.ofInt ((ztb 0).getD j 0))) A U H) ∧
  (va_Z "LetterDebts" "MARKS" "[I" (.ref (g.2.1 1)) A U H ∧ va_T .int (g.2.1 1) 8 (fun j => .int (Int32.ofInt ((ztb 1).getD j 0))) A U H)
def zCr (g : zG) (ad : List Nat) (kk : Nat → ClassId) : zC → va_E → Prop
  | .inl (ci, fs), e => ∃ vs, e = .inr (ci, vs) ∧ vs.length = zN ci ∧ ∀ k a, k < zN ci → zg fs k = some a → ∃ v, vs[k]? = some v ∧ zV g ad a v
  | .inr (k, n, d, ov), e => (k ≤ 3 ∧ ∃ f : Nat → Int32, e = .inl (kk k, n, .inl f) ∧ ∀ j, j < n → zV g ad (zag d ov j) (.int (f j))) ∨
    (k = 4 ∧ ∃ f : Nat → Int64, e = .inl (kk k, n, .inr (.inl f)) ∧ ∀ j, j < n → zV g ad (zag d ov j) (.long (f j))) ∨
    (5 ≤ k ∧ k ≤ 7 ∧ ∃ f : Nat → Option Nat, e = .inl (kk k, n, .inr (.inr (.inr (.inr f)))) ∧ ∀ j, j < n → zV g ad (zag d ov j) (va_rf (f j)))
def zHr (g : zG) (kk : Nat → ClassId) (ad0 : List Nat) (h : zH) (ws : va_W) : Prop := (ws.length = h.1.1 ∧ ∃ l0, ws.map (·.1) = ad0 ++ l0) ∧ ∀ i c, zgt h i = some c → ∃ q e, ws[i]? = some (q, e) ∧ zCr g (ws.map (·.1)) kk c e
def zCx (p : Program) (s : State) (m : MethodId) (args : Array Value) (meth : Method) (c : Code) (cc : ByteArray) (nL : Nat) (own : String) (D : va_G) (kk : Nat → ClassId) (A : Nat → Prop) (g : zG) (ini top : Bool) : Prop :=
  p.tables.exec = Jvm.exec ∧ c.code = cc ∧ c.maxLocals = nL ∧ s.vm.findClass own = some m.cls ∧ (∀ w ∈ zW, w.before args s = true) ∧ va_K D vwCl (zKs kk) s ∧ (∀ q, s.heap.size ≤ q → A q) ∧ zX g A s s.heap ∧ (ini = true → meth.name = "<init>") ∧ (top = true → va_X g.1 5 g.2.2 s s.heap ∧ g.1 < s.heap.size ∧ ¬ A g.1)
def zSt (s : State) (D : va_G) (kk : Nat → ClassId) (A : Nat → Prop) (g : zG) (ad0 : List Nat) (nL : Nat) (al : zL) (st : List zA) (h : zH) (ls : Array Slot) (sv : List Value) (H : Heap) (locs : List Loc) : Prop :=
  ∃ (ws : va_W) (lv : List (Nat × Value)), zHr g kk ad0 h ws ∧ lv_has ls nL lv ∧ zLs g (ws.map (·.1)) al lv ∧ zVs g (ws.map (·.1)) st sv ∧ va_P D vwCl ws H ∧ va_D A ws ∧ va_S A s.heap H locs
/-- from every state of which the engine's says the truth, the machine comes to Q -/
def zWn (p : Program) (l : Launch) (e : Env) (R : Room) (s : State) (m : MethodId) (args : Array Value) (below : List Frame) (meth : Method) (c : Code) (Q : State → Prop) (D : va_G) (kk : Nat → ClassId) (A : Nat → Prop) (g : zG) (ad0 : List Nat) (nL n0 m0 : Nat) (pc : Nat) (al : zL) (st : List zA) (h : zH) : Prop :=
  ∀ (ls : Array Slot) (sv : List Value) (H : Heap) (locs : List Loc), zSt s D kk A g ad0 nL al st h ls sv H locs → W p l e R s m args below meth c H locs (h.1.1 - n0) (h.1.2 - m0) Q (F0 m pc ls sv)
section ZH
variable {p : Program} {l : Launch} {e : Env} {R : Room} {s : State} {m : MethodId} {args : Array Value} {below : List Frame} {meth : Method} {c : Code} {Q : State → Prop} {D : va_G} {kk : Nat → ClassId} {A : Nat → Prop} {g : zG} {ad0 : List Nat} {nL n0 m0 : Nat} {cc : ByteArray} {own : String} {ini top : Bool} {E : zE} {pc : Nat} {al al' : zL} {st st' : List zA} {h h' : zH}
theorem zh_iload_n (hC : zCx p s m args meth c cc nL own D kk A g ini top) (hE : zEv g E) {n : Fin 4} (hd : decode cc pc = .ok (.iload_n n, 1)) (hs : zs_iload n E top al st h = .inl (al', st', h')) (k : zWn p l e R s m args below meth c Q D kk A g ad0 nL n0 m0 (pc + 1) al' st' h') : zWn p l e R s m args below meth c Q D kk A g ad0 nL n0 m0 pc al st h := by
  unfold zs_iload at hs
  split at hs
  · rename_i a ha
    cases hz : zint a with
    | false => rw [hz] at hs; cases hs
    | true =>
      rw [hz] at hs
      cases hs
      intro ls sv H locs ⟨ws, lv, hh, hl, hL, hF, hP, hD, hS⟩
      obtain ⟨v, hv, hV⟩ := zlk_ok hL ha
      obtain ⟨x, rfl⟩ := zV_int hz hV
      exact lv_iload_n hC.1 hC.2.1 hd rfl (hl.2.2 _ hv) (k ls _ H locs ⟨ws, lv, hh, hl, hL, ⟨hV, hF⟩, hP, hD, hS⟩)
  · cases hs
theorem zh_iload (hC : zCx p s m args meth c cc nL own D kk A g ini top) (hE : zEv g E) {n : Nat} (hd : decode cc pc = .ok (.iload n, 2)) (hs : zs_iload n E top al st h = .inl (al', st', h')) (k : zWn p l e R s m args below meth c Q D kk A g ad0 nL n0 m0 (pc + 2) al' st' h') : zWn p l e R s m args below meth c Q D kk A g ad0 nL n0 m0 pc al st h := by
  unfold zs_iload at hs
  split at hs
  · rename_i a ha
    cases hz : zint a with
    | false => rw [hz] at hs; cases hs
    | true =>
      rw [hz] at hs
      cases hs
      intro ls sv H locs ⟨ws, lv, hh, hl, hL, hF, hP, hD, hS⟩
      obtain ⟨v, hv, hV⟩ := zlk_ok hL ha
      obtain ⟨x, rfl⟩ := zV_int hz hV
      exact lv_iload hC.1 hC.2.1 hd (hl.2.2 _ hv) (k ls _ H locs ⟨ws, lv, hh, hl, hL, ⟨hV, hF⟩, hP, hD, hS⟩)
  · cases hs
theorem zh_aload_n (hC : zCx p s m args meth c cc nL own D kk A g ini top) (hE : zEv g E) {n : Fin 4} (hd : decode cc pc = .ok (.aload_n n, 1)) (hs : zs_aload n E top al st h = .inl (al', st', h')) (k : zWn p l e R s m args below meth c Q D kk A g ad0 nL n0 m0 (pc + 1) al' st' h') : zWn p l e R s m args below meth c Q D kk A g ad0 nL n0 m0 pc al st h := by
  unfold zs_aload at hs
  split at hs
  · rename_i i ha
    cases hs
    intro ls sv H locs ⟨ws, lv, hh, hl, hL, hF, hP, hD, hS⟩
    obtain ⟨v, hv, hV⟩ := zlk_ok hL ha
    obtain ⟨q, hq, rfl⟩ := id hV
    exact lv_aload_n hC.1 hC.2.1 hd rfl (hl.2.2 _ hv) (k ls _ H locs ⟨ws, lv, hh, hl, hL, ⟨hV, hF⟩, hP, hD, hS⟩)
  · rename_i i ha
    cases hs
    intro ls sv H locs ⟨ws, lv, hh, hl, hL, hF, hP, hD, hS⟩
    obtain ⟨v, hv, hV⟩ := zlk_ok hL ha
    obtain ⟨q, rfl⟩ : ∃ q, v = .ref q := by
      cases i with
      | zero => exact ⟨_, hV⟩
      | succ i => exact ⟨_, hV⟩
    exact lv_aload_n hC.1 hC.2.1 hd rfl (hl.2.2 _ hv) (k ls _ H locs ⟨ws, lv, hh, hl, hL, ⟨hV, hF⟩, hP, hD, hS⟩)
  · cases hs
theorem zh_aload (hC : zCx p s m args meth c cc nL own D kk A g ini top) (hE : zEv g E) {n : Nat} (hd : decode cc pc = .ok (.aload n, 2)) (hs : zs_aload n E top al st h = .inl (al', st', h')) (k : zWn p l e R s m args below meth c Q D kk A g ad0 nL n0 m0 (pc + 2) al' st' h') : zWn p l e R s m args below meth c Q D kk A g ad0 nL n0 m0 pc al st h := by
  unfold zs_aload at hs
  split at hs
  · rename_i i ha
    cases hs
    intro ls sv H locs ⟨ws, lv, hh, hl, hL, hF, hP, hD, hS⟩
    obtain ⟨v, hv, hV⟩ := zlk_ok hL ha
    obtain ⟨q, hq, rfl⟩ := id hV
    exact lv_aload hC.1 hC.2.1 hd (hl.2.2 _ hv) (k ls _ H locs ⟨ws, lv, hh, hl, hL, ⟨hV, hF⟩, hP, hD, hS⟩)
  · rename_i i ha
    cases hs
    intro ls sv H locs ⟨ws, lv, hh, hl, hL, hF, hP, hD, hS⟩
    obtain ⟨v, hv, hV⟩ := zlk_ok hL ha
    obtain ⟨q, rfl⟩ : ∃ q, v = .ref q := by
      cases i with
      | zero => exact ⟨_, hV⟩
      | succ i => exact ⟨_, hV⟩
    exact lv_aload hC.1 hC.2.1 hd (hl.2.2 _ hv) (k ls _ H locs ⟨ws, lv, hh, hl, hL, ⟨hV, hF⟩, hP, hD, hS⟩)
  · cases hs
theorem zh_lload_n (hC : zCx p s m args meth c cc nL own D kk A g ini top) (hE : zEv g E) {n : Fin 4} (hd : decode cc pc = .ok (.lload_n n, 1)) (hs : zs_lload n E top al st h = .inl (al', st', h')) (k : zWn p l e R s m args below meth c Q D kk A g ad0 nL n0 m0 (pc + 1) al' st' h') : zWn p l e R s m args below meth c Q D kk A g ad0 nL n0 m0 pc al st h := by
  unfold zs_lload at hs
  split at hs
  · rename_i o ha
    cases hs
    intro ls sv H locs ⟨ws, lv, hh, hl, hL, hF, hP, hD, hS⟩
    obtain ⟨v, hv, hV⟩ := zlk_ok hL ha
    obtain ⟨x, rfl, hx⟩ := id hV
    exact lv_lload_n hC.1 hC.2.1 hd rfl (hl.2.2 _ hv) (k ls _ H locs ⟨ws, lv, hh, hl, hL, ⟨hV, hF⟩, hP, hD, hS⟩)
  · cases hs
theorem zh_istore_n (hC : zCx p s m args meth c cc nL own D kk A g ini top) (hE : zEv g E) {n : Fin 4} (hn : (n : Nat) < nL) (hd : decode cc pc = .ok (.istore_n n, 1)) (hs : zs_istore n E top al st h = .inl (al', st', h')) (k : zWn p l e R s m args below meth c Q D kk A g ad0 nL n0 m0 (pc + 1) al' st' h') : zWn p l e R s m args below meth c Q D kk A g ad0 nL n0 m0 pc al st h := by
  unfold zs_istore at hs
  split at hs
  · rename_i a st0
    cases hz : zint a with
    | false => rw [hz] at hs; cases hs
    | true =>
      rw [hz] at hs
      cases hs
      intro ls sv H locs ⟨ws, lv, hh, hl, hL, hF, hP, hD, hS⟩
      obtain ⟨v, vs, rfl, hV, hF1⟩ := zVs_cons hF
      obtain ⟨x, rfl⟩ := zV_int hz hV
      exact lv_istore_n hC.1 hC.2.1 hd rfl hl hn rfl (fun ls' hl' => k ls' _ H locs ⟨ws, _, hh, hl', ⟨⟨rfl, hV⟩, zrl_ok hL⟩, hF1, hP, hD, hS⟩)
  · cases hs
theorem zh_istore (hC : zCx p s m args meth c cc nL own D kk A g ini top) (hE : zEv g E) {n : Nat} (hn : n < nL) (hd : decode cc pc = .ok (.istore n, 2)) (hs : zs_istore n E top al st h = .inl (al', st', h')) (k : zWn p l e R s m args below meth c Q D kk A g ad0 nL n0 m0 (pc + 2) al' st' h') : zWn p l e R s m args below meth c Q D kk A g ad0 nL n0 m0 pc al st h := by
  unfold zs_istore at hs
  split at hs
  · rename_i a st0
    cases hz : zint a with
    | false => rw [hz] at hs; cases hs
    | true =>
      rw [hz] at hs
      cases hs
      intro ls sv H locs ⟨ws, lv, hh, hl, hL, hF, hP, hD, hS⟩
      obtain ⟨v, vs, rfl, hV, hF1⟩ := zVs_cons hF
      obtain ⟨x, rfl⟩ := zV_int hz hV
      exact lv_istore hC.1 hC.2.1 hd hl hn rfl (fun ls' hl' => k ls' _ H locs ⟨ws, _, hh, hl', ⟨⟨rfl, hV⟩, zrl_ok hL⟩, hF1, hP, hD, hS⟩)
  · cases hs
theorem zh_astore_n (hC : zCx p s m args meth c cc nL own D kk A g ini top) (hE : zEv g E) {n : Fin 4} (hn : (n : Nat) < nL) (hd : decode cc pc = .ok (.astore_n n, 1)) (hs : zs_astore n E top al st h = .inl (al', st', h')) (k : zWn p l e R s m args below meth c Q D kk A g ad0 nL n0 m0 (pc + 1) al' st' h') : zWn p l e R s m args below meth c Q D kk A g ad0 nL n0 m0 pc al st h := by
  unfold zs_astore at hs
  split at hs
  · rename_i i st0
    cases hs
    intro ls sv H locs ⟨ws, lv, hh, hl, hL, hF, hP, hD, hS⟩
    obtain ⟨v, vs, rfl, hV, hF1⟩ := zVs_cons hF
    obtain ⟨q, hq, rfl⟩ := id hV
    exact lv_astore_n hC.1 hC.2.1 hd rfl hl hn rfl (fun ls' hl' => k ls' _ H locs ⟨ws, _, hh, hl', ⟨⟨rfl, hV⟩, zrl_ok hL⟩, hF1, hP, hD, hS⟩)
  · rename_i i st0
    cases hs
    intro ls sv H locs ⟨ws, lv, hh, hl, hL, hF, hP, hD, hS⟩
    obtain ⟨v, vs, rfl, hV, hF1⟩ := zVs_cons hF
    obtain ⟨q, rfl⟩ : ∃ q, v = .ref q := by
      cases i with
      | zero => exact ⟨_, hV⟩
      | succ i => exact ⟨_, hV⟩
    exact lv_astore_n hC.1 hC.2.1 hd rfl hl hn rfl (fun ls' hl' => k ls' _ H locs ⟨ws, _, hh, hl', ⟨⟨rfl, hV⟩, zrl_ok hL⟩, hF1, hP, hD, hS⟩)
  · cases hs
theorem zh_astore (hC : zCx p s m args meth c cc nL own D kk A g ini top) (hE : zEv g E) {n : Nat} (hn : n < nL) (hd : decode cc pc = .ok (.astore n, 2)) (hs : zs_astore n E top al st h = .inl (al', st', h')) (k : zWn p l e R s m args below meth c Q D kk A g ad0 nL n0 m0 (pc + 2) al' st' h') : zWn p l e R s m args below meth c Q D kk A g ad0 nL n0 m0 pc al st h := by
  unfold zs_astore at hs
  split at hs
  · rename_i i st0
    cases hs
    intro ls sv H locs ⟨ws, lv, hh, hl, hL, hF, hP, hD, hS⟩
    obtain ⟨v, vs, rfl, hV, hF1⟩ := zVs_cons hF
    obtain ⟨q, hq, rfl⟩ := id hV
    exact lv_astore hC.1 hC.2.1 hd hl hn rfl (fun ls' hl' => k ls' _ H locs ⟨ws, _, hh, hl', ⟨⟨rfl, hV⟩, zrl_ok hL⟩, hF1, hP, hD, hS⟩)
  · rename_i i st0
    cases hs
    intro ls sv H locs ⟨ws, lv, hh, hl, hL, hF, hP, hD, hS⟩
    obtain ⟨v, vs, rfl, hV, hF1⟩ := zVs_cons hF
    obtain ⟨q, rfl⟩ : ∃ q, v = .ref q := by
      cases i with
      | zero => exact ⟨_, hV⟩
      | succ i => exact ⟨_, hV⟩
    exact lv_astore hC.1 hC.2.1 hd hl hn rfl (fun ls' hl' => k ls' _ H locs ⟨ws, _, hh, hl', ⟨⟨rfl, hV⟩, zrl_ok hL⟩, hF1, hP, hD, hS⟩)
  · cases hs
theorem zh_lstore_n (hC : zCx p s m args meth c cc nL own D kk A g ini top) (hE : zEv g E) {n : Fin 4} (hn : (n : Nat) + 1 < nL) (hd : decode cc pc = .ok (.lstore_n n, 1)) (hs : zs_lstore n E top al st h = .inl (al', st', h')) (k : zWn p l e R s m args below meth c Q D kk A g ad0 nL n0 m0 (pc + 1) al' st' h') : zWn p l e R s m args below meth c Q D kk A g ad0 nL n0 m0 pc al st h := by
  unfold zs_lstore at hs
  split at hs
  · rename_i o st0
    cases hs
    intro ls sv H locs ⟨ws, lv, hh, hl, hL, hF, hP, hD, hS⟩
    obtain ⟨v, vs, rfl, hV, hF1⟩ := zVs_cons hF
    obtain ⟨x, rfl, hx⟩ := id hV
    exact lv_lstore_n hC.1 hC.2.1 hd rfl hl hn rfl (fun ls' hl' => k ls' _ H locs ⟨ws, _, hh, hl', ⟨⟨rfl, hV⟩, zrl2_ok hL⟩, hF1, hP, hD, hS⟩)
  · cases hs
theorem zh_iconst (hC : zCx p s m args meth c cc nL own D kk A g ini top) (hE : zEv g E) {n : Int} (hr : -2147483648 ≤ n ∧ n < 2147483648) (hd : decode cc pc = .ok (.iconst n, 1)) (hs : zs_push (zk n) E top al st h = .inl (al', st', h')) (k : zWn p l e R s m args below meth c Q D kk A g ad0 nL n0 m0 (pc + 1) al' st' h') : zWn p l e R s m args below meth c Q D kk A g ad0 nL n0 m0 pc al st h := by
  cases hs
  intro ls sv H locs ⟨ws, lv, hh, hl, hL, hF, hP, hD, hS⟩
  exact lv_iconst (v := Int32.ofInt n) hC.1 hC.2.1 hd rfl (k ls _ H locs ⟨ws, lv, hh, hl, hL, ⟨zV_k (fb_ofI hr.1 hr.2), hF⟩, hP, hD, hS⟩)
theorem zh_bipush (hC : zCx p s m args meth c cc nL own D kk A g ini top) (hE : zEv g E) {n : Int} (hr : -2147483648 ≤ n ∧ n < 2147483648) (hb : (Int8.ofInt n).toInt32 = Int32.ofInt n) (hd : decode cc pc = .ok (.bipush n, 2)) (hs : zs_push (zk n) E top al st h = .inl (al', st', h')) (k : zWn p l e R s m args below meth c Q D kk A g ad0 nL n0 m0 (pc + 2) al' st' h') : zWn p l e R s m args below meth c Q D kk A g ad0 nL n0 m0 pc al st h := by
  cases hs
  intro ls sv H locs ⟨ws, lv, hh, hl, hL, hF, hP, hD, hS⟩
  exact lv_bipush (v := Int32.ofInt n) hC.1 hC.2.1 hd hb (k ls _ H locs ⟨ws, lv, hh, hl, hL, ⟨zV_k (fb_ofI hr.1 hr.2), hF⟩, hP, hD, hS⟩)
theorem zh_sipush (hC : zCx p s m args meth c cc nL own D kk A g ini top) (hE : zEv g E) {n : Int} (hr : -2147483648 ≤ n ∧ n < 2147483648) (hb : (Int16.ofInt n).toInt32 = Int32.ofInt n) (hd : decode cc pc = .ok (.sipush n, 3)) (hs : zs_push (zk n) E top al st h = .inl (al', st', h')) (k : zWn p l e R s m args below meth c Q D kk A g ad0 nL n0 m0 (pc + 3) al' st' h') : zWn p l e R s m args below meth c Q D kk A g ad0 nL n0 m0 pc al st h := by
  cases hs
  intro ls sv H locs ⟨ws, lv, hh, hl, hL, hF, hP, hD, hS⟩
  exact lv_sipush (v := Int32.ofInt n) hC.1 hC.2.1 hd hb (k ls _ H locs ⟨ws, lv, hh, hl, hL, ⟨zV_k (fb_ofI hr.1 hr.2), hF⟩, hP, hD, hS⟩)
theorem zh_lconst (hC : zCx p s m args meth c cc nL own D kk A g ini top) (hE : zEv g E) {n : Fin 2} (hd : decode cc pc = .ok (.lconst n, 1)) (hs : zs_push (zlg (some (n : Nat))) E top al st h = .inl (al', st', h')) (k : zWn p l e R s m args below meth c Q D kk A g ad0 nL n0 m0 (pc + 1) al' st' h') : zWn p l e R s m args below meth c Q D kk A g ad0 nL n0 m0 pc al st h := by
  cases hs
  intro ls sv H locs ⟨ws, lv, hh, hl, hL, hF, hP, hD, hS⟩
  refine lv_lconst (v := Int64.ofNat (n : Nat)) hC.1 hC.2.1 hd rfl (k ls _ H locs ⟨ws, lv, hh, hl, hL, ⟨zV_lg (fun c hc => ?_), hF⟩, hP, hD, hS⟩)
  cases hc
  rcases n with ⟨n, hn⟩
  rcases (show n = 0 ∨ n = 1 by omega) with rfl | rfl <;> rfl
theorem zh_ldc_w (hC : zCx p s m args meth c cc nL own D kk A g ini top) (hE : zEv g E) {i : Nat} {v : Int32} (hw : Jvm.Cond.constant own i v ∈ zW) (hd : decode cc pc = .ok (.ldc_w i, 3)) (hs : zs_push (zk v.toInt) E top al st h = .inl (al', st', h')) (k : zWn p l e R s m args below meth c Q D kk A g ad0 nL n0 m0 (pc + 3) al' st' h') : zWn p l e R s m args below meth c Q D kk A g ad0 nL n0 m0 pc al st h := by
  cases hs
  intro ls sv H locs ⟨ws, lv, hh, hl, hL, hF, hP, hD, hS⟩
  exact lv_ldcw hC.1 hC.2.1 hC.2.2.2.1 (hC.2.2.2.2.1 _ hw) hd (k ls _ H locs ⟨ws, lv, hh, hl, hL, ⟨zV_k rfl, hF⟩, hP, hD, hS⟩)
theorem zh_ldc2_w (hC : zCx p s m args meth c cc nL own D kk A g ini top) (hE : zEv g E) {i : Nat} {v : Int64} (hw : Jvm.Cond.constantLong own i v ∈ zW) (hd : decode cc pc = .ok (.ldc2_w i, 3)) (hs : zs_push (zlg (some v.toInt)) E top al st h = .inl (al', st', h')) (k : zWn p l e R s m args below meth c Q D kk A g ad0 nL n0 m0 (pc + 3) al' st' h') : zWn p l e R s m args below meth c Q D kk A g ad0 nL n0 m0 pc al st h := by
  cases hs
  intro ls sv H locs ⟨ws, lv, hh, hl, hL, hF, hP, hD, hS⟩
  exact lv_ldc2 hC.1 hC.2.1 hC.2.2.2.1 (hC.2.2.2.2.1 _ hw) hd (k ls _ H locs ⟨ws, lv, hh, hl, hL, ⟨zV_lg (fun _ hc => by cases hc; rfl), hF⟩, hP, hD, hS⟩)
theorem zh_iadd (hC : zCx p s m args meth c cc nL own D kk A g ini top) (hE : zEv g E)  (hd : decode cc pc = .ok (.iadd, 1)) (hs : zs_bin (fun E a b => zad E a b false) E top al st h = .inl (al', st', h')) (k : zWn p l e R s m args below meth c Q D kk A g ad0 nL n0 m0 (pc + 1) al' st' h') : zWn p l e R s m args below meth c Q D kk A g ad0 nL n0 m0 pc al st h := by
  unfold zs_bin at hs
  split at hs
  · rename_i b a st0
    unfold zpu at hs
    split at hs
    · rename_i r hr
      cases hs
      intro ls sv H locs ⟨ws, lv, hh, hl, hL, hF, hP, hD, hS⟩
      obtain ⟨w, vs, rfl, hV2, hF1⟩ := zVs_cons hF
      obtain ⟨v, vs, rfl, hV, hF2⟩ := zVs_cons hF1
      obtain ⟨x, y, rfl, rfl, hR⟩ := zV_ad hE hr hV hV2
      exact lv_iadd hC.1 hC.2.1 hd (k ls _ H locs ⟨ws, lv, hh, hl, hL, ⟨hR, hF2⟩, hP, hD, hS⟩)
    · cases hs
  · cases hs
theorem zh_isub (hC : zCx p s m args meth c cc nL own D kk A g ini top) (hE : zEv g E)  (hd : decode cc pc = .ok (.isub, 1)) (hs : zs_bin (fun E a b => zad E a b true) E top al st h = .inl (al', st', h')) (k : zWn p l e R s m args below meth c Q D kk A g ad0 nL n0 m0 (pc + 1) al' st' h') : zWn p l e R s m args below meth c Q D kk A g ad0 nL n0 m0 pc al st h := by
  unfold zs_bin at hs
  split at hs
  · rename_i b a st0
    unfold zpu at hs
    split at hs
    · rename_i r hr
      cases hs
      intro ls sv H locs ⟨ws, lv, hh, hl, hL, hF, hP, hD, hS⟩
      obtain ⟨w, vs, rfl, hV2, hF1⟩ := zVs_cons hF
      obtain ⟨v, vs, rfl, hV, hF2⟩ := zVs_cons hF1
      obtain ⟨x, y, rfl, rfl, hR⟩ := zV_ad hE hr hV hV2
      exact lv_isub hC.1 hC.2.1 hd (k ls _ H locs ⟨ws, lv, hh, hl, hL, ⟨hR, hF2⟩, hP, hD, hS⟩)
    · cases hs
  · cases hs
theorem zh_imul (hC : zCx p s m args meth c cc nL own D kk A g ini top) (hE : zEv g E)  (hd : decode cc pc = .ok (.imul, 1)) (hs : zs_bin (fun E => zo2 E (· * ·)) E top al st h = .inl (al', st', h')) (k : zWn p l e R s m args below meth c Q D kk A g ad0 nL n0 m0 (pc + 1) al' st' h') : zWn p l e R s m args below meth c Q D kk A g ad0 nL n0 m0 pc al st h := by
  unfold zs_bin at hs
  split at hs
  · rename_i b a st0
    unfold zpu at hs
    split at hs
    · rename_i r hr
      cases hs
      intro ls sv H locs ⟨ws, lv, hh, hl, hL, hF, hP, hD, hS⟩
      obtain ⟨w, vs, rfl, hV2, hF1⟩ := zVs_cons hF
      obtain ⟨v, vs, rfl, hV, hF2⟩ := zVs_cons hF1
      obtain ⟨x, y, rfl, rfl, hR⟩ := zV_o2 hE hr hV hV2
      exact lv_imul hC.1 hC.2.1 hd (k ls _ H locs ⟨ws, lv, hh, hl, hL, ⟨hR, hF2⟩, hP, hD, hS⟩)
    · cases hs
  · cases hs
theorem zh_idiv (hC : zCx p s m args meth c cc nL own D kk A g ini top) (hE : zEv g E)  (hd : decode cc pc = .ok (.idiv, 1)) (hs : zs_bin (fun E => zdv E (· / ·)) E top al st h = .inl (al', st', h')) (k : zWn p l e R s m args below meth c Q D kk A g ad0 nL n0 m0 (pc + 1) al' st' h') : zWn p l e R s m args below meth c Q D kk A g ad0 nL n0 m0 pc al st h := by
  unfold zs_bin at hs
  split at hs
  · rename_i b a st0
    unfold zpu at hs
    split at hs
    · rename_i r hr
      cases hs
      intro ls sv H locs ⟨ws, lv, hh, hl, hL, hF, hP, hD, hS⟩
      obtain ⟨w, vs, rfl, hV2, hF1⟩ := zVs_cons hF
      obtain ⟨v, vs, rfl, hV, hF2⟩ := zVs_cons hF1
      obtain ⟨x, y, rfl, rfl, hne, hR⟩ := zV_dv hE hr hV hV2
      exact lv_idiv hC.1 hC.2.1 hd hne (k ls _ H locs ⟨ws, lv, hh, hl, hL, ⟨hR, hF2⟩, hP, hD, hS⟩)
    · cases hs
  · cases hs
theorem zh_irem (hC : zCx p s m args meth c cc nL own D kk A g ini top) (hE : zEv g E)  (hd : decode cc pc = .ok (.irem, 1)) (hs : zs_bin (fun E => zdv E (fun x y => x - x / y * y)) E top al st h = .inl (al', st', h')) (k : zWn p l e R s m args below meth c Q D kk A g ad0 nL n0 m0 (pc + 1) al' st' h') : zWn p l e R s m args below meth c Q D kk A g ad0 nL n0 m0 pc al st h := by
  unfold zs_bin at hs
  split at hs
  · rename_i b a st0
    unfold zpu at hs
    split at hs
    · rename_i r hr
      cases hs
      intro ls sv H locs ⟨ws, lv, hh, hl, hL, hF, hP, hD, hS⟩
      obtain ⟨w, vs, rfl, hV2, hF1⟩ := zVs_cons hF
      obtain ⟨v, vs, rfl, hV, hF2⟩ := zVs_cons hF1
      obtain ⟨x, y, rfl, rfl, hne, hR⟩ := zV_dv hE hr hV hV2
      exact lv_irem hC.1 hC.2.1 hd hne (k ls _ H locs ⟨ws, lv, hh, hl, hL, ⟨hR, hF2⟩, hP, hD, hS⟩)
    · cases hs
  · cases hs
theorem zh_iand (hC : zCx p s m args meth c cc nL own D kk A g ini top) (hE : zEv g E)  (hd : decode cc pc = .ok (.iand, 1)) (hs : zs_bin (zan) E top al st h = .inl (al', st', h')) (k : zWn p l e R s m args below meth c Q D kk A g ad0 nL n0 m0 (pc + 1) al' st' h') : zWn p l e R s m args below meth c Q D kk A g ad0 nL n0 m0 pc al st h := by
  unfold zs_bin at hs
  split at hs
  · rename_i b a st0
    unfold zpu at hs
    split at hs
    · rename_i r hr
      cases hs
      intro ls sv H locs ⟨ws, lv, hh, hl, hL, hF, hP, hD, hS⟩
      obtain ⟨w, vs, rfl, hV2, hF1⟩ := zVs_cons hF
      obtain ⟨v, vs, rfl, hV, hF2⟩ := zVs_cons hF1
      obtain ⟨x, y, rfl, rfl, hR⟩ := zV_an hE hr hV hV2
      exact lv_iand hC.1 hC.2.1 hd (k ls _ H locs ⟨ws, lv, hh, hl, hL, ⟨hR, hF2⟩, hP, hD, hS⟩)
    · cases hs
  · cases hs
theorem zh_ior (hC : zCx p s m args meth c cc nL own D kk A g ini top) (hE : zEv g E)  (hd : decode cc pc = .ok (.ior, 1)) (hs : zs_bin (fun E => zo2 E (· ||| ·)) E top al st h = .inl (al', st', h')) (k : zWn p l e R s m args below meth c Q D kk A g ad0 nL n0 m0 (pc + 1) al' st' h') : zWn p l e R s m args below meth c Q D kk A g ad0 nL n0 m0 pc al st h := by
  unfold zs_bin at hs
  split at hs
  · rename_i b a st0
    unfold zpu at hs
    split at hs
    · rename_i r hr
      cases hs
      intro ls sv H locs ⟨ws, lv, hh, hl, hL, hF, hP, hD, hS⟩
      obtain ⟨w, vs, rfl, hV2, hF1⟩ := zVs_cons hF
      obtain ⟨v, vs, rfl, hV, hF2⟩ := zVs_cons hF1
      obtain ⟨x, y, rfl, rfl, hR⟩ := zV_o2 hE hr hV hV2
      exact lv_ior hC.1 hC.2.1 hd (k ls _ H locs ⟨ws, lv, hh, hl, hL, ⟨hR, hF2⟩, hP, hD, hS⟩)
    · cases hs
  · cases hs
theorem zh_ixor (hC : zCx p s m args meth c cc nL own D kk A g ini top) (hE : zEv g E)  (hd : decode cc pc = .ok (.ixor, 1)) (hs : zs_bin (fun E => zo2 E (· ^^^ ·)) E top al st h = .inl (al', st', h')) (k : zWn p l e R s m args below meth c Q D kk A g ad0 nL n0 m0 (pc + 1) al' st' h') : zWn p l e R s m args below meth c Q D kk A g ad0 nL n0 m0 pc al st h := by
  unfold zs_bin at hs
  split at hs
  · rename_i b a st0
    unfold zpu at hs
    split at hs
    · rename_i r hr
      cases hs
      intro ls sv H locs ⟨ws, lv, hh, hl, hL, hF, hP, hD, hS⟩
      obtain ⟨w, vs, rfl, hV2, hF1⟩ := zVs_cons hF
      obtain ⟨v, vs, rfl, hV, hF2⟩ := zVs_cons hF1
      obtain ⟨x, y, rfl, rfl, hR⟩ := zV_o2 hE hr hV hV2
      exact lv_ixor hC.1 hC.2.1 hd (k ls _ H locs ⟨ws, lv, hh, hl, hL, ⟨hR, hF2⟩, hP, hD, hS⟩)
    · cases hs
  · cases hs
theorem zh_ishl (hC : zCx p s m args meth c cc nL own D kk A g ini top) (hE : zEv g E)  (hd : decode cc pc = .ok (.ishl, 1)) (hs : zs_bin (fun E => zo2 E (fun x y => x <<< (y &&& 31))) E top al st h = .inl (al', st', h')) (k : zWn p l e R s m args below meth c Q D kk A g ad0 nL n0 m0 (pc + 1) al' st' h') : zWn p l e R s m args below meth c Q D kk A g ad0 nL n0 m0 pc al st h := by
  unfold zs_bin at hs
  split at hs
  · rename_i b a st0
    unfold zpu at hs
    split at hs
    · rename_i r hr
      cases hs
      intro ls sv H locs ⟨ws, lv, hh, hl, hL, hF, hP, hD, hS⟩
      obtain ⟨w, vs, rfl, hV2, hF1⟩ := zVs_cons hF
      obtain ⟨v, vs, rfl, hV, hF2⟩ := zVs_cons hF1
      obtain ⟨x, y, rfl, rfl, hR⟩ := zV_o2 hE hr hV hV2
      exact lv_ishl hC.1 hC.2.1 hd (k ls _ H locs ⟨ws, lv, hh, hl, hL, ⟨hR, hF2⟩, hP, hD, hS⟩)
    · cases hs
  · cases hs
theorem zh_ishr (hC : zCx p s m args meth c cc nL own D kk A g ini top) (hE : zEv g E)  (hd : decode cc pc = .ok (.ishr, 1)) (hs : zs_bin (zsr) E top al st h = .inl (al', st', h')) (k : zWn p l e R s m args below meth c Q D kk A g ad0 nL n0 m0 (pc + 1) al' st' h') : zWn p l e R s m args below meth c Q D kk A g ad0 nL n0 m0 pc al st h := by
  unfold zs_bin at hs
  split at hs
  · rename_i b a st0
    unfold zpu at hs
    split at hs
    · rename_i r hr
      cases hs
      intro ls sv H locs ⟨ws, lv, hh, hl, hL, hF, hP, hD, hS⟩
      obtain ⟨w, vs, rfl, hV2, hF1⟩ := zVs_cons hF
      obtain ⟨v, vs, rfl, hV, hF2⟩ := zVs_cons hF1
      obtain ⟨x, y, rfl, rfl, hR⟩ := zV_sr hE hr hV hV2
      exact lv_ishr hC.1 hC.2.1 hd (k ls _ H locs ⟨ws, lv, hh, hl, hL, ⟨hR, hF2⟩, hP, hD, hS⟩)
    · cases hs
  · cases hs
theorem zh_iushr (hC : zCx p s m args meth c cc nL own D kk A g ini top) (hE : zEv g E)  (hd : decode cc pc = .ok (.iushr, 1)) (hs : zs_bin (fun E => zo2 E (fun x y => (x.toUInt32 >>> (y.toUInt32 &&& Int32.toUInt32 31)).toInt32)) E top al st h = .inl (al', st', h')) (k : zWn p l e R s m args below meth c Q D kk A g ad0 nL n0 m0 (pc + 1) al' st' h') : zWn p l e R s m args below meth c Q D kk A g ad0 nL n0 m0 pc al st h := by
  unfold zs_bin at hs
  split at hs
  · rename_i b a st0
    unfold zpu at hs
    split at hs
    · rename_i r hr
      cases hs
      intro ls sv H locs ⟨ws, lv, hh, hl, hL, hF, hP, hD, hS⟩
      obtain ⟨w, vs, rfl, hV2, hF1⟩ := zVs_cons hF
      obtain ⟨v, vs, rfl, hV, hF2⟩ := zVs_cons hF1
      obtain ⟨x, y, rfl, rfl, hR⟩ := zV_o2 hE hr hV hV2
      exact lv_iushr hC.1 hC.2.1 hd rfl (k ls _ H locs ⟨ws, lv, hh, hl, hL, ⟨hR, hF2⟩, hP, hD, hS⟩)
    · cases hs
  · cases hs
theorem zh_iinc (hC : zCx p s m args meth c cc nL own D kk A g ini top) (hE : zEv g E) {i : Nat} {n : Int} (hr : -2147483648 ≤ n ∧ n < 2147483648) (hn : i < nL) (hd : decode cc pc = .ok (.iinc i n, 3)) (hs : zs_iinc i n E top al st h = .inl (al', st', h')) (k : zWn p l e R s m args below meth c Q D kk A g ad0 nL n0 m0 (pc + 3) al' st' h') : zWn p l e R s m args below meth c Q D kk A g ad0 nL n0 m0 pc al st h := by
  unfold zs_iinc at hs
  split at hs
  · rename_i a ha
    cases hz : zint a with
    | false => rw [hz] at hs; cases hs
    | true =>
      rw [hz] at hs
      have hs : (match zad E a (zk n) false with | .inl v => zgo (zst al i v) st h | .inr q => zno q) = .inl (al', st', h') := hs
      split at hs
      · rename_i r hr2
        cases hs
        intro ls sv H locs ⟨ws, lv, hh, hl, hL, hF, hP, hD, hS⟩
        obtain ⟨v, hv, hV⟩ := zlk_ok hL ha
        obtain ⟨x, y, rfl, e2, hR⟩ := zV_ad hE hr2 hV (zV_k (fb_ofI hr.1 hr.2))
        cases e2
        obtain ⟨k0, hk0⟩ := List.getElem?_of_mem hv
        exact lv_iinc hC.1 hC.2.1 hd hl hk0 rfl hn rfl (fun ls' hl' => k ls' _ H locs ⟨ws, _, hh, hl', ⟨⟨rfl, hR⟩, zrl_ok hL⟩, hF, hP, hD, hS⟩)
      · cases hs
  · cases hs
theorem zV_l2 {ad : List Nat} {f : Int64 → Int64 → Int64} {a b : Option Int} {x y : Int64} (hx : ∀ c, a = some c → x.toInt = c) (hy : ∀ c, b = some c → y.toInt = c) : zV g ad (zlg (zl2 f a b)) (.long (f x y)) := by
  refine zV_lg (fun c hc => ?_)
  unfold zl2 at hc
  split at hc
  · rename_i a0 b0
    cases hc
    have e1 := hx _ rfl
    have e2 := hy _ rfl
    rw [← e1, ← e2, fb_asL, fb_asL]
  · cases hc
theorem zh_ladd (hC : zCx p s m args meth c cc nL own D kk A g ini top) (hE : zEv g E)  (hd : decode cc pc = .ok (.ladd, 1)) (hs : zs_l2 (· + ·) E top al st h = .inl (al', st', h')) (k : zWn p l e R s m args below meth c Q D kk A g ad0 nL n0 m0 (pc + 1) al' st' h') : zWn p l e R s m args below meth c Q D kk A g ad0 nL n0 m0 pc al st h := by
  unfold zs_l2 at hs
  split at hs
  · rename_i b a st0
    cases hs
    intro ls sv H locs ⟨ws, lv, hh, hl, hL, hF, hP, hD, hS⟩
    obtain ⟨w, vs, rfl, hV2, hF1⟩ := zVs_cons hF
    obtain ⟨v, vs, rfl, hV, hF2⟩ := zVs_cons hF1
    obtain ⟨y, rfl, hy⟩ := hV2
    obtain ⟨x, rfl, hx⟩ := hV
    exact lv_ladd hC.1 hC.2.1 hd (k ls _ H locs ⟨ws, lv, hh, hl, hL, ⟨zV_l2 hx hy, hF2⟩, hP, hD, hS⟩)
  · cases hs
theorem zh_lmul (hC : zCx p s m args meth c cc nL own D kk A g ini top) (hE : zEv g E)  (hd : decode cc pc = .ok (.lmul, 1)) (hs : zs_l2 (· * ·) E top al st h = .inl (al', st', h')) (k : zWn p l e R s m args below meth c Q D kk A g ad0 nL n0 m0 (pc + 1) al' st' h') : zWn p l e R s m args below meth c Q D kk A g ad0 nL n0 m0 pc al st h := by
  unfold zs_l2 at hs
  split at hs
  · rename_i b a st0
    cases hs
    intro ls sv H locs ⟨ws, lv, hh, hl, hL, hF, hP, hD, hS⟩
    obtain ⟨w, vs, rfl, hV2, hF1⟩ := zVs_cons hF
    obtain ⟨v, vs, rfl, hV, hF2⟩ := zVs_cons hF1
    obtain ⟨y, rfl, hy⟩ := hV2
    obtain ⟨x, rfl, hx⟩ := hV
    exact lv_lmul hC.1 hC.2.1 hd (k ls _ H locs ⟨ws, lv, hh, hl, hL, ⟨zV_l2 hx hy, hF2⟩, hP, hD, hS⟩)
  · cases hs
theorem zh_land (hC : zCx p s m args meth c cc nL own D kk A g ini top) (hE : zEv g E)  (hd : decode cc pc = .ok (.land, 1)) (hs : zs_l2 (· &&& ·) E top al st h = .inl (al', st', h')) (k : zWn p l e R s m args below meth c Q D kk A g ad0 nL n0 m0 (pc + 1) al' st' h') : zWn p l e R s m args below meth c Q D kk A g ad0 nL n0 m0 pc al st h := by
  unfold zs_l2 at hs
  split at hs
  · rename_i b a st0
    cases hs
    intro ls sv H locs ⟨ws, lv, hh, hl, hL, hF, hP, hD, hS⟩
    obtain ⟨w, vs, rfl, hV2, hF1⟩ := zVs_cons hF
    obtain ⟨v, vs, rfl, hV, hF2⟩ := zVs_cons hF1
    obtain ⟨y, rfl, hy⟩ := hV2
    obtain ⟨x, rfl, hx⟩ := hV
    exact lv_land hC.1 hC.2.1 hd (k ls _ H locs ⟨ws, lv, hh, hl, hL, ⟨zV_l2 hx hy, hF2⟩, hP, hD, hS⟩)
  · cases hs
theorem zh_lor (hC : zCx p s m args meth c cc nL own D kk A g ini top) (hE : zEv g E)  (hd : decode cc pc = .ok (.lor, 1)) (hs : zs_l2 (· ||| ·) E top al st h = .inl (al', st', h')) (k : zWn p l e R s m args below meth c Q D kk A g ad0 nL n0 m0 (pc + 1) al' st' h') : zWn p l e R s m args below meth c Q D kk A g ad0 nL n0 m0 pc al st h := by
  unfold zs_l2 at hs
  split at hs
  · rename_i b a st0
    cases hs
    intro ls sv H locs ⟨ws, lv, hh, hl, hL, hF, hP, hD, hS⟩
    obtain ⟨w, vs, rfl, hV2, hF1⟩ := zVs_cons hF
    obtain ⟨v, vs, rfl, hV, hF2⟩ := zVs_cons hF1
    obtain ⟨y, rfl, hy⟩ := hV2
    obtain ⟨x, rfl, hx⟩ := hV
    exact lv_lor hC.1 hC.2.1 hd (k ls _ H locs ⟨ws, lv, hh, hl, hL, ⟨zV_l2 hx hy, hF2⟩, hP, hD, hS⟩)
  · cases hs
theorem zh_lrem (hC : zCx p s m args meth c cc nL own D kk A g ini top) (hE : zEv g E)  (hd : decode cc pc = .ok (.lrem, 1)) (hs : zs_lrem E top al st h = .inl (al', st', h')) (k : zWn p l e R s m args below meth c Q D kk A g ad0 nL n0 m0 (pc + 1) al' st' h') : zWn p l e R s m args below meth c Q D kk A g ad0 nL n0 m0 pc al st h := by
  unfold zs_lrem at hs
  split at hs
  · rename_i b a st0
    cases hz : zeq (Int64.ofInt b).toInt 0 with
    | true => rw [hz] at hs; cases hs
    | false =>
      rw [hz] at hs
      cases hs
      intro ls sv H locs ⟨ws, lv, hh, hl, hL, hF, hP, hD, hS⟩
      obtain ⟨w, vs, rfl, hV2, hF1⟩ := zVs_cons hF
      obtain ⟨v, vs, rfl, hV, hF2⟩ := zVs_cons hF1
      obtain ⟨y, rfl, hy⟩ := hV2
      obtain ⟨x, rfl, hx⟩ := hV
      have hne : ¬ y = 0 := fun h0 => by
        have e1 := hy _ rfl
        rw [← e1, fb_asL, h0] at hz
        exact absurd hz (by decide)
      exact lv_lrem hC.1 hC.2.1 hd hne (k ls _ H locs ⟨ws, lv, hh, hl, hL, ⟨zV_l2 (f := fun x y => x - x / y * y) hx hy, hF2⟩, hP, hD, hS⟩)
  · cases hs
theorem zh_lshl (hC : zCx p s m args meth c cc nL own D kk A g ini top) (hE : zEv g E)  (hd : decode cc pc = .ok (.lshl, 1)) (hs : zs_lsh E top al st h = .inl (al', st', h')) (k : zWn p l e R s m args below meth c Q D kk A g ad0 nL n0 m0 (pc + 1) al' st' h') : zWn p l e R s m args below meth c Q D kk A g ad0 nL n0 m0 pc al st h := by
  unfold zs_lsh at hs
  split at hs
  · rename_i b a st0
    cases hz : zint b with
    | false => rw [hz] at hs; cases hs
    | true =>
      rw [hz] at hs
      cases hs
      intro ls sv H locs ⟨ws, lv, hh, hl, hL, hF, hP, hD, hS⟩
      obtain ⟨w, vs, rfl, hV2, hF1⟩ := zVs_cons hF
      obtain ⟨v, vs, rfl, hV, hF2⟩ := zVs_cons hF1
      obtain ⟨y, rfl⟩ := zV_int hz hV2
      obtain ⟨x, rfl, hx⟩ := hV
      exact lv_lshl hC.1 hC.2.1 hd rfl (k ls _ H locs ⟨ws, lv, hh, hl, hL, ⟨zV_lg (fun _ hc => by cases hc), hF2⟩, hP, hD, hS⟩)
  · cases hs
theorem zh_lshr (hC : zCx p s m args meth c cc nL own D kk A g ini top) (hE : zEv g E)  (hd : decode cc pc = .ok (.lshr, 1)) (hs : zs_lsh E top al st h = .inl (al', st', h')) (k : zWn p l e R s m args below meth c Q D kk A g ad0 nL n0 m0 (pc + 1) al' st' h') : zWn p l e R s m args below meth c Q D kk A g ad0 nL n0 m0 pc al st h := by
  unfold zs_lsh at hs
  split at hs
  · rename_i b a st0
    cases hz : zint b with
    | false => rw [hz] at hs; cases hs
    | true =>
      rw [hz] at hs
      cases hs
      intro ls sv H locs ⟨ws, lv, hh, hl, hL, hF, hP, hD, hS⟩
      obtain ⟨w, vs, rfl, hV2, hF1⟩ := zVs_cons hF
      obtain ⟨v, vs, rfl, hV, hF2⟩ := zVs_cons hF1
      obtain ⟨y, rfl⟩ := zV_int hz hV2
      obtain ⟨x, rfl, hx⟩ := hV
      exact lv_lshr hC.1 hC.2.1 hd rfl (k ls _ H locs ⟨ws, lv, hh, hl, hL, ⟨zV_lg (fun _ hc => by cases hc), hF2⟩, hP, hD, hS⟩)
  · cases hs
theorem zh_lushr (hC : zCx p s m args meth c cc nL own D kk A g ini top) (hE : zEv g E)  (hd : decode cc pc = .ok (.lushr, 1)) (hs : zs_lsh E top al st h = .inl (al', st', h')) (k : zWn p l e R s m args below meth c Q D kk A g ad0 nL n0 m0 (pc + 1) al' st' h') : zWn p l e R s m args below meth c Q D kk A g ad0 nL n0 m0 pc al st h := by
  unfold zs_lsh at hs
  split at hs
  · rename_i b a st0
    cases hz : zint b with
    | false => rw [hz] at hs; cases hs
    | true =>
      rw [hz] at hs
      cases hs
      intro ls sv H locs ⟨ws, lv, hh, hl, hL, hF, hP, hD, hS⟩
      obtain ⟨w, vs, rfl, hV2, hF1⟩ := zVs_cons hF
      obtain ⟨v, vs, rfl, hV, hF2⟩ := zVs_cons hF1
      obtain ⟨y, rfl⟩ := zV_int hz hV2
      obtain ⟨x, rfl, hx⟩ := hV
      exact lv_lushr hC.1 hC.2.1 hd rfl (k ls _ H locs ⟨ws, lv, hh, hl, hL, ⟨zV_lg (fun _ hc => by cases hc), hF2⟩, hP, hD, hS⟩)
  · cases hs
theorem zh_i2l (hC : zCx p s m args meth c cc nL own D kk A g ini top) (hE : zEv g E)  (hd : decode cc pc = .ok (.i2l, 1)) (hs : zs_i2l E top al st h = .inl (al', st', h')) (k : zWn p l e R s m args below meth c Q D kk A g ad0 nL n0 m0 (pc + 1) al' st' h') : zWn p l e R s m args below meth c Q D kk A g ad0 nL n0 m0 pc al st h := by
  unfold zs_i2l at hs
  split at hs
  · rename_i a st0
    cases hz : zint a with
    | false => rw [hz] at hs; cases hs
    | true =>
      rw [hz] at hs
      cases hs
      intro ls sv H locs ⟨ws, lv, hh, hl, hL, hF, hP, hD, hS⟩
      obtain ⟨v, vs, rfl, hV, hF1⟩ := zVs_cons hF
      obtain ⟨x, rfl⟩ := zV_int hz hV
      refine lv_i2l hC.1 hC.2.1 hd rfl (k ls _ H locs ⟨ws, lv, hh, hl, hL, ⟨zV_lg (fun c hc => ?_), hF1⟩, hP, hD, hS⟩)
      obtain ⟨y, e1, e2⟩ := zV_cn hE hc hV
      cases e1
      rw [← e2]
      exact Int32.toInt_toInt64 x
  · cases hs
theorem zh_l2i (hC : zCx p s m args meth c cc nL own D kk A g ini top) (hE : zEv g E)  (hd : decode cc pc = .ok (.l2i, 1)) (hs : zs_l2i E top al st h = .inl (al', st', h')) (k : zWn p l e R s m args below meth c Q D kk A g ad0 nL n0 m0 (pc + 1) al' st' h') : zWn p l e R s m args below meth c Q D kk A g ad0 nL n0 m0 pc al st h := by
  unfold zs_l2i at hs
  split at hs
  · rename_i c0 st0
    cases hs
    intro ls sv H locs ⟨ws, lv, hh, hl, hL, hF, hP, hD, hS⟩
    obtain ⟨v, vs, rfl, hV, hF1⟩ := zVs_cons hF
    obtain ⟨x, rfl, hx⟩ := hV
    refine lv_l2i hC.1 hC.2.1 hd rfl (k ls _ H locs ⟨ws, lv, hh, hl, hL, ⟨zV_k ?_, hF1⟩, hP, hD, hS⟩)
    rw [← hx _ rfl, fb_asL]
  · rename_i st0
    cases hs
    intro ls sv H locs ⟨ws, lv, hh, hl, hL, hF, hP, hD, hS⟩
    obtain ⟨v, vs, rfl, hV, hF1⟩ := zVs_cons hF
    obtain ⟨x, rfl, hx⟩ := hV
    exact lv_l2i hC.1 hC.2.1 hd rfl (k ls _ H locs ⟨ws, lv, hh, hl, hL, ⟨zV_z _, hF1⟩, hP, hD, hS⟩)
  · cases hs
theorem zh_i2b (hC : zCx p s m args meth c cc nL own D kk A g ini top) (hE : zEv g E)  (hd : decode cc pc = .ok (.i2b, 1)) (hs : zs_i2x E top al st h = .inl (al', st', h')) (k : zWn p l e R s m args below meth c Q D kk A g ad0 nL n0 m0 (pc + 1) al' st' h') : zWn p l e R s m args below meth c Q D kk A g ad0 nL n0 m0 pc al st h := by
  unfold zs_i2x at hs
  split at hs
  · rename_i a st0
    cases hz : zint a with
    | false => rw [hz] at hs; cases hs
    | true =>
      rw [hz] at hs
      cases hs
      intro ls sv H locs ⟨ws, lv, hh, hl, hL, hF, hP, hD, hS⟩
      obtain ⟨v, vs, rfl, hV, hF1⟩ := zVs_cons hF
      obtain ⟨x, rfl⟩ := zV_int hz hV
      exact lv_i2b hC.1 hC.2.1 hd rfl (k ls _ H locs ⟨ws, lv, hh, hl, hL, ⟨zV_z _, hF1⟩, hP, hD, hS⟩)
  · cases hs
theorem zh_i2c (hC : zCx p s m args meth c cc nL own D kk A g ini top) (hE : zEv g E)  (hd : decode cc pc = .ok (.i2c, 1)) (hs : zs_i2x E top al st h = .inl (al', st', h')) (k : zWn p l e R s m args below meth c Q D kk A g ad0 nL n0 m0 (pc + 1) al' st' h') : zWn p l e R s m args below meth c Q D kk A g ad0 nL n0 m0 pc al st h := by
  unfold zs_i2x at hs
  split at hs
  · rename_i a st0
    cases hz : zint a with
    | false => rw [hz] at hs; cases hs
    | true =>
      rw [hz] at hs
      cases hs
      intro ls sv H locs ⟨ws, lv, hh, hl, hL, hF, hP, hD, hS⟩
      obtain ⟨v, vs, rfl, hV, hF1⟩ := zVs_cons hF
      obtain ⟨x, rfl⟩ := zV_int hz hV
      exact lv_i2c hC.1 hC.2.1 hd rfl (k ls _ H locs ⟨ws, lv, hh, hl, hL, ⟨zV_z _, hF1⟩, hP, hD, hS⟩)
  · cases hs
theorem zh_lcmp (hC : zCx p s m args meth c cc nL own D kk A g ini top) (hE : zEv g E)  (hd : decode cc pc = .ok (.lcmp, 1)) (hs : zs_lcmp E top al st h = .inl (al', st', h')) (k : zWn p l e R s m args below meth c Q D kk A g ad0 nL n0 m0 (pc + 1) al' st' h') : zWn p l e R s m args below meth c Q D kk A g ad0 nL n0 m0 pc al st h := by
  unfold zs_lcmp at hs
  split at hs
  · rename_i b0 a0 st0
    cases hs
    intro ls sv H locs ⟨ws, lv, hh, hl, hL, hF, hP, hD, hS⟩
    obtain ⟨w, vs, rfl, hV2, hF1⟩ := zVs_cons hF
    obtain ⟨v, vs, rfl, hV, hF2⟩ := zVs_cons hF1
    obtain ⟨y, rfl, hy⟩ := hV2
    obtain ⟨x, rfl, hx⟩ := hV
    refine W.lcmp hC.1 hC.2.1 hd (k ls _ H locs ⟨ws, lv, hh, hl, hL, ⟨zV_k ?_, hF2⟩, hP, hD, hS⟩)
    have e1 := hx _ rfl
    have e2 := hy _ rfl
    unfold lg_cmp
    cases h1 : zlt b0 a0 with
    | true =>
      have := zlt_iff.mp h1
      have h3 : y < x := (fa_lt64 _ _).mpr (by omega)
      simp only [h3, if_true]
      rfl
    | false =>
      have hn : ¬ b0 < a0 := fun q => by rw [zlt_iff.mpr q] at h1; cases h1
      have h3 : ¬ y < x := fun q => hn (by have := (fa_lt64 _ _).mp q; omega)
      cases h2 : zeq a0 b0 with
      | true =>
        have := zeq_iff.mp h2
        have h4 : x = y := (fa_eq64 _ _).mpr (by omega)
        simp only [h3, h4, if_true, if_false]
        first | rfl | (simp; done)
      | false =>
        have hn2 : ¬ a0 = b0 := fun q => by rw [zeq_iff.mpr q] at h2; cases h2
        have h4 : ¬ x = y := fun q => hn2 (by have := (fa_eq64 _ _).mp q; omega)
        simp only [h3, h4, if_false]
        first | rfl | (simp; done)
  · cases hs
theorem zh_dup (hC : zCx p s m args meth c cc nL own D kk A g ini top) (hE : zEv g E)  (hd : decode cc pc = .ok (.dup, 1)) (hs : zs_dup E top al st h = .inl (al', st', h')) (k : zWn p l e R s m args below meth c Q D kk A g ad0 nL n0 m0 (pc + 1) al' st' h') : zWn p l e R s m args below meth c Q D kk A g ad0 nL n0 m0 pc al st h := by
  unfold zs_dup at hs
  split at hs
  · rename_i a st0
    cases hz : Nat.beq (zca a) 1 with
    | false => rw [hz] at hs; cases hs
    | true =>
      rw [hz] at hs
      cases hs
      intro ls sv H locs ⟨ws, lv, hh, hl, hL, hF, hP, hD, hS⟩
      obtain ⟨v, vs, rfl, hV, hF1⟩ := zVs_cons hF
      exact lv_dup hC.1 hC.2.1 hd ((zV_cat hV).trans (Nat.eq_of_beq_eq_true hz)) (k ls _ H locs ⟨ws, lv, hh, hl, hL, ⟨hV, hV, hF1⟩, hP, hD, hS⟩)
  · cases hs
theorem zh_pop (hC : zCx p s m args meth c cc nL own D kk A g ini top) (hE : zEv g E)  (hd : decode cc pc = .ok (.pop, 1)) (hs : zs_pop E top al st h = .inl (al', st', h')) (k : zWn p l e R s m args below meth c Q D kk A g ad0 nL n0 m0 (pc + 1) al' st' h') : zWn p l e R s m args below meth c Q D kk A g ad0 nL n0 m0 pc al st h := by
  unfold zs_pop at hs
  split at hs
  · rename_i a st0
    cases hz : Nat.beq (zca a) 1 with
    | false => rw [hz] at hs; cases hs
    | true =>
      rw [hz] at hs
      cases hs
      intro ls sv H locs ⟨ws, lv, hh, hl, hL, hF, hP, hD, hS⟩
      obtain ⟨v, vs, rfl, hV, hF1⟩ := zVs_cons hF
      exact lv_pop hC.1 hC.2.1 hd ((zV_cat hV).trans (Nat.eq_of_beq_eq_true hz)) (k ls _ H locs ⟨ws, lv, hh, hl, hL, hF1, hP, hD, hS⟩)
  · cases hs
theorem zh_dup2 (hC : zCx p s m args meth c cc nL own D kk A g ini top) (hE : zEv g E)  (hd : decode cc pc = .ok (.dup2, 1)) (hs : zs_dup2 E top al st h = .inl (al', st', h')) (k : zWn p l e R s m args below meth c Q D kk A g ad0 nL n0 m0 (pc + 1) al' st' h') : zWn p l e R s m args below meth c Q D kk A g ad0 nL n0 m0 pc al st h := by
  unfold zs_dup2 at hs
  split at hs
  · rename_i a b st0
    cases hz : (Nat.beq (zca a) 1 && Nat.beq (zca b) 1) with
    | false => rw [hz] at hs; cases hs
    | true =>
      rw [hz] at hs
      cases hs
      rw [Bool.and_eq_true] at hz
      intro ls sv H locs ⟨ws, lv, hh, hl, hL, hF, hP, hD, hS⟩
      obtain ⟨v, vs, rfl, hV, hF1⟩ := zVs_cons hF
      obtain ⟨w, vs, rfl, hV2, hF2⟩ := zVs_cons hF1
      exact lv_dup2_11 hC.1 hC.2.1 hd ((zV_cat hV).trans (Nat.eq_of_beq_eq_true hz.1)) ((zV_cat hV2).trans (Nat.eq_of_beq_eq_true hz.2)) (k ls _ H locs ⟨ws, lv, hh, hl, hL, ⟨hV, hV2, hV, hV2, hF2⟩, hP, hD, hS⟩)
  · cases hs
end ZH
end
section
section ZJ
variable {p : Program} {l : Launch} {e : Env} {R : Room} {s : State} {m : MethodId} {args : Array Value} {below : List Frame} {meth : Method} {c : Code} {Q : State → Prop} {D : va_G} {kk : Nat → ClassId} {A : Nat → Prop} {g : zG} {ad0 : List Nat} {nL n0 m0 : Nat} {cc : ByteArray} {own : String} {ini top : Bool} {E : zE} {pc : Nat} {al al' : zL} {st st' : List zA} {h h' : zH}
theorem zgj_ok {off : Int} {r1 : Nat} {r2 : Int} {t j : Nat} {b : Bool} {st0 : List zA} (e1 : zgj pc off r1 r2 st0 = .inr (.inl (t, b, j, st'))) : (pc : Int) + off = (t : Int) ∧ st' = st0 := by
  unfold zgj at e1
  split at e1
  · rename_i t0 ht
    cases e1
    exact ⟨ht, rfl⟩
  · cases e1
theorem zgj_no {off : Int} {r1 : Nat} {r2 : Int} {st0 : List zA} (e1 : zgj pc off r1 r2 st0 = .inl (al', st', h')) : False := by
  unfold zgj at e1
  split at e1 <;> cases e1
theorem zbr_t {off : Int} {r1 : Nat} {r2 : Int} {t j : Nat} {b : Bool} {st0 : List zA} {r : Bool ⊕ (Nat × Int)} (e1 : zbr pc off r1 r2 al st0 h r = .inr (.inl (t, b, j, st'))) : r = .inl true ∧ (pc : Int) + off = (t : Int) ∧ st' = st0 := by
  unfold zbr at e1
  split at e1
  · exact ⟨rfl, zgj_ok e1⟩
  · cases e1
  · cases e1
theorem zbr_f {off : Int} {r1 : Nat} {r2 : Int} {st0 : List zA} {r : Bool ⊕ (Nat × Int)} (e1 : zbr pc off r1 r2 al st0 h r = .inl (al', st', h')) : r = .inl false ∧ al' = al ∧ st' = st0 ∧ h' = h := by
  unfold zbr at e1
  split at e1
  · exact (zgj_no e1).elim
  · cases e1
    exact ⟨rfl, rfl, rfl, rfl⟩
  · cases e1
theorem zi_icmp {H : Heap} {locs : List Loc} {cells slots : Nat} {ls : Array Slot} {rest : List Value} (hx : p.tables.exec = Jvm.exec) (hb : c.code = cc) {k : Jvm.ClassFile.Cond} {x y : Int32} {off : Int} {t : Nat} (hd : decode cc pc = .ok (.if_icmp k off, 3)) (ht : (pc : Int) + off = (t : Int)) (kt : zrel k x y → W p l e R s m args below meth c H locs cells slots Q (F0 m t ls rest)) (kf : ¬ zrel k x y → W p l e R s m args below meth c H locs cells slots Q (F0 m (pc + 3) ls rest)) : W p l e R s m args below meth c H locs cells slots Q (F0 m pc ls (.int y :: .int x :: rest)) := by
  cases k with
  | eq => exact lv_icmp_eq hx hb hd ht kt kf
  | ne => exact lv_icmp_ne hx hb hd ht kt (fun q => kf (fun w => w q))
  | lt => exact lv_icmp_lt hx hb hd ht kt kf
  | ge => exact lv_icmp_ge hx hb hd ht kt kf
  | gt => exact lv_icmp_gt hx hb hd ht kt kf
  | le => exact lv_icmp_le hx hb hd ht kt kf
theorem zi_if {H : Heap} {locs : List Loc} {cells slots : Nat} {ls : Array Slot} {rest : List Value} (hx : p.tables.exec = Jvm.exec) (hb : c.code = cc) {k : Jvm.ClassFile.Cond} {x : Int32} {off : Int} {t : Nat} (hd : decode cc pc = .ok (.ifCond k off, 3)) (ht : (pc : Int) + off = (t : Int)) (kt : zrel k x 0 → W p l e R s m args below meth c H locs cells slots Q (F0 m t ls rest)) (kf : ¬ zrel k x 0 → W p l e R s m args below meth c H locs cells slots Q (F0 m (pc + 3) ls rest)) : W p l e R s m args below meth c H locs cells slots Q (F0 m pc ls (.int x :: rest)) := by
  cases k with
  | eq => exact lv_if_eq hx hb hd ht kt kf
  | ne => exact lv_if_ne hx hb hd ht kt (fun q => kf (fun w => w q))
  | lt => exact lv_if_lt hx hb hd ht kt kf
  | ge => exact lv_if_ge hx hb hd ht kt kf
  | gt => exact lv_if_gt hx hb hd ht kt kf
  | le => exact lv_if_le hx hb hd ht kt kf
theorem zj_goto (hC : zCx p s m args meth c cc nL own D kk A g ini top) (hE : zEv g E) {off : Int} {r1 : Nat} {r2 : Int} (hd : decode cc pc = .ok (.goto off, 3)) {t j : Nat} {b : Bool} (hs : zs_goto pc off r1 r2 E top al st h = .inr (.inl (t, b, j, st'))) (k : zWn p l e R s m args below meth c Q D kk A g ad0 nL n0 m0 t al st' h) : zWn p l e R s m args below meth c Q D kk A g ad0 nL n0 m0 pc al st h := by
  obtain ⟨ht, rfl⟩ := zgj_ok hs
  intro ls sv H locs hst
  exact lv_goto hC.1 hC.2.1 hd ht (k ls sv H locs hst)
theorem zj_icmp (hC : zCx p s m args meth c cc nL own D kk A g ini top) (hE : zEv g E) {q : Jvm.ClassFile.Cond} {off : Int} {r1 : Nat} {r2 : Int} (hd : decode cc pc = .ok (.if_icmp q off, 3)) {t j : Nat} {b : Bool} (hs : zs_icmp q pc off r1 r2 E top al st h = .inr (.inl (t, b, j, st'))) (k : zWn p l e R s m args below meth c Q D kk A g ad0 nL n0 m0 t al st' h) : zWn p l e R s m args below meth c Q D kk A g ad0 nL n0 m0 pc al st h := by
  unfold zs_icmp at hs
  split at hs
  · rename_i b0 a0 st0
    obtain ⟨hr, ht, rfl⟩ := zbr_t hs
    intro ls sv H locs ⟨ws, lv, hh, hl, hL, hF, hP, hD, hS⟩
    obtain ⟨w, vs, rfl, hV2, hF1⟩ := zVs_cons hF
    obtain ⟨v, vs, rfl, hV, hF2⟩ := zVs_cons hF1
    obtain ⟨x, y, rfl, rfl, hc⟩ := zcm_ok hE hr hV hV2
    exact zi_icmp hC.1 hC.2.1 hd ht (fun _ => k ls _ H locs ⟨ws, lv, hh, hl, hL, hF2, hP, hD, hS⟩) (fun hn => absurd (hc.mp rfl) hn)
  · cases hs
theorem zj_if (hC : zCx p s m args meth c cc nL own D kk A g ini top) (hE : zEv g E) {q : Jvm.ClassFile.Cond} {off : Int} {r1 : Nat} {r2 : Int} (hd : decode cc pc = .ok (.ifCond q off, 3)) {t j : Nat} {b : Bool} (hs : zs_if q pc off r1 r2 E top al st h = .inr (.inl (t, b, j, st'))) (k : zWn p l e R s m args below meth c Q D kk A g ad0 nL n0 m0 t al st' h) : zWn p l e R s m args below meth c Q D kk A g ad0 nL n0 m0 pc al st h := by
  unfold zs_if at hs
  split at hs
  · rename_i a0 st0
    obtain ⟨hr, ht, rfl⟩ := zbr_t hs
    intro ls sv H locs ⟨ws, lv, hh, hl, hL, hF, hP, hD, hS⟩
    obtain ⟨v, vs, rfl, hV, hF1⟩ := zVs_cons hF
    obtain ⟨x, y, rfl, e2, hc⟩ := zcm_ok hE hr hV (zV_k (x := 0) rfl)
    cases e2
    exact zi_if hC.1 hC.2.1 hd ht (fun _ => k ls _ H locs ⟨ws, lv, hh, hl, hL, hF1, hP, hD, hS⟩) (fun hn => absurd (hc.mp rfl) hn)
  · cases hs
theorem zh_icmp (hC : zCx p s m args meth c cc nL own D kk A g ini top) (hE : zEv g E) {q : Jvm.ClassFile.Cond} {off : Int} {r1 : Nat} {r2 : Int} {t : Nat} (ht : (pc : Int) + off = (t : Int)) (hd : decode cc pc = .ok (.if_icmp q off, 3)) (hs : zs_icmp q pc off r1 r2 E top al st h = .inl (al', st', h')) (k : zWn p l e R s m args below meth c Q D kk A g ad0 nL n0 m0 (pc + 3) al' st' h') : zWn p l e R s m args below meth c Q D kk A g ad0 nL n0 m0 pc al st h := by
  unfold zs_icmp at hs
  split at hs
  · rename_i b0 a0 st0
    obtain ⟨hr, rfl, rfl, rfl⟩ := zbr_f hs
    intro ls sv H locs ⟨ws, lv, hh, hl, hL, hF, hP, hD, hS⟩
    obtain ⟨w, vs, rfl, hV2, hF1⟩ := zVs_cons hF
    obtain ⟨v, vs, rfl, hV, hF2⟩ := zVs_cons hF1
    obtain ⟨x, y, rfl, rfl, hc⟩ := zcm_ok hE hr hV hV2
    exact zi_icmp hC.1 hC.2.1 hd ht (fun hn => absurd (hc.mpr hn) (by decide)) (fun _ => k ls _ H locs ⟨ws, lv, hh, hl, hL, hF2, hP, hD, hS⟩)
  · cases hs
theorem zh_if (hC : zCx p s m args meth c cc nL own D kk A g ini top) (hE : zEv g E) {q : Jvm.ClassFile.Cond} {off : Int} {r1 : Nat} {r2 : Int} {t : Nat} (ht : (pc : Int) + off = (t : Int)) (hd : decode cc pc = .ok (.ifCond q off, 3)) (hs : zs_if q pc off r1 r2 E top al st h = .inl (al', st', h')) (k : zWn p l e R s m args below meth c Q D kk A g ad0 nL n0 m0 (pc + 3) al' st' h') : zWn p l e R s m args below meth c Q D kk A g ad0 nL n0 m0 pc al st h := by
  unfold zs_if at hs
  split at hs
  · rename_i a0 st0
    obtain ⟨hr, rfl, rfl, rfl⟩ := zbr_f hs
    intro ls sv H locs ⟨ws, lv, hh, hl, hL, hF, hP, hD, hS⟩
    obtain ⟨v, vs, rfl, hV, hF1⟩ := zVs_cons hF
    obtain ⟨x, y, rfl, e2, hc⟩ := zcm_ok hE hr hV (zV_k (x := 0) rfl)
    cases e2
    exact zi_if hC.1 hC.2.1 hd ht (fun hn => absurd (hc.mpr hn) (by decide)) (fun _ => k ls _ H locs ⟨ws, lv, hh, hl, hL, hF1, hP, hD, hS⟩)
  · cases hs
theorem zj_table (hC : zCx p s m args meth c cc nL own D kk A g ini top) (hE : zEv g E) {df lo hi : Int} {offs : Array Int} {len : Nat} (hd : decode cc pc = .ok (.tableswitch df lo hi offs, len)) {t j : Nat} {b : Bool} (hs : zs_table pc df lo hi offs E top al st h = .inr (.inl (t, b, j, st'))) (k : zWn p l e R s m args below meth c Q D kk A g ad0 nL n0 m0 t al st' h) : zWn p l e R s m args below meth c Q D kk A g ad0 nL n0 m0 pc al st h := by
  unfold zs_table at hs
  split at hs
  · rename_i a0 st0
    split at hs
    · rename_i q hq
      cases h1 : (zlt q.2 lo || zlt hi q.1) with
      | true =>
        rw [h1] at hs
        obtain ⟨ht, rfl⟩ := zgj_ok hs
        simp only [Bool.or_eq_true, zlt_iff] at h1
        intro ls sv H locs ⟨ws, lv, hh, hl, hL, hF, hP, hD, hS⟩
        obtain ⟨v, vs, rfl, hV, hF1⟩ := zVs_cons hF
        obtain ⟨x, rfl, h2, h3⟩ := zV_iv hE hq hV
        exact lv_tableOut hC.1 hC.2.1 hd (by omega) ht (k ls _ H locs ⟨ws, lv, hh, hl, hL, hF1, hP, hD, hS⟩)
      | false =>
        rw [h1] at hs
        simp only [Bool.or_eq_false_iff] at h1
        cases h4 : zeq q.1 q.2 with
        | true =>
          rw [h4] at hs
          have hs : (match offs[(q.1 - lo).toNat]? with | some off => zgj pc off 1 0 st0 | none => zno (943, 0)) = .inr (.inl (t, b, j, st')) := hs
          split at hs
          · rename_i off ho
            obtain ⟨ht, rfl⟩ := zgj_ok hs
            intro ls sv H locs ⟨ws, lv, hh, hl, hL, hF, hP, hD, hS⟩
            obtain ⟨v, vs, rfl, hV, hF1⟩ := zVs_cons hF
            obtain ⟨x, rfl, h2, h3⟩ := zV_iv hE hq hV
            have e4 := zeq_iff.mp h4
            have n1 : ¬ q.2 < lo := fun w => by rw [zlt_iff.mpr w] at h1; cases h1.1
            have n2 : ¬ hi < q.1 := fun w => by rw [zlt_iff.mpr w] at h1; cases h1.2
            have ex : x.toInt = q.1 := by omega
            exact lv_tableIn hC.1 hC.2.1 hd (by omega) (by omega) (by rw [ex]; exact ho) ht (k ls _ H locs ⟨ws, lv, hh, hl, hL, hF1, hP, hD, hS⟩)
          · cases hs
        | false =>
          rw [h4] at hs
          cases h5 : zlt q.1 lo with
          | true => rw [h5] at hs; cases hs
          | false =>
            rw [h5] at hs
            cases h6 : zlt hi q.2 with
            | true => rw [h6] at hs; cases hs
            | false => rw [h6] at hs; cases hs
    · cases hs
  · cases hs
end ZJ
section ZP
variable {p : Program} {l : Launch} {e : Env} {R : Room} {s : State} {m : MethodId} {args : Array Value} {below : List Frame} {meth : Method} {c : Code} {Q : State → Prop} {D : va_G} {kk : Nat → ClassId} {A : Nat → Prop} {g : zG} {ad0 : List Nat} {nL n0 m0 : Nat} {cc : ByteArray} {own : String} {ini top : Bool} {E : zE} {pc : Nat} {al al' : zL} {st st' : List zA} {h h' : zH}
/-- what is known of a class whose objects are made -/
def zCl (ci : Nat) (C : String) (T : u_T) (N : Nat) : Prop := vwCl[ci]? = some (C, T, N) ∧ N = zN ci ∧ (∀ w ∈ u_ws C T N, w ∈ zW) ∧ (∀ k, k < N → parseFieldDescriptor (T k).2.2.1 = some (zty ci k)) ∧ (∀ a, a < N → ∀ b, b < N → a ≠ b → (T a).2.1 ≠ (T b).2.1) ∧ Jvm.Cond.instantiable C N ∈ zW ∧ Jvm.Cond.initialized C ∈ zW
theorem zat {ws : va_W} {i q q' : Nat} {e0 : va_E} (h1 : (ws.map (·.1))[i]? = some q) (h2 : ws[i]? = some (q', e0)) : q' = q := by
  rw [List.getElem?_map, h2] at h1
  exact Option.some.inj h1
theorem zmap_set {ws : va_W} {i q : Nat} {e0 e1 : va_E} (h : ws[i]? = some (q, e0)) : (ws.set i (q, e1)).map (·.1) = ws.map (·.1) := by
  apply List.ext_getElem?
  intro j
  rw [List.getElem?_map, List.getElem?_map, List.getElem?_set]
  by_cases hj : i = j
  · subst hj
    have hlt := (List.getElem?_eq_some_iff.mp h).1
    rw [if_pos rfl, if_pos hlt, h]
    rfl
  · simp [hj]
theorem zHr_set {i q : Nat} {e0 e1 : va_E} {c1 : zC} {ws : va_W} (hh : zHr g kk ad0 h ws) (h1 : ws[i]? = some (q, e0)) (h2 : zCr g (ws.map (·.1)) kk c1 e1) : zHr g kk ad0 (zsc h i c1) (ws.set i (q, e1)) := by
  refine ⟨⟨by rw [List.length_set]; exact hh.1.1, by rw [zmap_set h1]; exact hh.1.2⟩, fun j c0 hj => ?_⟩
  rw [zmap_set h1]
  by_cases e : j = i
  · subst e
    have hj : zg (zu h.2 j c1) j = some c0 := hj
    rw [zg_same] at hj
    cases hj
    exact ⟨q, e1, by rw [List.getElem?_set]; simp [(List.getElem?_eq_some_iff.mp h1).1], h2⟩
  · have hj : zg (zu h.2 i c1) j = some c0 := hj
    rw [zg_ne _ _ e] at hj
    obtain ⟨q1, e2, h3, h4⟩ := hh.2 j c0 hj
    exact ⟨q1, e2, by rw [List.getElem?_set]; simp [Ne.symm e, h3], h4⟩
/-- the state behind a write into the cell i -/
theorem zSt_set {i q : Nat} {e0 e1 : va_E} {c1 : zC} {ws : va_W} {lv : List (Nat × Value)} {ls : Array Slot} {sv : List Value} {H1 : Heap} {locs1 : List Loc} (hh : zHr g kk ad0 h ws) (hl : lv_has ls nL lv) (hL : zLs g (ws.map (·.1)) al lv) (hF : zVs g (ws.map (·.1)) st sv) (h1 : ws[i]? = some (q, e0)) (h2 : zCr g (ws.map (·.1)) kk c1 e1) (hP : va_P D vwCl (ws.set i (q, e1)) H1) (hD : va_D A (ws.set i (q, e1))) (hS : va_S A s.heap H1 locs1) : zSt s D kk A g ad0 nL al st (zsc h i c1) ls sv H1 locs1 :=
  ⟨ws.set i (q, e1), lv, zHr_set hh h1 h2, hl, by rw [zmap_set h1]; exact hL, by rw [zmap_set h1]; exact hF, hP, hD, hS⟩
theorem zCr_grow (l : List Nat) {ad : List Nat} : ∀ {c0 : zC} {e0 : va_E}, zCr g ad kk c0 e0 → zCr g (ad ++ l) kk c0 e0
  | .inl (ci, fs), _, h => by
    obtain ⟨vs, h1, h2, h3⟩ := h
    exact ⟨vs, h1, h2, fun k a hk ha => by
      obtain ⟨v, h4, h5⟩ := h3 k a hk ha
      exact ⟨v, h4, zV_grow l h5⟩⟩
  | .inr (k, n, d, ov), _, h => by
    rcases h with ⟨h1, f, h2, h3⟩ | ⟨h1, f, h2, h3⟩ | ⟨h1, h1b, f, h2, h3⟩
    · exact Or.inl ⟨h1, f, h2, fun j hj => zV_grow l (h3 j hj)⟩
    · exact Or.inr (Or.inl ⟨h1, f, h2, fun j hj => zV_grow l (h3 j hj)⟩)
    · exact Or.inr (Or.inr ⟨h1, h1b, f, h2, fun j hj => zV_grow l (h3 j hj)⟩)
theorem zHr_push {q n : Nat} {e1 : va_E} {c1 : zC} {ws : va_W} (hh : zHr g kk ad0 h ws) (h2 : zCr g ((ws ++ [(q, e1)]).map (·.1)) kk c1 e1) : zHr g kk ad0 (zph h c1 n) (ws ++ [(q, e1)]) := by
  refine ⟨⟨by rw [List.length_append]; show ws.length + 1 = h.1.1 + 1; rw [hh.1.1], by obtain ⟨l0, e0⟩ := hh.1.2; exact ⟨l0 ++ [q], by rw [List.map_append, e0, List.append_assoc]; rfl⟩⟩, fun j c0 hj => ?_⟩
  have hj : zg (h.2.1, (h.1.1, c1) :: h.2.2) j = some c0 := hj
  by_cases e : j = h.1.1
  · have hj2 : zg (h.2.1, (h.1.1, c1) :: h.2.2) j = some c1 := by
      unfold zg
      simp only [zlk_cons, e, zbeq_self, cond_true]
    rw [hj2] at hj
    cases hj
    exact ⟨q, e1, by rw [e, ← hh.1.1, List.getElem?_append_right (Nat.le_refl _)]; simp, h2⟩
  · have hj2 : zg (h.2.1, (h.1.1, c1) :: h.2.2) j = zgt h j := by
      unfold zgt zg
      simp only [zlk_cons, zbeq_ne (Ne.symm e), cond_false]
    rw [hj2] at hj
    obtain ⟨q1, e2, h3, h4⟩ := hh.2 j c0 hj
    refine ⟨q1, e2, by rw [List.getElem?_append_left (List.getElem?_eq_some_iff.mp h3).1]; exact h3, ?_⟩
    rw [List.map_append]
    exact zCr_grow _ h4
theorem zh_getf (hC : zCx p s m args meth c cc nL own D kk A g ini top) (hE : zEv g E) {C : String} {T : u_T} {N i r1 r2 : Nat} (hcl : zCl r1 C T N) (hk : r2 < N) (hw : Jvm.Cond.fieldLink own i (T r2).1 (T r2).2.1 (T r2).2.2.1 ∈ zW) (hd : decode cc pc = .ok (.getfield i, 3)) (hs : zs_getf r1 r2 E top al st h = .inl (al', st', h')) (k : zWn p l e R s m args below meth c Q D kk A g ad0 nL n0 m0 (pc + 3) al' st' h') : zWn p l e R s m args below meth c Q D kk A g ad0 nL n0 m0 pc al st h := by
  unfold zs_getf at hs
  split at hs
  · rename_i o st0
    split at hs
    · rename_i ci fs hget
      cases hz : Nat.beq ci r1 with
      | false => rw [hz] at hs; cases hs
      | true =>
        rw [hz] at hs
        have hs : (match zg fs r2 with | some v => zgo al (v :: st0) h | none => zno (946, 0)) = .inl (al', st', h') := hs
        have ec := Nat.eq_of_beq_eq_true hz
        subst ec
        split at hs
        · rename_i a ha
          cases hs
          intro ls sv H locs ⟨ws, lv, hh, hl, hL, hF, hP, hD, hS⟩
          obtain ⟨v, vs, rfl, hV, hF1⟩ := zVs_cons hF
          obtain ⟨q, hq, rfl⟩ := hV
          obtain ⟨q1, e1, hw1, hc1⟩ := hh.2 _ _ hget
          cases zat hq hw1
          obtain ⟨vs1, rfl, hlen, hfs⟩ := hc1
          obtain ⟨v, hv1, hv2⟩ := hfs r2 a (by rw [← hcl.2.1]; exact hk) ha
          exact va_get (D := D) (ci := ci) (v := v) (C := C) (T := T) (N := N) hC.1 hC.2.1 hC.2.2.2.2.1 hcl.2.2.1 hC.2.2.2.1 hC.2.2.2.2.2.1 hP _ hw1 hcl.1 r2 hk (hC.2.2.2.2.1 _ hw) (fun _ h9 => h9) hv1 hd (k ls _ H locs ⟨ws, lv, hh, hl, hL, ⟨hv2, hF1⟩, hP, hD, hS⟩)
        · cases hs
    · cases hs
  · cases hs
theorem zfit_ok {ad : List Nat} {t : FieldType} {a : zA} {v : Value} (hf : zfit E t a = true) (hV : zV g ad a v) : narrow t v = v ∧ fits t v = true := by
  unfold zfit at hf
  split at hf
  · obtain ⟨x, rfl⟩ := zV_int hf hV
    exact ⟨rfl, rfl⟩
  · rename_i q
    obtain ⟨x, rfl, h1, h2⟩ := hV
    simp only [Bool.and_eq_true, zle_iff] at hf
    have hx : x = 0 ∨ x = 1 := by
      have e0 : (0 : Int32).toInt = 0 := rfl
      have e1 : (1 : Int32).toInt = 1 := rfl
      rcases (show x.toInt = 0 ∨ x.toInt = 1 by omega) with w | w
      · exact Or.inl ((fa_eq _ _).mpr (by rw [w, e0]))
      · exact Or.inr ((fa_eq _ _).mpr (by rw [w, e1]))
    rcases hx with rfl | rfl
    · exact ⟨by decide, by decide⟩
    · exact ⟨by decide, by decide⟩
  · obtain ⟨x, rfl, -⟩ := hV
    exact ⟨rfl, rfl⟩
  · obtain ⟨q, -, rfl⟩ := hV
    exact ⟨rfl, rfl⟩
  · obtain ⟨q, -, rfl⟩ := hV
    exact ⟨rfl, rfl⟩
  · cases hf
theorem zh_putf (hC : zCx p s m args meth c cc nL own D kk A g ini top) (hE : zEv g E) {C : String} {T : u_T} {N i r1 r2 : Nat} (hcl : zCl r1 C T N) (hk : r2 < N) (hw : Jvm.Cond.fieldLink own i (T r2).1 (T r2).2.1 (T r2).2.2.1 ∈ zW) (hfn : (T r2).2.2.2 = false ∨ ((T r2).2.2.2 = true ∧ ini = true ∧ (T r2).1 = own)) (hd : decode cc pc = .ok (.putfield i, 3)) (hs : zs_putf r1 r2 E top al st h = .inl (al', st', h')) (k : zWn p l e R s m args below meth c Q D kk A g ad0 nL n0 m0 (pc + 3) al' st' h') : zWn p l e R s m args below meth c Q D kk A g ad0 nL n0 m0 pc al st h := by
  unfold zs_putf at hs
  split at hs
  · rename_i a o st0
    split at hs
    · rename_i ci fs hget
      cases hz : (Nat.beq ci r1 && (zfit E (zty r1 r2) a && Nat.blt r2 (zN r1))) with
      | false => rw [hz] at hs; cases hs
      | true =>
        rw [hz] at hs
        cases hs
        simp only [Bool.and_eq_true] at hz
        have ec := Nat.eq_of_beq_eq_true hz.1
        subst ec
        intro ls sv H locs ⟨ws, lv, hh, hl, hL, hF, hP, hD, hS⟩
        obtain ⟨v, vs, rfl, hV2, hF1⟩ := zVs_cons hF
        obtain ⟨w, vs, rfl, hV, hF2⟩ := zVs_cons hF1
        obtain ⟨q, hq, rfl⟩ := hV
        obtain ⟨q1, e1, hw1, hc1⟩ := hh.2 _ _ hget
        cases zat hq hw1
        obtain ⟨vs1, rfl, hlen, hfs⟩ := hc1
        obtain ⟨f1, f2⟩ := zfit_ok hz.2.1 hV2
        have hl2 : r2 < vs1.length := by rw [hlen, ← hcl.2.1]; exact hk
        have hcr : zCr g (ws.map (·.1)) kk (.inl (ci, zu fs r2 a)) (.inr (ci, vs1.set r2 v)) := ⟨vs1.set r2 v, rfl, by rw [List.length_set]; exact hlen, fun k0 a0 hk0 ha0 => by
          by_cases e9 : k0 = r2
          · subst e9
            rw [zg_same] at ha0
            cases ha0
            exact ⟨v, by rw [List.getElem?_set]; simp [hl2], hV2⟩
          · rw [zg_ne _ _ e9] at ha0
            obtain ⟨v9, h8, h9⟩ := hfs k0 a0 hk0 ha0
            exact ⟨v9, by rw [List.getElem?_set]; simp [Ne.symm e9, h8], h9⟩⟩
        rcases hfn with hfn | ⟨hfn, hi, hown2⟩
        · exact va_put (D := D) (ci := ci) (v := v) (ty := zty ci r2) (C := C) (T := T) (N := N) hC.1 hC.2.1 hC.2.2.2.2.1 hcl.2.2.1 (zty ci) hcl.2.2.2.1 hcl.2.2.2.2.1 hC.2.2.2.1 hC.2.2.2.2.2.1 hP hD hS _ hw1 hcl.1 r2 hk (hC.2.2.2.2.1 _ hw) (fun _ h9 => h9) hfn (hcl.2.2.2.1 r2 hk) f1 f2 hl2 hd (fun H1 locs1 hP1 hD1 hS1 => k ls _ H1 locs1 (zSt_set hh hl hL hF2 hw1 hcr hP1 hD1 hS1))
        · exact va_putF (D := D) (ci := ci) (v := v) (ty := zty ci r2) (C := C) (T := T) (N := N) hC.1 hC.2.1 hC.2.2.2.2.1 hcl.2.2.1 (zty ci) hcl.2.2.2.1 hcl.2.2.2.2.1 hC.2.2.2.1 hC.2.2.2.2.2.1 hP hD hS _ hw1 hcl.1 r2 hk (hC.2.2.2.2.1 _ hw) (fun _ h9 => h9) hfn (hC.2.2.2.2.2.2.2.2.1 hi) hown2 (hcl.2.2.2.1 r2 hk) f1 f2 hl2 hd (fun H1 locs1 hP1 hD1 hS1 => k ls _ H1 locs1 (zSt_set hh hl hL hF2 hw1 hcr hP1 hD1 hS1))
    · cases hs
  · cases hs
theorem zag_set {ad : List Nat} {d a : zA} {ov : List (Nat × zA)} {n j : Nat} {V : Nat → Value} {v : Value} (h1 : ∀ i, i < n → zV g ad (zag d ov i) (V i)) (h2 : zV g ad a v) : ∀ i, i < n → zV g ad (zag d ((j, a) :: ov) i) (if i = j then v else V i) := by
  intro i hi
  rw [zag_cons]
  by_cases e9 : i = j
  · rw [if_pos e9, if_pos e9]
    exact h2
  · rw [if_neg e9, if_neg e9]
    exact h1 i hi
theorem zun_ok {d : zA} {l0 m1 : Nat} : ∀ {ov : List (Nat × zA)}, zun d l0 m1 ov = true → ∀ j, l0 ≤ j → j < l0 + m1 → zag d ov j = d
  | [], _, _, _, _ => rfl
  | q :: ov, hu, j, h1, h2 => by
    have hu : ((Nat.blt q.1 l0 || Nat.ble (l0 + m1) q.1 || zqA d q.2) && zun d l0 m1 ov) = true := hu
    rw [Bool.and_eq_true] at hu
    have ih := zun_ok hu.2 j h1 h2
    obtain ⟨i, a⟩ := q
    rw [zag_cons]
    by_cases e9 : j = i
    · rw [if_pos e9]
      subst e9
      have h3 := hu.1
      rw [Bool.or_eq_true, Bool.or_eq_true] at h3
      rcases h3 with (h3 | h3) | h3
      · have := Nat.le_of_ble_eq_true h3
        have : j < l0 := this
        omega
      · have := Nat.le_of_ble_eq_true h3
        have : l0 + m1 ≤ j := this
        omega
      · exact (zqA_eq h3).symm
    · rw [if_neg e9]
      exact ih
theorem zal_ok {a d : zA} {ov : List (Nat × zA)} {l0 : Nat} : ∀ {m1 : Nat}, zal a d ov l0 m1 = true → ∀ j, l0 ≤ j → j < l0 + m1 → zag d ov j = a
  | 0, _, j, h1, h2 => by omega
  | m1 + 1, hu, j, h1, h2 => by
    have hu : (zqA a (zag d ov (l0 + m1)) && zal a d ov l0 m1) = true := hu
    rw [Bool.and_eq_true] at hu
    by_cases e9 : j = l0 + m1
    · rw [e9]
      exact (zqA_eq hu.1).symm
    · exact zal_ok hu.2 j h1 (by omega)
/-- a read of an array: the place, and what is there -/
theorem zld_ok {ad : List Nat} {ks : Nat → Bool} {i a : zA} {r : Nat} {v : Value} (hE : zEv g E) (hr : zld E h ks i r = .inl a) (hV : zV g ad i v) : ∃ k n d ov x j, zgt h r = some (.inr (k, n, d, ov)) ∧ ks k = true ∧ v = .int x ∧ x.toInt = ((j : Nat) : Int) ∧ j < n ∧ zag d ov j = a := by
  unfold zld at hr
  split at hr
  · rename_i k n d ov hget
    cases hz : ks k with
    | false => rw [hz] at hr; cases hr
    | true =>
      rw [hz] at hr
      have hr : (match zix E i n with
        | .inl j => .inl (zag d ov j)
        | .inr q => match zir E i n with
          | some (l, m) => bif zun d l m ov then .inl d else bif zal (zag d ov l) d ov l m then .inl (zag d ov l) else .inr q
          | none => .inr q) = (.inl a : zA ⊕ (Nat × Int)) := hr
      split at hr
      · rename_i j hj
        cases hr
        obtain ⟨x, rfl, h1, h2⟩ := zix_ok hE hj hV
        exact ⟨k, n, d, ov, x, j, hget, hz, rfl, h1, h2, rfl⟩
      · rename_i q hq
        split at hr
        · rename_i l0 m1 hlm
          cases hu : zun d l0 m1 ov with
          | false =>
            rw [hu] at hr
            replace hr : (bif zal (zag d ov l0) d ov l0 m1 then .inl (zag d ov l0) else .inr q) = (.inl a : zA ⊕ (Nat × Int)) := hr
            cases hu2 : zal (zag d ov l0) d ov l0 m1 with
            | false => rw [hu2] at hr; cases hr
            | true =>
              rw [hu2] at hr
              cases hr
              obtain ⟨x, j, rfl, h1, h2, h3, h4⟩ := zir_ok hE hlm hV
              exact ⟨k, n, _, ov, x, j, hget, hz, rfl, h1, h2, zal_ok hu2 j h3 h4⟩
          | true =>
            rw [hu] at hr
            cases hr
            obtain ⟨x, j, rfl, h1, h2, h3, h4⟩ := zir_ok hE hlm hV
            exact ⟨k, n, _, ov, x, j, hget, hz, rfl, h1, h2, zun_ok hu j h3 h4⟩
        · cases hr
  · cases hr
theorem zh_baload (hC : zCx p s m args meth c cc nL own D kk A g ini top) (hE : zEv g E)  (hd : decode cc pc = .ok (.baload, 1)) (hs : zs_xald (fun k => Nat.beq k 1 || Nat.beq k 3) E top al st h = .inl (al', st', h')) (k : zWn p l e R s m args below meth c Q D kk A g ad0 nL n0 m0 (pc + 1) al' st' h') : zWn p l e R s m args below meth c Q D kk A g ad0 nL n0 m0 pc al st h := by
  unfold zs_xald at hs
  split at hs
  · rename_i i0 r0 st0
    unfold zpu at hs
    split at hs
    · rename_i a0 hr
      cases hs
      intro ls sv H locs ⟨ws, lv, hh, hl, hL, hF, hP, hD, hS⟩
      obtain ⟨w, vs, rfl, hVi, hF1⟩ := zVs_cons hF
      obtain ⟨w2, vs, rfl, hVr, hF2⟩ := zVs_cons hF1
      obtain ⟨q, hq, rfl⟩ := hVr
      obtain ⟨k9, n9, d9, ov9, x, j9, hget, hks, rfl, hx, hj, ha⟩ := zld_ok hE hr hVi
      obtain ⟨q1, e1, hw1, hc1⟩ := hh.2 _ _ hget
      cases zat hq hw1
      subst ha
      rw [Bool.or_eq_true] at hks
      rcases hc1 with ⟨h1, f, rfl, hf⟩ | ⟨h1, f, rfl, hf⟩ | ⟨h1, h1b, f, rfl, hf⟩
      · rcases hks with h9 | h9
        · have e9 : k9 = 1 := Nat.eq_of_beq_eq_true h9
          subst e9
          exact va_bald hC.1 hC.2.1 hC.2.2.2.2.2.1 hP _ 1 hw1 rfl (zvin hx hj) hd (k ls _ H locs ⟨ws, lv, hh, hl, hL, ⟨by rw [zclamp hx]; exact hf _ hj, hF2⟩, hP, hD, hS⟩)
        · have e9 : k9 = 3 := Nat.eq_of_beq_eq_true h9
          subst e9
          exact va_zald hC.1 hC.2.1 hC.2.2.2.2.2.1 hP _ 3 hw1 rfl (zvin hx hj) hd (k ls _ H locs ⟨ws, lv, hh, hl, hL, ⟨by rw [zclamp hx]; exact hf _ hj, hF2⟩, hP, hD, hS⟩)
      · rcases hks with h9 | h9
        · have e9 : k9 = 1 := Nat.eq_of_beq_eq_true h9
          omega
        · have e9 : k9 = 3 := Nat.eq_of_beq_eq_true h9
          omega
      · rcases hks with h9 | h9
        · have e9 : k9 = 1 := Nat.eq_of_beq_eq_true h9
          omega
        · have e9 : k9 = 3 := Nat.eq_of_beq_eq_true h9
          omega
    · cases hs
  · cases hs
theorem zh_caload (hC : zCx p s m args meth c cc nL own D kk A g ini top) (hE : zEv g E)  (hd : decode cc pc = .ok (.caload, 1)) (hs : zs_xald (fun k => Nat.beq k 2) E top al st h = .inl (al', st', h')) (k : zWn p l e R s m args below meth c Q D kk A g ad0 nL n0 m0 (pc + 1) al' st' h') : zWn p l e R s m args below meth c Q D kk A g ad0 nL n0 m0 pc al st h := by
  unfold zs_xald at hs
  split at hs
  · rename_i i0 r0 st0
    unfold zpu at hs
    split at hs
    · rename_i a0 hr
      cases hs
      intro ls sv H locs ⟨ws, lv, hh, hl, hL, hF, hP, hD, hS⟩
      obtain ⟨w, vs, rfl, hVi, hF1⟩ := zVs_cons hF
      obtain ⟨w2, vs, rfl, hVr, hF2⟩ := zVs_cons hF1
      obtain ⟨q, hq, rfl⟩ := hVr
      obtain ⟨k9, n9, d9, ov9, x, j9, hget, hks, rfl, hx, hj, ha⟩ := zld_ok hE hr hVi
      obtain ⟨q1, e1, hw1, hc1⟩ := hh.2 _ _ hget
      cases zat hq hw1
      subst ha
      have e9 : k9 = 2 := Nat.eq_of_beq_eq_true hks
      subst e9
      rcases hc1 with ⟨h1, f, rfl, hf⟩ | ⟨h1, f, rfl, hf⟩ | ⟨h1, h1b, f, rfl, hf⟩
      · exact va_cald hC.1 hC.2.1 hC.2.2.2.2.2.1 hP _ 2 hw1 rfl (zvin hx hj) hd (k ls _ H locs ⟨ws, lv, hh, hl, hL, ⟨by rw [zclamp hx]; exact hf _ hj, hF2⟩, hP, hD, hS⟩)
      · omega
      · omega
    · cases hs
  · cases hs
/-- a read of an array of references of any kind -/
theorem za_ald {ws : va_W} {H : Heap} {locs : List Loc} {cells slots : Nat} {ls : Array Slot} {rest : List Value} {a : Nat} {cA : ClassId} {ty : FieldType} {n : Nat} {f : Nat → Option Nat} (hx : p.tables.exec = Jvm.exec) (hb : c.code = cc) (hAr : ArrOfT s cA ty) (hrt : ty.isReference = true) (hP : va_P D vwCl ws H) (q0 : Nat) (ha : ws[q0]? = some (a, .inl (cA, n, .inr (.inr (.inr (.inr f)))))) {i : Int32} (hin : vp_in i n) (hd : decode cc pc = .ok (.aaload, 1))
    (kw : W p l e R s m args below meth c H locs cells slots Q (F0 m (pc + 1) ls (va_rf (f i.toNatClampNeg) :: rest))) : W p l e R s m args below meth c H locs cells slots Q (F0 m pc ls (.int i :: .ref a :: rest)) := by
  have hlt : i.toNatClampNeg < n := Nat.not_le.mp fun q => hin (Or.inr q)
  exact W.aald (v := va_rf (f i.toNatClampNeg)) (ty := ty) hx hb (hP q0 _ ha) (hAr n (fun j => va_rf (f j))) hrt (fun q => by cases q) (by show ¬ (i < 0 ∨ (arrV _ _ _).slots.size ≤ _); rw [arrV_size]; exact hin) (by show (arrV _ _ _).slots[_]? = _; rw [arrV_read _ _ hlt]) rfl rfl hd kw
theorem zh_aaload (hC : zCx p s m args meth c cc nL own D kk A g ini top) (hE : zEv g E)  (hd : decode cc pc = .ok (.aaload, 1)) (hs : zs_xald (fun k => Nat.ble 5 k && Nat.ble k 7) E top al st h = .inl (al', st', h')) (k : zWn p l e R s m args below meth c Q D kk A g ad0 nL n0 m0 (pc + 1) al' st' h') : zWn p l e R s m args below meth c Q D kk A g ad0 nL n0 m0 pc al st h := by
  unfold zs_xald at hs
  split at hs
  · rename_i i0 r0 st0
    unfold zpu at hs
    split at hs
    · rename_i a0 hr
      cases hs
      intro ls sv H locs ⟨ws, lv, hh, hl, hL, hF, hP, hD, hS⟩
      obtain ⟨w, vs, rfl, hVi, hF1⟩ := zVs_cons hF
      obtain ⟨w2, vs, rfl, hVr, hF2⟩ := zVs_cons hF1
      obtain ⟨q, hq, rfl⟩ := hVr
      obtain ⟨k9, n9, d9, ov9, x, j9, hget, hks, rfl, hx, hj, ha⟩ := zld_ok hE hr hVi
      obtain ⟨q1, e1, hw1, hc1⟩ := hh.2 _ _ hget
      cases zat hq hw1
      subst ha
      rw [Bool.and_eq_true] at hks
      have h9 : 5 ≤ k9 := Nat.le_of_ble_eq_true hks.1
      have h8 : k9 ≤ 7 := Nat.le_of_ble_eq_true hks.2
      rcases hc1 with ⟨h1, f, rfl, hf⟩ | ⟨h1, f, rfl, hf⟩ | ⟨h1, h1b, f, rfl, hf⟩
      · omega
      · omega
      · obtain ⟨ty, hAr, hrt⟩ : ∃ ty : FieldType, ArrOfT s (kk k9) ty ∧ ty.isReference = true := by
          rcases (show k9 = 5 ∨ k9 = 6 ∨ k9 = 7 by omega) with rfl | rfl | rfl
          · exact ⟨_, (hC.2.2.2.2.2.1.2 5 _ rfl).1, rfl⟩
          · exact ⟨_, (hC.2.2.2.2.2.1.2 6 _ rfl).1, rfl⟩
          · exact ⟨_, (hC.2.2.2.2.2.1.2 7 _ rfl).1, rfl⟩
        exact za_ald hC.1 hC.2.1 hAr hrt hP _ hw1 (zvin hx hj) hd (k ls _ H locs ⟨ws, lv, hh, hl, hL, ⟨by rw [zclamp hx]; exact hf _ hj, hF2⟩, hP, hD, hS⟩)
    · cases hs
  · cases hs
theorem ztb_rng (k : Nat) (hk : k = 0 ∨ k = 1) {j : Nat} (hj : j < 8) : (Int32.ofInt ((ztb k).getD j 0)).toInt = (ztb k).getD j 0 := by
  rcases hk with rfl | rfl
  · rcases (show j = 0 ∨ j = 1 ∨ j = 2 ∨ j = 3 ∨ j = 4 ∨ j = 5 ∨ j = 6 ∨ j = 7 by omega) with rfl | rfl | rfl | rfl | rfl | rfl | rfl | rfl <;> rfl
  · rcases (show j = 0 ∨ j = 1 ∨ j = 2 ∨ j = 3 ∨ j = 4 ∨ j = 5 ∨ j = 6 ∨ j = 7 by omega) with rfl | rfl | rfl | rfl | rfl | rfl | rfl | rfl <;> rfl
theorem zh_iaload (hC : zCx p s m args meth c cc nL own D kk A g ini top) (hE : zEv g E)  (hd : decode cc pc = .ok (.iaload, 1)) (hs : zs_iald E top al st h = .inl (al', st', h')) (k : zWn p l e R s m args below meth c Q D kk A g ad0 nL n0 m0 (pc + 1) al' st' h') : zWn p l e R s m args below meth c Q D kk A g ad0 nL n0 m0 pc al st h := by
  unfold zs_iald at hs
  split at hs
  · rename_i i0 r0 st0
    unfold zpu at hs
    split at hs
    · rename_i a0 hr
      cases hs
      intro ls sv H locs ⟨ws, lv, hh, hl, hL, hF, hP, hD, hS⟩
      obtain ⟨w, vs, rfl, hVi, hF1⟩ := zVs_cons hF
      obtain ⟨w2, vs, rfl, hVr, hF2⟩ := zVs_cons hF1
      obtain ⟨q, hq, rfl⟩ := hVr
      obtain ⟨k9, n9, d9, ov9, x, j9, hget, hks, rfl, hx, hj, ha⟩ := zld_ok hE hr hVi
      obtain ⟨q1, e1, hw1, hc1⟩ := hh.2 _ _ hget
      cases zat hq hw1
      subst ha
      have e9 : k9 = 0 := Nat.eq_of_beq_eq_true hks
      subst e9
      rcases hc1 with ⟨h1, f, rfl, hf⟩ | ⟨h1, f, rfl, hf⟩ | ⟨h1, h1b, f, rfl, hf⟩
      · exact va_iald hC.1 hC.2.1 hC.2.2.2.2.2.1 hP _ 0 hw1 rfl (zvin hx hj) hd (k ls _ H locs ⟨ws, lv, hh, hl, hL, ⟨by rw [zclamp hx]; exact hf _ hj, hF2⟩, hP, hD, hS⟩)
      · omega
      · omega
    · cases hs
  · rename_i i0 st0
    cases ht : top with
    | false => rw [ht] at hs; cases hs
    | true =>
      rw [ht] at hs
      have hs : (match zix E i0 5 with | .inl j => zgo al (.inr (.inl j) :: st0) h | .inr q => zno q) = .inl (al', st', h') := hs
      split at hs
      · rename_i j hj
        cases hs
        intro ls sv H locs ⟨ws, lv, hh, hl, hL, hF, hP, hD, hS⟩
        obtain ⟨w, vs, rfl, hVi, hF1⟩ := zVs_cons hF
        obtain ⟨w2, vs, rfl, hVr, hF2⟩ := zVs_cons hF1
        have hVr : w2 = .ref g.1 := hVr
        subst hVr
        obtain ⟨x, rfl, h1, h2⟩ := zix_ok hE hj hVi
        obtain ⟨hX, hbl, hbA⟩ := hC.2.2.2.2.2.2.2.2.2 ht
        exact va_sld hC.1 hC.2.1 hX hbl hbA hS (zvin h1 h2) hd (k ls _ H locs ⟨ws, lv, hh, hl, hL, ⟨by rw [zclamp h1]; rfl, hF2⟩, hP, hD, hS⟩)
      · cases hs
  · rename_i i0 k0 st0
    cases hz0 : Nat.ble k0 1 with
    | false => rw [hz0] at hs; cases hs
    | true =>
     rw [hz0] at hs
     have hs : (match zix E i0 8 with | .inl j => zgo al (zk ((ztb k0).getD j 0) :: st0) h | .inr q => zno q) = .inl (al', st', h') := hs
     have hk0 : k0 ≤ 1 := Nat.le_of_ble_eq_true hz0
     split at hs
     · rename_i j hj
       cases hs
       intro ls sv H locs ⟨ws, lv, hh, hl, hL, hF, hP, hD, hS⟩
       obtain ⟨w, vs, rfl, hVi, hF1⟩ := zVs_cons hF
       obtain ⟨w2, vs, rfl, hVr, hF2⟩ := zVs_cons hF1
       have hVr : w2 = .ref (g.2.1 k0) := hVr
       subst hVr
       obtain ⟨x, rfl, h1, h2⟩ := zix_ok hE hj hVi
       obtain ⟨-, -, -, ⟨-, hT0⟩, -, hT1⟩ := hC.2.2.2.2.2.2.2.1
       rcases (show k0 = 0 ∨ k0 = 1 by omega) with rfl | rfl
       · exact va_ti hC.1 hC.2.1 hT0 hS (zvin h1 h2) rfl hd (k ls _ H locs ⟨ws, lv, hh, hl, hL, ⟨by rw [zclamp h1]; exact zV_k (ztb_rng 0 (Or.inl rfl) h2), hF2⟩, hP, hD, hS⟩)
       · exact va_ti hC.1 hC.2.1 hT1 hS (zvin h1 h2) rfl hd (k ls _ H locs ⟨ws, lv, hh, hl, hL, ⟨by rw [zclamp h1]; exact zV_k (ztb_rng 1 (Or.inr rfl) h2), hF2⟩, hP, hD, hS⟩)
     · cases hs
  · cases hs
theorem zupd {f : Nat → Int32} {j : Nat} {x : Int32} (i : Nat) : upd f j x i = if i = j then x else f i := rfl
theorem zh_iastore (hC : zCx p s m args meth c cc nL own D kk A g ini top) (hE : zEv g E)  (hd : decode cc pc = .ok (.iastore, 1)) (hs : zs_iast E top al st h = .inl (al', st', h')) (k : zWn p l e R s m args below meth c Q D kk A g ad0 nL n0 m0 (pc + 1) al' st' h') : zWn p l e R s m args below meth c Q D kk A g ad0 nL n0 m0 pc al st h := by
  unfold zs_iast at hs
  split at hs
  · rename_i v0 i0 r0 st0
    cases hz : zint v0 with
    | false => rw [hz] at hs; cases hs
    | true =>
      rw [hz] at hs
      have hs : (match zgt h r0 with
        | some (.inr (k, n, d, ov)) => bif Nat.beq k 0 then (match zix E i0 n with
          | .inl j => zgo al st0 (zsc h r0 (.inr (k, n, d, (j, v0) :: ov)))
          | .inr q => match zir E i0 n with
            | some _ => zgo al st0 (zsc h r0 (.inr (k, n, .inl zz, [])))
            | none => zno q) else zno (955, 2)
        | _ => zno (955, 1)) = .inl (al', st', h') := hs
      split at hs
      · rename_i k9 n9 d9 ov9 hget
        cases hz2 : Nat.beq k9 0 with
        | false => rw [hz2] at hs; cases hs
        | true =>
          rw [hz2] at hs
          have e9 := Nat.eq_of_beq_eq_true hz2
          subst e9
          have hs : (match zix E i0 n9 with
            | .inl j => zgo al st0 (zsc h r0 (.inr (0, n9, d9, (j, v0) :: ov9)))
            | .inr q => match zir E i0 n9 with
              | some _ => zgo al st0 (zsc h r0 (.inr (0, n9, .inl zz, [])))
              | none => zno q) = .inl (al', st', h') := hs
          split at hs
          · rename_i j hj
            cases hs
            intro ls sv H locs ⟨ws, lv, hh, hl, hL, hF, hP, hD, hS⟩
            obtain ⟨w0, vs, rfl, hVv, hF1⟩ := zVs_cons hF
            obtain ⟨w, vs, rfl, hVi, hF2⟩ := zVs_cons hF1
            obtain ⟨w2, vs, rfl, hVr, hF3⟩ := zVs_cons hF2
            obtain ⟨q, hq, rfl⟩ := hVr
            obtain ⟨q1, e1, hw1, hc1⟩ := hh.2 _ _ hget
            cases zat hq hw1
            obtain ⟨x, rfl, h1, h2⟩ := zix_ok hE hj hVi
            obtain ⟨y, rfl⟩ := zV_int hz hVv
            rcases hc1 with ⟨h3, f, rfl, hf⟩ | ⟨h3, f, rfl, hf⟩ | ⟨h3, h3b, f, rfl, hf⟩
            · refine va_iast hC.1 hC.2.1 hC.2.2.2.2.2.1 hP hD hS _ 0 hw1 rfl (zvin h1 h2) hd (fun H1 locs1 hP1 hD1 hS1 => k ls _ H1 locs1 (zSt_set hh hl hL hF3 hw1 (Or.inl ⟨h3, _, rfl, fun i hi => ?_⟩) hP1 hD1 hS1))
              rw [zclamp h1, zupd]
              have := zag_set (j := j) hf hVv i hi
              by_cases e9 : i = j
              · rw [if_pos e9] at this ⊢
                exact this
              · rw [if_neg e9] at this ⊢
                exact this
            · omega
            · omega
          · rename_i q0 hq0
            split at hs
            · rename_i lm hlm
              cases hs
              intro ls sv H locs ⟨ws, lv, hh, hl, hL, hF, hP, hD, hS⟩
              obtain ⟨w0, vs, rfl, hVv, hF1⟩ := zVs_cons hF
              obtain ⟨w, vs, rfl, hVi, hF2⟩ := zVs_cons hF1
              obtain ⟨w2, vs, rfl, hVr, hF3⟩ := zVs_cons hF2
              obtain ⟨q, hq, rfl⟩ := hVr
              obtain ⟨q1, e1, hw1, hc1⟩ := hh.2 _ _ hget
              cases zat hq hw1
              obtain ⟨l9, m9⟩ := lm
              obtain ⟨x, j, rfl, h1, h2, -, -⟩ := zir_ok hE hlm hVi
              obtain ⟨y, rfl⟩ := zV_int hz hVv
              rcases hc1 with ⟨h3, f, rfl, hf⟩ | ⟨h3, f, rfl, hf⟩ | ⟨h3, h3b, f, rfl, hf⟩
              · exact va_iast hC.1 hC.2.1 hC.2.2.2.2.2.1 hP hD hS _ 0 hw1 rfl (zvin h1 h2) hd (fun H1 locs1 hP1 hD1 hS1 => k ls _ H1 locs1 (zSt_set hh hl hL hF3 hw1 (Or.inl ⟨h3, _, rfl, fun i hi => zV_z _⟩) hP1 hD1 hS1))
              · omega
              · omega
            · cases hs
      · cases hs
  · cases hs
theorem zsv_ok {ks : Nat → Bool} {cv : Nat → zA → zA} {v i : zA} {r : Nat} {st0 : List zA} (e1 : zsv E al st0 h ks cv v i r = .inl (al', st', h')) : ∃ k n d ov j, zgt h r = some (.inr (k, n, d, ov)) ∧ ks k = true ∧ zix E i n = .inl j ∧ al' = al ∧ st' = st0 ∧ h' = zsc h r (.inr (k, n, d, (j, cv k v) :: ov)) := by
  unfold zsv at e1
  split at e1
  · rename_i k n d ov hget
    cases hz : ks k with
    | false => rw [hz] at e1; cases e1
    | true =>
      rw [hz] at e1
      have e1 : (match zix E i n with
        | .inl j => zgo al st0 (zsc h r (.inr (k, n, d, (j, cv k v) :: ov)))
        | .inr q => zno q) = .inl (al', st', h') := e1
      split at e1
      · rename_i j hj
        cases e1
        exact ⟨k, n, d, ov, j, hget, hz, hj, rfl, rfl, rfl⟩
      · cases e1
  · cases e1
theorem zstore {ad : List Nat} {d a : zA} {ov : List (Nat × zA)} {n j : Nat} {f : Nat → Int32} {y : Int32} (hf : ∀ i, i < n → zV g ad (zag d ov i) (.int (f i))) (ha : zV g ad a (.int y)) : ∀ i, i < n → zV g ad (zag d ((j, a) :: ov) i) (.int (upd f j y i)) := fun i hi => by
  have := zag_set (j := j) hf ha i hi
  rw [zupd]
  by_cases e9 : i = j
  · rw [if_pos e9] at this ⊢
    exact this
  · rw [if_neg e9] at this ⊢
    exact this
theorem zcvb_ok {ad : List Nat} {a : zA} {y : Int32} (ha : zV g ad a (.int y)) : zV g ad (zcvb 3 a) (.int (vp_nar .boolean y)) := by
  unfold zcvb
  split
  · rename_i l0 u0 h9
    cases hz : (zle 0 l0 && zle u0 1) with
    | false => exact zV_z _
    | true =>
      obtain ⟨x, e1, h1, h2⟩ := ha
      cases e1
      simp only [Bool.and_eq_true, zle_iff] at hz
      have h1 : l0 ≤ y.toInt := h1
      have h2 : y.toInt ≤ u0 := h2
      have hx : y = 0 ∨ y = 1 := by
        have e0 : (0 : Int32).toInt = 0 := rfl
        have e1 : (1 : Int32).toInt = 1 := rfl
        rcases (show y.toInt = 0 ∨ y.toInt = 1 by omega) with w | w
        · exact Or.inl ((fa_eq _ _).mpr (by rw [w, e0]))
        · exact Or.inr ((fa_eq _ _).mpr (by rw [w, e1]))
      rcases hx with rfl | rfl
      · exact ⟨_, rfl, h1, h2⟩
      · exact ⟨_, rfl, h1, h2⟩
  · exact zV_z _
theorem zh_castore (hC : zCx p s m args meth c cc nL own D kk A g ini top) (hE : zEv g E)  (hd : decode cc pc = .ok (.castore, 1)) (hs : zs_xast (fun k => Nat.beq k 2) (fun _ _ => .inl zz) E top al st h = .inl (al', st', h')) (k : zWn p l e R s m args below meth c Q D kk A g ad0 nL n0 m0 (pc + 1) al' st' h') : zWn p l e R s m args below meth c Q D kk A g ad0 nL n0 m0 pc al st h := by
  unfold zs_xast at hs
  split at hs
  · rename_i v0 i0 r0 st0
    cases hz : zint v0 with
    | false => rw [hz] at hs; cases hs
    | true =>
      rw [hz] at hs
      have hs : zsv E al st0 h (fun k => Nat.beq k 2) (fun _ _ => .inl zz) v0 i0 r0 = .inl (al', st', h') := hs
      obtain ⟨k9, n9, d9, ov9, j, hget, hks, hj, rfl, rfl, rfl⟩ := zsv_ok hs
      intro ls sv H locs ⟨ws, lv, hh, hl, hL, hF, hP, hD, hS⟩
      obtain ⟨w0, vs, rfl, hVv, hF1⟩ := zVs_cons hF
      obtain ⟨w, vs, rfl, hVi, hF2⟩ := zVs_cons hF1
      obtain ⟨w2, vs, rfl, hVr, hF3⟩ := zVs_cons hF2
      obtain ⟨q, hq, rfl⟩ := hVr
      obtain ⟨q1, e1, hw1, hc1⟩ := hh.2 _ _ hget
      cases zat hq hw1
      obtain ⟨x, rfl, h1, h2⟩ := zix_ok hE hj hVi
      obtain ⟨y, rfl⟩ := zV_int hz hVv
      have e9 : k9 = 2 := Nat.eq_of_beq_eq_true hks
      subst e9
      rcases hc1 with ⟨h3, f, rfl, hf⟩ | ⟨h3, f, rfl, hf⟩ | ⟨h3, h3b, f, rfl, hf⟩
      · exact va_cast hC.1 hC.2.1 hC.2.2.2.2.2.1 hP hD hS _ 2 hw1 rfl (zvin h1 h2) hd (fun H1 locs1 hP1 hD1 hS1 => k ls _ H1 locs1 (zSt_set hh hl hL hF3 hw1 (Or.inl ⟨h3, _, rfl, by rw [zclamp h1]; exact zstore hf (zV_z _)⟩) hP1 hD1 hS1))
      · omega
      · omega
  · cases hs
theorem zh_bastore (hC : zCx p s m args meth c cc nL own D kk A g ini top) (hE : zEv g E)  (hd : decode cc pc = .ok (.bastore, 1)) (hs : zs_xast (fun k => Nat.beq k 1 || Nat.beq k 3) (zcvb) E top al st h = .inl (al', st', h')) (k : zWn p l e R s m args below meth c Q D kk A g ad0 nL n0 m0 (pc + 1) al' st' h') : zWn p l e R s m args below meth c Q D kk A g ad0 nL n0 m0 pc al st h := by
  unfold zs_xast at hs
  split at hs
  · rename_i v0 i0 r0 st0
    cases hz : zint v0 with
    | false => rw [hz] at hs; cases hs
    | true =>
      rw [hz] at hs
      have hs : zsv E al st0 h (fun k => Nat.beq k 1 || Nat.beq k 3) (zcvb) v0 i0 r0 = .inl (al', st', h') := hs
      obtain ⟨k9, n9, d9, ov9, j, hget, hks, hj, rfl, rfl, rfl⟩ := zsv_ok hs
      intro ls sv H locs ⟨ws, lv, hh, hl, hL, hF, hP, hD, hS⟩
      obtain ⟨w0, vs, rfl, hVv, hF1⟩ := zVs_cons hF
      obtain ⟨w, vs, rfl, hVi, hF2⟩ := zVs_cons hF1
      obtain ⟨w2, vs, rfl, hVr, hF3⟩ := zVs_cons hF2
      obtain ⟨q, hq, rfl⟩ := hVr
      obtain ⟨q1, e1, hw1, hc1⟩ := hh.2 _ _ hget
      cases zat hq hw1
      obtain ⟨x, rfl, h1, h2⟩ := zix_ok hE hj hVi
      obtain ⟨y, rfl⟩ := zV_int hz hVv
      rw [Bool.or_eq_true] at hks
      rcases hc1 with ⟨h3, f, rfl, hf⟩ | ⟨h3, f, rfl, hf⟩ | ⟨h3, h3b, f, rfl, hf⟩
      · rcases hks with h9 | h9
        · have e9 : k9 = 1 := Nat.eq_of_beq_eq_true h9
          subst e9
          exact va_bast hC.1 hC.2.1 hC.2.2.2.2.2.1 hP hD hS _ 1 hw1 rfl (zvin h1 h2) hd (fun H1 locs1 hP1 hD1 hS1 => k ls _ H1 locs1 (zSt_set hh hl hL hF3 hw1 (Or.inl ⟨h3, _, rfl, by rw [zclamp h1]; exact zstore hf (zV_z _)⟩) hP1 hD1 hS1))
        · have e9 : k9 = 3 := Nat.eq_of_beq_eq_true h9
          subst e9
          exact va_zast hC.1 hC.2.1 hC.2.2.2.2.2.1 hP hD hS _ 3 hw1 rfl (zvin h1 h2) hd (fun H1 locs1 hP1 hD1 hS1 => k ls _ H1 locs1 (zSt_set hh hl hL hF3 hw1 (Or.inl ⟨h3, _, rfl, by rw [zclamp h1]; exact zstore hf (zcvb_ok hVv)⟩) hP1 hD1 hS1))
      · rcases hks with h9 | h9
        · have e9 : k9 = 1 := Nat.eq_of_beq_eq_true h9
          omega
        · have e9 : k9 = 3 := Nat.eq_of_beq_eq_true h9
          omega
      · rcases hks with h9 | h9
        · have e9 : k9 = 1 := Nat.eq_of_beq_eq_true h9
          omega
        · have e9 : k9 = 3 := Nat.eq_of_beq_eq_true h9
          omega
  · cases hs
theorem zh_aastore (hC : zCx p s m args meth c cc nL own D kk A g ini top) (hE : zEv g E)  (hd : decode cc pc = .ok (.aastore, 1)) (hs : zs_aast E top al st h = .inl (al', st', h')) (k : zWn p l e R s m args below meth c Q D kk A g ad0 nL n0 m0 (pc + 1) al' st' h') : zWn p l e R s m args below meth c Q D kk A g ad0 nL n0 m0 pc al st h := by
  unfold zs_aast at hs
  split at hs
  · rename_i w9 i0 r0 st0
    split at hs
    · rename_i ci fs hgw
      obtain ⟨k9, n9, d9, ov9, j, hget, hks, hj, rfl, rfl, rfl⟩ := zsv_ok hs
      intro ls sv H locs ⟨ws, lv, hh, hl, hL, hF, hP, hD, hS⟩
      obtain ⟨w0, vs, rfl, hVv, hF1⟩ := zVs_cons hF
      obtain ⟨w, vs, rfl, hVi, hF2⟩ := zVs_cons hF1
      obtain ⟨w2, vs, rfl, hVr, hF3⟩ := zVs_cons hF2
      obtain ⟨q, hq, rfl⟩ := hVr
      obtain ⟨q1, e1, hw1, hc1⟩ := hh.2 _ _ hget
      cases zat hq hw1
      obtain ⟨x, rfl, h1, h2⟩ := zix_ok hE hj hVi
      obtain ⟨qv, hqv, rfl⟩ := id hVv
      obtain ⟨qv1, ev, hwv, hcv⟩ := hh.2 _ _ hgw
      cases zat hqv hwv
      obtain ⟨vsv, rfl, -, -⟩ := hcv
      rw [Bool.or_eq_true, Bool.and_eq_true, Bool.and_eq_true] at hks
      have hst : ∀ f : Nat → Option Nat, (∀ i, i < n9 → zV g (ws.map (·.1)) (zag d9 ov9 i) (va_rf (f i))) → ∀ i, i < n9 → zV g (ws.map (·.1)) (zag d9 ((j, zrf w9) :: ov9) i) (va_rf (va_up f j (some qv) i)) := fun f hf i hi => by
        have := zag_set (j := j) hf hVv i hi
        unfold va_up
        by_cases e9 : i = j
        · rw [if_pos e9] at this ⊢
          exact this
        · rw [if_neg e9] at this ⊢
          exact this
      rcases hc1 with ⟨h3, f, rfl, hf⟩ | ⟨h3, f, rfl, hf⟩ | ⟨h3, h3b, f, rfl, hf⟩
      · rcases hks with ⟨h9, -⟩ | ⟨h9, -⟩
        · have e9 : k9 = 5 := Nat.eq_of_beq_eq_true h9
          omega
        · have e9 : k9 = 6 := Nat.eq_of_beq_eq_true h9
          omega
      · rcases hks with ⟨h9, -⟩ | ⟨h9, -⟩
        · have e9 : k9 = 5 := Nat.eq_of_beq_eq_true h9
          omega
        · have e9 : k9 = 6 := Nat.eq_of_beq_eq_true h9
          omega
      · rcases hks with ⟨h9, h8⟩ | ⟨h9, h8⟩
        · have e9 : k9 = 5 := Nat.eq_of_beq_eq_true h9
          have e8 : ci = 5 := Nat.eq_of_beq_eq_true h8
          subst e9
          subst e8
          exact va_astq hC.1 hC.2.1 hC.2.2.2.2.2.1 hP hD hS _ 5 _ 5 (r := (RX5, TX5, 11)) hw1 rfl hwv rfl (zvin h1 h2) hd (fun H1 locs1 hP1 hD1 hS1 => k ls _ H1 locs1 (zSt_set hh hl hL hF3 hw1 (Or.inr (Or.inr ⟨h3, h3b, _, rfl, by rw [zclamp h1]; exact hst f hf⟩)) hP1 hD1 hS1))
        · have e9 : k9 = 6 := Nat.eq_of_beq_eq_true h9
          have e8 : ci = 1 := Nat.eq_of_beq_eq_true h8
          subst e9
          subst e8
          exact va_astq hC.1 hC.2.1 hC.2.2.2.2.2.1 hP hD hS _ 6 _ 1 (r := (RX1, TX1, 5)) hw1 rfl hwv rfl (zvin h1 h2) hd (fun H1 locs1 hP1 hD1 hS1 => k ls _ H1 locs1 (zSt_set hh hl hL hF3 hw1 (Or.inr (Or.inr ⟨h3, h3b, _, rfl, by rw [zclamp h1]; exact hst f hf⟩)) hP1 hD1 hS1))
    · cases hs
  · cases hs
theorem zh_alen (hC : zCx p s m args meth c cc nL own D kk A g ini top) (hE : zEv g E)  (hd : decode cc pc = .ok (.arraylength, 1)) (hs : zs_alen E top al st h = .inl (al', st', h')) (k : zWn p l e R s m args below meth c Q D kk A g ad0 nL n0 m0 (pc + 1) al' st' h') : zWn p l e R s m args below meth c Q D kk A g ad0 nL n0 m0 pc al st h := by
  unfold zs_alen at hs
  split at hs
  · rename_i r0 st0
    split at hs
    · rename_i k9 n9 x9 hget
      cases hz : Nat.ble n9 1000000 with
      | false => rw [hz] at hs; cases hs
      | true =>
        rw [hz] at hs
        cases hs
        have hn9 : n9 ≤ 1000000 := Nat.le_of_ble_eq_true hz
        intro ls sv H locs ⟨ws, lv, hh, hl, hL, hF, hP, hD, hS⟩
        obtain ⟨w2, vs, rfl, hVr, hF1⟩ := zVs_cons hF
        obtain ⟨q, hq, rfl⟩ := hVr
        obtain ⟨q1, e1, hw1, hc1⟩ := hh.2 _ _ hget
        cases zat hq hw1
        have hv9 : (Int32.ofNat n9).toInt = n9 := nI_toInt (by omega)
        have hty : ∀ k, k ≤ 7 → ∃ ty, (zKs kk)[k]? = some (kk k, ty) := fun k hk => by
          rcases (show k = 0 ∨ k = 1 ∨ k = 2 ∨ k = 3 ∨ k = 4 ∨ k = 5 ∨ k = 6 ∨ k = 7 by omega) with rfl | rfl | rfl | rfl | rfl | rfl | rfl | rfl <;> exact ⟨_, rfl⟩
        rcases hc1 with ⟨h3, f, rfl, hf⟩ | ⟨h3, f, rfl, hf⟩ | ⟨h3, h3b, f, rfl, hf⟩
        · obtain ⟨ty, hty⟩ := hty k9 (by omega)
          exact va_alen hC.1 hC.2.1 hC.2.2.2.2.2.1 hP _ k9 hw1 hty rfl hd (k ls _ H locs ⟨ws, lv, hh, hl, hL, ⟨zV_k hv9, hF1⟩, hP, hD, hS⟩)
        · obtain ⟨ty, hty⟩ := hty k9 (by omega)
          exact va_alen hC.1 hC.2.1 hC.2.2.2.2.2.1 hP _ k9 hw1 hty rfl hd (k ls _ H locs ⟨ws, lv, hh, hl, hL, ⟨zV_k hv9, hF1⟩, hP, hD, hS⟩)
        · obtain ⟨ty, hty⟩ := hty k9 (by omega)
          exact va_alen hC.1 hC.2.1 hC.2.2.2.2.2.1 hP _ k9 hw1 hty rfl hd (k ls _ H locs ⟨ws, lv, hh, hl, hL, ⟨zV_k hv9, hF1⟩, hP, hD, hS⟩)
    · cases hs
  · rename_i st0
    cases ht : top with
    | false => rw [ht] at hs; cases hs
    | true =>
      rw [ht] at hs
      cases hs
      intro ls sv H locs ⟨ws, lv, hh, hl, hL, hF, hP, hD, hS⟩
      obtain ⟨w2, vs, rfl, hVr, hF1⟩ := zVs_cons hF
      have hVr : w2 = .ref g.1 := hVr
      subst hVr
      obtain ⟨hX, hbl, hbA⟩ := hC.2.2.2.2.2.2.2.2.2 ht
      exact va_slen hC.1 hC.2.1 hX hbl hbA hS hd (k ls _ H locs ⟨ws, lv, hh, hl, hL, ⟨zV_k rfl, hF1⟩, hP, hD, hS⟩)
  · cases hs
theorem zh_gets (hC : zCx p s m args meth c cc nL own D kk A g ini top) (hE : zEv g E) {i r1 : Nat} {nm : String} (hnm : (r1 = 0 ∧ nm = "ABOVE") ∨ (r1 = 1 ∧ nm = "MARKS")) (hw : Jvm.Cond.fieldLink own i "LetterDebts" nm "[I" ∈ zW) (hd : decode cc pc = .ok (.getstatic i, 3)) (hs : zs_gets r1 E top al st h = .inl (al', st', h')) (k : zWn p l e R s m args below meth c Q D kk A g ad0 nL n0 m0 (pc + 3) al' st' h') : zWn p l e R s m args below meth c Q D kk A g ad0 nL n0 m0 pc al st h := by
  unfold zs_gets at hs
  cases hz : Nat.ble r1 1 with
  | false => rw [hz] at hs; cases hs
  | true =>
    rw [hz] at hs
    cases hs
    intro ls sv H locs ⟨ws, lv, hh, hl, hL, hF, hP, hD, hS⟩
    obtain ⟨-, -, -, ⟨hZ0, -⟩, hZ1, -⟩ := hC.2.2.2.2.2.2.2.1
    rcases hnm with ⟨rfl, rfl⟩ | ⟨rfl, rfl⟩
    · exact va_gets hC.1 hC.2.1 hZ0 hS hC.2.2.2.1 (hC.2.2.2.2.1 _ hw) (fun _ h9 => h9) hd (k ls _ H locs ⟨ws, lv, hh, hl, hL, ⟨rfl, hF⟩, hP, hD, hS⟩)
    · exact va_gets hC.1 hC.2.1 hZ1 hS hC.2.2.2.1 (hC.2.2.2.2.1 _ hw) (fun _ h9 => h9) hd (k ls _ H locs ⟨ws, lv, hh, hl, hL, ⟨rfl, hF⟩, hP, hD, hS⟩)
theorem zV_mx {ad : List Nat} {a b r : zA} {v w : Value} (hE : zEv g E) (e9 : zmx E a b = .inl r) (h1 : zV g ad a v) (h2 : zV g ad b w) : ∃ x y : Int32, v = .int x ∧ w = .int y ∧ zV g ad r (.int (if x < y then y else x)) := by
  unfold zmx at e9
  split at e9
  · rename_i p q hp hq
    cases e9
    obtain ⟨x, rfl, h3, h4⟩ := zV_iv hE hp h1
    obtain ⟨y, rfl, h5, h6⟩ := zV_iv hE hq h2
    refine ⟨x, y, rfl, rfl, _, rfl, ?_, ?_⟩
    · show (bif zle p.1 q.1 then q.1 else p.1) ≤ _
      by_cases hc : x < y
      · rw [if_pos hc]
        have := (fa_lt _ _).mp hc
        cases hz : zle p.1 q.1 with
        | true => exact h5
        | false => show p.1 ≤ _; omega
      · rw [if_neg hc]
        have : ¬ x.toInt < y.toInt := fun q => hc ((fa_lt _ _).mpr q)
        cases hz : zle p.1 q.1 with
        | true => show q.1 ≤ _; omega
        | false => exact h3
    · show _ ≤ (bif zle p.2 q.2 then q.2 else p.2)
      by_cases hc : x < y
      · rw [if_pos hc]
        cases hz : zle p.2 q.2 with
        | true => exact h6
        | false =>
          have : ¬ p.2 ≤ q.2 := fun w => by rw [zle_iff.mpr w] at hz; cases hz
          show _ ≤ p.2
          omega
      · rw [if_neg hc]
        cases hz : zle p.2 q.2 with
        | true =>
          have := zle_iff.mp hz
          show _ ≤ q.2
          omega
        | false => exact h4
  · cases e9
theorem zV_mn {ad : List Nat} {a b r : zA} {v w : Value} (hE : zEv g E) (e9 : zmn E a b = .inl r) (h1 : zV g ad a v) (h2 : zV g ad b w) : ∃ x y : Int32, v = .int x ∧ w = .int y ∧ zV g ad r (.int (if y < x then y else x)) := by
  unfold zmn at e9
  split at e9
  · rename_i p q hp hq
    cases e9
    obtain ⟨x, rfl, h3, h4⟩ := zV_iv hE hp h1
    obtain ⟨y, rfl, h5, h6⟩ := zV_iv hE hq h2
    refine ⟨x, y, rfl, rfl, _, rfl, ?_, ?_⟩
    · show (bif zle p.1 q.1 then p.1 else q.1) ≤ _
      by_cases hc : y < x
      · rw [if_pos hc]
        cases hz : zle p.1 q.1 with
        | true =>
          have := zle_iff.mp hz
          show p.1 ≤ _
          omega
        | false => exact h5
      · rw [if_neg hc]
        cases hz : zle p.1 q.1 with
        | true => exact h3
        | false =>
          have : ¬ p.1 ≤ q.1 := fun w => by rw [zle_iff.mpr w] at hz; cases hz
          show q.1 ≤ _
          omega
    · show _ ≤ (bif zle p.2 q.2 then p.2 else q.2)
      by_cases hc : y < x
      · rw [if_pos hc]
        have := (fa_lt _ _).mp hc
        cases hz : zle p.2 q.2 with
        | true => show _ ≤ p.2; omega
        | false => exact h6
      · rw [if_neg hc]
        have : ¬ y.toInt < x.toInt := fun q => hc ((fa_lt _ _).mpr q)
        cases hz : zle p.2 q.2 with
        | true => exact h4
        | false => show _ ≤ q.2; omega
  · cases e9
theorem zh_mmax (hC : zCx p s m args meth c cc nL own D kk A g ini top) (hE : zEv g E) {i : Nat} (hw1 : Jvm.Cond.methodLink own i Lib.Math.max.name ∈ zW) (hw2 : Jvm.Cond.static Lib.Math.max.name ∈ zW) (hw3 : Jvm.Cond.initialized "java/lang/Math" ∈ zW) (hw4 : Jvm.Cond.code Lib.Math.max.name Lib.Math.max.code 2 (some .int) ∈ zW) (hRf : 1 ≤ R.frames) (hRl : 60 ≤ R.locals) (hr1 : h'.1.1 - n0 ≤ R.cells) (hr2 : h'.1.2 - m0 ≤ R.slots) (hd : decode cc pc = .ok (.invokestatic i, 3)) (hs : zs_mm zmx E top al st h = .inl (al', st', h')) (k : zWn p l e R s m args below meth c Q D kk A g ad0 nL n0 m0 (pc + 3) al' st' h') : zWn p l e R s m args below meth c Q D kk A g ad0 nL n0 m0 pc al st h := by
  unfold zs_mm at hs
  split at hs
  · rename_i b0 a0 st0
    cases hz : Nat.ble ((st0.map zca).sum) 8 with
    | false => rw [hz] at hs; cases hs
    | true =>
      rw [hz] at hs
      have hsum : (st0.map zca).sum ≤ 8 := Nat.le_of_ble_eq_true hz
      replace hs : zpu al st0 h (zmx E a0 b0) = .inl (al', st', h') := hs
      unfold zpu at hs
      split at hs
      · rename_i r hr
        cases hs
        intro ls sv H locs ⟨ws, lv, hh, hl, hL, hF, hP, hD, hS⟩
        obtain ⟨w, vs, rfl, hV2, hF1⟩ := zVs_cons hF
        obtain ⟨v, vs, rfl, hV, hF2⟩ := zVs_cons hF1
        obtain ⟨x, y, rfl, rfl, hR⟩ := zV_mx hE hr hV hV2
        exact va_mmax hC.1 hC.2.1 (by rw [hC.2.2.1]; exact hl.1.symm) hC.2.2.2.1 (hC.2.2.2.2.1 _ hw1) (hC.2.2.2.2.1 _ hw2) (hC.2.2.2.2.1 _ hw3) (hC.2.2.2.2.1 _ hw4) hRf (by rw [zVs_cat hF2]; omega) hr1 hr2 hd (k ls _ H locs ⟨ws, lv, hh, hl, hL, ⟨hR, hF2⟩, hP, hD, hS⟩)
      · cases hs
  · cases hs
theorem zh_mmin (hC : zCx p s m args meth c cc nL own D kk A g ini top) (hE : zEv g E) {i : Nat} (hw1 : Jvm.Cond.methodLink own i Lib.Math.min.name ∈ zW) (hw2 : Jvm.Cond.static Lib.Math.min.name ∈ zW) (hw3 : Jvm.Cond.initialized "java/lang/Math" ∈ zW) (hw4 : Jvm.Cond.code Lib.Math.min.name Lib.Math.min.code 2 (some .int) ∈ zW) (hRf : 1 ≤ R.frames) (hRl : 60 ≤ R.locals) (hr1 : h'.1.1 - n0 ≤ R.cells) (hr2 : h'.1.2 - m0 ≤ R.slots) (hd : decode cc pc = .ok (.invokestatic i, 3)) (hs : zs_mm zmn E top al st h = .inl (al', st', h')) (k : zWn p l e R s m args below meth c Q D kk A g ad0 nL n0 m0 (pc + 3) al' st' h') : zWn p l e R s m args below meth c Q D kk A g ad0 nL n0 m0 pc al st h := by
  unfold zs_mm at hs
  split at hs
  · rename_i b0 a0 st0
    cases hz : Nat.ble ((st0.map zca).sum) 8 with
    | false => rw [hz] at hs; cases hs
    | true =>
      rw [hz] at hs
      have hsum : (st0.map zca).sum ≤ 8 := Nat.le_of_ble_eq_true hz
      replace hs : zpu al st0 h (zmn E a0 b0) = .inl (al', st', h') := hs
      unfold zpu at hs
      split at hs
      · rename_i r hr
        cases hs
        intro ls sv H locs ⟨ws, lv, hh, hl, hL, hF, hP, hD, hS⟩
        obtain ⟨w, vs, rfl, hV2, hF1⟩ := zVs_cons hF
        obtain ⟨v, vs, rfl, hV, hF2⟩ := zVs_cons hF1
        obtain ⟨x, y, rfl, rfl, hR⟩ := zV_mn hE hr hV hV2
        exact va_mmin hC.1 hC.2.1 (by rw [hC.2.2.1]; exact hl.1.symm) hC.2.2.2.1 (hC.2.2.2.2.1 _ hw1) (hC.2.2.2.2.1 _ hw2) (hC.2.2.2.2.1 _ hw3) (hC.2.2.2.2.1 _ hw4) hRf (by rw [zVs_cat hF2]; omega) hr1 hr2 hd (k ls _ H locs ⟨ws, lv, hh, hl, hL, ⟨hR, hF2⟩, hP, hD, hS⟩)
      · cases hs
  · cases hs
end ZP
end
section
section ZN
variable {p : Program} {l : Launch} {e : Env} {R : Room} {s : State} {m : MethodId} {args : Array Value} {below : List Frame} {meth : Method} {c : Code} {Q : State → Prop} {D : va_G} {kk : Nat → ClassId} {A : Nat → Prop} {g : zG} {ad0 : List Nat} {nL n0 m0 : Nat} {cc : ByteArray} {own : String} {ini top : Bool} {E : zE} {pc : Nat} {al al' : zL} {st st' : List zA} {h h' : zH}
/-- types that the classes' fields have -/
noncomputable def ztok : FieldType → Bool
  | .int => true
  | .boolean => true
  | .long => true
  | .object _ => true
  | .array _ => true
  | _ => false
noncomputable def zfsk (ci k : Nat) : Bool := ztok (zty ci k) && (match zg (zfs ci, []) k with
  | some a => zqA a (zdf (zty ci k))
  | none => false)
set_option maxRecDepth 100000 in
theorem zfsk_ok : ∀ ci, ci < 11 → ∀ k, k < zN ci → zfsk ci k = true := by decide +kernel
theorem zdf_ok {ad : List Nat} : ∀ {t : FieldType}, ztok t = true → zV g ad (zdf t) (defaultValue t)
  | .int, _ => zV_k rfl
  | .boolean, _ => zV_k rfl
  | .long, _ => zV_lg (fun c hc => by cases hc; rfl)
  | .object _, _ => rfl
  | .array _, _ => rfl
  | .byte, h => by cases h
  | .char, h => by cases h
  | .short, h => by cases h
  | .float, h => by cases h
  | .double, h => by cases h
theorem zfs_ok {ad : List Nat} {ci k : Nat} {a : zA} (hci : ci < 11) (hk : k < zN ci) (ha : zg (zfs ci, []) k = some a) : zV g ad a (defaultValue (zty ci k)) := by
  have h := zfsk_ok ci hci k hk
  unfold zfsk at h
  rw [ha, Bool.and_eq_true] at h
  have e : a = zdf (zty ci k) := zqA_eq h.2
  rw [e]
  exact zdf_ok h.1
theorem zSt_push {q n : Nat} {e1 : va_E} {c1 : zC} {ws : va_W} {lv : List (Nat × Value)} {ls : Array Slot} {sv : List Value} {H1 : Heap} {locs1 : List Loc} (hh : zHr g kk ad0 h ws) (hl : lv_has ls nL lv) (hL : zLs g (ws.map (·.1)) al lv) (hF : zVs g (ws.map (·.1)) st sv) (h2 : zCr g ((ws ++ [(q, e1)]).map (·.1)) kk c1 e1) (hP : va_P D vwCl (ws ++ [(q, e1)]) H1) (hD : va_D A (ws ++ [(q, e1)])) (hS : va_S A s.heap H1 locs1) : zSt s D kk A g ad0 nL al (zrf h.1.1 :: st) (zph h c1 n) ls (.ref q :: sv) H1 locs1 :=
  ⟨ws ++ [(q, e1)], lv, zHr_push hh h2, hl, by rw [List.map_append]; exact zLs_grow _ hL, ⟨⟨q, by rw [← hh.1.1, List.map_append, List.getElem?_append_right (by rw [List.length_map]; exact Nat.le_refl _)]; simp, rfl⟩, by rw [List.map_append]; exact zVs_grow _ hF⟩, hP, hD, hS⟩
theorem zh_new (hC : zCx p s m args meth c cc nL own D kk A g ini top) (hE : zEv g E) {C : String} {T : u_T} {N i r1 : Nat} (hcl : zCl r1 C T N) (hw : Jvm.Cond.classLink own i C ∈ zW) (h0 : n0 ≤ h.1.1) (h1 : m0 ≤ h.1.2) (hr1 : h'.1.1 - n0 ≤ R.cells) (hr2 : h'.1.2 - m0 ≤ R.slots) (hd : decode cc pc = .ok (.new i, 3)) (hs : zs_new r1 E top al st h = .inl (al', st', h')) (k : zWn p l e R s m args below meth c Q D kk A g ad0 nL n0 m0 (pc + 3) al' st' h') : zWn p l e R s m args below meth c Q D kk A g ad0 nL n0 m0 pc al st h := by
  unfold zs_new at hs
  cases hz : Nat.ble r1 10 with
  | false => rw [hz] at hs; cases hs
  | true =>
    rw [hz] at hs
    cases hs
    have hci : r1 < 11 := by
      have : r1 ≤ 10 := Nat.le_of_ble_eq_true hz
      omega
    have e1 : (zph h (.inl (r1, zfs r1, [])) (zN r1)).1.1 - n0 = h.1.1 - n0 + 1 := by show h.1.1 + 1 - n0 = _; omega
    have e2 : (zph h (.inl (r1, zfs r1, [])) (zN r1)).1.2 - m0 = h.1.2 - m0 + N := by show h.1.2 + zN r1 - m0 = _; rw [hcl.2.1]; omega
    rw [e1] at hr1
    rw [e2] at hr2
    intro ls sv H locs ⟨ws, lv, hh, hl, hL, hF, hP, hD, hS⟩
    refine va_new (ci := r1) (fs := (List.range N).map (fun j => defaultValue (zty r1 j))) (C := C) (T := T) (N := N) hC.1 hC.2.1 hC.2.2.2.2.1 hcl.2.2.1 (zty r1) hcl.2.2.2.1 hC.2.2.2.1 (hC.2.2.2.2.1 _ hw) (hC.2.2.2.2.1 _ hcl.2.2.2.2.2.1) (hC.2.2.2.2.1 _ hcl.2.2.2.2.2.2) hC.2.2.2.2.2.1 hP hD hS hC.2.2.2.2.2.2.1 hcl.1 (fun j hj => ?_) hr1 hr2 hd (fun q H1 hP1 hD1 hS1 => ?_)
    · unfold vp_V
      rw [List.getD_eq_getElem?_getD, List.getElem?_map, List.getElem?_range hj]
      rfl
    · have := k ls (.ref q :: sv) H1 locs (zSt_push (n := zN r1) hh hl hL hF ⟨_, rfl, by rw [List.length_map, List.length_range, hcl.2.1], fun k0 a0 hk0 ha0 => ⟨defaultValue (zty r1 k0), by rw [List.getElem?_map, List.getElem?_range (by rw [hcl.2.1]; exact hk0)]; rfl, zfs_ok hci hk0 ha0⟩⟩ hP1 hD1 hS1)
      rw [e1, e2] at this
      exact this
theorem zRA {a b : ClassId} {ty : FieldType} {U : State} (ht : ty = .int ∨ ty = .byte ∨ ty = .char ∨ ty = .boolean ∨ ty = .long ∨ ty = .array .int) (h1 : va_RA U a ty) (h2 : va_RA U b ty) : a = b := by
  rcases ht with rfl | rfl | rfl | rfl | rfl | rfl <;> exact Option.some.inj (h1.symm.trans h2)
theorem zRO {a b : ClassId} {C : String} {U : State} (h1 : va_RA U a (.object C)) (h2 : va_RA U b (.object C)) : a = b := by
  obtain ⟨_, _, _, _, _, h3⟩ := h1
  obtain ⟨_, _, _, _, _, h4⟩ := h2
  exact Option.some.inj (h3.symm.trans h4)
theorem zag_nil (d : zA) (j : Nat) : zag d [] j = d := rfl
theorem zh_newa (hC : zCx p s m args meth c cc nL own D kk A g ini top) (hE : zEv g E) {t : ArrayType} (hw : ∀ ty : FieldType, (ty = .int ∨ ty = .byte ∨ ty = .char ∨ ty = .boolean ∨ ty = .long) → Jvm.Cond.arrayClass ty ∈ zW) (h0 : n0 ≤ h.1.1) (h1 : m0 ≤ h.1.2) (hr1 : h'.1.1 - n0 ≤ R.cells) (hr2 : h'.1.2 - m0 ≤ R.slots) (hd : decode cc pc = .ok (.newarray t, 2)) (hs : zs_newa t E top al st h = .inl (al', st', h')) (k : zWn p l e R s m args below meth c Q D kk A g ad0 nL n0 m0 (pc + 2) al' st' h') : zWn p l e R s m args below meth c Q D kk A g ad0 nL n0 m0 pc al st h := by
  unfold zs_newa at hs
  split at hs
  · rename_i a0 st0
    split at hs
    · rename_i n9 k9 hn hk
      cases hz : Nat.ble n9 1000000 with
      | false => rw [hz] at hs; cases hs
      | true =>
      rw [hz] at hs
      cases hs
      have hn9 : n9 ≤ 1000000 := Nat.le_of_ble_eq_true hz
      have e1 : h.1.1 + 1 - n0 = h.1.1 - n0 + 1 := by omega
      have e2 : h.1.2 + n9 - m0 = h.1.2 - m0 + n9 := by omega
      have hR1 : h.1.1 - n0 + 1 ≤ R.cells := by rw [← e1]; exact hr1
      have hR2 : h.1.2 - m0 + n9 ≤ R.slots := by rw [← e2]; exact hr2
      have k : zWn p l e R s m args below meth c Q D kk A g ad0 nL n0 m0 (pc + 2) al (zrf h.1.1 :: st0) (zph h (.inr (k9, n9, (bif Nat.beq k9 4 then zlg (some 0) else zk 0), [])) n9) := k
      unfold zWn at k
      simp only [zph] at k
      cases t with
      | int =>
        cases hk
        intro ls sv H locs ⟨ws, lv, hh, hl, hL, hF, hP, hD, hS⟩
        obtain ⟨w, vs, rfl, hVi, hF1⟩ := zVs_cons hF
        obtain ⟨x, rfl, hx⟩ := zV_cn hE hn hVi
        refine va_newa (atype := .int) (ty := .int) (a0 := (n9, .inl (fun _ => 0))) hC.1 hC.2.1 (hC.2.2.2.2.1 _ (hw .int (by decide))) rfl hC.2.2.2.2.2.1 hP hD hS hC.2.2.2.2.2.2.1 (fun _ => rfl) (fun h9 => by have := (fa_lt _ _).mp h9; have e0 : (0 : Int32).toInt = 0 := rfl; have hx : x.toInt = ((n9 : Nat) : Int) := hx; omega) (zclamp hx) (by show n9 * _ ≤ _; simp only [componentBytes]; omega) hR1 hR2 hd (fun q cA H1 hK1 hP1 hD1 hS1 => ?_)
        have ec : cA = kk 0 := zRA (ty := .int) (by decide) (hK1.2 8 (cA, .int) rfl).2 (hC.2.2.2.2.2.1.2 0 _ rfl).2
        subst ec
        have := k ls _ H1 locs (zSt_push (n := n9) hh hl hL hF1 (Or.inl ⟨by decide, _, rfl, fun j hj => zV_k rfl⟩) hP1 hD1 hS1)
        rw [e1, e2] at this
        exact this
      | byte =>
        cases hk
        intro ls sv H locs ⟨ws, lv, hh, hl, hL, hF, hP, hD, hS⟩
        obtain ⟨w, vs, rfl, hVi, hF1⟩ := zVs_cons hF
        obtain ⟨x, rfl, hx⟩ := zV_cn hE hn hVi
        refine va_newa (atype := .byte) (ty := .byte) (a0 := (n9, .inl (fun _ => 0))) hC.1 hC.2.1 (hC.2.2.2.2.1 _ (hw .byte (by decide))) rfl hC.2.2.2.2.2.1 hP hD hS hC.2.2.2.2.2.2.1 (fun _ => rfl) (fun h9 => by have := (fa_lt _ _).mp h9; have e0 : (0 : Int32).toInt = 0 := rfl; have hx : x.toInt = ((n9 : Nat) : Int) := hx; omega) (zclamp hx) (by show n9 * _ ≤ _; simp only [componentBytes]; omega) hR1 hR2 hd (fun q cA H1 hK1 hP1 hD1 hS1 => ?_)
        have ec : cA = kk 1 := zRA (ty := .byte) (by decide) (hK1.2 8 (cA, .byte) rfl).2 (hC.2.2.2.2.2.1.2 1 _ rfl).2
        subst ec
        have := k ls _ H1 locs (zSt_push (n := n9) hh hl hL hF1 (Or.inl ⟨by decide, _, rfl, fun j hj => zV_k rfl⟩) hP1 hD1 hS1)
        rw [e1, e2] at this
        exact this
      | char =>
        cases hk
        intro ls sv H locs ⟨ws, lv, hh, hl, hL, hF, hP, hD, hS⟩
        obtain ⟨w, vs, rfl, hVi, hF1⟩ := zVs_cons hF
        obtain ⟨x, rfl, hx⟩ := zV_cn hE hn hVi
        refine va_newa (atype := .char) (ty := .char) (a0 := (n9, .inl (fun _ => 0))) hC.1 hC.2.1 (hC.2.2.2.2.1 _ (hw .char (by decide))) rfl hC.2.2.2.2.2.1 hP hD hS hC.2.2.2.2.2.2.1 (fun _ => rfl) (fun h9 => by have := (fa_lt _ _).mp h9; have e0 : (0 : Int32).toInt = 0 := rfl; have hx : x.toInt = ((n9 : Nat) : Int) := hx; omega) (zclamp hx) (by show n9 * _ ≤ _; simp only [componentBytes]; omega) hR1 hR2 hd (fun q cA H1 hK1 hP1 hD1 hS1 => ?_)
        have ec : cA = kk 2 := zRA (ty := .char) (by decide) (hK1.2 8 (cA, .char) rfl).2 (hC.2.2.2.2.2.1.2 2 _ rfl).2
        subst ec
        have := k ls _ H1 locs (zSt_push (n := n9) hh hl hL hF1 (Or.inl ⟨by decide, _, rfl, fun j hj => zV_k rfl⟩) hP1 hD1 hS1)
        rw [e1, e2] at this
        exact this
      | boolean =>
        cases hk
        intro ls sv H locs ⟨ws, lv, hh, hl, hL, hF, hP, hD, hS⟩
        obtain ⟨w, vs, rfl, hVi, hF1⟩ := zVs_cons hF
        obtain ⟨x, rfl, hx⟩ := zV_cn hE hn hVi
        refine va_newa (atype := .boolean) (ty := .boolean) (a0 := (n9, .inl (fun _ => 0))) hC.1 hC.2.1 (hC.2.2.2.2.1 _ (hw .boolean (by decide))) rfl hC.2.2.2.2.2.1 hP hD hS hC.2.2.2.2.2.2.1 (fun _ => rfl) (fun h9 => by have := (fa_lt _ _).mp h9; have e0 : (0 : Int32).toInt = 0 := rfl; have hx : x.toInt = ((n9 : Nat) : Int) := hx; omega) (zclamp hx) (by show n9 * _ ≤ _; simp only [componentBytes]; omega) hR1 hR2 hd (fun q cA H1 hK1 hP1 hD1 hS1 => ?_)
        have ec : cA = kk 3 := zRA (ty := .boolean) (by decide) (hK1.2 8 (cA, .boolean) rfl).2 (hC.2.2.2.2.2.1.2 3 _ rfl).2
        subst ec
        have := k ls _ H1 locs (zSt_push (n := n9) hh hl hL hF1 (Or.inl ⟨by decide, _, rfl, fun j hj => zV_k rfl⟩) hP1 hD1 hS1)
        rw [e1, e2] at this
        exact this
      | long =>
        cases hk
        intro ls sv H locs ⟨ws, lv, hh, hl, hL, hF, hP, hD, hS⟩
        obtain ⟨w, vs, rfl, hVi, hF1⟩ := zVs_cons hF
        obtain ⟨x, rfl, hx⟩ := zV_cn hE hn hVi
        refine va_newa (atype := .long) (ty := .long) (a0 := (n9, .inr (.inl (fun _ => 0)))) hC.1 hC.2.1 (hC.2.2.2.2.1 _ (hw .long (by decide))) rfl hC.2.2.2.2.2.1 hP hD hS hC.2.2.2.2.2.2.1 (fun _ => rfl) (fun h9 => by have := (fa_lt _ _).mp h9; have e0 : (0 : Int32).toInt = 0 := rfl; have hx : x.toInt = ((n9 : Nat) : Int) := hx; omega) (zclamp hx) (by show n9 * _ ≤ _; simp only [componentBytes]; omega) hR1 hR2 hd (fun q cA H1 hK1 hP1 hD1 hS1 => ?_)
        have ec : cA = kk 4 := zRA (ty := .long) (by decide) (hK1.2 8 (cA, .long) rfl).2 (hC.2.2.2.2.2.1.2 4 _ rfl).2
        subst ec
        have := k ls _ H1 locs (zSt_push (n := n9) hh hl hL hF1 (Or.inr (Or.inl ⟨rfl, _, rfl, fun j hj => zV_lg (fun _ hc => by cases hc; rfl)⟩)) hP1 hD1 hS1)
        rw [e1, e2] at this
        exact this
      | float => cases hk
      | double => cases hk
      | short => cases hk
    · cases hs
  · cases hs
theorem zh_newq (hC : zCx p s m args meth c cc nL own D kk A g ini top) (hE : zEv g E) {i r1 : Nat} {C : String} (hi : (r1 = 5 ∧ C = RX5) ∨ (r1 = 6 ∧ C = RX1)) (hw : Jvm.Cond.classLink own i C ∈ zW) (h0 : n0 ≤ h.1.1) (h1 : m0 ≤ h.1.2) (hr1 : h'.1.1 - n0 ≤ R.cells) (hr2 : h'.1.2 - m0 ≤ R.slots) (hd : decode cc pc = .ok (.anewarray i, 3)) (hs : zs_newq r1 E top al st h = .inl (al', st', h')) (k : zWn p l e R s m args below meth c Q D kk A g ad0 nL n0 m0 (pc + 3) al' st' h') : zWn p l e R s m args below meth c Q D kk A g ad0 nL n0 m0 pc al st h := by
  unfold zs_newq at hs
  split at hs
  · rename_i a0 st0
    split at hs
    · rename_i n9 hn
      cases hz : (Nat.ble n9 1000000 && (Nat.beq r1 5 || Nat.beq r1 6)) with
      | false => rw [hz] at hs; cases hs
      | true =>
      rw [hz] at hs
      cases hs
      rw [Bool.and_eq_true] at hz
      have hn9 : n9 ≤ 1000000 := Nat.le_of_ble_eq_true hz.1
      have e1 : h.1.1 + 1 - n0 = h.1.1 - n0 + 1 := by omega
      have e2 : h.1.2 + n9 - m0 = h.1.2 - m0 + n9 := by omega
      have hR1 : h.1.1 - n0 + 1 ≤ R.cells := by rw [← e1]; exact hr1
      have hR2 : h.1.2 - m0 + n9 ≤ R.slots := by rw [← e2]; exact hr2
      unfold zWn at k
      simp only [zph] at k
      intro ls sv H locs ⟨ws, lv, hh, hl, hL, hF, hP, hD, hS⟩
      obtain ⟨w, vs, rfl, hVi, hF1⟩ := zVs_cons hF
      obtain ⟨x, rfl, hx⟩ := zV_cn hE hn hVi
      have hAO : va_AO C s := by
        rcases hi with ⟨-, rfl⟩ | ⟨-, rfl⟩
        · exact hC.2.2.2.2.2.2.2.1.1.1
        · exact hC.2.2.2.2.2.2.2.1.2.1
      refine va_newq (C := C) hC.1 hC.2.1 hC.2.2.2.1 (hC.2.2.2.2.1 _ hw) hAO hC.2.2.2.2.2.1 hP hD hS hC.2.2.2.2.2.2.1 (fun h9 => by have := (fa_lt _ _).mp h9; have e0 : (0 : Int32).toInt = 0 := rfl; have hx : x.toInt = ((n9 : Nat) : Int) := hx; omega) (zclamp hx) (by omega) hR1 hR2 hd (fun q cA H1 hK1 hP1 hD1 hS1 => ?_)
      have ec : cA = kk r1 := by
        rcases hi with ⟨rfl, rfl⟩ | ⟨rfl, rfl⟩
        · exact zRO (hK1.2 8 (cA, .object RX5) rfl).2 (hC.2.2.2.2.2.1.2 5 _ rfl).2
        · exact zRO (hK1.2 8 (cA, .object RX1) rfl).2 (hC.2.2.2.2.2.1.2 6 _ rfl).2
      subst ec
      have := k ls _ H1 locs (zSt_push (n := n9) hh hl hL hF1 (Or.inr (Or.inr ⟨by omega, by omega, fun _ => none, rfl, fun j hj => rfl⟩)) hP1 hD1 hS1)
      rw [e1, e2] at this
      exact this
    · cases hs
  · cases hs
theorem zh_obj (hC : zCx p s m args meth c cc nL own D kk A g ini top) (hE : zEv g E) {i : Nat} (hw1 : Jvm.Cond.methodLink own i objectInit ∈ zW) (hw2 : Jvm.Cond.instanceMethod objectInit ∈ zW) (hw3 : Jvm.Cond.code objectInit ⟨#[0xb1]⟩ 1 none ∈ zW) (hRf : 1 ≤ R.frames) (hRl : 60 ≤ R.locals) (hd : decode cc pc = .ok (.invokespecial i, 3)) (hs : zs_obj E top al st h = .inl (al', st', h')) (k : zWn p l e R s m args below meth c Q D kk A g ad0 nL n0 m0 (pc + 3) al' st' h') : zWn p l e R s m args below meth c Q D kk A g ad0 nL n0 m0 pc al st h := by
  unfold zs_obj at hs
  split at hs
  · rename_i o
    cases hs
    intro ls sv H locs ⟨ws, lv, hh, hl, hL, hF, hP, hD, hS⟩
    obtain ⟨v, vs, rfl, hV, hF1⟩ := zVs_cons hF
    obtain ⟨q, hq, rfl⟩ := hV
    have e1 := zVs_nil hF1
    subst e1
    refine W.objInit hC.1 hC.2.1 hC.2.2.2.1 (hC.2.2.2.2.1 _ hw1) (hC.2.2.2.2.1 _ hw2) (hC.2.2.2.2.1 _ hw3) rfl (by rw [hC.2.2.1]; exact hl.1) rfl hd hRf (Nat.le_trans (Nat.le_of_ble_eq_true rfl) hRl) ?_
    exact k ls [] H locs ⟨ws, lv, hh, hl, hL, trivial, hP, hD, hS⟩
  · cases hs
theorem zh_copy (hC : zCx p s m args meth c cc nL own D kk A g ini top) (hE : zEv g E) {i : Nat} (hw1 : Jvm.Cond.methodLink own i arraycopyName ∈ zW) (hw2 : Jvm.Cond.native arraycopyName ∈ zW) (hw3 : Jvm.Cond.static arraycopyName ∈ zW) (hw4 : Jvm.Cond.initialized "java/lang/System" ∈ zW) (hRf : 1 ≤ R.frames) (hRl : 60 ≤ R.locals) (hd : decode cc pc = .ok (.invokestatic i, 3)) (hs : zs_copy E top al st h = .inl (al', st', h')) (k : zWn p l e R s m args below meth c Q D kk A g ad0 nL n0 m0 (pc + 3) al' st' h') : zWn p l e R s m args below meth c Q D kk A g ad0 nL n0 m0 pc al st h := by
  unfold zs_copy at hs
  split at hs
  · rename_i n dp r sp q0
    split at hs
    · rename_i k1 n1 d1 ov1 k2 n2 d2 ov2 hg1 hg2
      cases hz : (zc3 E n dp sp n1 && ((Nat.beq k1 0 && Nat.beq k2 0) && (Nat.beq n1 n2 && Nat.ble n1 1000000))) with
      | false => rw [hz] at hs; cases hs
      | true =>
        rw [hz] at hs
        cases hs
        simp only [Bool.and_eq_true] at hz
        obtain ⟨hz1, ⟨hk1, hk2⟩, hn12, hn1⟩ := hz
        have e1 := Nat.eq_of_beq_eq_true hk1
        have e2 := Nat.eq_of_beq_eq_true hk2
        have e3 := Nat.eq_of_beq_eq_true hn12
        have hn1 : n1 ≤ 1000000 := Nat.le_of_ble_eq_true hn1
        subst e1
        subst e2
        subst e3
        unfold zc3 at hz1
        split at hz1
        · rename_i b9 c9 d9 hb hc hdd
          simp only [Bool.and_eq_true, zeq_iff] at hz1
          obtain ⟨e4, e5, e6⟩ := hz1
          subst e4
          subst e5
          subst e6
          intro ls sv H locs ⟨ws, lv, hh, hl, hL, hF, hP, hD, hS⟩
          obtain ⟨v1, vs, rfl, hV1, hF1⟩ := zVs_cons hF
          obtain ⟨v2, vs, rfl, hV2, hF2⟩ := zVs_cons hF1
          obtain ⟨v3, vs, rfl, hV3, hF3⟩ := zVs_cons hF2
          obtain ⟨v4, vs, rfl, hV4, hF4⟩ := zVs_cons hF3
          obtain ⟨v5, vs, rfl, hV5, hF5⟩ := zVs_cons hF4
          have e7 := zVs_nil hF5
          subst e7
          obtain ⟨x, rfl, hx⟩ := zV_cn hE hb hV1
          obtain ⟨y, rfl, hy⟩ := zV_cn hE hc hV2
          obtain ⟨w, rfl, hw⟩ := zV_cn hE hdd hV4
          obtain ⟨q3, hq3, rfl⟩ := hV3
          obtain ⟨q5, hq5, rfl⟩ := hV5
          obtain ⟨a1, ee1, hwa, hca⟩ := hh.2 _ _ hg1
          obtain ⟨a2, ee2, hwb, hcb⟩ := hh.2 _ _ hg2
          cases zat hq5 hwa
          cases zat hq3 hwb
          have z0 : (0 : Int32).toInt = 0 := rfl
          rcases hca with ⟨h3, f, rfl, hf⟩ | ⟨h3, f, rfl, hf⟩ | ⟨h3, h3b, f, rfl, hf⟩
          · rcases hcb with ⟨h4, f2, rfl, hf2⟩ | ⟨h4, f2, rfl, hf2⟩ | ⟨h4, h4b, f2, rfl, hf2⟩
            · have cx : x.toNatClampNeg = n1 := zclamp hx
              have cy : y.toNatClampNeg = 0 := zclamp (j := 0) hy
              have cw : w.toNatClampNeg = 0 := zclamp (j := 0) hw
              refine va_copyi hC.1 hC.2.1 (by rw [hC.2.2.1]; exact hl.1.symm) hC.2.2.2.1 (hC.2.2.2.2.1 _ hw1) (hC.2.2.2.2.1 _ hw2) (hC.2.2.2.2.1 _ hw3) (hC.2.2.2.2.1 _ hw4) hC.2.2.2.2.2.1 hP hD hS _ _ 0 0 hwa hwb rfl rfl rfl (fun h9 => by have := (fa_lt _ _).mp h9; omega) (fun h9 => by have := (fa_lt _ _).mp h9; omega) (fun h9 => by have := (fa_lt _ _).mp h9; omega) (by rw [cx, cw]; omega) (by rw [cx, cy]; omega) (fun _ _ => rfl) hRf (Nat.le_trans (by decide) hRl) hd (fun H1 locs1 hP1 hD1 hS1 => k ls [] H1 locs1 (zSt_set (st := []) hh hl hL trivial hwb (Or.inl ⟨h4, _, rfl, fun j hj => ?_⟩) hP1 hD1 hS1))
              rw [cx, cy, cw, pk_cpy_in (by omega) (by omega)]
              have := hf j hj
              rw [show 0 + (j - 0) = j by omega]
              exact this
            · omega
            · omega
          · omega
          · omega
        · cases hz1
    · cases hs
  · cases hs
end ZN
end
section
section ZMN
variable {p : Program} {l : Launch} {e : Env} {R : Room} {s : State} {m : MethodId} {args : Array Value} {below : List Frame} {meth : Method} {c : Code} {Q : State → Prop} {D : va_G} {kk : Nat → ClassId} {A : Nat → Prop} {g : zG} {ad0 : List Nat} {nL n0 m0 : Nat} {cc : ByteArray} {own : String} {ini top : Bool} {E : zE} {pc : Nat} {al al' : zL} {st st' : List zA} {h h' : zH}
def zHrA (g : zG) (kk : Nat → ClassId) (ad : List Nat) (h : zH) (ws : va_W) : Prop := ws.length = h.1.1 ∧ ∀ i c, zgt h i = some c → ∃ q e, ws[i]? = some (q, e) ∧ zCr g ad kk c e
theorem zHrA_push {ad : List Nat} {q n : Nat} {e1 : va_E} {c1 : zC} {ws : va_W} (hh : zHrA g kk ad h ws) (h2 : zCr g ad kk c1 e1) : zHrA g kk ad (zph h c1 n) (ws ++ [(q, e1)]) := by
  refine ⟨by rw [List.length_append]; show ws.length + 1 = h.1.1 + 1; rw [hh.1], fun j c0 hj => ?_⟩
  have hj : zg (h.2.1, (h.1.1, c1) :: h.2.2) j = some c0 := hj
  by_cases e : j = h.1.1
  · have hj2 : zg (h.2.1, (h.1.1, c1) :: h.2.2) j = some c1 := by
      unfold zg
      simp only [zlk_cons, e, zbeq_self, cond_true]
    rw [hj2] at hj
    cases hj
    exact ⟨q, e1, by rw [e, ← hh.1, List.getElem?_append_right (Nat.le_refl _)]; simp, h2⟩
  · have hj2 : zg (h.2.1, (h.1.1, c1) :: h.2.2) j = zgt h j := by
      unfold zgt zg
      simp only [zlk_cons, zbeq_ne (Ne.symm e), cond_false]
    rw [hj2] at hj
    obtain ⟨q1, e2, h3, h4⟩ := hh.2 j c0 hj
    exact ⟨q1, e2, by rw [List.getElem?_append_left (List.getElem?_eq_some_iff.mp h3).1]; exact h3, h4⟩
theorem zpn_ok {ad : List Nat} {n : Nat} {e1 : va_E} {c1 : zC} {ws : va_W} {r : Nat → Nat} (hh : zHrA g kk ad h ws) (h2 : zCr g ad kk c1 e1) : ∀ k, zHrA g kk ad (zpn h c1 n k) (ws ++ (List.range k).map (fun i => (r i, e1)))
  | 0 => by
    rw [List.range_zero, List.map_nil, List.append_nil]
    exact hh
  | k + 1 => by
    rw [List.range_succ, List.map_append, ← List.append_assoc]
    exact zHrA_push (zpn_ok hh h2 k) h2
theorem zpn_cnt {n : Nat} {c1 : zC} : ∀ k, (zpn h c1 n k).1 = (h.1.1 + k, h.1.2 + k * n)
  | 0 => by
    show h.1 = _
    rw [Nat.zero_mul]
    rfl
  | k + 1 => by
    show ((zpn h c1 n k).1.1 + 1, (zpn h c1 n k).1.2 + n) = _
    rw [zpn_cnt k, Nat.succ_mul]
    simp only [Nat.add_assoc]
theorem zlk_map {F : Nat → zA} {j : Nat} : ∀ {l0 : List Nat}, j ∈ l0 → zlk (l0.map fun i => (i, F i)) j = some (F j)
  | [], hj => by cases hj
  | i :: l0, hj => by
    rw [List.map_cons, zlk_cons]
    by_cases e9 : i = j
    · subst e9
      rw [zbeq_self]
      rfl
    · rw [zbeq_ne e9]
      exact zlk_map ((List.mem_cons.mp hj).elim (fun w => absurd w.symm e9) id)
theorem zpl_eq {N : Nat} {r : Nat → Nat} {f : Nat → va_E} {e1 : va_E} : va_pl ([] ++ (List.range N).map r) (vr_up f ((List.range N).map r) e1) = (List.range N).map (fun i => (r i, e1)) := by
  unfold va_pl
  rw [List.nil_append, List.map_map]
  apply List.map_congr_left
  intro i hi
  show (r i, vr_up f ((List.range N).map r) e1 (r i)) = _
  rw [vr_up_in (List.mem_map.mpr ⟨i, hi, rfl⟩)]
theorem zh_mna (hC : zCx p s m args meth c cc nL own D kk A g ini top) (hE : zEv g E) {i : Nat} (hw : Jvm.Cond.classLink own i "[[I" ∈ zW) (hw2 : Jvm.Cond.arrayClass .int ∈ zW) (h0 : n0 ≤ h.1.1) (h1 : m0 ≤ h.1.2) (hr1 : h'.1.1 - n0 ≤ R.cells) (hr2 : h'.1.2 - m0 ≤ R.slots) (hd : decode cc pc = .ok (.multianewarray i 2, 4)) (hs : zs_mna E top al st h = .inl (al', st', h')) (k : zWn p l e R s m args below meth c Q D kk A g ad0 nL n0 m0 (pc + 4) al' st' h') : zWn p l e R s m args below meth c Q D kk A g ad0 nL n0 m0 pc al st h := by
  unfold zs_mna at hs
  split at hs
  · rename_i b0 a0 st0
    split at hs
    · rename_i n9 k9 hn hk
      cases hz : (Nat.ble n9 1000 && Nat.ble k9 1000) with
      | false => rw [hz] at hs; cases hs
      | true =>
        rw [hz] at hs
        cases hs
        rw [Bool.and_eq_true] at hz
        have hn9 : n9 ≤ 1000 := Nat.le_of_ble_eq_true hz.1
        have hk9 : k9 ≤ 1000 := Nat.le_of_ble_eq_true hz.2
        obtain ⟨h2, hh2⟩ : ∃ h2, h2 = zpn (zph h (.inr (7, n9, znl, (List.range n9).map fun i => (i, zrf (h.1.1 + 1 + i)))) n9) (.inr (0, k9, zk 0, [])) k9 n9 := ⟨_, rfl⟩
        rw [← hh2] at hr1 hr2 k
        have hc : h2.1 = (h.1.1 + 1 + n9, h.1.2 + n9 + n9 * k9) := by
          rw [hh2, zpn_cnt]
          rfl
        rw [hc] at hr1 hr2
        have hR1 : h.1.1 - n0 + (1 + n9) ≤ R.cells := by
          have : h.1.1 + 1 + n9 - n0 ≤ R.cells := hr1
          omega
        have hR2 : h.1.2 - m0 + (n9 + n9 * k9) ≤ R.slots := by
          have : h.1.2 + n9 + n9 * k9 - m0 ≤ R.slots := hr2
          omega
        intro ls sv H locs ⟨ws, lv, hh, hl, hL, hF, hP, hD, hS⟩
        obtain ⟨v1, vs, rfl, hV1, hF1⟩ := zVs_cons hF
        obtain ⟨v2, vs, rfl, hV2, hF2⟩ := zVs_cons hF1
        obtain ⟨y, rfl, hy⟩ := zV_cn hE hk hV1
        obtain ⟨x, rfl, hx⟩ := zV_cn hE hn hV2
        have z0 : (0 : Int32).toInt = 0 := rfl
        have hx : x.toInt = ((n9 : Nat) : Int) := hx
        have hy : y.toInt = ((k9 : Nat) : Int) := hy
        have es : "[" ++ (FieldType.array FieldType.int).toString = "[[I" := by decide
        refine va_mna (X := ws) (L := []) (f := fun _ => .inl (kk 0, 0, .inl (fun _ => 0))) (ty := .int) (cy := kk 0) (z := (k9, .inl (fun _ => 0))) hC.1 hC.2.1 hC.2.2.2.1 (by rw [es]; exact hC.2.2.2.2.1 _ hw) hC.2.2.2.2.2.2.2.1.2.2.1 (hC.2.2.2.2.1 _ hw2) (hC.2.2.2.2.2.1.2 0 _ rfl).2 hC.2.2.2.2.2.1 (by rw [show va_pl [] _ = [] from rfl, List.append_nil]; exact hP) (by rw [show va_pl [] _ = [] from rfl, List.append_nil]; exact hD) hS hC.2.2.2.2.2.2.1 (fun h9 => by have := (fa_lt _ _).mp h9; omega) (fun h9 => by have := (fa_lt _ _).mp h9; omega) (zclamp hx) (zclamp hy) (by omega) (by show k9 * 4 ≤ _; omega) (by omega) rfl rfl hR1 hR2 (fun c9 => by show ({ cls := c9, slots := Array.replicate k9 (.int 0), vm := .none } : Cell) = _; rw [arrV_new]; rfl) hd (fun q r cA H1 hinj hnl hK1 hP1 hD1 hS1 => ?_)
        rw [zpl_eq] at hP1 hD1
        have ec : cA = kk 7 := zRA (ty := .array .int) (by decide) (hK1.2 8 (cA, .array .int) rfl).2 (hC.2.2.2.2.2.1.2 7 _ rfl).2
        subst ec
        obtain ⟨ws1, hws1⟩ : ∃ ws1 : va_W, ws1 = (ws ++ [(q, .inl (kk 7, n9, .inr (.inr (.inr (.inr (fun i => if i < n9 then some (r i) else none))))))]) ++ (List.range n9).map (fun i => (r i, .inl (kk 0, k9, .inl (fun _ => 0)))) := ⟨_, rfl⟩
        rw [← hws1] at hP1 hD1
        have had : ws1.map (·.1) = ws.map (·.1) ++ (q :: (List.range n9).map r) := by
          rw [hws1, List.map_append, List.map_append, List.map_map, List.append_assoc]
          rfl
        have hlen : (ws.map (·.1)).length = h.1.1 := by rw [List.length_map]; exact hh.1.1
        have hat : ∀ j, j < n9 → (ws1.map (·.1))[h.1.1 + 1 + j]? = some (r j) := fun j hj => by
          rw [had, List.getElem?_append_right (by omega), hlen, show h.1.1 + 1 + j - h.1.1 = j + 1 by omega, List.getElem?_cons_succ, List.getElem?_map, List.getElem?_range hj]
          rfl
        have hA1 : zHrA g kk (ws1.map (·.1)) h ws := ⟨hh.1.1, fun i9 c9 h9 => by
          obtain ⟨q1, e2, h3, h4⟩ := hh.2 i9 c9 h9
          exact ⟨q1, e2, h3, by rw [had]; exact zCr_grow _ h4⟩⟩
        have hA2 := zHrA_push (q := q) (n := n9) hA1 (c1 := .inr (7, n9, znl, (List.range n9).map fun i => (i, zrf (h.1.1 + 1 + i)))) (e1 := .inl (kk 7, n9, .inr (.inr (.inr (.inr (fun i => if i < n9 then some (r i) else none)))))) (Or.inr (Or.inr ⟨by decide, by decide, _, rfl, fun j hj => by
          unfold zag
          rw [zlk_map (F := fun i => zrf (h.1.1 + 1 + i)) (List.mem_range.mpr hj), if_pos hj]
          exact ⟨r j, hat j hj, rfl⟩⟩))
        have hA3 := zpn_ok (r := r) (n := k9) hA2 (c1 := .inr (0, k9, zk 0, [])) (e1 := .inl (kk 0, k9, .inl (fun _ => 0))) (Or.inl ⟨by decide, _, rfl, fun j hj => zV_k rfl⟩) n9
        rw [← hh2, ← hws1] at hA3
        have := k ls (.ref q :: vs) H1 locs ⟨ws1, lv, ⟨⟨hA3.1, by obtain ⟨l0, e0⟩ := hh.1.2; exact ⟨l0 ++ (q :: (List.range n9).map r), by rw [had, e0, List.append_assoc]⟩⟩, hA3.2⟩, hl, by rw [had]; exact zLs_grow _ hL, ⟨⟨q, by rw [had, List.getElem?_append_right (by omega), hlen, Nat.sub_self]; rfl, rfl⟩, by rw [had]; exact zVs_grow _ hF2⟩, hP1, hD1, hS1⟩
        rw [hc] at this
        have e1 : h.1.1 + 1 + n9 - n0 = h.1.1 - n0 + 1 + n9 := by omega
        have e2 : h.1.2 + n9 + n9 * k9 - m0 = h.1.2 - m0 + n9 + n9 * k9 := by omega
        have this : W p l e R s m args below meth c H1 locs (h.1.1 + 1 + n9 - n0) (h.1.2 + n9 + n9 * k9 - m0) Q (F0 m (pc + 4) ls (.ref q :: vs)) := this
        rw [e1, e2] at this
        exact this
    · cases hs
  · cases hs
end ZMN
end
section
/-! EACH INSTRUCTION IS CHECKED AGAINST ITS METHOD'S BYTES AND THE TABLES' WORDS -/
noncomputable def zTn : Nat → u_T
  | 0 => TX0 | 1 => TX1 | 2 => TX2 | 3 => TX3 | 4 => TX4 | 5 => TX5 | 6 => TX6 | 7 => TX7 | 8 => TX8 | 9 => TX9 | _ => TX10
noncomputable def zRn : Nat → String
  | 0 => RX0 | 1 => RX1 | 2 => RX2 | 3 => RX3 | 4 => RX4 | 5 => RX5 | 6 => RX6 | 7 => RX7 | 8 => RX8 | 9 => RX9 | _ => RX10
noncomputable def zin (w : Jvm.Cond) : Bool := decide (w ∈ lw_tbl) && (goodWord w || zisN w)
theorem zin_ok {w : Jvm.Cond} (h : zin w = true) (hn : zisN w = false := by rfl) : w ∈ zW := by
  unfold zin at h
  rw [Bool.and_eq_true, decide_eq_true_eq, hn, Bool.or_false] at h
  exact zW_in h.1 h.2
theorem zin_nest {own host : String} {i : Nat} {y : MethodName} (h : zin (.methodLinkNest own i y host) = true) : Jvm.Cond.methodLinkNest own i y host ∈ zNs := by
  unfold zin at h
  rw [Bool.and_eq_true, decide_eq_true_eq] at h
  exact List.mem_filter.mpr ⟨h.1, rfl⟩
noncomputable def zclB (ci : Nat) : Bool := (u_ws (zRn ci) (zTn ci) (zN ci)).all goodWord && (zin (.instantiable (zRn ci) (zN ci)) && zin (.initialized (zRn ci)))
set_option maxRecDepth 100000 in
theorem zclB_ok : ∀ ci, ci < 11 → zclB ci = true := by decide +kernel
theorem zcl_of {ci : Nat} (hci : ci < 11) (h1 : vwCl[ci]? = some (zRn ci, zTn ci, zN ci)) (h2 : ∀ w ∈ u_ws (zRn ci) (zTn ci) (zN ci), w ∈ lw_tbl) (h3 : ∀ k, k < zN ci → parseFieldDescriptor (zTn ci k).2.2.1 = some (zty ci k)) (h4 : ∀ a, a < zN ci → ∀ b, b < zN ci → a ≠ b → (zTn ci a).2.1 ≠ (zTn ci b).2.1) : zCl ci (zRn ci) (zTn ci) (zN ci) := by
  have h := zclB_ok ci hci
  unfold zclB at h
  rw [Bool.and_eq_true, Bool.and_eq_true] at h
  exact ⟨h1, rfl, fun w hw => zW_in (h2 w hw) (List.all_eq_true.mp h.1 w hw), h3, h4, zin_ok h.2.1, zin_ok h.2.2⟩
theorem zcl_ok : ∀ ci, ci < 11 → zCl ci (zRn ci) (zTn ci) (zN ci) := fun ci hci => by
  rcases (show ci = 0 ∨ ci = 1 ∨ ci = 2 ∨ ci = 3 ∨ ci = 4 ∨ ci = 5 ∨ ci = 6 ∨ ci = 7 ∨ ci = 8 ∨ ci = 9 ∨ ci = 10 by omega) with rfl | rfl | rfl | rfl | rfl | rfl | rfl | rfl | rfl | rfl | rfl
  · exact zcl_of (by decide) rfl inX0 tyX0_ok nmX0
  · exact zcl_of (by decide) rfl inX1 tyX1_ok nmX1
  · exact zcl_of (by decide) rfl inX2 tyX2_ok nmX2
  · exact zcl_of (by decide) rfl inX3 tyX3_ok nmX3
  · exact zcl_of (by decide) rfl inX4 tyX4_ok nmX4
  · exact zcl_of (by decide) rfl inX5 tyX5_ok nmX5
  · exact zcl_of (by decide) rfl inX6 tyX6_ok nmX6
  · exact zcl_of (by decide) rfl inX7 tyX7_ok nmX7
  · exact zcl_of (by decide) rfl inX8 tyX8_ok nmX8
  · exact zcl_of (by decide) rfl inX9 tyX9_ok nmX9
  · exact zcl_of (by decide) rfl inX10 tyX10_ok nmX10
/-- the word of a method's link, plain or of a nest -/
noncomputable def zlk2 (zi : Jvm.Cond → Bool) (own : String) (i : Nat) (y : MethodName) : Bool := zi (.methodLink own i y) || zi (.methodLinkNest own i y "LetterDebts")
noncomputable def zlnk (own : String) (i : Nat) (y : MethodName) : Bool := zlk2 zin own i y
noncomputable def zpar (y : MethodName) : Option Nat := (parseMethodDescriptor y.desc).map (fun d => d.parameters.length)
noncomputable def zi32 (n : Int) : Bool := zle (-2147483648) n && zle n 2147483647
noncomputable def zfG (zi : Jvm.Cond → Bool) (own : String) (nL : Nat) (ini : Bool) (len r1 : Nat) (r2 : Int) (pc : Nat) (ins : Instr) : Bool := match ins with
  | .iload_n _ => Nat.beq len 1
  | .iload _ => Nat.beq len 2
  | .aload_n _ => Nat.beq len 1
  | .aload _ => Nat.beq len 2
  | .lload_n _ => Nat.beq len 1
  | .istore_n k => Nat.beq len 1 && Nat.blt k nL
  | .istore k => Nat.beq len 2 && Nat.blt k nL
  | .astore_n k => Nat.beq len 1 && Nat.blt k nL
  | .astore k => Nat.beq len 2 && Nat.blt k nL
  | .lstore_n k => Nat.beq len 1 && Nat.blt (k + 1) nL
  | .iconst n => Nat.beq len 1 && zi32 n
  | .bipush n => Nat.beq len 2 && (zi32 n && decide ((Int8.ofInt n).toInt32 = Int32.ofInt n))
  | .sipush n => Nat.beq len 3 && (zi32 n && decide ((Int16.ofInt n).toInt32 = Int32.ofInt n))
  | .lconst _ => Nat.beq len 1
  | .ldc_w i => Nat.beq len 3 && (zi32 r2 && zi (.constant own i (Int32.ofInt r2)))
  | .ldc2_w i => Nat.beq len 3 && (zeq (Int64.ofInt r2).toInt r2 && zi (.constantLong own i (Int64.ofInt r2)))
  | .iinc k n => Nat.beq len 3 && (Nat.blt k nL && zi32 n)
  | .goto _ => Nat.beq len 3
  | .if_icmp _ off => Nat.beq len 3 && zle 0 ((pc : Int) + off)
  | .ifCond _ off => Nat.beq len 3 && zle 0 ((pc : Int) + off)
  | .tableswitch _ _ _ _ => true
  | .getfield i => Nat.beq len 3 && (Nat.blt r1 11 && (Nat.blt r2.toNat (zN r1) && zi (.fieldLink own i (zTn r1 r2.toNat).1 (zTn r1 r2.toNat).2.1 (zTn r1 r2.toNat).2.2.1)))
  | .putfield i => Nat.beq len 3 && (Nat.blt r1 11 && (Nat.blt r2.toNat (zN r1) && (zi (.fieldLink own i (zTn r1 r2.toNat).1 (zTn r1 r2.toNat).2.1 (zTn r1 r2.toNat).2.2.1) && (!(zTn r1 r2.toNat).2.2.2 || (ini && decide ((zTn r1 r2.toNat).1 = own))))))
  | .getstatic i => Nat.beq len 3 && (bif Nat.beq r1 0 then zi (.fieldLink own i "LetterDebts" "ABOVE" "[I") else Nat.beq r1 1 && zi (.fieldLink own i "LetterDebts" "MARKS" "[I"))
  | .new i => Nat.beq len 3 && (Nat.blt r1 11 && zi (.classLink own i (zRn r1)))
  | .newarray _ => Nat.beq len 2
  | .anewarray i => Nat.beq len 3 && (bif Nat.beq r1 5 then zi (.classLink own i RX5) else Nat.beq r1 6 && zi (.classLink own i RX1))
  | .multianewarray i dm => Nat.beq len 4 && (Nat.beq dm 2 && zi (.classLink own i "[[I"))
  | .invokevirtual i => Nat.beq len 3 && (match zmt r1 with
    | some M => !(Nat.beq M.2.2.2.2.1 0) && (decide (¬ M.1.name = "<init>") && (zi (.methodLink own i M.1) && decide (zpar M.1 = some r2.toNat)))
    | none => false)
  | .invokestatic i => Nat.beq len 3 && (bif Nat.beq r1 1001 then zi (.methodLink own i arraycopyName) else bif Nat.beq r1 1002 then zi (.methodLink own i Lib.Math.max.name) else bif Nat.beq r1 1003 then zi (.methodLink own i Lib.Math.min.name) else match zmt r1 with
    | some M => Nat.beq M.2.2.2.2.1 0 && (zlk2 zi own i M.1 && decide (zpar M.1 = some r2.toNat))
    | none => false)
  | .invokespecial i => Nat.beq len 3 && (bif Nat.beq r1 1000 then zi (.methodLink own i objectInit) else match zmt r1 with
    | some M => !(Nat.beq M.2.2.2.2.1 0) && (decide (M.1.name = "<init>") && (zlk2 zi own i M.1 && decide (zpar M.1 = some r2.toNat)))
    | none => false)
  | .lload _ => true
  | .lstore _ => true
  | .ldc _ => true
  | _ => Nat.beq len 1
noncomputable def zfB (own : String) (nL : Nat) (ini : Bool) (len r1 : Nat) (r2 : Int) (pc : Nat) (ins : Instr) : Bool := zfG zin own nL ini len r1 r2 pc ins
noncomputable def zfM (own : String) (nL : Nat) (ini : Bool) (cc : ByteArray) (cd : List zI) : Bool := cd.all fun x => decide (decode cc x.1 = .ok (x.2.1, x.2.2.1)) && zfB own nL ini x.2.2.1 x.2.2.2.1 x.2.2.2.2 x.1 x.2.1
/-- what is asked of a method of the table, once -/
noncomputable def zmG (z1 z2 z3 : Jvm.Cond → Bool) (M : zM) : Bool := z1 (.code M.1 M.2.1 M.2.2.1 M.2.2.2.1) && (z2 (.initialized M.1.cls) && ((bif Nat.beq M.2.2.2.2.1 0 then z3 (.static M.1) else z3 (.instanceMethod M.1)) && (Nat.ble M.2.2.1 40 && (decide (plainName M.1.cls = true) && decide (M.1.cls ≠ "java/lang/invoke/MethodHandle" ∧ M.1.cls ≠ "java/lang/invoke/VarHandle")))))
noncomputable def zmB (M : zM) : Bool := zmG zin zin zin M
/-- and of an instance method: its class, and that it is the one that is run -/
noncomputable def zmW (zi : Jvm.Cond → Bool) (M : zM) : Bool := match M.2.2.2.2.1 with
  | 0 => true
  | ci + 1 => Nat.blt ci 11 && (decide (zRn ci = M.1.cls) && (decide (M.1.name = "<init>") || zi (.selects M.1.cls M.1 M.1)))
noncomputable def zmV (M : zM) : Bool := zmW zin M
theorem zmG_mono {z1 z2 z3 : Jvm.Cond → Bool} (h1 : ∀ w, z1 w = true → zin w = true) (h2 : ∀ w, z2 w = true → zin w = true) (h3 : ∀ w, z3 w = true → zin w = true) {M : zM} (h : zmG z1 z2 z3 M = true) : zmB M = true := by
  unfold zmB
  unfold zmG at h ⊢
  simp only [Bool.and_eq_true] at h ⊢
  refine ⟨h1 _ h.1, h2 _ h.2.1, ?_, h.2.2.2⟩
  have := h.2.2.1
  cases hz : Nat.beq M.2.2.2.2.1 0 with
  | true => rw [hz] at this; exact h3 _ this
  | false => rw [hz] at this; exact h3 _ this
theorem zmW_mono {zi : Jvm.Cond → Bool} (h1 : ∀ w, zi w = true → zin w = true) {M : zM} (h : zmW zi M = true) : zmV M = true := by
  unfold zmV
  unfold zmW at h ⊢
  split at h
  · rfl
  · simp only [Bool.and_eq_true, Bool.or_eq_true] at h ⊢
    exact ⟨h.1, h.2.1, h.2.2.elim Or.inl (fun w => Or.inr (h1 _ w))⟩
theorem zlk2_mono {zi : Jvm.Cond → Bool} (h1 : ∀ w, zi w = true → zin w = true) {own : String} {i : Nat} {y : MethodName} (h : zlk2 zi own i y = true) : zlk2 zin own i y = true := by
  unfold zlk2 at h ⊢
  rw [Bool.or_eq_true] at h ⊢
  exact h.elim (fun w => Or.inl (h1 _ w)) (fun w => Or.inr (h1 _ w))
theorem zbif_mono {b a c a' c' : Bool} (h1 : a = true → a' = true) (h2 : c = true → c' = true) (h : (bif b then a else c) = true) : (bif b then a' else c') = true := by
  cases b with
  | true => exact h1 h
  | false => exact h2 h
theorem zand_mono {a c a' c' : Bool} (h1 : a = true → a' = true) (h2 : c = true → c' = true) (h : (a && c) = true) : (a' && c') = true := by
  rw [Bool.and_eq_true] at h ⊢
  exact ⟨h1 h.1, h2 h.2⟩
theorem zfG_mono {zi : Jvm.Cond → Bool} (h1 : ∀ w, zi w = true → zin w = true) {own : String} {nL : Nat} {ini : Bool} {len r1 : Nat} {r2 : Int} {pc : Nat} {ins : Instr} (h : zfG zi own nL ini len r1 r2 pc ins = true) : zfB own nL ini len r1 r2 pc ins = true := by
  cases ins
  case ldc_w i => exact zand_mono id (zand_mono id (h1 _)) h
  case ldc2_w i => exact zand_mono id (zand_mono id (h1 _)) h
  case getfield i => exact zand_mono id (zand_mono id (zand_mono id (h1 _))) h
  case putfield i => exact zand_mono id (zand_mono id (zand_mono id (zand_mono (h1 _) id))) h
  case getstatic i => exact zand_mono id (zbif_mono (h1 _) (zand_mono id (h1 _))) h
  case new i => exact zand_mono id (zand_mono id (h1 _)) h
  case anewarray i => exact zand_mono id (zbif_mono (h1 _) (zand_mono id (h1 _))) h
  case multianewarray i dm => exact zand_mono id (zand_mono id (h1 _)) h
  case invokevirtual i =>
    refine zand_mono id (fun h => ?_) h
    split at h
    · exact zand_mono id (zand_mono id (zand_mono (h1 _) id)) h
    · cases h
  case invokestatic i =>
    refine zand_mono id (zbif_mono (h1 _) (zbif_mono (h1 _) (zbif_mono (h1 _) (fun h => ?_)))) h
    split at h
    · exact zand_mono id (zand_mono (zlk2_mono h1) id) h
    · cases h
  case invokespecial i =>
    refine zand_mono id (zbif_mono (h1 _) (fun h => ?_)) h
    split at h
    · exact zand_mono id (zand_mono id (zand_mono (zlk2_mono h1) id)) h
    · cases h
  all_goals exact h
end
section
section ZD
variable {p : Program} {l : Launch} {e : Env} {R : Room} {s : State} {m : MethodId} {args : Array Value} {below : List Frame} {meth : Method} {c : Code} {Q : State → Prop} {D : va_G} {kk : Nat → ClassId} {A : Nat → Prop} {g : zG} {ad0 : List Nat} {nL n0 m0 : Nat} {cc : ByteArray} {own : String} {ini top : Bool} {E : zE} {pc : Nat} {al al' : zL} {st st' : List zA} {h h' : zH}
theorem zi32_ok {n : Int} (h : zi32 n = true) : -2147483648 ≤ n ∧ n < 2147483648 := by
  unfold zi32 at h
  simp only [Bool.and_eq_true, zle_iff] at h
  omega
set_option maxRecDepth 100000 in
theorem zaw_b : (zin (.arrayClass .int) && (zin (.arrayClass .byte) && (zin (.arrayClass .char) && (zin (.arrayClass .boolean) && zin (.arrayClass .long))))) = true := by decide +kernel
theorem zaw_ok : ∀ ty : FieldType, (ty = .int ∨ ty = .byte ∨ ty = .char ∨ ty = .boolean ∨ ty = .long) → Jvm.Cond.arrayClass ty ∈ zW := fun ty h => by
  have hb := zaw_b
  simp only [Bool.and_eq_true] at hb
  rcases h with rfl | rfl | rfl | rfl | rfl
  · exact zin_ok hb.1
  · exact zin_ok hb.2.1
  · exact zin_ok hb.2.2.1
  · exact zin_ok hb.2.2.2.1
  · exact zin_ok hb.2.2.2.2
set_option maxRecDepth 100000 in
theorem zcw_b : (zin (.native arraycopyName) && (zin (.static arraycopyName) && (zin (.initialized "java/lang/System") && (zin (.instanceMethod objectInit) && zin (.code objectInit ⟨#[0xb1]⟩ 1 none))))) = true := by decide +kernel
theorem zcw_ok : Jvm.Cond.native arraycopyName ∈ zW ∧ Jvm.Cond.static arraycopyName ∈ zW ∧ Jvm.Cond.initialized "java/lang/System" ∈ zW ∧ Jvm.Cond.instanceMethod objectInit ∈ zW ∧ Jvm.Cond.code objectInit ⟨#[0xb1]⟩ 1 none ∈ zW := by
  have hb := zcw_b
  simp only [Bool.and_eq_true] at hb
  exact ⟨zin_ok hb.1, zin_ok hb.2.1, zin_ok hb.2.2.1, zin_ok hb.2.2.2.1, zin_ok hb.2.2.2.2⟩
set_option maxRecDepth 100000 in
theorem zmw_b : (zin (.static Lib.Math.max.name) && (zin (.code Lib.Math.max.name Lib.Math.max.code 2 (some .int)) && (zin (.static Lib.Math.min.name) && (zin (.code Lib.Math.min.name Lib.Math.min.code 2 (some .int)) && zin (.initialized "java/lang/Math"))))) = true := by decide +kernel
theorem zmw_ok : (Jvm.Cond.static Lib.Math.max.name ∈ zW ∧ Jvm.Cond.code Lib.Math.max.name Lib.Math.max.code 2 (some .int) ∈ zW) ∧ (Jvm.Cond.static Lib.Math.min.name ∈ zW ∧ Jvm.Cond.code Lib.Math.min.name Lib.Math.min.code 2 (some .int) ∈ zW) ∧ Jvm.Cond.initialized "java/lang/Math" ∈ zW := by
  have hb := zmw_b
  simp only [Bool.and_eq_true] at hb
  exact ⟨⟨zin_ok hb.1, zin_ok hb.2.1⟩, ⟨zin_ok hb.2.2.1, zin_ok hb.2.2.2.1⟩, zin_ok hb.2.2.2.2⟩
theorem ztable_no {df lo hi : Int} {offs : Array Int} (hs : zs_table pc df lo hi offs E top al st h = .inl (al', st', h')) : False := by
  unfold zs_table at hs
  split at hs
  · split at hs
    · rename_i q hq
      cases h1 : (zlt q.2 lo || zlt hi q.1) with
      | true => rw [h1] at hs; exact zgj_no hs
      | false =>
        rw [h1] at hs
        cases h4 : zeq q.1 q.2 with
        | true =>
          rw [h4] at hs
          simp only [cond_true, cond_false] at hs
          split at hs
          · exact zgj_no hs
          · cases hs
        | false =>
          rw [h4] at hs
          cases h5 : zlt q.1 lo with
          | true => rw [h5] at hs; cases hs
          | false =>
            rw [h5] at hs
            cases h6 : zlt hi q.2 with
            | true => rw [h6] at hs; cases hs
            | false => rw [h6] at hs; cases hs
    · cases hs
  · cases hs
theorem zinv_no {r1 r2 : Nat} (hs : zs_inv r1 r2 E top al st h = .inl (al', st', h')) : False := by
  unfold zs_inv at hs
  split at hs <;> cases hs
theorem zins_no {r1 r2 : Nat} (hs : zs_ins r1 r2 E top al st h = .inl (al', st', h')) : False := by
  unfold zs_ins at hs
  split at hs
  rename_i as st0 he
  cases hz : Nat.beq as.length r2 with
  | true => rw [hz] at hs; cases hs
  | false => rw [hz] at hs; cases hs
theorem ziret_no (hs : zs_iret E top al st h = .inl (al', st', h')) : False := by
  unfold zs_iret at hs
  split at hs
  · rename_i a
    cases hz : zint a with
    | true => rw [hz] at hs; cases hs
    | false => rw [hz] at hs; cases hs
  · cases hs
theorem zlret_no (hs : zs_lret E top al st h = .inl (al', st', h')) : False := by
  unfold zs_lret at hs
  split at hs <;> cases hs
theorem zvret_no (hs : zs_vret E top al st h = .inl (al', st', h')) : False := by
  unfold zs_vret at hs
  split at hs <;> cases hs
set_option maxHeartbeats 4000000 in
theorem zgo_ok {ins : Instr} {len r1 : Nat} {r2 : Int} (hC : zCx p s m args meth c cc nL own D kk A g ini top) (hE : zEv g E) (hb : zfB own nL ini len r1 r2 pc ins = true) (hd : decode cc pc = .ok (ins, len)) (hRf : 1 ≤ R.frames) (hRl : 60 ≤ R.locals) (h0 : n0 ≤ h.1.1) (h1 : m0 ≤ h.1.2) (hr1 : h'.1.1 - n0 ≤ R.cells) (hr2 : h'.1.2 - m0 ≤ R.slots) (hs : zsel pc r1 r2 ins E top al st h = .inl (al', st', h')) (k : zWn p l e R s m args below meth c Q D kk A g ad0 nL n0 m0 (pc + len) al' st' h') : zWn p l e R s m args below meth c Q D kk A g ad0 nL n0 m0 pc al st h := by
  unfold zsel at hs
  split at hs
  · rename_i k0
    have hl : len = 1 := Nat.eq_of_beq_eq_true hb
    subst hl
    exact zh_iload_n hC hE hd hs k
  · rename_i k0
    have hl : len = 2 := Nat.eq_of_beq_eq_true hb
    subst hl
    exact zh_iload hC hE hd hs k
  · rename_i k0
    have hl : len = 1 := Nat.eq_of_beq_eq_true hb
    subst hl
    exact zh_aload_n hC hE hd hs k
  · rename_i k0
    have hl : len = 2 := Nat.eq_of_beq_eq_true hb
    subst hl
    exact zh_aload hC hE hd hs k
  · rename_i k0
    have hl : len = 1 := Nat.eq_of_beq_eq_true hb
    subst hl
    exact zh_lload_n hC hE hd hs k
  · rename_i k0
    have hb1 := (Bool.and_eq_true _ _).mp hb
    have hl : len = 1 := Nat.eq_of_beq_eq_true hb1.1
    subst hl
    exact zh_istore_n hC hE (Nat.le_of_ble_eq_true hb1.2) hd hs k
  · rename_i k0
    have hb1 := (Bool.and_eq_true _ _).mp hb
    have hl : len = 2 := Nat.eq_of_beq_eq_true hb1.1
    subst hl
    exact zh_istore hC hE (Nat.le_of_ble_eq_true hb1.2) hd hs k
  · rename_i k0
    have hb1 := (Bool.and_eq_true _ _).mp hb
    have hl : len = 1 := Nat.eq_of_beq_eq_true hb1.1
    subst hl
    exact zh_astore_n hC hE (Nat.le_of_ble_eq_true hb1.2) hd hs k
  · rename_i k0
    have hb1 := (Bool.and_eq_true _ _).mp hb
    have hl : len = 2 := Nat.eq_of_beq_eq_true hb1.1
    subst hl
    exact zh_astore hC hE (Nat.le_of_ble_eq_true hb1.2) hd hs k
  · rename_i k0
    have hb1 := (Bool.and_eq_true _ _).mp hb
    have hl : len = 1 := Nat.eq_of_beq_eq_true hb1.1
    subst hl
    exact zh_lstore_n hC hE (Nat.le_of_ble_eq_true hb1.2) hd hs k
  · rename_i n
    have hb1 := (Bool.and_eq_true _ _).mp hb
    have hl : len = 1 := Nat.eq_of_beq_eq_true hb1.1
    subst hl
    exact zh_iconst hC hE (zi32_ok hb1.2) hd hs k
  · rename_i n
    have hb1 := (Bool.and_eq_true _ _).mp hb
    have hl : len = 2 := Nat.eq_of_beq_eq_true hb1.1
    subst hl
    have hb2 := (Bool.and_eq_true _ _).mp hb1.2
    exact zh_bipush hC hE (zi32_ok hb2.1) (of_decide_eq_true hb2.2) hd hs k
  · rename_i n
    have hb1 := (Bool.and_eq_true _ _).mp hb
    have hl : len = 3 := Nat.eq_of_beq_eq_true hb1.1
    subst hl
    have hb2 := (Bool.and_eq_true _ _).mp hb1.2
    exact zh_sipush hC hE (zi32_ok hb2.1) (of_decide_eq_true hb2.2) hd hs k
  · rename_i n
    have hl : len = 1 := Nat.eq_of_beq_eq_true hb
    subst hl
    exact zh_lconst hC hE hd hs k
  · rename_i i
    have hb1 := (Bool.and_eq_true _ _).mp hb
    have hb2 := (Bool.and_eq_true _ _).mp hb1.2
    have hl : len = 3 := Nat.eq_of_beq_eq_true hb1.1
    subst hl
    have hz := zi32_ok hb2.1
    have e9 : (Int32.ofInt r2).toInt = r2 := fb_ofI hz.1 hz.2
    rw [← e9] at hs
    exact zh_ldc_w hC hE (zin_ok hb2.2) hd hs k
  · rename_i i
    have hb1 := (Bool.and_eq_true _ _).mp hb
    have hb2 := (Bool.and_eq_true _ _).mp hb1.2
    have hl : len = 3 := Nat.eq_of_beq_eq_true hb1.1
    subst hl
    have e9 : (Int64.ofInt r2).toInt = r2 := zeq_iff.mp hb2.1
    rw [← e9] at hs
    exact zh_ldc2_w hC hE (zin_ok hb2.2) hd hs k
  · have hl : len = 1 := Nat.eq_of_beq_eq_true hb
    subst hl
    exact zh_iadd hC hE hd hs k
  · have hl : len = 1 := Nat.eq_of_beq_eq_true hb
    subst hl
    exact zh_isub hC hE hd hs k
  · have hl : len = 1 := Nat.eq_of_beq_eq_true hb
    subst hl
    exact zh_imul hC hE hd hs k
  · have hl : len = 1 := Nat.eq_of_beq_eq_true hb
    subst hl
    exact zh_idiv hC hE hd hs k
  · have hl : len = 1 := Nat.eq_of_beq_eq_true hb
    subst hl
    exact zh_irem hC hE hd hs k
  · have hl : len = 1 := Nat.eq_of_beq_eq_true hb
    subst hl
    exact zh_iand hC hE hd hs k
  · have hl : len = 1 := Nat.eq_of_beq_eq_true hb
    subst hl
    exact zh_ior hC hE hd hs k
  · have hl : len = 1 := Nat.eq_of_beq_eq_true hb
    subst hl
    exact zh_ixor hC hE hd hs k
  · have hl : len = 1 := Nat.eq_of_beq_eq_true hb
    subst hl
    exact zh_ishl hC hE hd hs k
  · have hl : len = 1 := Nat.eq_of_beq_eq_true hb
    subst hl
    exact zh_ishr hC hE hd hs k
  · have hl : len = 1 := Nat.eq_of_beq_eq_true hb
    subst hl
    exact zh_iushr hC hE hd hs k
  · rename_i k0 n
    have hb1 := (Bool.and_eq_true _ _).mp hb
    have hl : len = 3 := Nat.eq_of_beq_eq_true hb1.1
    subst hl
    have hb2 := (Bool.and_eq_true _ _).mp hb1.2
    exact zh_iinc hC hE (zi32_ok hb2.2) (Nat.le_of_ble_eq_true hb2.1) hd hs k
  · have hl : len = 1 := Nat.eq_of_beq_eq_true hb
    subst hl
    exact zh_ladd hC hE hd hs k
  · have hl : len = 1 := Nat.eq_of_beq_eq_true hb
    subst hl
    exact zh_lmul hC hE hd hs k
  · have hl : len = 1 := Nat.eq_of_beq_eq_true hb
    subst hl
    exact zh_lrem hC hE hd hs k
  · have hl : len = 1 := Nat.eq_of_beq_eq_true hb
    subst hl
    exact zh_land hC hE hd hs k
  · have hl : len = 1 := Nat.eq_of_beq_eq_true hb
    subst hl
    exact zh_lor hC hE hd hs k
  · have hl : len = 1 := Nat.eq_of_beq_eq_true hb
    subst hl
    exact zh_lshl hC hE hd hs k
  · have hl : len = 1 := Nat.eq_of_beq_eq_true hb
    subst hl
    exact zh_lshr hC hE hd hs k
  · have hl : len = 1 := Nat.eq_of_beq_eq_true hb
    subst hl
    exact zh_lushr hC hE hd hs k
  · have hl : len = 1 := Nat.eq_of_beq_eq_true hb
    subst hl
    exact zh_i2l hC hE hd hs k
  · have hl : len = 1 := Nat.eq_of_beq_eq_true hb
    subst hl
    exact zh_l2i hC hE hd hs k
  · have hl : len = 1 := Nat.eq_of_beq_eq_true hb
    subst hl
    exact zh_i2b hC hE hd hs k
  · have hl : len = 1 := Nat.eq_of_beq_eq_true hb
    subst hl
    exact zh_i2c hC hE hd hs k
  · have hl : len = 1 := Nat.eq_of_beq_eq_true hb
    subst hl
    exact zh_lcmp hC hE hd hs k
  · have hl : len = 1 := Nat.eq_of_beq_eq_true hb
    subst hl
    exact zh_dup hC hE hd hs k
  · have hl : len = 1 := Nat.eq_of_beq_eq_true hb
    subst hl
    exact zh_dup2 hC hE hd hs k
  · have hl : len = 1 := Nat.eq_of_beq_eq_true hb
    subst hl
    exact zh_pop hC hE hd hs k
  · rename_i off
    exact (zgj_no hs).elim
  · rename_i q off
    have hb1 := (Bool.and_eq_true _ _).mp hb
    have hl : len = 3 := Nat.eq_of_beq_eq_true hb1.1
    subst hl
    have hp := zle_iff.mp hb1.2
    exact zh_icmp hC hE (t := ((pc : Int) + off).toNat) (by omega) hd hs k
  · rename_i q off
    have hb1 := (Bool.and_eq_true _ _).mp hb
    have hl : len = 3 := Nat.eq_of_beq_eq_true hb1.1
    subst hl
    have hp := zle_iff.mp hb1.2
    exact zh_if hC hE (t := ((pc : Int) + off).toNat) (by omega) hd hs k
  · rename_i df lo hi offs
    exact (ztable_no hs).elim
  · rename_i i
    have hb1 := (Bool.and_eq_true _ _).mp hb
    have hb2 := (Bool.and_eq_true _ _).mp hb1.2
    have hb3 := (Bool.and_eq_true _ _).mp hb2.2
    have hl : len = 3 := Nat.eq_of_beq_eq_true hb1.1
    subst hl
    exact zh_getf hC hE (zcl_ok r1 (Nat.le_of_ble_eq_true hb2.1)) (Nat.le_of_ble_eq_true hb3.1) (zin_ok hb3.2) hd hs k
  · rename_i i
    have hb1 := (Bool.and_eq_true _ _).mp hb
    have hb2 := (Bool.and_eq_true _ _).mp hb1.2
    have hb3 := (Bool.and_eq_true _ _).mp hb2.2
    have hb4 := (Bool.and_eq_true _ _).mp hb3.2
    have hl : len = 3 := Nat.eq_of_beq_eq_true hb1.1
    subst hl
    refine zh_putf hC hE (zcl_ok r1 (Nat.le_of_ble_eq_true hb2.1)) (Nat.le_of_ble_eq_true hb3.1) (zin_ok hb4.1) ?_ hd hs k
    cases hfin : (zTn r1 r2.toNat).2.2.2 with
    | false => exact Or.inl rfl
    | true =>
      have h5 := hb4.2
      rw [hfin] at h5
      have h6 := (Bool.and_eq_true _ _).mp h5
      exact Or.inr ⟨rfl, h6.1, of_decide_eq_true h6.2⟩
  · rename_i i
    have hb1 := (Bool.and_eq_true _ _).mp hb
    have hl : len = 3 := Nat.eq_of_beq_eq_true hb1.1
    subst hl
    have h2 := hb1.2
    cases hz : Nat.beq r1 0 with
    | true =>
      rw [hz] at h2
      exact zh_gets hC hE (Or.inl ⟨Nat.eq_of_beq_eq_true hz, rfl⟩) (zin_ok h2) hd hs k
    | false =>
      rw [hz] at h2
      have h3 := (Bool.and_eq_true _ _).mp h2
      exact zh_gets hC hE (Or.inr ⟨Nat.eq_of_beq_eq_true h3.1, rfl⟩) (zin_ok h3.2) hd hs k
  · have hl : len = 1 := Nat.eq_of_beq_eq_true hb
    subst hl
    exact zh_iaload hC hE hd hs k
  · have hl : len = 1 := Nat.eq_of_beq_eq_true hb
    subst hl
    exact zh_baload hC hE hd hs k
  · have hl : len = 1 := Nat.eq_of_beq_eq_true hb
    subst hl
    exact zh_caload hC hE hd hs k
  · have hl : len = 1 := Nat.eq_of_beq_eq_true hb
    subst hl
    exact zh_aaload hC hE hd hs k
  · have hl : len = 1 := Nat.eq_of_beq_eq_true hb
    subst hl
    exact zh_iastore hC hE hd hs k
  · have hl : len = 1 := Nat.eq_of_beq_eq_true hb
    subst hl
    exact zh_bastore hC hE hd hs k
  · have hl : len = 1 := Nat.eq_of_beq_eq_true hb
    subst hl
    exact zh_castore hC hE hd hs k
  · have hl : len = 1 := Nat.eq_of_beq_eq_true hb
    subst hl
    exact zh_aastore hC hE hd hs k
  · have hl : len = 1 := Nat.eq_of_beq_eq_true hb
    subst hl
    exact zh_alen hC hE hd hs k
  · rename_i i
    have hb1 := (Bool.and_eq_true _ _).mp hb
    have hb2 := (Bool.and_eq_true _ _).mp hb1.2
    have hl : len = 3 := Nat.eq_of_beq_eq_true hb1.1
    subst hl
    exact zh_new hC hE (zcl_ok r1 (Nat.le_of_ble_eq_true hb2.1)) (zin_ok hb2.2) h0 h1 hr1 hr2 hd hs k
  · rename_i t
    have hl : len = 2 := Nat.eq_of_beq_eq_true hb
    subst hl
    exact zh_newa hC hE zaw_ok h0 h1 hr1 hr2 hd hs k
  · rename_i i
    have hb1 := (Bool.and_eq_true _ _).mp hb
    have hl : len = 3 := Nat.eq_of_beq_eq_true hb1.1
    subst hl
    have h2 := hb1.2
    cases hz : Nat.beq r1 5 with
    | true =>
      rw [hz] at h2
      exact zh_newq hC hE (Or.inl ⟨Nat.eq_of_beq_eq_true hz, rfl⟩) (zin_ok h2) h0 h1 hr1 hr2 hd hs k
    | false =>
      rw [hz] at h2
      have h3 := (Bool.and_eq_true _ _).mp h2
      exact zh_newq hC hE (Or.inr ⟨Nat.eq_of_beq_eq_true h3.1, rfl⟩) (zin_ok h3.2) h0 h1 hr1 hr2 hd hs k
  · rename_i i dm
    have hb1 := (Bool.and_eq_true _ _).mp hb
    have hb2 := (Bool.and_eq_true _ _).mp hb1.2
    have hl : len = 4 := Nat.eq_of_beq_eq_true hb1.1
    subst hl
    have e9 : dm = 2 := Nat.eq_of_beq_eq_true hb2.1
    subst e9
    exact zh_mna hC hE (zin_ok hb2.2) (zaw_ok .int (Or.inl rfl)) h0 h1 hr1 hr2 hd hs k
  · rename_i i
    exact (zinv_no hs).elim
  · rename_i i
    have hb1 := (Bool.and_eq_true _ _).mp hb
    have hl : len = 3 := Nat.eq_of_beq_eq_true hb1.1
    subst hl
    have h2 := hb1.2
    cases hz : Nat.beq r1 1001 with
    | true =>
      rw [hz] at h2 hs
      exact zh_copy hC hE (zin_ok h2) zcw_ok.1 zcw_ok.2.1 zcw_ok.2.2.1 hRf hRl hd hs k
    | false =>
      rw [hz] at hs h2
      cases hz2 : Nat.beq r1 1002 with
      | true =>
        rw [hz2] at hs h2
        exact zh_mmax hC hE (zin_ok h2) zmw_ok.1.1 zmw_ok.2.2 zmw_ok.1.2 hRf hRl hr1 hr2 hd hs k
      | false =>
        rw [hz2] at hs h2
        cases hz3 : Nat.beq r1 1003 with
        | true =>
          rw [hz3] at hs h2
          exact zh_mmin hC hE (zin_ok h2) zmw_ok.2.1.1 zmw_ok.2.2 zmw_ok.2.1.2 hRf hRl hr1 hr2 hd hs k
        | false =>
          rw [hz3] at hs
          have hs : zs_ins r1 r2.toNat E top al st h = .inl (al', st', h') := hs
          exact (zins_no hs).elim
  · rename_i i
    have hb1 := (Bool.and_eq_true _ _).mp hb
    have hl : len = 3 := Nat.eq_of_beq_eq_true hb1.1
    subst hl
    have h2 := hb1.2
    cases hz : Nat.beq r1 1000 with
    | true =>
      rw [hz] at h2 hs
      exact zh_obj hC hE (zin_ok h2) zcw_ok.2.2.2.1 zcw_ok.2.2.2.2 hRf hRl hd hs k
    | false =>
      rw [hz] at hs
      have hs : zs_inv r1 r2.toNat E top al st h = .inl (al', st', h') := hs
      exact (zinv_no hs).elim
  · exact (ziret_no hs).elim
  · exact (zlret_no hs).elim
  · exact (zvret_no hs).elim
  · cases hs
theorem zjp_ok {ins : Instr} {len r1 t j : Nat} {r2 : Int} {b : Bool} (hC : zCx p s m args meth c cc nL own D kk A g ini top) (hE : zEv g E) (hb : zfB own nL ini len r1 r2 pc ins = true) (hd : decode cc pc = .ok (ins, len)) (hj : zisj ins = true) (hs : zsel pc r1 r2 ins E top al st h = .inr (.inl (t, b, j, st'))) (k : zWn p l e R s m args below meth c Q D kk A g ad0 nL n0 m0 t al st' h) : zWn p l e R s m args below meth c Q D kk A g ad0 nL n0 m0 pc al st h := by
  unfold zisj at hj
  split at hj
  · rename_i off
    have hl : len = 3 := Nat.eq_of_beq_eq_true hb
    subst hl
    exact zj_goto hC hE hd hs k
  · rename_i q off
    have hb1 := (Bool.and_eq_true _ _).mp hb
    have hl : len = 3 := Nat.eq_of_beq_eq_true hb1.1
    subst hl
    exact zj_icmp hC hE hd hs k
  · rename_i q off
    have hb1 := (Bool.and_eq_true _ _).mp hb
    have hl : len = 3 := Nat.eq_of_beq_eq_true hb1.1
    subst hl
    exact zj_if hC hE hd hs k
  · exact zj_table hC hE hd hs k
  · cases hj
end ZD
end
section
section ZC
variable {p : Program} {l : Launch} {e : Env} {R : Room} {s : State} {m : MethodId} {args : Array Value} {below : List Frame} {meth : Method} {c : Code} {Q : State → Prop} {D : va_G} {kk : Nat → ClassId} {A : Nat → Prop} {g : zG} {ad0 : List Nat} {nL n0 m0 : Nat} {cc : ByteArray} {own : String} {ini top : Bool} {E : zE} {pc : Nat} {al al' : zL} {st st' : List zA} {h h' : zH}
/-! CALLS, AND A WHOLE RUN -/
/-- what a call leaves: the answer, the cells; the old ones where they were -/
def zPo (g : zG) (kk : Nat → ClassId) (r : Option zA) (v : Option Value) (h1 : zH) (ws w : va_W) : Prop := zHr g kk (ws.map (·.1)) h1 w ∧ (match r, v with
  | none, none => True
  | some a, some v => zV g (w.map (·.1)) a v
  | _, _ => False)
def zB (D : va_G) (kk : Nat → ClassId) (ws : va_W) (sz : Nat) (w : va_W) (t : State) : Prop := va_P D vwCl w t.heap ∧ va_K D vwCl (zKs kk) t ∧ va_D (va_A ws sz) w
def zQc (ret : Option FieldType) (g : zG) (D : va_G) (kk : Nat → ClassId) (r : Option zA) (h1 : zH) (ws : va_W) (sz : Nat) : Array Value → State → Outcome → State → Prop := match ret with
  | none => va_Qv (fun w : va_W => zPo g kk r none h1 ws w) (zB D kk ws sz) (va_A ws sz)
  | some .long => va_Ql (fun (x : Int64) (w : va_W) => zPo g kk r (some (.long x)) h1 ws w) (zB D kk ws sz) (va_A ws sz)
  | some _ => va_Qi (fun (x : Int32) (w : va_W) => zPo g kk r (some (.int x)) h1 ws w) (zB D kk ws sz) (va_A ws sz)
def zPc (g : zG) (D : va_G) (kk : Nat → ClassId) (ws : va_W) (As : List Value) (sz : Nat) : Array Value → State → Prop := va_Pc As (fun U => U.heap.size = sz ∧ va_P D vwCl ws U.heap ∧ va_K D vwCl (zKs kk) U ∧ va_D (fun _ => True) ws ∧ zX g (va_A ws sz) U U.heap)
abbrev zRm (d : Nat) (h h1 : zH) : Room := { frames := d, cells := h1.1.1 - h.1.1, slots := h1.1.2 - h.1.2, locals := 60 * d }
def zCo (l : Launch) (g : zG) (D : va_G) (kk : Nat → ClassId) (d j : Nat) (as : List zA) (h : zH) (r : Option zA) (h1 : zH) : Prop := ∃ M, zmt j = some M ∧ zrk M.2.2.2.1 r = true ∧ zrc M.2.2.2.2.1 as h = true ∧ ∀ (ws : va_W) (As : List Value) (sz : Nat) (ad0 : List Nat), zHr g kk ad0 h ws → zVs g (ws.map (·.1)) as As →
  Met l M.1 (.code M.1 M.2.1 M.2.2.1 M.2.2.2.1 :: zW) (zRm d h h1) (zPc g D kk ws As sz) (zQc M.2.2.2.1 g D kk r h1 ws sz) (h1.1.1 - h.1.1) (h1.1.2 - h.1.2) (va_A ws sz)
noncomputable def zps (r : Option zA) (st : List zA) : List zA := match r with
  | some v => v :: st
  | none => st
theorem va_AOA.moved {ty : FieldType} {u U : State} (hvm : u.vm.Alike U.vm) (h : va_AOA ty u) : va_AOA ty U := by
  unfold va_AOA Cond.before Cond.holds at h ⊢
  simp only [Cond.value, beq_iff_eq] at h ⊢
  cases hc : u.vm.findClass (FieldType.array ty).toString with
  | none => simp [hc] at h
  | some comp =>
    simp only [hc, Option.bind_some, Option.bind_eq_some_iff, Option.map_eq_some_iff] at h
    obtain ⟨c9, hi, k, hk, hb⟩ := h
    obtain ⟨k', hk', he⟩ := hvm.2.2 _ _ hk
    have e1 := va_idx_bare U.vm comp
    have e2 := va_idx_bare u.vm comp
    have eb : U.vm.bare = u.vm.bare := by first | exact hvm.bare_eq | exact hvm.bare_eq.symm
    rw [eb] at e1
    have hi' := (e1.symm.trans e2).trans hi
    have f1 : U.vm.findClass (FieldType.array ty).toString = some comp := by rw [hvm.findClass]; exact hc
    simp only [f1, Option.bind_some, Option.bind_eq_some_iff, Option.map_eq_some_iff]
    refine ⟨c9, hi', k', hk', ?_⟩
    have e9 : k'.kind = k.kind := by rw [he]
    rw [e9, hvm.findClass]
    exact hb
theorem zN_warm {u U : State} (hW : u.WarmedH U.vm) (h : ∀ w ∈ zNs, va_Nw w u) : ∀ w ∈ zNs, va_Nw w U := fun w hw => by
  have h1 := (List.mem_filter.mp hw).2
  have h2 := h w hw
  unfold zisN at h1
  split at h1
  · exact va_Nw.warmM hW h2
  · cases h1
theorem zN_same {u U : State} (hv : u.vm = U.vm) (h : ∀ w ∈ zNs, va_Nw w u) : ∀ w ∈ zNs, va_Nw w U := fun w hw => by
  have h1 := (List.mem_filter.mp hw).2
  have h2 := h w hw
  unfold zisN at h1
  split at h1
  · exact va_Nw.same rfl hv h2
  · cases h1
theorem zX_moved {u U : State} {H : Heap} (hvm : u.vm.Alike U.vm) (hN : (∀ w ∈ zNs, va_Nw w u) → ∀ w ∈ zNs, va_Nw w U) (h : zX g A u H) : zX g A U H :=
  ⟨⟨h.1.1.moved hvm, hN h.1.2⟩, h.2.1.moved hvm, h.2.2.1.moved hvm, ⟨h.2.2.2.1.1.moved hvm, h.2.2.2.1.2.moved hvm⟩, h.2.2.2.2.1.moved hvm, h.2.2.2.2.2.moved hvm⟩
theorem zX_call {u : State} {H : Heap} {B : Nat → Prop} {locs : List Loc} (h : zX g A u u.heap) (hS : va_S A u.heap H locs) (hB : ∀ q, B q → A q) : zX g B u H :=
  ⟨h.1, h.2.1, h.2.2.1, ⟨(h.2.2.2.1.1.kept hS.2.1).narrow hB, (h.2.2.2.1.2.kept hS.2.1).narrow hB⟩, (h.2.2.2.2.1.kept hS.2.1).narrow hB, (h.2.2.2.2.2.kept hS.2.1).narrow hB⟩
theorem zPc_blind {ws : va_W} {As : List Value} {sz : Nat} : FrameBlind (zPc g D kk ws As sz) := fun a U f mk q => by
  obtain ⟨q0, q1, qP, qK, qD, qX⟩ := q
  exact ⟨q0, q1, qP, va_K.moved (u := U) (U := U.calling f mk a) (Vm.Alike.refl U.vm) qK, qD, zX_moved (u := U) (U := U.calling f mk a) (Vm.Alike.refl U.vm) (zN_same rfl) qX⟩
theorem zPc_at {ws : va_W} {As : List Value} {H : Heap} {locs : List Loc} (hK : va_K D vwCl (zKs kk) s) (hX : zX g A s s.heap) (hP : va_P D vwCl ws H) (hD : va_D A ws) (hS : va_S A s.heap H locs) (hF : ∀ q, va_A ws H.size q → A q) : ∀ U : State, U.heap = H → s.WarmedH U.vm → zPc g D kk ws As H.size As.toArray U := fun U hU hW => by
  refine ⟨rfl, by rw [hU], by rw [hU]; exact hP, va_K.moved hW.alike hK, hD.weaken (fun _ _ _ _ => trivial), ?_⟩
  rw [hU]
  exact zX_moved hW.alike (zN_warm hW) (zX_call hX hS hF)
theorem zfree {ws : va_W} {H : Heap} {locs : List Loc} (hA : ∀ q, s.heap.size ≤ q → A q) (hD : va_D A ws) (hS : va_S A s.heap H locs) : ∀ q, va_A ws H.size q → A q := fun q hq => by
  rcases hq with ⟨k, e9, hk⟩ | hq
  · exact hD.2 k _ hk
  · exact hA q (Nat.le_trans hS.1 hq)
/-- behind a call: one way for all kinds of answers -/
theorem zcall_core {ret : Option FieldType} {r : Option zA} {h1 : zH} {ws : va_W} {H : Heap} {locs : List Loc} {cells slots mc ms : Nat} {ls : Array Slot} {sv rest : List Value} {a9 : Array Value} (hk : zrk ret r = true)
    (hr : va_Run p l e R s m args below meth c H locs cells slots mc ms (F0 m pc ls sv) rest (zQc ret g D kk r h1 ws H.size a9) (va_A ws H.size)) (hS : va_S A s.heap H locs) (hF : ∀ q, va_A ws H.size q → A q)
    (kw : ∀ (w : va_W) (H1 : Heap) (locs1 : List Loc) (vs : List Value), zHr g kk (ws.map (·.1)) h1 w → va_P D vwCl w H1 → va_D A w → va_S A s.heap H1 locs1 → zVs g (w.map (·.1)) (zps r []) vs → W p l e R s m args below meth c H1 locs1 (cells + mc) (slots + ms) Q (F0 m (pc + 3) ls (vs ++ rest))) : W p l e R s m args below meth c H locs cells slots Q (F0 m pc ls sv) := by
  unfold zrk at hk
  split at hk
  · refine va_callv (a := a9) hr hS (fun q _ h => hF q h) hF (fun u t H1 locs1 ht hvm hw hB hz1 hk1 hS1 => ?_)
    obtain ⟨hP1, hK1, hD1⟩ := hB
    rw [ht] at hP1
    exact kw u H1 locs1 [] hw.1 hP1 (hD1.weaken (fun _ _ _ h => hF _ h)) hS1 trivial
  · rename_i a0
    refine va_calli (a := a9) hr hS (fun q _ h => hF q h) hF (fun x u t H1 locs1 ht hvm hw hB hz1 hk1 hS1 => ?_)
    obtain ⟨hP1, hK1, hD1⟩ := hB
    rw [ht] at hP1
    exact kw u H1 locs1 [.int x] hw.1 hP1 (hD1.weaken (fun _ _ _ h => hF _ h)) hS1 ⟨hw.2, trivial⟩
  · rename_i p0
    refine va_calli (a := a9) hr hS (fun q _ h => hF q h) hF (fun x u t H1 locs1 ht hvm hw hB hz1 hk1 hS1 => ?_)
    obtain ⟨hP1, hK1, hD1⟩ := hB
    rw [ht] at hP1
    exact kw u H1 locs1 [.int x] hw.1 hP1 (hD1.weaken (fun _ _ _ h => hF _ h)) hS1 ⟨hw.2, trivial⟩
  · rename_i o0
    refine va_calll (a := a9) hr hS (fun q _ h => hF q h) hF (fun x u t H1 locs1 ht hvm hw hB hz1 hk1 hS1 => ?_)
    obtain ⟨hP1, hK1, hD1⟩ := hB
    rw [ht] at hP1
    exact kw u H1 locs1 [.long x] hw.1 hP1 (hD1.weaken (fun _ _ _ h => hF _ h)) hS1 ⟨hw.2, trivial⟩
  · cases hk
theorem zgood {w : Jvm.Cond} (h : w ∈ zW) : GoodIn zW (w :: zW) := fun v hv => by
  have hm : v ∈ zW := (List.mem_cons.mp hv).elim (fun e9 => by rw [e9]; exact h) id
  exact ⟨hm, good_of_word (List.mem_filter.mp hm).2⟩
theorem zVs_app {ad : List Nat} : ∀ {as bs : List zA} {vs ws : List Value}, zVs g ad as vs → zVs g ad bs ws → zVs g ad (as ++ bs) (vs ++ ws)
  | [], _, [], _, _, h2 => h2
  | [], _, _ :: _, _, h1, _ => h1.elim
  | _ :: _, _, [], _, h1, _ => h1.elim
  | _ :: _, _, _ :: _, _, h1, h2 => ⟨h1.1, zVs_app h1.2 h2⟩
theorem zVs_len {ad : List Nat} : ∀ {as : List zA} {vs : List Value}, zVs g ad as vs → vs.length = as.length
  | [], [], _ => rfl
  | [], _ :: _, h => h.elim
  | _ :: _, [], h => h.elim
  | _ :: _, _ :: _, h => by rw [List.length_cons, List.length_cons, zVs_len h.2]
/-- the uppermost n of a stack -/
theorem ztk_ok {ad : List Nat} : ∀ (n : Nat) {st acc : List zA} {sv av : List Value} {as st' : List zA}, zVs g ad st sv → zVs g ad acc av → ztk n st acc = (as, st') → (as = [] ∧ st' = [] ∧ 0 < n) ∨ ∃ As rest, sv = As.reverse ++ (rest : List Value) ∧ zVs g ad as (As ++ av) ∧ zVs g ad st' rest ∧ As.length = n
  | 0, st, acc, sv, av, as, st', h1, h2, e9 => by
    have e9 : (acc, st) = (as, st') := e9
    cases e9
    exact Or.inr ⟨[], sv, rfl, h2, h1, rfl⟩
  | n + 1, [], acc, sv, av, as, st', h1, h2, e9 => by
    have e9 : (([], []) : List zA × List zA) = (as, st') := e9
    cases e9
    exact Or.inl ⟨rfl, rfl, Nat.succ_pos n⟩
  | n + 1, a :: st, acc, sv, av, as, st', h1, h2, e9 => by
    obtain ⟨v, vs, rfl, hV, hF⟩ := zVs_cons h1
    have e9 : ztk n st (a :: acc) = (as, st') := e9
    rcases ztk_ok n hF (show zVs g ad (a :: acc) (v :: av) from ⟨hV, h2⟩) e9 with ⟨e1, e2, -⟩ | ⟨As, rest, e1, h3, h4, h5⟩
    · exact Or.inl ⟨e1, e2, Nat.succ_pos n⟩
    · refine Or.inr ⟨As ++ [v], rest, ?_, by rw [List.append_assoc]; exact h3, h4, by rw [List.length_append, h5]; rfl⟩
      rw [List.reverse_append, e1]
      rfl
theorem zmem {M : zM} (hB : zmB M = true) : Jvm.Cond.code M.1 M.2.1 M.2.2.1 M.2.2.2.1 ∈ zW ∧ Jvm.Cond.initialized M.1.cls ∈ zW ∧ (bif Nat.beq M.2.2.2.2.1 0 then zin (.static M.1) else zin (.instanceMethod M.1)) = true ∧ M.2.2.1 ≤ 40 ∧ plainName M.1.cls = true ∧ (M.1.cls ≠ "java/lang/invoke/MethodHandle" ∧ M.1.cls ≠ "java/lang/invoke/VarHandle") := by
  unfold zmB zmG at hB
  simp only [Bool.and_eq_true] at hB
  exact ⟨zin_ok hB.1, zin_ok hB.2.1, hB.2.2.1, Nat.le_of_ble_eq_true hB.2.2.2.1, of_decide_eq_true hB.2.2.2.2.1, of_decide_eq_true hB.2.2.2.2.2⟩
theorem zcopy_no {j : Nat} {as : List zA} (hs : zs_copy E top al st h = .inr (.inr (.inl (j, as, st')))) : False := by
  unfold zs_copy at hs
  split at hs
  · rename_i n dp r sp q0
    split at hs
    · rename_i k1 n1 d1 ov1 k2 n2 d2 ov2 hg1 hg2
      cases hz : (zc3 E n dp sp n1 && ((Nat.beq k1 0 && Nat.beq k2 0) && (Nat.beq n1 n2 && Nat.ble n1 1000000))) with
      | false => rw [hz] at hs; cases hs
      | true => rw [hz] at hs; cases hs
    · cases hs
  · cases hs
theorem zmm_no {f : zE → zA → zA → zA ⊕ (Nat × Int)} {j : Nat} {as : List zA} (hs : zs_mm f E top al st h = .inr (.inr (.inl (j, as, st')))) : False := by
  unfold zs_mm at hs
  split at hs
  · rename_i b0 a0 st0
    cases hz : Nat.ble ((st0.map zca).sum) 8 with
    | false => rw [hz] at hs; cases hs
    | true =>
      rw [hz] at hs
      replace hs : zpu al st0 h (f E a0 b0) = .inr (.inr (.inl (j, as, st'))) := hs
      unfold zpu at hs
      split at hs <;> cases hs
  · cases hs
theorem zobj_no {j : Nat} {as : List zA} (hs : zs_obj E top al st h = .inr (.inr (.inl (j, as, st')))) : False := by
  unfold zs_obj at hs
  split at hs <;> cases hs
set_option maxHeartbeats 4000000 in
theorem zcall_ok {ins : Instr} {len r1 j d : Nat} {r2 : Int} {as : List zA} {r : Option zA} {h1 : zH} (hC : zCx p s m args meth c cc nL own D kk A g ini top) (hM : ∀ j M, zmt j = some M → zmB M = true ∧ zmV M = true) (hInit : ∀ j M, zmt j = some M → M.1.name = "<init>" → M.2.2.2.1 = none) (hb : zfB own nL ini len r1 r2 pc ins = true) (hd : decode cc pc = .ok (ins, len)) (hc : zisc ins = true) (hs : zsel pc r1 r2 ins E top al st h = .inr (.inr (.inl (j, as, st')))) (hsum : (st'.map zca).sum ≤ 8) (hco : zCo l g D kk d j as h r h1) (hm1 : h.1.1 ≤ h1.1.1) (hm2 : h.1.2 ≤ h1.1.2) (hRf : d + 1 ≤ R.frames) (hRl : 60 * d + 60 ≤ R.locals) (h0 : n0 ≤ h.1.1) (h01 : m0 ≤ h.1.2) (hr1 : h1.1.1 - n0 ≤ R.cells) (hr2 : h1.1.2 - m0 ≤ R.slots) (k : zWn p l e R s m args below meth c Q D kk A g ad0 nL n0 m0 (pc + len) al (zps r st') h1) : zWn p l e R s m args below meth c Q D kk A g ad0 nL n0 m0 pc al st h := by
  obtain ⟨M, hMj, hrk, hrc, hMet⟩ := hco
  obtain ⟨hB, hV⟩ := hM j M hMj
  obtain ⟨wc, wi, wk, wm, wp, wn⟩ := zmem hB
  have ec : h.1.1 - n0 + (h1.1.1 - h.1.1) = h1.1.1 - n0 := by omega
  have es : h.1.2 - m0 + (h1.1.2 - h.1.2) = h1.1.2 - m0 := by omega
  have hfit : h.1.1 - n0 + (h1.1.1 - h.1.1) ≤ R.cells ∧ h.1.2 - m0 + (h1.1.2 - h.1.2) ≤ R.slots := ⟨by omega, by omega⟩
  have hts := hC.2.2.2.2.1
  have hroom : (zRm d h h1).frames + 1 ≤ R.frames ∧ 8 + (M.2.2.1 + 11) + (zRm d h h1).locals ≤ R.locals := ⟨hRf, by show 8 + (M.2.2.1 + 11) + 60 * d ≤ _; omega⟩
  -- behind the call
  have fin : ∀ {ls : Array Slot} {H : Heap} {locs : List Loc} {ws : va_W} {lv : List (Nat × Value)} {rest : List Value}, lv_has ls nL lv → zLs g (ws.map (·.1)) al lv → zVs g (ws.map (·.1)) st' rest → zHr g kk ad0 h ws → len = 3 → ∀ (w : va_W) (H1 : Heap) (locs1 : List Loc) (vs : List Value), zHr g kk (ws.map (·.1)) h1 w → va_P D vwCl w H1 → va_D A w → va_S A s.heap H1 locs1 → zVs g (w.map (·.1)) (zps r []) vs → W p l e R s m args below meth c H1 locs1 (h.1.1 - n0 + (h1.1.1 - h.1.1)) (h.1.2 - m0 + (h1.1.2 - h.1.2)) Q (F0 m (pc + 3) ls (vs ++ rest)) := by
    intro ls H locs ws lv rest hl hL hF hh hlen w H1 locs1 vs hh1 hP1 hD1 hS1 hvs
    subst hlen
    rw [ec, es]
    obtain ⟨l0, e0⟩ := hh1.1.2
    obtain ⟨l1, e1⟩ := hh.1.2
    have hrest : zVs g (w.map (·.1)) st' rest := by rw [e0]; exact zVs_grow _ hF
    have hall : zVs g (w.map (·.1)) (zps r st') (vs ++ rest) := by
      have := zVs_app hvs hrest
      cases r with
      | none => exact this
      | some a => exact this
    exact k ls _ H1 locs1 ⟨w, lv, ⟨⟨hh1.1.1, ⟨l1 ++ l0, by rw [e0, e1, List.append_assoc]⟩⟩, hh1.2⟩, hl, by rw [e0]; exact zLs_grow _ hL, hall, hP1, hD1, hS1⟩
  have hwd : ∀ {ws : va_W} {rest : List Value}, zVs g (ws.map (·.1)) st' rest → ∀ ls sv, 2 * (F0 m pc ls sv).monitorRoom + (rest.map fun v => v.category).sum ≤ 8 := fun hF ls sv => by
    refine lv_room ?_
    rw [zVs_cat hF]
    exact hsum
  unfold zisc at hc
  split at hc
  · -- invokevirtual
    rename_i i
    have hb1 := (Bool.and_eq_true _ _).mp hb
    have hlen : len = 3 := Nat.eq_of_beq_eq_true hb1.1
    subst hlen
    have hs : zs_inv r1 r2.toNat E top al st h = .inr (.inr (.inl (j, as, st'))) := hs
    unfold zs_inv at hs
    split at hs
    · rename_i as0 o st0 htk
      cases hs
      have hb2 := hb1.2
      rw [hMj] at hb2
      simp only [Bool.and_eq_true] at hb2
      obtain ⟨hkn, hnin, hlk, hpar⟩ := hb2
      intro ls sv H locs ⟨ws, lv, hh, hl, hL, hF, hP, hD, hS⟩
      rcases ztk_ok r2.toNat hF (show zVs g (ws.map (·.1)) [] [] from trivial) htk with ⟨-, e2, -⟩ | ⟨As, rest0, rfl, hAs, hrest0, hAl⟩
      · cases e2
      · rw [List.append_nil] at hAs
        obtain ⟨vo, rest, rfl, hVo, hrest⟩ := zVs_cons hrest0
        obtain ⟨q, hq, rfl⟩ := id hVo
        have hFr := zfree hC.2.2.2.2.2.2.1 hD hS
        obtain ⟨ci, hci⟩ : ∃ ci, M.2.2.2.2.1 = ci + 1 := by
          cases hz : M.2.2.2.2.1 with
          | zero => rw [hz] at hkn; cases hkn
          | succ ci => exact ⟨ci, rfl⟩
        have hVV := hV
        unfold zmV zmW at hVV
        rw [hci] at hVV hrc wk
        simp only [Bool.and_eq_true] at hVV
        have hcl := zcl_ok ci (Nat.le_of_ble_eq_true hVV.1)
        have hnm : zRn ci = M.1.cls := of_decide_eq_true hVV.2.1
        have hsel : zin (.selects M.1.cls M.1 M.1) = true := by
          have := hVV.2.2
          rw [Bool.or_eq_true] at this
          rcases this with w9 | w9
          · exact absurd (of_decide_eq_true w9) (of_decide_eq_true hnin)
          · exact w9
        have hrecv : ∃ cell : Cell, H[q]? = some cell ∧ cell.vm.isStatics = false ∧ s.vm.findClass M.1.cls = some cell.cls := by
          have hrc : (match zgt h o with | some (.inl (c, _)) => Nat.beq c ci | _ => false) = true := hrc
          split at hrc
          · rename_i c9 fs9 hget
            have e9 := Nat.eq_of_beq_eq_true hrc
            subst e9
            obtain ⟨q1, e1, hw1, hc1⟩ := hh.2 _ _ hget
            cases zat hq hw1
            obtain ⟨vs1, rfl, -, -⟩ := hc1
            rw [← hnm]
            exact va_recv hC.2.2.2.2.2.1 hP (ci := c9) (q := (zRn c9, zTn c9, zN c9)) hcl.1 hw1
          · cases hrc
        have hmet := hMet ws (.ref q :: As) H.size ad0 hh ⟨hVo, hAs⟩
        refine zcall_core (a9 := (Value.ref q :: As).toArray) hrk (va_runV (C := M.1.cls) (As := As) (rest := rest) (n := r2.toNat) (maxL := M.2.2.1) (ret := M.2.2.2.1) (bytes := M.2.1) ⟨hC.1, hC.2.1, hC.2.2.1, hC.2.2.2.1, hts⟩ hmet ⟨callB_of r2.toNat hts (zgood wc) rfl rfl rfl (hts _ wi) (hts _ (zin_ok hlk)) ⟨wn.1, wn.2, of_decide_eq_true hpar⟩ hroom, hts _ (zin_ok wk), hts _ (zin_ok hsel)⟩ ⟨zPc_blind, hrecv, zPc_at hC.2.2.2.2.2.1 hC.2.2.2.2.2.2.2.1 hP hD hS hFr⟩ rfl hAl hl.1 rfl (hwd hrest _ _) hd hfit) hS hFr (fin (H := H) (locs := locs) hl hL hrest hh rfl)
    · cases hs
  · -- invokestatic
    rename_i i
    have hb1 := (Bool.and_eq_true _ _).mp hb
    have hlen : len = 3 := Nat.eq_of_beq_eq_true hb1.1
    subst hlen
    have hb2 := hb1.2
    cases hz1 : Nat.beq r1 1001 with
    | true =>
      replace hs : (bif Nat.beq r1 1001 then zs_copy else bif Nat.beq r1 1002 then zs_mm zmx else bif Nat.beq r1 1003 then zs_mm zmn else zs_ins r1 r2.toNat) E top al st h = .inr (.inr (.inl (j, as, st'))) := hs
      rw [hz1] at hs
      have hs : zs_copy E top al st h = .inr (.inr (.inl (j, as, st'))) := hs
      exact (zcopy_no hs).elim
    | false =>
      replace hs : (bif Nat.beq r1 1001 then zs_copy else bif Nat.beq r1 1002 then zs_mm zmx else bif Nat.beq r1 1003 then zs_mm zmn else zs_ins r1 r2.toNat) E top al st h = .inr (.inr (.inl (j, as, st'))) := hs
      rw [hz1] at hs hb2
      have hq2 : Nat.beq r1 1002 = false := by
        cases hz2 : Nat.beq r1 1002 with
        | false => rfl
        | true =>
          rw [hz2] at hs
          have hs : zs_mm zmx E top al st h = .inr (.inr (.inl (j, as, st'))) := hs
          exact (zmm_no hs).elim
      rw [hq2] at hs hb2
      have hq3 : Nat.beq r1 1003 = false := by
        cases hz2 : Nat.beq r1 1003 with
        | false => rfl
        | true =>
          rw [hz2] at hs
          have hs : zs_mm zmn E top al st h = .inr (.inr (.inl (j, as, st'))) := hs
          exact (zmm_no hs).elim
      rw [hq3] at hs hb2
      replace hs : zs_ins r1 r2.toNat E top al st h = .inr (.inr (.inl (j, as, st'))) := hs
      unfold zs_ins at hs
      split at hs
      rename_i as0 st0 htk
      cases hz2 : Nat.beq as0.length r2.toNat with
      | false => rw [hz2] at hs; cases hs
      | true =>
        rw [hz2] at hs
        cases hs
        have hlen2 := Nat.eq_of_beq_eq_true hz2
        have hb2 : (match zmt r1 with | some M => Nat.beq M.2.2.2.2.1 0 && (zlk2 zin own i M.1 && decide (zpar M.1 = some r2.toNat)) | none => false) = true := hb2
        rw [hMj] at hb2
        simp only [Bool.and_eq_true] at hb2
        obtain ⟨hkn, hlk, hpar⟩ := hb2
        rw [hkn] at wk
        intro ls sv H locs ⟨ws, lv, hh, hl, hL, hF, hP, hD, hS⟩
        rcases ztk_ok r2.toNat hF (show zVs g (ws.map (·.1)) [] [] from trivial) htk with ⟨e1, e2, e3⟩ | ⟨As, rest, rfl, hAs, hrest, hAl⟩
        · rw [e1] at hlen2
          have : (0 : Nat) = r2.toNat := hlen2
          omega
        · rw [List.append_nil] at hAs
          have hFr := zfree hC.2.2.2.2.2.2.1 hD hS
          have hmet := hMet ws As H.size ad0 hh hAs
          have hpre : PreS s H (zPc g D kk ws As H.size) As := ⟨zPc_blind, zPc_at hC.2.2.2.2.2.1 hC.2.2.2.2.2.2.2.1 hP hD hS hFr⟩
          unfold zlk2 at hlk
          rw [Bool.or_eq_true] at hlk
          rcases hlk with hlk | hlk
          · exact zcall_core (a9 := As.toArray) hrk (va_runS (As := As) (rest := rest) (n := r2.toNat) (maxL := M.2.2.1) (ret := M.2.2.2.1) (bytes := M.2.1) ⟨hC.1, hC.2.1, hC.2.2.1, hC.2.2.2.1, hts⟩ hmet ⟨callB_of r2.toNat hts (zgood wc) rfl rfl rfl (hts _ wi) (hts _ (zin_ok hlk)) ⟨wn.1, wn.2, of_decide_eq_true hpar⟩ hroom, hts _ (zin_ok wk)⟩ hpre rfl hAl hl.1 rfl (hwd hrest _ _) hd hfit) hS hFr (fin (H := H) (locs := locs) hl hL hrest hh rfl)
          · exact zcall_core (a9 := As.toArray) hrk (va_runSN (As := As) (rest := rest) (n := r2.toNat) (maxL := M.2.2.1) (ret := M.2.2.2.1) (bytes := M.2.1) ⟨hC.1, hC.2.1, hC.2.2.1, hC.2.2.2.1, hts⟩ hmet ⟨va_cnB r2.toNat hts (zgood wc) rfl rfl rfl (hC.2.2.2.2.2.2.2.1.1.2 _ (zin_nest hlk)) (hts _ wi) ⟨wn.1, wn.2, of_decide_eq_true hpar⟩ hroom, hts _ (zin_ok wk), trivial⟩ hpre rfl hAl hl.1 rfl (hwd hrest _ _) hd hfit) hS hFr (fin (H := H) (locs := locs) hl hL hrest hh rfl)
  · -- invokespecial
    rename_i i
    have hb1 := (Bool.and_eq_true _ _).mp hb
    have hlen : len = 3 := Nat.eq_of_beq_eq_true hb1.1
    subst hlen
    have hb2 := hb1.2
    have hs : (bif Nat.beq r1 1000 then zs_obj else zs_inv r1 r2.toNat) E top al st h = .inr (.inr (.inl (j, as, st'))) := hs
    cases hz1 : Nat.beq r1 1000 with
    | true =>
      rw [hz1] at hs
      have hs : zs_obj E top al st h = .inr (.inr (.inl (j, as, st'))) := hs
      exact (zobj_no hs).elim
    | false =>
      rw [hz1] at hs hb2
      have hs : zs_inv r1 r2.toNat E top al st h = .inr (.inr (.inl (j, as, st'))) := hs
      unfold zs_inv at hs
      split at hs
      · rename_i as0 o st0 htk
        cases hs
        have hb2 : (match zmt r1 with | some M => !(Nat.beq M.2.2.2.2.1 0) && (decide (M.1.name = "<init>") && (zlk2 zin own i M.1 && decide (zpar M.1 = some r2.toNat))) | none => false) = true := hb2
        rw [hMj] at hb2
        simp only [Bool.and_eq_true] at hb2
        obtain ⟨hkn, hin, hlk, hpar⟩ := hb2
        have hin : M.1.name = "<init>" := of_decide_eq_true hin
        have hkn : Nat.beq M.2.2.2.2.1 0 = false := by
          cases hz : Nat.beq M.2.2.2.2.1 0 with
          | false => rfl
          | true => rw [hz] at hkn; cases hkn
        rw [hkn] at wk
        have hret : M.2.2.2.1 = none := hInit _ M hMj hin
        intro ls sv H locs ⟨ws, lv, hh, hl, hL, hF, hP, hD, hS⟩
        rcases ztk_ok r2.toNat hF (show zVs g (ws.map (·.1)) [] [] from trivial) htk with ⟨-, e2, -⟩ | ⟨As, rest0, rfl, hAs, hrest0, hAl⟩
        · cases e2
        · rw [List.append_nil] at hAs
          obtain ⟨vo, rest, rfl, hVo, hrest⟩ := zVs_cons hrest0
          obtain ⟨q, hq, rfl⟩ := id hVo
          have hFr := zfree hC.2.2.2.2.2.2.1 hD hS
          have hmet := hMet ws (.ref q :: As) H.size ad0 hh ⟨hVo, hAs⟩
          have hpre : PreS s H (zPc g D kk ws (.ref q :: As) H.size) (.ref q :: As) := ⟨zPc_blind, zPc_at hC.2.2.2.2.2.1 hC.2.2.2.2.2.2.2.1 hP hD hS hFr⟩
          rw [hret] at hmet hrk wc
          unfold zlk2 at hlk
          rw [Bool.or_eq_true] at hlk
          rcases hlk with hlk | hlk
          · exact zcall_core (ret := none) (a9 := (Value.ref q :: As).toArray) hrk (va_runI (As := As) (rest := rest) (n := r2.toNat) (maxL := M.2.2.1) (bytes := M.2.1) ⟨hC.1, hC.2.1, hC.2.2.1, hC.2.2.2.1, hts⟩ hmet ⟨callB_of r2.toNat hts (zgood wc) rfl rfl rfl (hts _ wi) (hts _ (zin_ok hlk)) ⟨wn.1, wn.2, of_decide_eq_true hpar⟩ hroom, hin, hts _ (zin_ok wk)⟩ hpre rfl hAl hl.1 rfl (hwd hrest _ _) hd hfit) hS hFr (fin (H := H) (locs := locs) hl hL hrest hh rfl)
          · exact zcall_core (ret := none) (a9 := (Value.ref q :: As).toArray) hrk (va_runIN (As := As) (rest := rest) (n := r2.toNat) (maxL := M.2.2.1) (bytes := M.2.1) ⟨hC.1, hC.2.1, hC.2.2.1, hC.2.2.2.1, hts⟩ hmet ⟨va_cnB r2.toNat hts (zgood wc) rfl rfl rfl (hC.2.2.2.2.2.2.2.1.1.2 _ (zin_nest hlk)) (hts _ wi) ⟨wn.1, wn.2, of_decide_eq_true hpar⟩ hroom, hin, hts _ (zin_ok wk)⟩ hpre rfl hAl hl.1 rfl (hwd hrest _ _) hd hfit) hS hFr (fin (H := H) (locs := locs) hl hL hrest hh rfl)
      · cases hs
  · cases hc
end ZC
end
section
section ZX
variable {p : Program} {l : Launch} {e : Env} {R : Room} {s : State} {m : MethodId} {args : Array Value} {below : List Frame} {meth : Method} {c : Code} {Q : State → Prop} {D : va_G} {kk : Nat → ClassId} {A : Nat → Prop} {g : zG} {ad0 : List Nat} {nL n0 m0 : Nat} {cc : ByteArray} {own : String} {ini top : Bool} {E : zE} {pc : Nat} {al al' : zL} {st st' : List zA} {h h' : zH}
theorem zsk_mem {t k : Nat} {b : Bool} {cd tl : List zI} (h : ∀ x ∈ tl, x ∈ cd) : ∀ x ∈ zsk t b k cd tl, x ∈ cd := fun x hx => by
  unfold zsk at hx
  cases b with
  | true => exact h x (List.mem_of_mem_drop hx)
  | false =>
    cases hz : Nat.beq k 0 with
    | true =>
      rw [hz] at hx
      exact (List.dropWhile_sublist _).subset hx
    | false =>
      rw [hz] at hx
      exact List.mem_of_mem_drop hx
theorem zmo_ok {h1 : zH} (e9 : zmo h h1 = true) : h.1.1 ≤ h1.1.1 ∧ h.1.2 ≤ h1.1.2 := by
  unfold zmo at e9
  rw [Bool.and_eq_true] at e9
  exact ⟨Nat.le_of_ble_eq_true e9.1, Nat.le_of_ble_eq_true e9.2⟩
set_option maxHeartbeats 4000000 in
theorem zrun_ok {cd : List zI} {call : Nat → List zA → zH → zO} {d : Nat} (hC : zCx p s m args meth c cc nL own D kk A g ini top) (hE : zEv g E) (hM : ∀ j M, zmt j = some M → zmB M = true ∧ zmV M = true) (hInit : ∀ j M, zmt j = some M → M.1.name = "<init>" → M.2.2.2.1 = none)
    (hfit : ∀ x ∈ cd, decode cc x.1 = .ok (x.2.1, x.2.2.1) ∧ zfB own nL ini x.2.2.1 x.2.2.2.1 x.2.2.2.2 x.1 x.2.1 = true) (hcall : ∀ j as h r h1, call j as h = .inl (r, h1) → zCo l g D kk d j as h r h1) (hRf : d + 1 ≤ R.frames) (hRl : 60 * d + 60 ≤ R.locals) {r : Option zA}
    (hret : ∀ (x : zI) (al : zL) (st : List zA), x ∈ cd → zisr x.2.1 = true → zsel x.1 x.2.2.2.1 x.2.2.2.2 x.2.1 E top al st h' = .inr (.inr (.inr (.inl r))) → zWn p l e R s m args below meth c Q D kk A g ad0 nL n0 m0 x.1 al st h') (hr1 : h'.1.1 - n0 ≤ R.cells) (hr2 : h'.1.2 - m0 ≤ R.slots) :
    ∀ (n : Nat) (rest : List zI) (pc : Nat) (al : zL) (st : List zA) (h : zH), (∀ x ∈ rest, x ∈ cd) → zrun E top cd call n rest pc al st h = .inl (r, h') → h.1.1 ≤ h'.1.1 ∧ h.1.2 ≤ h'.1.2 ∧ (n0 ≤ h.1.1 → m0 ≤ h.1.2 → zWn p l e R s m args below meth c Q D kk A g ad0 nL n0 m0 pc al st h) := by
  intro n
  induction n with
  | zero =>
    intro rest pc al st h _ e9
    replace e9 : (.inr (990, 0) : zO) = .inl (r, h') := e9
    cases e9
  | succ n ih =>
    intro rest pc al st h hmem e9
    replace e9 : zr1 E top cd call (zrun E top cd call n) rest pc al st h = .inl (r, h') := e9
    cases rest with
    | nil => cases e9
    | cons x tl =>
      replace e9 : (bif Nat.beq x.1 pc then zr2 cd call (zrun E top cd call n) x tl al h (zsel x.1 x.2.2.2.1 x.2.2.2.2 x.2.1 E top al st h) else .inr (993, 0)) = .inl (r, h') := e9
      have hx : x ∈ cd := hmem x List.mem_cons_self
      have htl : ∀ y ∈ tl, y ∈ cd := fun y hy => hmem y (List.mem_cons_of_mem _ hy)
      obtain ⟨hd, hb⟩ := hfit x hx
      cases hz : Nat.beq x.1 pc with
      | false => rw [hz] at e9; cases e9
      | true =>
        rw [hz] at e9
        have epc := Nat.eq_of_beq_eq_true hz
        subst epc
        replace e9 : zr2 cd call (zrun E top cd call n) x tl al h (zsel x.1 x.2.2.2.1 x.2.2.2.2 x.2.1 E top al st h) = .inl (r, h') := e9
        cases hsel : zsel x.1 x.2.2.2.1 x.2.2.2.2 x.2.1 E top al st h with
        | inl q =>
          rw [hsel] at e9
          obtain ⟨al1, st1, h1⟩ := q
          replace e9 : (bif zmo h h1 then zrun E top cd call n tl (x.1 + x.2.2.1) al1 st1 h1 else .inr (988, 0)) = .inl (r, h') := e9
          cases hmo : zmo h h1 with
          | false => rw [hmo] at e9; cases e9
          | true =>
            rw [hmo] at e9
            have hm := zmo_ok hmo
            obtain ⟨i1, i2, i3⟩ := ih tl (x.1 + x.2.2.1) al1 st1 h1 htl e9
            refine ⟨Nat.le_trans hm.1 i1, Nat.le_trans hm.2 i2, fun h0 h01 => ?_⟩
            exact zgo_ok hC hE hb hd (by omega) (by omega) h0 h01 (by omega) (by omega) hsel (i3 (by omega) (by omega))
        | inr q =>
          cases q with
          | inl q =>
            rw [hsel] at e9
            replace e9 : (bif zisj x.2.1 then zrun E top cd call n (zsk q.1 q.2.1 q.2.2.1 cd tl) q.1 al q.2.2.2 h else .inr (987, 0)) = .inl (r, h') := e9
            cases hj : zisj x.2.1 with
            | false => rw [hj] at e9; cases e9
            | true =>
              rw [hj] at e9
              obtain ⟨i1, i2, i3⟩ := ih (zsk q.1 q.2.1 q.2.2.1 cd tl) q.1 al q.2.2.2 h (zsk_mem htl) e9
              exact ⟨i1, i2, fun h0 h01 => zjp_ok hC hE hb hd hj hsel (i3 h0 h01)⟩
          | inr q =>
            cases q with
            | inl q =>
              rw [hsel] at e9
              replace e9 : (bif zisc x.2.1 && Nat.ble ((q.2.2.map zca).sum) 8 then zr3 (zrun E top cd call n) tl (x.1 + x.2.2.1) al q.2.2 h (call q.1 q.2.1 h) else .inr (994, 0)) = .inl (r, h') := e9
              cases hj : (zisc x.2.1 && Nat.ble ((q.2.2.map zca).sum) 8) with
              | false => rw [hj] at e9; cases e9
              | true =>
                rw [hj] at e9
                rw [Bool.and_eq_true] at hj
                replace e9 : zr3 (zrun E top cd call n) tl (x.1 + x.2.2.1) al q.2.2 h (call q.1 q.2.1 h) = .inl (r, h') := e9
                cases hcr : call q.1 q.2.1 h with
                | inr q2 => rw [hcr] at e9; cases e9
                | inl q2 =>
                  rw [hcr] at e9
                  replace e9 : (bif zmo h q2.2 then (match q2.1 with
                    | some v => zrun E top cd call n tl (x.1 + x.2.2.1) al (v :: q.2.2) q2.2
                    | none => zrun E top cd call n tl (x.1 + x.2.2.1) al q.2.2 q2.2) else .inr (989, 0)) = .inl (r, h') := e9
                  cases hmo : zmo h q2.2 with
                  | false => rw [hmo] at e9; cases e9
                  | true =>
                    rw [hmo] at e9
                    have hm := zmo_ok hmo
                    replace e9 : zrun E top cd call n tl (x.1 + x.2.2.1) al (zps q2.1 q.2.2) q2.2 = .inl (r, h') := by
                      cases hq2 : q2.1 with
                      | none => rw [hq2] at e9; exact e9
                      | some v => rw [hq2] at e9; exact e9
                    obtain ⟨i1, i2, i3⟩ := ih tl (x.1 + x.2.2.1) al (zps q2.1 q.2.2) q2.2 htl e9
                    refine ⟨Nat.le_trans hm.1 i1, Nat.le_trans hm.2 i2, fun h0 h01 => ?_⟩
                    exact zcall_ok hC hM hInit hb hd hj.1 hsel (Nat.le_of_ble_eq_true hj.2) (hcall _ _ _ _ _ hcr) hm.1 hm.2 hRf hRl h0 h01 (by omega) (by omega) (i3 (by omega) (by omega))
            | inr q =>
              cases q with
              | inl q =>
                rw [hsel] at e9
                replace e9 : (bif zisr x.2.1 then .inl (q, h) else .inr (986, 0)) = (.inl (r, h') : zO) := e9
                cases hj : zisr x.2.1 with
                | false => rw [hj] at e9; cases e9
                | true =>
                  rw [hj] at e9
                  cases e9
                  exact ⟨Nat.le_refl _, Nat.le_refl _, fun _ _ => hret x al st hx hj hsel⟩
              | inr q =>
                rw [hsel] at e9
                cases e9
theorem zent_ok {ad : List Nat} : ∀ {as : List zA} {As : List Value} (i : Nat), zVs g ad as As → zLs g ad (zent i as) (lv_args i As)
  | [], [], _, _ => trivial
  | [], _ :: _, _, h => h.elim
  | _ :: _, [], _, h => h.elim
  | a :: as, v :: vs, i, h => by
    have e9 : (if v.category = 2 then i + 2 else i + 1) = i + zca a := by
      rw [zV_cat h.1]
      unfold zca
      split
      · rfl
      · rfl
    refine ⟨⟨rfl, h.1⟩, ?_⟩
    show zLs g ad (zent (i + zca a) as) (lv_args (if v.category = 2 then i + 2 else i + 1) vs)
    rw [e9]
    exact zent_ok (i + zca a) h.2
theorem zsl_len {ad : List Nat} : ∀ {as : List zA} {As : List Value}, zVs g ad as As → (lg_sl As).length = (as.map zca).sum
  | [], [], _ => rfl
  | [], _ :: _, h => h.elim
  | _ :: _, [], h => h.elim
  | a :: as, v :: vs, h => by
    have e9 : lg_sl (v :: vs) = (if v.category = 2 then [.val v, .second] else [.val v]) ++ lg_sl vs := rfl
    rw [e9, List.length_append, zsl_len h.2, List.map_cons, List.sum_cons, zV_cat h.1]
    unfold zca
    split
    · rfl
    · rfl
/-- the method's own end -/
theorem zret_ok {ws : va_W} {r : Option zA} {M : zM} {h1 : zH} {x : zI} (hC : zCx p s m args meth c cc nL own D kk (va_A ws s.heap.size) g ini top) (hlk : meth.locks = false) (hsig : meth.sig.returnType = M.2.2.2.1) (hrk : zrk M.2.2.2.1 r = true) (hd : decode cc x.1 = .ok (x.2.1, x.2.2.1)) (hb : zfB own nL ini x.2.2.1 x.2.2.2.1 x.2.2.2.2 x.1 x.2.1 = true) (hj : zisr x.2.1 = true) (hs : zsel x.1 x.2.2.2.1 x.2.2.2.2 x.2.1 E top al st h1 = .inr (.inr (.inr (.inl r)))) :
    zWn p l e R s m args below meth c (MQ below (zQc M.2.2.2.1 g D kk r h1 ws s.heap.size) args s (h1.1.1 - n0) (h1.1.2 - m0) (va_A ws s.heap.size)) D kk (va_A ws s.heap.size) g (ws.map (·.1)) nL n0 m0 x.1 al st h1 := by
  obtain ⟨pc, ins, len, r1, r2⟩ := x
  simp only at hd hb hj hs ⊢
  have hK := hC.2.2.2.2.2.1
  unfold zisr at hj
  split at hj
  · have hlen : len = 1 := Nat.eq_of_beq_eq_true hb
    subst hlen
    replace hs : zs_iret E top al st h1 = .inr (.inr (.inr (.inl r))) := hs
    unfold zs_iret at hs
    split at hs
    · rename_i a
      cases hz : zint a with
      | false => rw [hz] at hs; cases hs
      | true =>
        rw [hz] at hs
        cases hs
        intro ls sv H locs ⟨w, lv, hh, hl, hL, hF, hP, hD, hS⟩
        obtain ⟨v, vs, rfl, hV, hF1⟩ := zVs_cons hF
        have e1 := zVs_nil hF1
        subst e1
        obtain ⟨y, rfl⟩ := zV_int hz hV
        unfold zrk at hrk
        split at hrk
        · rename_i heq1 heq2
          cases heq2
        · rename_i a0 heq1 heq2
          rw [heq1] at hsig ⊢
          exact W.iret (v := y) hC.1 hC.2.1 hsig (fun t ht hW => ⟨⟨y, w, rfl, ⟨hh, hV⟩, by rw [ht]; exact hP, va_K.moved hW.alike hK, hD⟩, hS.F ht⟩) hS.2.2 hd hlk
        · rename_i q0 heq1 heq2
          rw [heq1] at hsig ⊢
          cases heq2
          have hn : narrow .boolean (.int y) = .int y := (zfit_ok (E := E) (t := .boolean) (a := .inl q0) hrk hV).1
          exact W.zret (v := y) (ty := .boolean) hC.1 hC.2.1 hsig hn (fun t ht hW => ⟨⟨y, w, rfl, ⟨hh, hV⟩, by rw [ht]; exact hP, va_K.moved hW.alike hK, hD⟩, hS.F ht⟩) hS.2.2 hd hlk
        · rename_i o0 heq1 heq2
          cases heq2
          cases hz
        · cases hrk
    · cases hs
  · have hlen : len = 1 := Nat.eq_of_beq_eq_true hb
    subst hlen
    replace hs : zs_lret E top al st h1 = .inr (.inr (.inr (.inl r))) := hs
    unfold zs_lret at hs
    split at hs
    · rename_i o
      cases hs
      intro ls sv H locs ⟨w, lv, hh, hl, hL, hF, hP, hD, hS⟩
      obtain ⟨v, vs, rfl, hV, hF1⟩ := zVs_cons hF
      have e1 := zVs_nil hF1
      subst e1
      obtain ⟨y, rfl, hy⟩ := id hV
      unfold zrk at hrk
      split at hrk
      · rename_i heq1 heq2
        cases heq2
      · rename_i a0 heq1 heq2
        cases heq2
        cases hrk
      · rename_i q0 heq1 heq2
        cases heq2
      · rename_i o0 heq1 heq2
        rw [heq1] at hsig ⊢
        exact W.lret (v := y) hC.1 hC.2.1 hsig (fun t ht hW => ⟨⟨y, w, rfl, ⟨hh, hV⟩, by rw [ht]; exact hP, va_K.moved hW.alike hK, hD⟩, hS.F ht⟩) hS.2.2 hd hlk
      · cases hrk
    · cases hs
  · have hlen : len = 1 := Nat.eq_of_beq_eq_true hb
    subst hlen
    replace hs : zs_vret E top al st h1 = .inr (.inr (.inr (.inl r))) := hs
    unfold zs_vret at hs
    split at hs
    · cases hs
      intro ls sv H locs ⟨w, lv, hh, hl, hL, hF, hP, hD, hS⟩
      have e1 := zVs_nil hF
      subst e1
      unfold zrk at hrk
      split at hrk
      · rename_i heq1 heq2
        rw [heq1] at hsig ⊢
        exact W.vret hC.1 hC.2.1 hsig (fun t ht hW => ⟨⟨w, rfl, ⟨hh, trivial⟩, by rw [ht]; exact hP, va_K.moved hW.alike hK, hD⟩, hS.F ht⟩) hS.2.2 hd hlk
      · rename_i a0 heq1 heq2
        cases heq2
      · rename_i q0 heq1 heq2
        cases heq2
      · rename_i o0 heq1 heq2
        cases heq2
      · cases hrk
    · cases hs
  · cases hj
/-- every method of the table does on the machine what the engine's run of it says -/
theorem zx_ok (hE : zEv g E) (hM : ∀ j M, zmt j = some M → zmB M = true ∧ zmV M = true) (hInit : ∀ j M, zmt j = some M → M.1.name = "<init>" → M.2.2.2.1 = none) (hF : ∀ j M, zmt j = some M → zfM M.1.cls M.2.2.1 (decide (M.1.name = "<init>")) M.2.1 M.2.2.2.2.2 = true) :
    ∀ (d j : Nat) (as : List zA) (h : zH) (r : Option zA) (h1 : zH), zx E d j as h = .inl (r, h1) → zCo l g D kk d j as h r h1 := by
  intro d
  induction d with
  | zero =>
    intro j as h r h1 e9
    replace e9 : (.inr (995, 0) : zO) = .inl (r, h1) := e9
    cases e9
  | succ d ih =>
    intro j as h r h1 e9
    have e9 : zx1 E (zx E d) as h (zmt j) = .inl (r, h1) := e9
    cases hj : zmt j with
    | none => rw [hj] at e9; cases e9
    | some M =>
      rw [hj] at e9
      replace e9 : (bif zrc M.2.2.2.2.1 as h && Nat.ble ((as.map zca).sum) M.2.2.1 then zx2 M.2.2.2.1 (zrun E false M.2.2.2.2.2 (zx E d) 100000 M.2.2.2.2.2 0 (zent 0 as) [] h) else .inr (998, 0)) = .inl (r, h1) := e9
      cases hz : (zrc M.2.2.2.2.1 as h && Nat.ble ((as.map zca).sum) M.2.2.1) with
      | false => rw [hz] at e9; cases e9
      | true =>
        rw [hz] at e9
        rw [Bool.and_eq_true] at hz
        have e9 : zx2 M.2.2.2.1 (zrun E false M.2.2.2.2.2 (zx E d) 100000 M.2.2.2.2.2 0 (zent 0 as) [] h) = .inl (r, h1) := e9
        cases hrun : zrun E false M.2.2.2.2.2 (zx E d) 100000 M.2.2.2.2.2 0 (zent 0 as) [] h with
        | inr q => rw [hrun] at e9; cases e9
        | inl q =>
          rw [hrun] at e9
          replace e9 : (bif zrk M.2.2.2.1 q.1 then .inl q else .inr (996, 0)) = (.inl (r, h1) : zO) := e9
          cases hk : zrk M.2.2.2.1 q.1 with
          | false => rw [hk] at e9; cases e9
          | true =>
            rw [hk] at e9
            have e8 : q = (r, h1) := Sum.inl.inj e9
            subst e8
            obtain ⟨hB, hV⟩ := hM j M hj
            obtain ⟨wc, wi, wk, wm, wp, wn⟩ := zmem hB
            have hfit := List.all_eq_true.mp (hF j M hj)
            refine ⟨M, hj, hk, hz.1, fun ws As sz ad0 hh hAs => ?_⟩
            refine Met.ofW (cc := M.2.1) (maxL := M.2.2.1) (ret := M.2.2.2.1) wp rfl ?_
            intro p e s m args below meth c s₁ B hml hv
            obtain ⟨rfl, hsz, hP, hK, hD0, hX⟩ := hv
            subst hsz
            have hts := atoms_spec (ws := Jvm.Cond.code M.1 M.2.1 M.2.2.1 M.2.2.2.1 :: zW) B.pre
            have hown : s.vm.findClass M.1.cls = some m.cls := findClass_of_methodNamed B.named
            have hin : meth.name = M.1.name := (name_of_methodNamed B.named B.method).1
            have hC : zCx p s m As.toArray meth c M.2.1 M.2.2.1 M.1.cls D kk (va_A ws s.heap.size) g (decide (M.1.name = "<init>")) false := ⟨B.exec, B.bytes, hml, hown, fun w hw => hts w (List.mem_cons_of_mem _ hw), hK, fun q h9 => Or.inr h9, hX, fun h9 => hin.trans (of_decide_eq_true h9), fun h9 => by cases h9⟩
            have hall : ∀ x ∈ M.2.2.2.2.2, decode M.2.1 x.1 = .ok (x.2.1, x.2.2.1) ∧ zfB M.1.cls M.2.2.1 (decide (M.1.name = "<init>")) x.2.2.1 x.2.2.2.1 x.2.2.2.2 x.1 x.2.1 = true := fun x hx => by
              have := hfit x hx
              rw [Bool.and_eq_true] at this
              exact ⟨of_decide_eq_true this.1, this.2⟩
            have hl := lv_entry As (n := M.2.2.1) (by rw [zsl_len hAs]; exact Nat.le_of_ble_eq_true hz.2)
            rw [lg_entry_eq]
            obtain ⟨-, -, hW⟩ := zrun_ok (R := zRm (d + 1) h h1) (l := l) (e := e) (below := below) (Q := MQ below (zQc M.2.2.2.1 g D kk r h1 ws s.heap.size) As.toArray s (h1.1.1 - h.1.1) (h1.1.2 - h.1.2) (va_A ws s.heap.size)) (ad0 := ws.map (·.1)) (n0 := h.1.1) (m0 := h.1.2) hC hE hM hInit hall ih (Nat.le_refl _) (by show 60 * d + 60 ≤ 60 * (d + 1); omega) (fun x al st hx hjr hs => zret_ok hC B.notSynchronized B.returns hk (hall x hx).1 (hall x hx).2 hjr hs) (Nat.le_refl _) (Nat.le_refl _) 100000 M.2.2.2.2.2 0 (zent 0 as) [] h (fun _ hx => hx) hrun
            have := hW (Nat.le_refl _) (Nat.le_refl _) _ [] s.heap [] ⟨ws, lv_args 0 As, ⟨⟨hh.1.1, [], (List.append_nil _).symm⟩, hh.2⟩, hl, zent_ok 0 hAs, trivial, hP, hD0.self, va_S.rf⟩
            rw [Nat.sub_self, Nat.sub_self] at this
            exact this
end ZX
end
section
noncomputable def zinA (p : Nat) (w : Jvm.Cond) : Bool := (match znt lw_tbl p with
  | some v => decide (v = w)
  | none => false) && (goodWord w || zisN w)
theorem znt_mem {α : Type} {a : α} : ∀ {l : List α} {n : Nat}, znt l n = some a → a ∈ l
  | [], _, h => by cases h
  | b :: l, 0, h => by
    have h : some b = some a := h
    cases h
    exact List.mem_cons_self
  | b :: l, n + 1, h => List.mem_cons_of_mem _ (znt_mem (l := l) (n := n) h)
theorem zinA_ok {p : Nat} {w : Jvm.Cond} (h : zinA p w = true) : zin w = true := by
  unfold zinA at h
  rw [Bool.and_eq_true] at h
  unfold zin
  rw [Bool.and_eq_true, decide_eq_true_eq]
  refine ⟨?_, h.2⟩
  have h1 := h.1
  split at h1
  · rename_i v hv
    have e9 : v = w := of_decide_eq_true h1
    rw [← e9]
    exact znt_mem hv
  · cases h1
noncomputable def zfD (own : String) (nL : Nat) (ini : Bool) (cc : ByteArray) : List zI → List Nat → Bool
  | x :: cd, p :: hs => (decide (decode cc x.1 = .ok (x.2.1, x.2.2.1)) && zfG (zinA p) own nL ini x.2.2.1 x.2.2.2.1 x.2.2.2.2 x.1 x.2.1) && zfD own nL ini cc cd hs
  | [], [] => true
  | _, _ => false
theorem zfD_ok {own : String} {nL : Nat} {ini : Bool} {cc : ByteArray} : ∀ {cd : List zI} {hs : List Nat}, zfD own nL ini cc cd hs = true → zfM own nL ini cc cd = true
  | [], [], _ => rfl
  | [], _ :: _, h => by cases h
  | _ :: _, [], h => by cases h
  | x :: cd, p :: hs, h => by
    have h : ((decide (decode cc x.1 = .ok (x.2.1, x.2.2.1)) && zfG (zinA p) own nL ini x.2.2.1 x.2.2.2.1 x.2.2.2.2 x.1 x.2.1) && zfD own nL ini cc cd hs) = true := h
    rw [Bool.and_eq_true, Bool.and_eq_true] at h
    have ih := zfD_ok h.2
    show ((decide (decode cc x.1 = .ok (x.2.1, x.2.2.1)) && zfB own nL ini x.2.2.1 x.2.2.2.1 x.2.2.2.2 x.1 x.2.1) && zfM own nL ini cc cd) = true
    rw [Bool.and_eq_true, Bool.and_eq_true]
    exact ⟨⟨h.1.1, zfG_mono (fun w hw => zinA_ok hw) h.1.2⟩, ih⟩
noncomputable def zmD (M : zM) (q : Nat × Nat × Nat × Nat) (hs : List Nat) : Bool := zmG (zinA q.1) (zinA q.2.1) (zinA q.2.2.1) M && (zmW (zinA q.2.2.2) M && ((!(decide (M.1.name = "<init>")) || decide (M.2.2.2.1 = none)) && zfD M.1.cls M.2.2.1 (decide (M.1.name = "<init>")) M.2.1 M.2.2.2.2.2 hs))
end
section
set_option maxRecDepth 100000 in
theorem zck_X0_init : zmD (yX0_init, cX0_init, 1, none, 1, zc_X0_init) (134, 53, 133, 0) [0, 135, 0, 136, 0, 138, 166, 0, 0, 0, 168, 0, 0, 0, 169, 0, 0, 0, 170, 0, 0, 171, 0, 0, 172, 0, 0, 173, 0] = true := by decide +kernel
set_option maxRecDepth 100000 in
theorem zck_X1_init : zmD (yX1_init, cX1_init, 1, none, 2, zc_X1_init) (195, 55, 194, 0) [0, 196, 0, 197, 0, 199, 268, 0, 231, 0, 233, 270, 0, 254, 0, 256, 272, 0, 0, 274, 0, 0, 276, 0] = true := by decide +kernel
set_option maxRecDepth 100000 in
theorem zck_X2_init : zmD (yX2_init, cX2_init, 1, none, 3, zc_X2_init) (201, 56, 200, 0) [0, 202, 0, 0, 0, 203, 0, 0, 0, 205, 0, 0, 0, 207, 0, 0, 0, 208, 0, 0, 0, 209, 0, 0, 0, 210, 0, 0, 0, 211, 0, 0, 212, 0] = true := by decide +kernel
set_option maxRecDepth 100000 in
theorem zck_X3_init : zmD (yX3_init, cX3_init, 1, none, 4, zc_X3_init) (235, 57, 234, 0) [0, 236, 0, 0, 0, 237, 0, 0, 0, 239, 0, 0, 0, 241, 0, 0, 243, 0] = true := by decide +kernel
set_option maxRecDepth 100000 in
theorem zck_X4_init : zmD (yX4_init, cX4_init, 1, none, 5, zc_X4_init) (258, 58, 257, 0) [0, 259, 0, 0, 0, 260, 0, 0, 261, 0] = true := by decide +kernel
set_option maxRecDepth 100000 in
theorem zck_X5_init : zmD (yX5_init, cX5_init, 2, none, 6, zc_X5_init) (293, 59, 292, 0) [0, 294, 0, 0, 0, 295, 0, 0, 0, 298, 0, 0, 0, 301, 0, 0, 0, 304, 0, 0, 0, 306, 0, 0, 0, 308, 0, 0, 0, 310, 0, 0, 0, 312, 0, 0, 0, 314, 0, 0, 0, 316, 0, 0, 318, 0, 0, 0, 0, 0, 0, 301, 0, 0, 0, 0, 0, 0] = true := by decide +kernel
set_option maxRecDepth 100000 in
theorem zck_X6_init : zmD (yX6_init, cX6_init, 1, none, 7, zc_X6_init) (86, 52, 85, 0) [0, 87, 0, 0, 0, 88, 0, 0, 0, 90, 0, 0, 0, 92, 0, 0, 0, 94, 0, 0, 0, 96, 0, 0, 98, 0] = true := by decide +kernel
set_option maxRecDepth 100000 in
theorem zck_X7_init : zmD (yX7_init, cX7_init, 1, none, 8, zc_X7_init) (80, 51, 79, 0) [0, 81, 0, 0, 0, 116, 0, 82, 0, 84, 117, 0, 0, 119, 0] = true := by decide +kernel
set_option maxRecDepth 100000 in
theorem zck_X8_init : zmD (yX8_init, cX8_init, 1, none, 9, zc_X8_init) (140, 54, 139, 0) [0, 141, 0, 0, 0, 144, 0, 0, 0, 142, 145, 0, 0, 0, 142, 146, 0, 0, 0, 142, 147, 0, 0, 148, 0, 0, 149, 0, 0, 150, 0, 147, 0, 0, 0, 0, 0, 0] = true := by decide +kernel
set_option maxRecDepth 100000 in
theorem zck_X9_init : zmD (yX9_init, cX9_init, 2, none, 10, zc_X9_init) (72, 50, 71, 0) [0, 73, 0, 76, 0, 78, 344, 0, 128, 0, 129, 345, 0, 130, 0, 132, 346, 0, 0, 189, 347, 0, 191, 0, 193, 348, 0, 0, 191, 349, 0, 0, 350, 0, 0, 0, 0, 0, 0, 347, 0, 189, 0, 291, 0, 0, 0, 0, 0, 0, 0, 0, 0, 349, 0, 191, 0, 193, 0, 0, 0, 0] = true := by decide +kernel
set_option maxRecDepth 100000 in
theorem zck_X10_init : zmD (yX10_init, cX10_init, 2, none, 11, zc_X10_init) (889, 60, 888, 0) [0, 890, 0, 0, 0, 893, 0, 0, 0, 896, 0, 0, 0, 897, 0, 0, 0, 898, 0, 0, 0, 899, 0, 0, 0, 900, 0, 0, 0, 906, 0, 0, 0, 907, 0, 0, 0, 908, 0, 0, 0, 909, 0, 0, 0, 910, 0, 0, 0, 911, 0, 0, 0, 912, 0, 0, 0, 913, 0, 0, 0, 914, 0, 0, 0, 915, 0, 0, 0, 916, 0, 0, 0, 917, 0, 0, 0, 918, 0, 0, 0, 922, 0, 0, 0, 923, 0, 0, 0, 924, 0, 0, 0, 925, 0, 0, 0, 926, 0, 0, 0, 927, 0, 0, 0, 928, 0, 0, 0, 929, 0, 0, 0, 930, 0, 0, 0, 931, 0, 0, 0, 932, 0, 0, 0, 933, 0, 0, 0, 934, 0, 0, 0, 935, 0, 0, 0, 936, 0, 0, 0, 937, 0, 0, 0, 938, 0, 0, 0, 939, 0, 0, 0, 940, 0, 0, 0, 941, 0, 0, 0, 0, 0, 0, 908, 0, 0, 0, 0, 0, 0] = true := by decide +kernel
set_option maxRecDepth 100000 in
theorem zlk_0 : zfD RL 4 false cL_law zlaw [68, 0, 70, 0, 885, 0, 887, 0, 0, 0] = true := by decide +kernel
end
section
theorem zmD_ok {M : zM} {q : Nat × Nat × Nat × Nat} {hs : List Nat} (h : zmD M q hs = true) : (zmB M = true ∧ zmV M = true) ∧ (M.1.name = "<init>" → M.2.2.2.1 = none) ∧ zfM M.1.cls M.2.2.1 (decide (M.1.name = "<init>")) M.2.1 M.2.2.2.2.2 = true := by
  unfold zmD at h
  simp only [Bool.and_eq_true] at h
  refine ⟨⟨zmG_mono (fun _ w => zinA_ok w) (fun _ w => zinA_ok w) (fun _ w => zinA_ok w) h.1, zmW_mono (fun _ w => zinA_ok w) h.2.1⟩, fun hi => ?_, zfD_ok h.2.2.2⟩
  have h3 := h.2.2.1
  rw [Bool.or_eq_true] at h3
  rcases h3 with w | w
  · rw [decide_eq_true hi] at w
    cases w
  · exact of_decide_eq_true w
abbrev zmok (M : zM) : Prop := (zmB M = true ∧ zmV M = true) ∧ (M.1.name = "<init>" → M.2.2.2.1 = none) ∧ zfM M.1.cls M.2.2.1 (decide (M.1.name = "<init>")) M.2.1 M.2.2.2.2.2 = true
theorem zmr_0 : ∀ M ∈ zms_0, zmok M := List.forall_mem_cons.mpr ⟨zmD_ok zck_X0_init, List.forall_mem_cons.mpr ⟨zmD_ok zck_X1_init, List.forall_mem_cons.mpr ⟨zmD_ok zck_X2_init, List.forall_mem_cons.mpr ⟨zmD_ok zck_X3_init, List.forall_mem_cons.mpr ⟨zmD_ok zck_X4_init, List.forall_mem_cons.mpr ⟨zmD_ok zck_X5_init, List.forall_mem_cons.mpr ⟨zmD_ok zck_X6_init, List.forall_mem_cons.mpr ⟨zmD_ok zck_X7_init, List.forall_mem_cons.mpr ⟨zmD_ok zck_X8_init, List.forall_mem_cons.mpr ⟨zmD_ok zck_X9_init, List.forall_mem_cons.mpr ⟨zmD_ok zck_X10_init, fun _ h => by cases h⟩⟩⟩⟩⟩⟩⟩⟩⟩⟩⟩
theorem zmr : ∀ r ∈ zms, ∀ M ∈ r, zmok M := List.forall_mem_cons.mpr ⟨zmr_0, fun _ h => by cases h⟩
theorem zma : ∀ j M, zmt j = some M → zmok M := fun j M h => by
  unfold zmt at h
  split at h
  · rename_i r hr
    exact zmr r (znt_mem hr) M (znt_mem h)
  · cases h
theorem zlw_ok : ∀ x ∈ zlaw, decode cL_law x.1 = .ok (x.2.1, x.2.2.1) ∧ zfB RL 4 false x.2.2.1 x.2.2.2.1 x.2.2.2.2 x.1 x.2.1 = true := fun x hx => by
  have := List.all_eq_true.mp (zfD_ok zlk_0) x hx
  rw [Bool.and_eq_true] at this
  exact ⟨of_decide_eq_true this.1, this.2⟩
end
section
/-! THE q-LAYER: exact values, a memory of numbers by cell and place, steps as transformers of predicates. A value: an int; a long; a cell by its number; a thing outside (0: the script; 1, 2: the static tables; 10 + i: a String constant; 20 + i: its bytes). -/
abbrev qV : Type := Int ⊕ Int ⊕ Int ⊕ Nat
abbrev qM : Type := Int → Int → Int
abbrev qL : Type := List (Option qV)
abbrev qC : Type := qL → List qV → qM → Prop
abbrev qK : Type := Nat → qC
abbrev qT : Type := Option (Int × (Int → Int))
/-- an instruction: its place, itself, its length, two numbers that tell what it links or where it jumps, a constant -/
abbrev qI : Type := Nat × Instr × Nat × Nat × Nat × Int
abbrev qCall : Type := Nat → List qV → qM → (qV → qM → Prop) → Prop
def q32 (z : Int) : Int := (Int32.ofInt z).toInt
def q64 (z : Int) : Int := (Int64.ofInt z).toInt
def qand (a b : Int) : Int := (Int32.ofInt a &&& Int32.ofInt b).toInt
def qior (a b : Int) : Int := (Int32.ofInt a ||| Int32.ofInt b).toInt
def qxor (a b : Int) : Int := (Int32.ofInt a ^^^ Int32.ofInt b).toInt
def qshl (a b : Int) : Int := (Int32.ofInt a <<< (Int32.ofInt b &&& 31)).toInt
def qshr (a b : Int) : Int := (Int32.ofInt a >>> (Int32.ofInt b &&& 31)).toInt
def qushr (a b : Int) : Int := ((Int32.ofInt a).toUInt32 >>> ((Int32.ofInt b).toUInt32 &&& Int32.toUInt32 31)).toInt32.toInt
def qlrem (a b : Int) : Int := (Int64.ofInt a - Int64.ofInt a / Int64.ofInt b * Int64.ofInt b).toInt
def qirem (a b : Int) : Int := (Int32.ofInt a - Int32.ofInt a / Int32.ofInt b * Int32.ofInt b).toInt
def qidiv (a b : Int) : Int := (Int32.ofInt a / Int32.ofInt b).toInt
def qland (a b : Int) : Int := (Int64.ofInt a &&& Int64.ofInt b).toInt
def qlor (a b : Int) : Int := (Int64.ofInt a ||| Int64.ofInt b).toInt
def qlshl (a b : Int) : Int := (Int64.ofInt a <<< ((Int32.ofInt b).toInt64 &&& 63)).toInt
def qlshr (a b : Int) : Int := (Int64.ofInt a >>> ((Int32.ofInt b).toInt64 &&& 63)).toInt
def qlushr (a b : Int) : Int := ((Int64.ofInt a).toUInt64 >>> ((Int32.ofInt b).toInt64.toUInt64 &&& Int64.toUInt64 63)).toInt64.toInt
def qi2b (a : Int) : Int := (Int32.ofInt a).toInt8.toInt32.toInt
def qi2c (a : Int) : Int := ((Int32.ofInt a).toUInt32 % 65536).toInt32.toInt
def qlcmp (a b : Int) : Int := if b < a then 1 else if a = b then 0 else -1
def qmax (a b : Int) : Int := if a < b then b else a
def qmin (a b : Int) : Int := if b < a then b else a
/-- the memory with v at the place i of the cell c -/
def qu (μ : qM) (c i v : Int) : qM := fun c' i' => if c' = c ∧ i' = i then v else μ c' i'
/-- the memory with the cell a's contents in the cell b -/
def qcp (μ : qM) (a b : Int) : qM := fun c' i' => if c' = b then μ a i' else μ c' i'
def qg : qL → Nat → Option qV
  | [], _ => none
  | a :: _, 0 => a
  | _ :: l, k + 1 => qg l k
def qcl : Option qV → Option qV
  | some (.inr (.inl _)) => none
  | o => o
def qset : qL → Nat → qV → qL
  | [], _, _ => []
  | _ :: l, 0, v => some v :: l
  | a :: l, 1, v => qcl a :: (match l with
    | [] => []
    | _ :: l => some v :: l)
  | a :: l, k + 2, v => a :: qset l (k + 1) v
def qnone : qL → Nat → qL
  | [], _ => []
  | _ :: l, 0 => none :: l
  | a :: l, k + 1 => a :: qnone l k
def qtk : Nat → List qV → List qV → Option (List qV × List qV)
  | 0, st, acc => some (acc, st)
  | n + 1, a :: st, acc => qtk n st (a :: acc)
  | _ + 1, [], _ => none
def qle4 : List qV → Bool
  | [] => true
  | [_] => true
  | [_, _] => true
  | [_, _, _] => true
  | [_, _, _, _] => true
  | _ => false
def qca : qV → Nat
  | .inr (.inl _) => 2
  | _ => 1
def qrel (k : Jvm.ClassFile.Cond) (a b : Int) : Prop := match k with
  | .eq => a = b
  | .ne => ¬ a = b
  | .lt => a < b
  | .ge => b ≤ a
  | .gt => b < a
  | .le => a ≤ b
def qneg (k : Jvm.ClassFile.Cond) (a b : Int) : Prop := match k with
  | .eq => ¬ a = b
  | .ne => a = b
  | .lt => b ≤ a
  | .ge => a < b
  | .gt => a ≤ b
  | .le => b < a
/-! what the cells are -/
/-- a cell: an object (class, its fields: the cell that one holds, if it holds one), or an array (kind, length, the cells that it holds) -/
abbrev qS : Type := (Nat × List (Option Nat)) ⊕ (Nat × Nat × List Nat)
def qsh : List qS := [
  .inl (9, [some 1, some 9, some 15, some 57, some 58, some 73, none]), .inl (7, [some 2, some 3, none]), .inr (2, 300, []), .inl (6, [some 4, some 5, some 6, some 7, some 8, none]), .inr (0, 6, []), .inr (0, 6, []),
  .inr (0, 6, []), .inr (0, 6, []), .inr (0, 6, []), .inl (6, [some 10, some 11, some 12, some 13, some 14, none]), .inr (0, 6, []), .inr (0, 6, []),
  .inr (0, 6, []), .inr (0, 6, []), .inr (0, 6, []), .inl (0, [some 16, some 54, some 55, some 56, none, none, none]), .inl (8, [some 17, some 18, some 30, some 42, none, none, none]), .inr (0, 21, []),
  .inr (7, 11, [19, 20, 21, 22, 23, 24, 25, 26, 27, 28, 29]), .inr (0, 201, []), .inr (0, 201, []), .inr (0, 201, []), .inr (0, 201, []), .inr (0, 201, []),
  .inr (0, 201, []), .inr (0, 201, []), .inr (0, 201, []), .inr (0, 201, []), .inr (0, 201, []), .inr (0, 201, []),
  .inr (7, 11, [31, 32, 33, 34, 35, 36, 37, 38, 39, 40, 41]), .inr (0, 201, []), .inr (0, 201, []), .inr (0, 201, []), .inr (0, 201, []), .inr (0, 201, []),
  .inr (0, 201, []), .inr (0, 201, []), .inr (0, 201, []), .inr (0, 201, []), .inr (0, 201, []), .inr (0, 201, []),
  .inr (7, 11, [43, 44, 45, 46, 47, 48, 49, 50, 51, 52, 53]), .inr (0, 201, []), .inr (0, 201, []), .inr (0, 201, []), .inr (0, 201, []), .inr (0, 201, []),
  .inr (0, 201, []), .inr (0, 201, []), .inr (0, 201, []), .inr (0, 201, []), .inr (0, 201, []), .inr (0, 201, []),
  .inr (0, 10, []), .inr (0, 3, []), .inr (0, 3, []), .inr (5, 6, [74, 85, 96, 107, 118, 129]), .inl (1, [some 59, some 67, some 71, none, none]), .inl (2, [some 60, some 61, some 62, some 63, some 64, some 65, some 66, none]),
  .inr (0, 20, []), .inr (0, 20, []), .inr (0, 20, []), .inr (0, 20, []), .inr (0, 20, []), .inr (0, 20, []),
  .inr (0, 20, []), .inl (3, [some 68, some 69, some 70, none]), .inr (0, 30, []), .inr (0, 30, []), .inr (0, 30, []), .inl (4, [some 72, none]),
  .inr (0, 40, []), .inr (6, 2, [140, 155]), .inl (5, [some 75, some 76, some 77, some 78, some 79, some 80, some 81, some 82, some 83, some 84, none]), .inr (0, 10, []), .inr (0, 10, []), .inr (0, 10, []),
  .inr (0, 10, []), .inr (0, 3, []), .inr (0, 3, []), .inr (0, 3, []), .inr (0, 3, []), .inr (0, 201, []),
  .inr (0, 201, []), .inl (5, [some 86, some 87, some 88, some 89, some 90, some 91, some 92, some 93, some 94, some 95, none]), .inr (0, 10, []), .inr (0, 10, []), .inr (0, 10, []), .inr (0, 10, []),
  .inr (0, 3, []), .inr (0, 3, []), .inr (0, 3, []), .inr (0, 3, []), .inr (0, 201, []), .inr (0, 201, []),
  .inl (5, [some 97, some 98, some 99, some 100, some 101, some 102, some 103, some 104, some 105, some 106, none]), .inr (0, 10, []), .inr (0, 10, []), .inr (0, 10, []), .inr (0, 10, []), .inr (0, 3, []),
  .inr (0, 3, []), .inr (0, 3, []), .inr (0, 3, []), .inr (0, 201, []), .inr (0, 201, []), .inl (5, [some 108, some 109, some 110, some 111, some 112, some 113, some 114, some 115, some 116, some 117, none]),
  .inr (0, 10, []), .inr (0, 10, []), .inr (0, 10, []), .inr (0, 10, []), .inr (0, 3, []), .inr (0, 3, []),
  .inr (0, 3, []), .inr (0, 3, []), .inr (0, 201, []), .inr (0, 201, []), .inl (5, [some 119, some 120, some 121, some 122, some 123, some 124, some 125, some 126, some 127, some 128, none]), .inr (0, 10, []),
  .inr (0, 10, []), .inr (0, 10, []), .inr (0, 10, []), .inr (0, 3, []), .inr (0, 3, []), .inr (0, 3, []),
  .inr (0, 3, []), .inr (0, 201, []), .inr (0, 201, []), .inl (5, [some 130, some 131, some 132, some 133, some 134, some 135, some 136, some 137, some 138, some 139, none]), .inr (0, 10, []), .inr (0, 10, []),
  .inr (0, 10, []), .inr (0, 10, []), .inr (0, 3, []), .inr (0, 3, []), .inr (0, 3, []), .inr (0, 3, []),
  .inr (0, 201, []), .inr (0, 201, []), .inl (1, [some 141, some 149, some 153, none, none]), .inl (2, [some 142, some 143, some 144, some 145, some 146, some 147, some 148, none]), .inr (0, 20, []), .inr (0, 20, []),
  .inr (0, 20, []), .inr (0, 20, []), .inr (0, 20, []), .inr (0, 20, []), .inr (0, 20, []), .inl (3, [some 150, some 151, some 152, none]),
  .inr (0, 30, []), .inr (0, 30, []), .inr (0, 30, []), .inl (4, [some 154, none]), .inr (0, 40, []), .inl (1, [some 156, some 164, some 168, none, none]),
  .inl (2, [some 157, some 158, some 159, some 160, some 161, some 162, some 163, none]), .inr (0, 20, []), .inr (0, 20, []), .inr (0, 20, []), .inr (0, 20, []), .inr (0, 20, []),
  .inr (0, 20, []), .inr (0, 20, []), .inl (3, [some 165, some 166, some 167, none]), .inr (0, 30, []), .inr (0, 30, []), .inr (0, 30, []),
  .inl (4, [some 169, none]), .inr (0, 40, []), .inl (10, [none, none, some 171, none, none, some 172, some 173, some 174, some 175, some 176, none, none, none, none, none, some 177, some 178, some 179, some 180, some 181, some 182, some 183, some 184, some 185, some 186, some 187, some 188, some 189, none, none, none, some 190, some 191, some 192, some 193, some 194, some 195, some 196, some 197, some 198, some 199, some 200, some 201, some 202, some 203, some 204, some 205, some 206, some 207, some 208, some 209]), .inr (1, 300, []), .inr (0, 12, []), .inr (0, 12, []),
  .inr (0, 12, []), .inr (0, 12, []), .inr (0, 12, []), .inr (0, 60, []), .inr (0, 60, []), .inr (0, 60, []),
  .inr (0, 60, []), .inr (0, 6, []), .inr (0, 18, []), .inr (0, 18, []), .inr (0, 18, []), .inr (0, 18, []),
  .inr (0, 10, []), .inr (4, 201, []), .inr (0, 201, []), .inr (0, 201, []), .inr (3, 201, []), .inr (0, 3, []),
  .inr (0, 3, []), .inr (0, 3, []), .inr (0, 3, []), .inr (0, 3, []), .inr (0, 60, []), .inr (0, 60, []),
  .inr (0, 60, []), .inr (0, 60, []), .inr (0, 60, []), .inr (0, 60, []), .inr (0, 60, []), .inr (0, 60, []),
  .inr (0, 90, []), .inr (0, 90, []), .inr (0, 90, []), .inr (0, 120, []), .inr (0, 2412, []), .inr (3, 2, [])]
def qat (c : Int) : Option qS := match c with
  | .ofNat n => qsh[n]?
  | .negSucc _ => none
def qty (c : Int) : Nat := match qat c with
  | some (.inl x) => x.1
  | some (.inr x) => 100 + x.1
  | none => 999
def qal (c : Int) : Int := match qat c with
  | some (.inr x) => (x.2.1 : Int)
  | _ => 0
def qra (c i : Int) : Int := match qat c with
  | some (.inr x) => ((x.2.2.getD i.toNat 0 : Nat) : Int)
  | _ => 0
def qrf (c : Int) (k : Nat) : Int := match qat c with
  | some (.inl x) => (((x.2.getD k none).getD 0 : Nat) : Int)
  | _ => 0
/-! the String constants -/
def qsl : List (List Int32) := [[102, 114, 111, 109], [98, 97, 115, 101], [102, 114, 101, 101], [116, 97, 107, 101], [47], [59]]
/-! steps -/
/-- P, if b; a closed b goes away by computation -/
def qif (b : Bool) (P : Prop) : Prop := bif b then P else False
theorem qif_ok {b : Bool} {P : Prop} (h : qif b P) : b = true ∧ P := by
  cases b with
  | true => exact ⟨rfl, h⟩
  | false => exact h.elim
theorem qif_eq {a b : Nat} {P : Prop} (h : qif (Nat.beq a b) P) : a = b ∧ P := ⟨Nat.eq_of_beq_eq_true (qif_ok h).1, (qif_ok h).2⟩
theorem qif_mono {b : Bool} {P Q : Prop} (h : P → Q) : qif b P → qif b Q := by
  cases b with
  | true => exact h
  | false => exact id
theorem qif_t {b : Bool} {P : Prop} (h : b = true) : qif b P = P := by
  rw [h]
  rfl
theorem qif_e {a b : Nat} {P : Prop} (h : a = b) : qif (Nat.beq a b) P = P := qif_t (by rw [h]; exact Nat.beq_refl b)
noncomputable def qs_iload (k : Nat) (K : qC) : qC := fun ls st μ => match qg ls k with
  | some (.inl a) => K ls (.inl a :: st) μ
  | _ => False
noncomputable def qs_lload (k : Nat) (K : qC) : qC := fun ls st μ => match qg ls k with
  | some (.inr (.inl a)) => K ls (.inr (.inl a) :: st) μ
  | _ => False
noncomputable def qs_aload (k : Nat) (K : qC) : qC := fun ls st μ => match qg ls k with
  | some (.inr (.inr (.inl a))) => K ls (.inr (.inr (.inl a)) :: st) μ
  | some (.inr (.inr (.inr a))) => ¬ a = 3 ∧ K ls (.inr (.inr (.inr a)) :: st) μ
  | _ => False
noncomputable def qs_istore (k : Nat) (K : qC) : qC := fun ls st μ => match st with
  | .inl a :: st => K (qset ls k (.inl a)) st μ
  | _ => False
noncomputable def qs_lstore (k : Nat) (K : qC) : qC := fun ls st μ => match st with
  | .inr (.inl a) :: st => K (qset (qnone ls (k + 1)) k (.inr (.inl a))) st μ
  | _ => False
noncomputable def qs_astore (k : Nat) (K : qC) : qC := fun ls st μ => match st with
  | .inr (.inr (.inl a)) :: st => K (qset ls k (.inr (.inr (.inl a)))) st μ
  | _ => False
noncomputable def qs_push (v : qV) (K : qC) : qC := fun ls st μ => K ls (v :: st) μ
noncomputable def qs_b (f : Int → Int → Int) (K : qC) : qC := fun ls st μ => match st with
  | .inl b :: .inl a :: st => K ls (.inl (f a b) :: st) μ
  | _ => False
noncomputable def qs_bd (f : Int → Int → Int) (K : qC) : qC := fun ls st μ => match st with
  | .inl b :: .inl a :: st => ¬ b = 0 ∧ K ls (.inl (f a b) :: st) μ
  | _ => False
noncomputable def qs_l (f : Int → Int → Int) (K : qC) : qC := fun ls st μ => match st with
  | .inr (.inl b) :: .inr (.inl a) :: st => K ls (.inr (.inl (f a b)) :: st) μ
  | _ => False
noncomputable def qs_ld (f : Int → Int → Int) (K : qC) : qC := fun ls st μ => match st with
  | .inr (.inl b) :: .inr (.inl a) :: st => ¬ b = 0 ∧ K ls (.inr (.inl (f a b)) :: st) μ
  | _ => False
noncomputable def qs_lsh (f : Int → Int → Int) (K : qC) : qC := fun ls st μ => match st with
  | .inl b :: .inr (.inl a) :: st => K ls (.inr (.inl (f a b)) :: st) μ
  | _ => False
noncomputable def qs_u (f : Int → Int) (K : qC) : qC := fun ls st μ => match st with
  | .inl a :: st => K ls (.inl (f a) :: st) μ
  | _ => False
noncomputable def qs_i2l (K : qC) : qC := fun ls st μ => match st with
  | .inl a :: st => K ls (.inr (.inl a) :: st) μ
  | _ => False
noncomputable def qs_l2i (K : qC) : qC := fun ls st μ => match st with
  | .inr (.inl a) :: st => K ls (.inl (q32 a) :: st) μ
  | _ => False
noncomputable def qs_lcmp (K : qC) : qC := fun ls st μ => match st with
  | .inr (.inl b) :: .inr (.inl a) :: st => K ls (.inl (qlcmp a b) :: st) μ
  | _ => False
noncomputable def qs_iinc (k : Nat) (n : Int) (K : qC) : qC := fun ls st μ => match qg ls k with
  | some (.inl a) => K (qset ls k (.inl (q32 (a + n)))) st μ
  | _ => False
noncomputable def qs_dup (K : qC) : qC := fun ls st μ => match st with
  | .inl a :: st => K ls (.inl a :: .inl a :: st) μ
  | .inr (.inr (.inl a)) :: st => K ls (.inr (.inr (.inl a)) :: .inr (.inr (.inl a)) :: st) μ
  | _ => False
noncomputable def qs_dup2 (K : qC) : qC := fun ls st μ => match st with
  | .inl a :: .inr (.inr (.inl b)) :: st => K ls (.inl a :: .inr (.inr (.inl b)) :: .inl a :: .inr (.inr (.inl b)) :: st) μ
  | _ => False
noncomputable def qs_pop (K : qC) : qC := fun ls st μ => match st with
  | .inl _ :: st => K ls st μ
  | _ => False
noncomputable def qs_goto (K : qC) : qC := fun ls st μ => K ls st μ
noncomputable def qs_icmp (k : Jvm.ClassFile.Cond) (Kt Kf : qC) : qC := fun ls st μ => match st with
  | .inl b :: .inl a :: st => (qrel k a b → Kt ls st μ) ∧ (qneg k a b → Kf ls st μ)
  | _ => False
noncomputable def qs_if (k : Jvm.ClassFile.Cond) (Kt Kf : qC) : qC := fun ls st μ => match st with
  | .inl a :: st => (qrel k a 0 → Kt ls st μ) ∧ (qneg k a 0 → Kf ls st μ)
  | _ => False
noncomputable def qtab (a : Int) : Int → List qC → qC
  | _, [] => fun _ _ _ => True
  | i, K :: l => fun ls st μ => (a = i → K ls st μ) ∧ qtab a (i + 1) l ls st μ
noncomputable def qs_table (lo hi : Int) (Kd : qC) (Ks : List qC) : qC := fun ls st μ => match st with
  | .inl a :: st => ((a < lo ∨ hi < a) → Kd ls st μ) ∧ qtab a lo Ks ls st μ
  | _ => False
noncomputable def qs_gi (r k : Nat) (K : qC) : qC := fun ls st μ => match st with
  | .inr (.inr (.inl c)) :: st => qif (Nat.beq (qty c) r) (K ls (.inl (μ c k) :: st) μ)
  | _ => False
noncomputable def qs_gl (r k : Nat) (K : qC) : qC := fun ls st μ => match st with
  | .inr (.inr (.inl c)) :: st => qif (Nat.beq (qty c) r) (K ls (.inr (.inl (μ c k)) :: st) μ)
  | _ => False
noncomputable def qs_gr (r k : Nat) (K : qC) : qC := fun ls st μ => match st with
  | .inr (.inr (.inl c)) :: st => qif (Nat.beq (qty c) r) (K ls (.inr (.inr (.inl (qrf c k))) :: st) μ)
  | _ => False
noncomputable def qs_gsc (K : qC) : qC := fun ls st μ => match st with
  | .inr (.inr (.inr k)) :: st => (10 ≤ k ∧ k < 16) ∧ K ls (.inl 0 :: st) μ
  | _ => False
noncomputable def qs_gsv (K : qC) : qC := fun ls st μ => match st with
  | .inr (.inr (.inr k)) :: st => (10 ≤ k ∧ k < 16) ∧ K ls (.inr (.inr (.inr (k + 10))) :: st) μ
  | _ => False
noncomputable def qs_pi (r k : Nat) (K : qC) : qC := fun ls st μ => match st with
  | .inl v :: .inr (.inr (.inl c)) :: st => qif (Nat.beq (qty c) r) (K ls st (qu μ c k v))
  | _ => False
noncomputable def qs_pb (r k : Nat) (K : qC) : qC := fun ls st μ => match st with
  | .inl v :: .inr (.inr (.inl c)) :: st => qif (Nat.beq (qty c) r) ((0 ≤ v ∧ v ≤ 1) ∧ K ls st (qu μ c k v))
  | _ => False
noncomputable def qs_pl (r k : Nat) (K : qC) : qC := fun ls st μ => match st with
  | .inr (.inl v) :: .inr (.inr (.inl c)) :: st => qif (Nat.beq (qty c) r) (K ls st (qu μ c k v))
  | _ => False
noncomputable def qs_iald (t : qT) (K : qC) : qC := fun ls st μ => match st with
  | .inl i :: .inr (.inr (.inl c)) :: st => qif (Nat.beq (qty c) 100) ((0 ≤ i ∧ i < qal c) ∧ K ls (.inl (μ c i) :: st) μ)
  | .inl i :: .inr (.inr (.inr 0)) :: st => (match t with
    | some t => (0 ≤ i ∧ i < t.1) ∧ K ls (.inl (t.2 i) :: st) μ
    | none => False)
  | .inl i :: .inr (.inr (.inr 1)) :: st => (0 ≤ i ∧ i < 8) ∧ K ls (.inl ((ztb 0).getD i.toNat 0) :: st) μ
  | .inl i :: .inr (.inr (.inr 2)) :: st => (0 ≤ i ∧ i < 8) ∧ K ls (.inl ((ztb 1).getD i.toNat 0) :: st) μ
  | _ => False
noncomputable def qs_bald (K : qC) : qC := fun ls st μ => match st with
  | .inl i :: .inr (.inr (.inl c)) :: st => qif (Nat.beq (qty c) 101 || Nat.beq (qty c) 103) ((0 ≤ i ∧ i < qal c) ∧ K ls (.inl (μ c i) :: st) μ)
  | .inl i :: .inr (.inr (.inr k)) :: st => (20 ≤ k ∧ k < 26) ∧ (0 ≤ i ∧ i < (qsl.getD (k - 20) []).length) ∧ K ls (.inl ((qsl.getD (k - 20) []).getD i.toNat 0).toInt :: st) μ
  | _ => False
noncomputable def qs_cald (K : qC) : qC := fun ls st μ => match st with
  | .inl i :: .inr (.inr (.inl c)) :: st => qif (Nat.beq (qty c) 102) ((0 ≤ i ∧ i < qal c) ∧ K ls (.inl (μ c i) :: st) μ)
  | _ => False
noncomputable def qs_lald (K : qC) : qC := fun ls st μ => match st with
  | .inl i :: .inr (.inr (.inl c)) :: st => qif (Nat.beq (qty c) 104) ((0 ≤ i ∧ i < qal c) ∧ K ls (.inr (.inl (μ c i)) :: st) μ)
  | _ => False
noncomputable def qs_aald (K : qC) : qC := fun ls st μ => match st with
  | .inl i :: .inr (.inr (.inl c)) :: st => qif (Nat.ble 105 (qty c) && Nat.ble (qty c) 107) ((0 ≤ i ∧ i < qal c) ∧ K ls (.inr (.inr (.inl (qra c i))) :: st) μ)
  | _ => False
noncomputable def qs_iast (K : qC) : qC := fun ls st μ => match st with
  | .inl v :: .inl i :: .inr (.inr (.inl c)) :: st => qif (Nat.beq (qty c) 100) ((0 ≤ i ∧ i < qal c) ∧ K ls st (qu μ c i v))
  | _ => False
noncomputable def qs_bast (K : qC) : qC := fun ls st μ => match st with
  | .inl v :: .inl i :: .inr (.inr (.inl c)) :: st => qif (Nat.beq (qty c) 101 || Nat.beq (qty c) 103) ((bif Nat.beq (qty c) 101 then -128 ≤ v ∧ v ≤ 127 else 0 ≤ v ∧ v ≤ 1) ∧ (0 ≤ i ∧ i < qal c) ∧ K ls st (qu μ c i v))
  | _ => False
noncomputable def qs_cast (K : qC) : qC := fun ls st μ => match st with
  | .inl v :: .inl i :: .inr (.inr (.inl c)) :: st => qif (Nat.beq (qty c) 102) ((0 ≤ v ∧ v ≤ 65535) ∧ (0 ≤ i ∧ i < qal c) ∧ K ls st (qu μ c i v))
  | _ => False
noncomputable def qs_last (K : qC) : qC := fun ls st μ => match st with
  | .inr (.inl v) :: .inl i :: .inr (.inr (.inl c)) :: st => qif (Nat.beq (qty c) 104) ((0 ≤ i ∧ i < qal c) ∧ K ls st (qu μ c i v))
  | _ => False
noncomputable def qs_alen (t : qT) (K : qC) : qC := fun ls st μ => match st with
  | .inr (.inr (.inl c)) :: st => qif (Nat.ble 100 (qty c) && Nat.ble (qty c) 107) (K ls (.inl (qal c) :: st) μ)
  | .inr (.inr (.inr k)) :: st => (k = 0 ∧ match t with
    | some t => K ls (.inl t.1 :: st) μ
    | none => False) ∨ ((20 ≤ k ∧ k < 26) ∧ K ls (.inl ((qsl.getD (k - 20) []).length : Int) :: st) μ)
  | _ => False
noncomputable def qs_copy (K : qC) : qC := fun ls st μ => match st with
  | [.inl n, .inl dp, .inr (.inr (.inl r)), .inl sp, .inr (.inr (.inl q))] => qif (Nat.beq (qty q) 100 && Nat.beq (qty r) 100) (((n = qal q ∧ qal r = qal q) ∧ dp = 0 ∧ sp = 0) ∧ K ls [] (qcp μ q r))
  | _ => False
noncomputable def qs_mm (f : Int → Int → Int) (K : qC) : qC := fun ls st μ => match st with
  | .inl b :: .inl a :: st => qif (qle4 st) (K ls (.inl (f a b) :: st) μ)
  | _ => False
noncomputable def qs_cr (call : qCall) (j n : Nat) (K : qC) : qC := fun ls st μ => match qtk n st [] with
  | some (as, st) => qif (qle4 st) (call j as μ (fun v μ => K ls (v :: st) μ))
  | none => False
noncomputable def qs_cv (call : qCall) (j n : Nat) (K : qC) : qC := fun ls st μ => match qtk n st [] with
  | some (as, st) => qif (qle4 st) (call j as μ (fun _ μ => K ls st μ))
  | none => False
/-- what a method answers: 0 nothing, 1 int, 2 boolean, 3 long, 4 char, 5 byte, 6 a reference -/
noncomputable def qs_iret (rk : Nat) (Rt : qV → qM → Prop) : qC := fun _ st μ => match st with
  | [.inl a] => (match rk with
    | 1 => Rt (.inl a) μ
    | 2 => (0 ≤ a ∧ a ≤ 1) ∧ Rt (.inl a) μ
    | 4 => (0 ≤ a ∧ a ≤ 65535) ∧ Rt (.inl a) μ
    | 5 => (-128 ≤ a ∧ a ≤ 127) ∧ Rt (.inl a) μ
    | _ => False)
  | _ => False
noncomputable def qs_lret (rk : Nat) (Rt : qV → qM → Prop) : qC := fun _ st μ => match st with
  | [.inr (.inl a)] => (match rk with
    | 3 => Rt (.inr (.inl a)) μ
    | _ => False)
  | _ => False
noncomputable def qs_aret (rk : Nat) (Rt : qV → qM → Prop) : qC := fun _ st μ => match st with
  | [.inr (.inr (.inr k))] => (match rk with
    | 6 => (10 ≤ k ∧ k < 16) ∧ Rt (.inr (.inr (.inr k))) μ
    | _ => False)
  | _ => False
noncomputable def qs_vret (rk : Nat) (Rt : qV → qM → Prop) : qC := fun _ st μ => match st with
  | [] => (match rk with
    | 0 => Rt (.inl 0) μ
    | _ => False)
  | _ => False
noncomputable def qs_no : qC := fun _ _ _ => False
/-- what kind of field: 0 int, 1 boolean, 2 long, 3 a cell -/
def qfk (t : FieldType) : Nat := match t with
  | .boolean => 1
  | .long => 2
  | .object _ => 3
  | .array _ => 3
  | _ => 0
noncomputable def qgf (r1 r2 : Nat) (K : qC) : qC := bif Nat.beq r1 20 then qs_gsc K else bif Nat.beq r1 21 then qs_gsv K else match qfk (zty r1 r2) with
  | 2 => qs_gl r1 r2 K
  | 3 => qs_gr r1 r2 K
  | _ => qs_gi r1 r2 K
noncomputable def qpf (r1 r2 : Nat) (K : qC) : qC := match qfk (zty r1 r2) with
  | 0 => qs_pi r1 r2 K
  | 1 => qs_pb r1 r2 K
  | 2 => qs_pl r1 r2 K
  | _ => qs_no
noncomputable def qstat (r1 : Nat) : qV := match r1 with
  | 0 => .inr (.inr (.inr 1))
  | 1 => .inr (.inr (.inr 2))
  | 2 => .inl 1
  | _ => .inr (.inr (.inr 3))
noncomputable def qinv (call : qCall) (r1 r2 : Nat) (K : qC) : qC := bif Nat.ble 100 r2 then qs_cv call r1 (r2 - 100) K else qs_cr call r1 r2 K
noncomputable def qsel (call : qCall) (t : qT) (rk : Nat) (Rt : qV → qM → Prop) (K : qK) (pc : Nat) (ins : Instr) (len r1 r2 : Nat) (c : Int) : qC := match ins with
  | .iload_n k => qs_iload k (K (pc + len))
  | .iload k => qs_iload k (K (pc + len))
  | .aload_n k => qs_aload k (K (pc + len))
  | .aload k => qs_aload k (K (pc + len))
  | .lload_n k => qs_lload k (K (pc + len))
  | .lload k => qs_lload k (K (pc + len))
  | .istore_n k => qs_istore k (K (pc + len))
  | .istore k => qs_istore k (K (pc + len))
  | .astore_n k => qs_astore k (K (pc + len))
  | .astore k => qs_astore k (K (pc + len))
  | .lstore_n k => qs_lstore k (K (pc + len))
  | .lstore k => qs_lstore k (K (pc + len))
  | .iconst n => qs_push (.inl n) (K (pc + len))
  | .bipush n => qs_push (.inl n) (K (pc + len))
  | .sipush n => qs_push (.inl n) (K (pc + len))
  | .lconst n => qs_push (.inr (.inl ((n : Nat) : Int))) (K (pc + len))
  | .ldc_w _ => qs_push (.inl c) (K (pc + len))
  | .ldc2_w _ => qs_push (.inr (.inl c)) (K (pc + len))
  | .ldc _ => qs_push (.inr (.inr (.inr (10 + r1)))) (K (pc + len))
  | .iadd => qs_b (fun a b => q32 (a + b)) (K (pc + len))
  | .isub => qs_b (fun a b => q32 (a - b)) (K (pc + len))
  | .imul => qs_b (fun a b => q32 (a * b)) (K (pc + len))
  | .idiv => qs_bd qidiv (K (pc + len))
  | .irem => qs_bd qirem (K (pc + len))
  | .iand => qs_b qand (K (pc + len))
  | .ior => qs_b qior (K (pc + len))
  | .ixor => qs_b qxor (K (pc + len))
  | .ishl => qs_b qshl (K (pc + len))
  | .ishr => qs_b qshr (K (pc + len))
  | .iushr => qs_b qushr (K (pc + len))
  | .iinc k n => qs_iinc k n (K (pc + len))
  | .ladd => qs_l (fun a b => q64 (a + b)) (K (pc + len))
  | .lsub => qs_l (fun a b => q64 (a - b)) (K (pc + len))
  | .lmul => qs_l (fun a b => q64 (a * b)) (K (pc + len))
  | .lrem => qs_ld qlrem (K (pc + len))
  | .land => qs_l qland (K (pc + len))
  | .lor => qs_l qlor (K (pc + len))
  | .lshl => qs_lsh qlshl (K (pc + len))
  | .lshr => qs_lsh qlshr (K (pc + len))
  | .lushr => qs_lsh qlushr (K (pc + len))
  | .i2l => qs_i2l (K (pc + len))
  | .l2i => qs_l2i (K (pc + len))
  | .i2b => qs_u qi2b (K (pc + len))
  | .i2c => qs_u qi2c (K (pc + len))
  | .lcmp => qs_lcmp (K (pc + len))
  | .dup => qs_dup (K (pc + len))
  | .dup2 => qs_dup2 (K (pc + len))
  | .pop => qs_pop (K (pc + len))
  | .goto _ => qs_goto (K r1)
  | .if_icmp k _ => qs_icmp k (K r1) (K (pc + len))
  | .ifCond k _ => qs_if k (K r1) (K (pc + len))
  | .tableswitch df lo hi offs => qs_table lo hi (K ((pc : Int) + df).toNat) (offs.toList.map fun o => K ((pc : Int) + o).toNat)
  | .getfield _ => qgf r1 r2 (K (pc + len))
  | .putfield _ => qpf r1 r2 (K (pc + len))
  | .getstatic _ => qs_push (qstat r1) (K (pc + len))
  | .iaload => qs_iald t (K (pc + len))
  | .baload => qs_bald (K (pc + len))
  | .caload => qs_cald (K (pc + len))
  | .laload => qs_lald (K (pc + len))
  | .aaload => qs_aald (K (pc + len))
  | .iastore => qs_iast (K (pc + len))
  | .bastore => qs_bast (K (pc + len))
  | .castore => qs_cast (K (pc + len))
  | .lastore => qs_last (K (pc + len))
  | .arraylength => qs_alen t (K (pc + len))
  | .invokevirtual _ => qinv call r1 r2 (K (pc + len))
  | .invokestatic _ => bif Nat.beq r1 1001 then qs_copy (K (pc + len)) else bif Nat.beq r1 1002 then qs_mm qmax (K (pc + len)) else bif Nat.beq r1 1003 then qs_mm qmin (K (pc + len)) else qinv call r1 r2 (K (pc + len))
  | .ireturn => qs_iret rk Rt
  | .lreturn => qs_lret rk Rt
  | .areturn => qs_aret rk Rt
  | .return_ => qs_vret rk Rt
  | _ => qs_no
end
section
/-- a relation of locals that steps keep -/
def qrok (r : qL → qL → Prop) : Prop := (∀ a b k v, r a b → qg a k = some v → qg b k = some v) ∧ (∀ a b k v, r a b → r (qset a k v) (qset b k v)) ∧ (∀ a b k, r a b → r (qnone a k) (qnone b k))
section QM
variable {r : qL → qL → Prop} {K K' : qC} {ls' ls : qL} {st : List qV} {μ : qM}

theorem qm_iload {k : Nat} (hr : qrok r) (h : ∀ a b st μ, r a b → K a st μ → K' b st μ) (hl : r ls' ls)  : qs_iload k K ls' st μ → qs_iload k K' ls st μ := by
  intro hs
  unfold qs_iload at hs ⊢
  split at hs
  · rename_i a ha
    rw [hr.1 _ _ _ _ hl ha]
    exact h _ _ _ _ hl hs
  · exact hs.elim

theorem qm_lload {k : Nat} (hr : qrok r) (h : ∀ a b st μ, r a b → K a st μ → K' b st μ) (hl : r ls' ls)  : qs_lload k K ls' st μ → qs_lload k K' ls st μ := by
  intro hs
  unfold qs_lload at hs ⊢
  split at hs
  · rename_i a ha
    rw [hr.1 _ _ _ _ hl ha]
    exact h _ _ _ _ hl hs
  · exact hs.elim

theorem qm_aload {k : Nat} (hr : qrok r) (h : ∀ a b st μ, r a b → K a st μ → K' b st μ) (hl : r ls' ls)  : qs_aload k K ls' st μ → qs_aload k K' ls st μ := by
  intro hs
  unfold qs_aload at hs ⊢
  split at hs
  · rename_i a ha
    rw [hr.1 _ _ _ _ hl ha]
    exact h _ _ _ _ hl hs
  · rename_i a ha
    rw [hr.1 _ _ _ _ hl ha]
    exact ⟨hs.1, h _ _ _ _ hl hs.2⟩
  · exact hs.elim

theorem qm_iinc {k : Nat} {n : Int} (hr : qrok r) (h : ∀ a b st μ, r a b → K a st μ → K' b st μ) (hl : r ls' ls)  : qs_iinc k n K ls' st μ → qs_iinc k n K' ls st μ := by
  intro hs
  unfold qs_iinc at hs ⊢
  split at hs
  · rename_i a ha
    rw [hr.1 _ _ _ _ hl ha]
    exact h _ _ _ _ (hr.2.1 _ _ _ _ hl) hs
  · exact hs.elim

theorem qm_istore {k : Nat} (hr : qrok r) (h : ∀ a b st μ, r a b → K a st μ → K' b st μ) (hl : r ls' ls)  : qs_istore k K ls' st μ → qs_istore k K' ls st μ := by
  unfold qs_istore
  split
  · exact h _ _ _ _ (hr.2.1 _ _ _ _ hl)
  · exact id

theorem qm_astore {k : Nat} (hr : qrok r) (h : ∀ a b st μ, r a b → K a st μ → K' b st μ) (hl : r ls' ls)  : qs_astore k K ls' st μ → qs_astore k K' ls st μ := by
  unfold qs_astore
  split
  · exact h _ _ _ _ (hr.2.1 _ _ _ _ hl)
  · exact id

theorem qm_lstore {k : Nat} (hr : qrok r) (h : ∀ a b st μ, r a b → K a st μ → K' b st μ) (hl : r ls' ls)  : qs_lstore k K ls' st μ → qs_lstore k K' ls st μ := by
  unfold qs_lstore
  split
  · exact h _ _ _ _ (hr.2.1 _ _ _ _ (hr.2.2 _ _ _ hl))
  · exact id

theorem qm_push {v : qV} (hr : qrok r) (h : ∀ a b st μ, r a b → K a st μ → K' b st μ) (hl : r ls' ls)  : qs_push v K ls' st μ → qs_push v K' ls st μ := by
  exact h _ _ _ _ hl

theorem qm_goto  (hr : qrok r) (h : ∀ a b st μ, r a b → K a st μ → K' b st μ) (hl : r ls' ls)  : qs_goto  K ls' st μ → qs_goto  K' ls st μ := by
  exact h _ _ _ _ hl

theorem qm_b {f : Int → Int → Int} (hr : qrok r) (h : ∀ a b st μ, r a b → K a st μ → K' b st μ) (hl : r ls' ls)  : qs_b f K ls' st μ → qs_b f K' ls st μ := by
  unfold qs_b
  split
  all_goals first | exact h _ _ _ _ hl | exact fun hs => ⟨hs.1, h _ _ _ _ hl hs.2⟩ | exact fun hs => ⟨hs.1, hs.2.1, h _ _ _ _ hl hs.2.2⟩ | exact qif_mono (h _ _ _ _ hl) | exact qif_mono (fun hs => ⟨hs.1, h _ _ _ _ hl hs.2⟩) | exact qif_mono (fun hs => ⟨hs.1, hs.2.1, h _ _ _ _ hl hs.2.2⟩) | exact id

theorem qm_bd {f : Int → Int → Int} (hr : qrok r) (h : ∀ a b st μ, r a b → K a st μ → K' b st μ) (hl : r ls' ls)  : qs_bd f K ls' st μ → qs_bd f K' ls st μ := by
  unfold qs_bd
  split
  all_goals first | exact h _ _ _ _ hl | exact fun hs => ⟨hs.1, h _ _ _ _ hl hs.2⟩ | exact fun hs => ⟨hs.1, hs.2.1, h _ _ _ _ hl hs.2.2⟩ | exact qif_mono (h _ _ _ _ hl) | exact qif_mono (fun hs => ⟨hs.1, h _ _ _ _ hl hs.2⟩) | exact qif_mono (fun hs => ⟨hs.1, hs.2.1, h _ _ _ _ hl hs.2.2⟩) | exact id

theorem qm_l {f : Int → Int → Int} (hr : qrok r) (h : ∀ a b st μ, r a b → K a st μ → K' b st μ) (hl : r ls' ls)  : qs_l f K ls' st μ → qs_l f K' ls st μ := by
  unfold qs_l
  split
  all_goals first | exact h _ _ _ _ hl | exact fun hs => ⟨hs.1, h _ _ _ _ hl hs.2⟩ | exact fun hs => ⟨hs.1, hs.2.1, h _ _ _ _ hl hs.2.2⟩ | exact qif_mono (h _ _ _ _ hl) | exact qif_mono (fun hs => ⟨hs.1, h _ _ _ _ hl hs.2⟩) | exact qif_mono (fun hs => ⟨hs.1, hs.2.1, h _ _ _ _ hl hs.2.2⟩) | exact id

theorem qm_ld {f : Int → Int → Int} (hr : qrok r) (h : ∀ a b st μ, r a b → K a st μ → K' b st μ) (hl : r ls' ls)  : qs_ld f K ls' st μ → qs_ld f K' ls st μ := by
  unfold qs_ld
  split
  all_goals first | exact h _ _ _ _ hl | exact fun hs => ⟨hs.1, h _ _ _ _ hl hs.2⟩ | exact fun hs => ⟨hs.1, hs.2.1, h _ _ _ _ hl hs.2.2⟩ | exact qif_mono (h _ _ _ _ hl) | exact qif_mono (fun hs => ⟨hs.1, h _ _ _ _ hl hs.2⟩) | exact qif_mono (fun hs => ⟨hs.1, hs.2.1, h _ _ _ _ hl hs.2.2⟩) | exact id

theorem qm_lsh {f : Int → Int → Int} (hr : qrok r) (h : ∀ a b st μ, r a b → K a st μ → K' b st μ) (hl : r ls' ls)  : qs_lsh f K ls' st μ → qs_lsh f K' ls st μ := by
  unfold qs_lsh
  split
  all_goals first | exact h _ _ _ _ hl | exact fun hs => ⟨hs.1, h _ _ _ _ hl hs.2⟩ | exact fun hs => ⟨hs.1, hs.2.1, h _ _ _ _ hl hs.2.2⟩ | exact qif_mono (h _ _ _ _ hl) | exact qif_mono (fun hs => ⟨hs.1, h _ _ _ _ hl hs.2⟩) | exact qif_mono (fun hs => ⟨hs.1, hs.2.1, h _ _ _ _ hl hs.2.2⟩) | exact id

theorem qm_u {f : Int → Int} (hr : qrok r) (h : ∀ a b st μ, r a b → K a st μ → K' b st μ) (hl : r ls' ls)  : qs_u f K ls' st μ → qs_u f K' ls st μ := by
  unfold qs_u
  split
  all_goals first | exact h _ _ _ _ hl | exact fun hs => ⟨hs.1, h _ _ _ _ hl hs.2⟩ | exact fun hs => ⟨hs.1, hs.2.1, h _ _ _ _ hl hs.2.2⟩ | exact qif_mono (h _ _ _ _ hl) | exact qif_mono (fun hs => ⟨hs.1, h _ _ _ _ hl hs.2⟩) | exact qif_mono (fun hs => ⟨hs.1, hs.2.1, h _ _ _ _ hl hs.2.2⟩) | exact id

theorem qm_i2l  (hr : qrok r) (h : ∀ a b st μ, r a b → K a st μ → K' b st μ) (hl : r ls' ls)  : qs_i2l  K ls' st μ → qs_i2l  K' ls st μ := by
  unfold qs_i2l
  split
  all_goals first | exact h _ _ _ _ hl | exact fun hs => ⟨hs.1, h _ _ _ _ hl hs.2⟩ | exact fun hs => ⟨hs.1, hs.2.1, h _ _ _ _ hl hs.2.2⟩ | exact qif_mono (h _ _ _ _ hl) | exact qif_mono (fun hs => ⟨hs.1, h _ _ _ _ hl hs.2⟩) | exact qif_mono (fun hs => ⟨hs.1, hs.2.1, h _ _ _ _ hl hs.2.2⟩) | exact id

theorem qm_l2i  (hr : qrok r) (h : ∀ a b st μ, r a b → K a st μ → K' b st μ) (hl : r ls' ls)  : qs_l2i  K ls' st μ → qs_l2i  K' ls st μ := by
  unfold qs_l2i
  split
  all_goals first | exact h _ _ _ _ hl | exact fun hs => ⟨hs.1, h _ _ _ _ hl hs.2⟩ | exact fun hs => ⟨hs.1, hs.2.1, h _ _ _ _ hl hs.2.2⟩ | exact qif_mono (h _ _ _ _ hl) | exact qif_mono (fun hs => ⟨hs.1, h _ _ _ _ hl hs.2⟩) | exact qif_mono (fun hs => ⟨hs.1, hs.2.1, h _ _ _ _ hl hs.2.2⟩) | exact id

theorem qm_lcmp  (hr : qrok r) (h : ∀ a b st μ, r a b → K a st μ → K' b st μ) (hl : r ls' ls)  : qs_lcmp  K ls' st μ → qs_lcmp  K' ls st μ := by
  unfold qs_lcmp
  split
  all_goals first | exact h _ _ _ _ hl | exact fun hs => ⟨hs.1, h _ _ _ _ hl hs.2⟩ | exact fun hs => ⟨hs.1, hs.2.1, h _ _ _ _ hl hs.2.2⟩ | exact qif_mono (h _ _ _ _ hl) | exact qif_mono (fun hs => ⟨hs.1, h _ _ _ _ hl hs.2⟩) | exact qif_mono (fun hs => ⟨hs.1, hs.2.1, h _ _ _ _ hl hs.2.2⟩) | exact id

theorem qm_dup  (hr : qrok r) (h : ∀ a b st μ, r a b → K a st μ → K' b st μ) (hl : r ls' ls)  : qs_dup  K ls' st μ → qs_dup  K' ls st μ := by
  unfold qs_dup
  split
  all_goals first | exact h _ _ _ _ hl | exact fun hs => ⟨hs.1, h _ _ _ _ hl hs.2⟩ | exact fun hs => ⟨hs.1, hs.2.1, h _ _ _ _ hl hs.2.2⟩ | exact qif_mono (h _ _ _ _ hl) | exact qif_mono (fun hs => ⟨hs.1, h _ _ _ _ hl hs.2⟩) | exact qif_mono (fun hs => ⟨hs.1, hs.2.1, h _ _ _ _ hl hs.2.2⟩) | exact id

theorem qm_dup2  (hr : qrok r) (h : ∀ a b st μ, r a b → K a st μ → K' b st μ) (hl : r ls' ls)  : qs_dup2  K ls' st μ → qs_dup2  K' ls st μ := by
  unfold qs_dup2
  split
  all_goals first | exact h _ _ _ _ hl | exact fun hs => ⟨hs.1, h _ _ _ _ hl hs.2⟩ | exact fun hs => ⟨hs.1, hs.2.1, h _ _ _ _ hl hs.2.2⟩ | exact qif_mono (h _ _ _ _ hl) | exact qif_mono (fun hs => ⟨hs.1, h _ _ _ _ hl hs.2⟩) | exact qif_mono (fun hs => ⟨hs.1, hs.2.1, h _ _ _ _ hl hs.2.2⟩) | exact id

theorem qm_pop  (hr : qrok r) (h : ∀ a b st μ, r a b → K a st μ → K' b st μ) (hl : r ls' ls)  : qs_pop  K ls' st μ → qs_pop  K' ls st μ := by
  unfold qs_pop
  split
  all_goals first | exact h _ _ _ _ hl | exact fun hs => ⟨hs.1, h _ _ _ _ hl hs.2⟩ | exact fun hs => ⟨hs.1, hs.2.1, h _ _ _ _ hl hs.2.2⟩ | exact qif_mono (h _ _ _ _ hl) | exact qif_mono (fun hs => ⟨hs.1, h _ _ _ _ hl hs.2⟩) | exact qif_mono (fun hs => ⟨hs.1, hs.2.1, h _ _ _ _ hl hs.2.2⟩) | exact id

theorem qm_gi {p k : Nat} (hr : qrok r) (h : ∀ a b st μ, r a b → K a st μ → K' b st μ) (hl : r ls' ls)  : qs_gi p k K ls' st μ → qs_gi p k K' ls st μ := by
  unfold qs_gi
  split
  all_goals first | exact h _ _ _ _ hl | exact fun hs => ⟨hs.1, h _ _ _ _ hl hs.2⟩ | exact fun hs => ⟨hs.1, hs.2.1, h _ _ _ _ hl hs.2.2⟩ | exact qif_mono (h _ _ _ _ hl) | exact qif_mono (fun hs => ⟨hs.1, h _ _ _ _ hl hs.2⟩) | exact qif_mono (fun hs => ⟨hs.1, hs.2.1, h _ _ _ _ hl hs.2.2⟩) | exact id

theorem qm_gl {p k : Nat} (hr : qrok r) (h : ∀ a b st μ, r a b → K a st μ → K' b st μ) (hl : r ls' ls)  : qs_gl p k K ls' st μ → qs_gl p k K' ls st μ := by
  unfold qs_gl
  split
  all_goals first | exact h _ _ _ _ hl | exact fun hs => ⟨hs.1, h _ _ _ _ hl hs.2⟩ | exact fun hs => ⟨hs.1, hs.2.1, h _ _ _ _ hl hs.2.2⟩ | exact qif_mono (h _ _ _ _ hl) | exact qif_mono (fun hs => ⟨hs.1, h _ _ _ _ hl hs.2⟩) | exact qif_mono (fun hs => ⟨hs.1, hs.2.1, h _ _ _ _ hl hs.2.2⟩) | exact id

theorem qm_gr {p k : Nat} (hr : qrok r) (h : ∀ a b st μ, r a b → K a st μ → K' b st μ) (hl : r ls' ls)  : qs_gr p k K ls' st μ → qs_gr p k K' ls st μ := by
  unfold qs_gr
  split
  all_goals first | exact h _ _ _ _ hl | exact fun hs => ⟨hs.1, h _ _ _ _ hl hs.2⟩ | exact fun hs => ⟨hs.1, hs.2.1, h _ _ _ _ hl hs.2.2⟩ | exact qif_mono (h _ _ _ _ hl) | exact qif_mono (fun hs => ⟨hs.1, h _ _ _ _ hl hs.2⟩) | exact qif_mono (fun hs => ⟨hs.1, hs.2.1, h _ _ _ _ hl hs.2.2⟩) | exact id

theorem qm_gsc  (hr : qrok r) (h : ∀ a b st μ, r a b → K a st μ → K' b st μ) (hl : r ls' ls)  : qs_gsc  K ls' st μ → qs_gsc  K' ls st μ := by
  unfold qs_gsc
  split
  all_goals first | exact h _ _ _ _ hl | exact fun hs => ⟨hs.1, h _ _ _ _ hl hs.2⟩ | exact fun hs => ⟨hs.1, hs.2.1, h _ _ _ _ hl hs.2.2⟩ | exact qif_mono (h _ _ _ _ hl) | exact qif_mono (fun hs => ⟨hs.1, h _ _ _ _ hl hs.2⟩) | exact qif_mono (fun hs => ⟨hs.1, hs.2.1, h _ _ _ _ hl hs.2.2⟩) | exact id

theorem qm_gsv  (hr : qrok r) (h : ∀ a b st μ, r a b → K a st μ → K' b st μ) (hl : r ls' ls)  : qs_gsv  K ls' st μ → qs_gsv  K' ls st μ := by
  unfold qs_gsv
  split
  all_goals first | exact h _ _ _ _ hl | exact fun hs => ⟨hs.1, h _ _ _ _ hl hs.2⟩ | exact fun hs => ⟨hs.1, hs.2.1, h _ _ _ _ hl hs.2.2⟩ | exact qif_mono (h _ _ _ _ hl) | exact qif_mono (fun hs => ⟨hs.1, h _ _ _ _ hl hs.2⟩) | exact qif_mono (fun hs => ⟨hs.1, hs.2.1, h _ _ _ _ hl hs.2.2⟩) | exact id

theorem qm_pi {p k : Nat} (hr : qrok r) (h : ∀ a b st μ, r a b → K a st μ → K' b st μ) (hl : r ls' ls)  : qs_pi p k K ls' st μ → qs_pi p k K' ls st μ := by
  unfold qs_pi
  split
  all_goals first | exact h _ _ _ _ hl | exact fun hs => ⟨hs.1, h _ _ _ _ hl hs.2⟩ | exact fun hs => ⟨hs.1, hs.2.1, h _ _ _ _ hl hs.2.2⟩ | exact qif_mono (h _ _ _ _ hl) | exact qif_mono (fun hs => ⟨hs.1, h _ _ _ _ hl hs.2⟩) | exact qif_mono (fun hs => ⟨hs.1, hs.2.1, h _ _ _ _ hl hs.2.2⟩) | exact id

theorem qm_pb {p k : Nat} (hr : qrok r) (h : ∀ a b st μ, r a b → K a st μ → K' b st μ) (hl : r ls' ls)  : qs_pb p k K ls' st μ → qs_pb p k K' ls st μ := by
  unfold qs_pb
  split
  all_goals first | exact h _ _ _ _ hl | exact fun hs => ⟨hs.1, h _ _ _ _ hl hs.2⟩ | exact fun hs => ⟨hs.1, hs.2.1, h _ _ _ _ hl hs.2.2⟩ | exact qif_mono (h _ _ _ _ hl) | exact qif_mono (fun hs => ⟨hs.1, h _ _ _ _ hl hs.2⟩) | exact qif_mono (fun hs => ⟨hs.1, hs.2.1, h _ _ _ _ hl hs.2.2⟩) | exact id

theorem qm_pl {p k : Nat} (hr : qrok r) (h : ∀ a b st μ, r a b → K a st μ → K' b st μ) (hl : r ls' ls)  : qs_pl p k K ls' st μ → qs_pl p k K' ls st μ := by
  unfold qs_pl
  split
  all_goals first | exact h _ _ _ _ hl | exact fun hs => ⟨hs.1, h _ _ _ _ hl hs.2⟩ | exact fun hs => ⟨hs.1, hs.2.1, h _ _ _ _ hl hs.2.2⟩ | exact qif_mono (h _ _ _ _ hl) | exact qif_mono (fun hs => ⟨hs.1, h _ _ _ _ hl hs.2⟩) | exact qif_mono (fun hs => ⟨hs.1, hs.2.1, h _ _ _ _ hl hs.2.2⟩) | exact id

theorem qm_bald  (hr : qrok r) (h : ∀ a b st μ, r a b → K a st μ → K' b st μ) (hl : r ls' ls)  : qs_bald  K ls' st μ → qs_bald  K' ls st μ := by
  unfold qs_bald
  split
  all_goals first | exact h _ _ _ _ hl | exact fun hs => ⟨hs.1, h _ _ _ _ hl hs.2⟩ | exact fun hs => ⟨hs.1, hs.2.1, h _ _ _ _ hl hs.2.2⟩ | exact qif_mono (h _ _ _ _ hl) | exact qif_mono (fun hs => ⟨hs.1, h _ _ _ _ hl hs.2⟩) | exact qif_mono (fun hs => ⟨hs.1, hs.2.1, h _ _ _ _ hl hs.2.2⟩) | exact id

theorem qm_cald  (hr : qrok r) (h : ∀ a b st μ, r a b → K a st μ → K' b st μ) (hl : r ls' ls)  : qs_cald  K ls' st μ → qs_cald  K' ls st μ := by
  unfold qs_cald
  split
  all_goals first | exact h _ _ _ _ hl | exact fun hs => ⟨hs.1, h _ _ _ _ hl hs.2⟩ | exact fun hs => ⟨hs.1, hs.2.1, h _ _ _ _ hl hs.2.2⟩ | exact qif_mono (h _ _ _ _ hl) | exact qif_mono (fun hs => ⟨hs.1, h _ _ _ _ hl hs.2⟩) | exact qif_mono (fun hs => ⟨hs.1, hs.2.1, h _ _ _ _ hl hs.2.2⟩) | exact id

theorem qm_lald  (hr : qrok r) (h : ∀ a b st μ, r a b → K a st μ → K' b st μ) (hl : r ls' ls)  : qs_lald  K ls' st μ → qs_lald  K' ls st μ := by
  unfold qs_lald
  split
  all_goals first | exact h _ _ _ _ hl | exact fun hs => ⟨hs.1, h _ _ _ _ hl hs.2⟩ | exact fun hs => ⟨hs.1, hs.2.1, h _ _ _ _ hl hs.2.2⟩ | exact qif_mono (h _ _ _ _ hl) | exact qif_mono (fun hs => ⟨hs.1, h _ _ _ _ hl hs.2⟩) | exact qif_mono (fun hs => ⟨hs.1, hs.2.1, h _ _ _ _ hl hs.2.2⟩) | exact id

theorem qm_aald  (hr : qrok r) (h : ∀ a b st μ, r a b → K a st μ → K' b st μ) (hl : r ls' ls)  : qs_aald  K ls' st μ → qs_aald  K' ls st μ := by
  unfold qs_aald
  split
  all_goals first | exact h _ _ _ _ hl | exact fun hs => ⟨hs.1, h _ _ _ _ hl hs.2⟩ | exact fun hs => ⟨hs.1, hs.2.1, h _ _ _ _ hl hs.2.2⟩ | exact qif_mono (h _ _ _ _ hl) | exact qif_mono (fun hs => ⟨hs.1, h _ _ _ _ hl hs.2⟩) | exact qif_mono (fun hs => ⟨hs.1, hs.2.1, h _ _ _ _ hl hs.2.2⟩) | exact id

theorem qm_iast  (hr : qrok r) (h : ∀ a b st μ, r a b → K a st μ → K' b st μ) (hl : r ls' ls)  : qs_iast  K ls' st μ → qs_iast  K' ls st μ := by
  unfold qs_iast
  split
  all_goals first | exact h _ _ _ _ hl | exact fun hs => ⟨hs.1, h _ _ _ _ hl hs.2⟩ | exact fun hs => ⟨hs.1, hs.2.1, h _ _ _ _ hl hs.2.2⟩ | exact qif_mono (h _ _ _ _ hl) | exact qif_mono (fun hs => ⟨hs.1, h _ _ _ _ hl hs.2⟩) | exact qif_mono (fun hs => ⟨hs.1, hs.2.1, h _ _ _ _ hl hs.2.2⟩) | exact id

theorem qm_bast  (hr : qrok r) (h : ∀ a b st μ, r a b → K a st μ → K' b st μ) (hl : r ls' ls)  : qs_bast  K ls' st μ → qs_bast  K' ls st μ := by
  unfold qs_bast
  split
  all_goals first | exact h _ _ _ _ hl | exact fun hs => ⟨hs.1, h _ _ _ _ hl hs.2⟩ | exact fun hs => ⟨hs.1, hs.2.1, h _ _ _ _ hl hs.2.2⟩ | exact qif_mono (h _ _ _ _ hl) | exact qif_mono (fun hs => ⟨hs.1, h _ _ _ _ hl hs.2⟩) | exact qif_mono (fun hs => ⟨hs.1, hs.2.1, h _ _ _ _ hl hs.2.2⟩) | exact id

theorem qm_cast  (hr : qrok r) (h : ∀ a b st μ, r a b → K a st μ → K' b st μ) (hl : r ls' ls)  : qs_cast  K ls' st μ → qs_cast  K' ls st μ := by
  unfold qs_cast
  split
  all_goals first | exact h _ _ _ _ hl | exact fun hs => ⟨hs.1, h _ _ _ _ hl hs.2⟩ | exact fun hs => ⟨hs.1, hs.2.1, h _ _ _ _ hl hs.2.2⟩ | exact qif_mono (h _ _ _ _ hl) | exact qif_mono (fun hs => ⟨hs.1, h _ _ _ _ hl hs.2⟩) | exact qif_mono (fun hs => ⟨hs.1, hs.2.1, h _ _ _ _ hl hs.2.2⟩) | exact id

theorem qm_last  (hr : qrok r) (h : ∀ a b st μ, r a b → K a st μ → K' b st μ) (hl : r ls' ls)  : qs_last  K ls' st μ → qs_last  K' ls st μ := by
  unfold qs_last
  split
  all_goals first | exact h _ _ _ _ hl | exact fun hs => ⟨hs.1, h _ _ _ _ hl hs.2⟩ | exact fun hs => ⟨hs.1, hs.2.1, h _ _ _ _ hl hs.2.2⟩ | exact qif_mono (h _ _ _ _ hl) | exact qif_mono (fun hs => ⟨hs.1, h _ _ _ _ hl hs.2⟩) | exact qif_mono (fun hs => ⟨hs.1, hs.2.1, h _ _ _ _ hl hs.2.2⟩) | exact id

theorem qm_copy  (hr : qrok r) (h : ∀ a b st μ, r a b → K a st μ → K' b st μ) (hl : r ls' ls)  : qs_copy  K ls' st μ → qs_copy  K' ls st μ := by
  unfold qs_copy
  split
  all_goals first | exact h _ _ _ _ hl | exact fun hs => ⟨hs.1, h _ _ _ _ hl hs.2⟩ | exact fun hs => ⟨hs.1, hs.2.1, h _ _ _ _ hl hs.2.2⟩ | exact qif_mono (h _ _ _ _ hl) | exact qif_mono (fun hs => ⟨hs.1, h _ _ _ _ hl hs.2⟩) | exact qif_mono (fun hs => ⟨hs.1, hs.2.1, h _ _ _ _ hl hs.2.2⟩) | exact id

theorem qm_mm {f : Int → Int → Int} (hr : qrok r) (h : ∀ a b st μ, r a b → K a st μ → K' b st μ) (hl : r ls' ls)  : qs_mm f K ls' st μ → qs_mm f K' ls st μ := by
  unfold qs_mm
  split
  all_goals first | exact h _ _ _ _ hl | exact fun hs => ⟨hs.1, h _ _ _ _ hl hs.2⟩ | exact fun hs => ⟨hs.1, hs.2.1, h _ _ _ _ hl hs.2.2⟩ | exact qif_mono (h _ _ _ _ hl) | exact qif_mono (fun hs => ⟨hs.1, h _ _ _ _ hl hs.2⟩) | exact qif_mono (fun hs => ⟨hs.1, hs.2.1, h _ _ _ _ hl hs.2.2⟩) | exact id

theorem qm_iald {t : qT} (hr : qrok r) (h : ∀ a b st μ, r a b → K a st μ → K' b st μ) (hl : r ls' ls)  : qs_iald t K ls' st μ → qs_iald t K' ls st μ := by
  unfold qs_iald
  split
  · exact qif_mono (fun hs => ⟨hs.1, h _ _ _ _ hl hs.2⟩)
  · split
    · exact fun hs => ⟨hs.1, h _ _ _ _ hl hs.2⟩
    · exact id
  · exact fun hs => ⟨hs.1, h _ _ _ _ hl hs.2⟩
  · exact fun hs => ⟨hs.1, h _ _ _ _ hl hs.2⟩
  · exact id

theorem qm_alen {t : qT} (hr : qrok r) (h : ∀ a b st μ, r a b → K a st μ → K' b st μ) (hl : r ls' ls)  : qs_alen t K ls' st μ → qs_alen t K' ls st μ := by
  unfold qs_alen
  split
  · exact qif_mono (h _ _ _ _ hl)
  · intro hs
    rcases hs with ⟨h1, h2⟩ | ⟨h1, h2⟩
    · refine Or.inl ⟨h1, ?_⟩
      split at h2
      · exact h _ _ _ _ hl h2
      · exact h2.elim
    · exact Or.inr ⟨h1, h _ _ _ _ hl h2⟩
  · exact id

theorem qm_icmp {k : Jvm.ClassFile.Cond} {J J' : qC} (h : ∀ a b st μ, r a b → K a st μ → K' b st μ) (h2 : ∀ a b st μ, r a b → J a st μ → J' b st μ) (hl : r ls' ls) : qs_icmp k K J ls' st μ → qs_icmp k K' J' ls st μ := by
  unfold qs_icmp
  split
  · exact fun hs => ⟨fun q => h _ _ _ _ hl (hs.1 q), fun q => h2 _ _ _ _ hl (hs.2 q)⟩
  · exact id
theorem qm_if {k : Jvm.ClassFile.Cond} {J J' : qC} (h : ∀ a b st μ, r a b → K a st μ → K' b st μ) (h2 : ∀ a b st μ, r a b → J a st μ → J' b st μ) (hl : r ls' ls) : qs_if k K J ls' st μ → qs_if k K' J' ls st μ := by
  unfold qs_if
  split
  · exact fun hs => ⟨fun q => h _ _ _ _ hl (hs.1 q), fun q => h2 _ _ _ _ hl (hs.2 q)⟩
  · exact id
theorem qm_tab {a : Int} {X Y : qK} {f : Int → Nat} (h : ∀ pc a b st μ, r a b → X pc a st μ → Y pc b st μ) (hl : r ls' ls) : ∀ (l : List Int) (i : Int), qtab a i (l.map fun o => X (f o)) ls' st μ → qtab a i (l.map fun o => Y (f o)) ls st μ
  | [], _, _ => trivial
  | _ :: l, i, hs => ⟨fun q => h _ _ _ _ _ hl (hs.1 q), qm_tab h hl l (i + 1) hs.2⟩
theorem qm_table {lo hi : Int} {X Y : qK} {d : Nat} {f : Int → Nat} {l : List Int} (h : ∀ pc a b st μ, r a b → X pc a st μ → Y pc b st μ) (hl : r ls' ls) : qs_table lo hi (X d) (l.map fun o => X (f o)) ls' st μ → qs_table lo hi (Y d) (l.map fun o => Y (f o)) ls st μ := by
  unfold qs_table
  split
  · exact fun hs => ⟨fun q => h _ _ _ _ _ hl (hs.1 q), qm_tab h hl l _ hs.2⟩
  · exact id
def qcm (call call' : qCall) : Prop := ∀ j as μ Q Q', (∀ v μ, Q v μ → Q' v μ) → call j as μ Q → call' j as μ Q'
theorem qm_cr {call call' : qCall} {j n : Nat} (hc : qcm call call') (h : ∀ a b st μ, r a b → K a st μ → K' b st μ) (hl : r ls' ls) : qs_cr call j n K ls' st μ → qs_cr call' j n K' ls st μ := by
  unfold qs_cr
  split
  · exact qif_mono (hc _ _ _ _ _ (fun v μ hk => h _ _ _ _ hl hk))
  · exact id
theorem qm_cv {call call' : qCall} {j n : Nat} (hc : qcm call call') (h : ∀ a b st μ, r a b → K a st μ → K' b st μ) (hl : r ls' ls) : qs_cv call j n K ls' st μ → qs_cv call' j n K' ls st μ := by
  unfold qs_cv
  split
  · exact qif_mono (hc _ _ _ _ _ (fun v μ hk => h _ _ _ _ hl hk))
  · exact id
theorem qm_inv {call call' : qCall} {j n : Nat} (hc : qcm call call') (h : ∀ a b st μ, r a b → K a st μ → K' b st μ) (hl : r ls' ls) : qinv call j n K ls' st μ → qinv call' j n K' ls st μ := by
  unfold qinv
  cases Nat.ble 100 n with
  | true => exact qm_cv hc h hl
  | false => exact qm_cr hc h hl
theorem qm_gf {p k : Nat} (hr : qrok r) (h : ∀ a b st μ, r a b → K a st μ → K' b st μ) (hl : r ls' ls) : qgf p k K ls' st μ → qgf p k K' ls st μ := by
  unfold qgf
  cases Nat.beq p 20 with
  | true => exact qm_gsc hr h hl
  | false =>
    cases Nat.beq p 21 with
    | true => exact qm_gsv hr h hl
    | false =>
      show (match qfk (zty p k) with
        | 2 => qs_gl p k K
        | 3 => qs_gr p k K
        | _ => qs_gi p k K) ls' st μ → (match qfk (zty p k) with
        | 2 => qs_gl p k K'
        | 3 => qs_gr p k K'
        | _ => qs_gi p k K') ls st μ
      generalize qfk (zty p k) = n
      rcases n with _ | _ | _ | _ | n
      · exact qm_gi hr h hl
      · exact qm_gi hr h hl
      · exact qm_gl hr h hl
      · exact qm_gr hr h hl
      · exact qm_gi hr h hl
theorem qm_pf {p k : Nat} (hr : qrok r) (h : ∀ a b st μ, r a b → K a st μ → K' b st μ) (hl : r ls' ls) : qpf p k K ls' st μ → qpf p k K' ls st μ := by
  unfold qpf
  generalize qfk (zty p k) = n
  rcases n with _ | _ | _ | n
  · exact qm_pi hr h hl
  · exact qm_pb hr h hl
  · exact qm_pl hr h hl
  · exact id
theorem qm_iret {rk : Nat} {Rt Rt' : qV → qM → Prop} (hR : ∀ v μ, Rt v μ → Rt' v μ) : qs_iret rk Rt ls' st μ → qs_iret rk Rt' ls st μ := by
  unfold qs_iret
  split
  · split
    · exact hR _ _
    · exact fun hs => ⟨hs.1, hR _ _ hs.2⟩
    · exact fun hs => ⟨hs.1, hR _ _ hs.2⟩
    · exact fun hs => ⟨hs.1, hR _ _ hs.2⟩
    · exact id
  · exact id
theorem qm_lret {rk : Nat} {Rt Rt' : qV → qM → Prop} (hR : ∀ v μ, Rt v μ → Rt' v μ) : qs_lret rk Rt ls' st μ → qs_lret rk Rt' ls st μ := by
  unfold qs_lret
  split
  · split
    · exact hR _ _
    · exact id
  · exact id
theorem qm_aret {rk : Nat} {Rt Rt' : qV → qM → Prop} (hR : ∀ v μ, Rt v μ → Rt' v μ) : qs_aret rk Rt ls' st μ → qs_aret rk Rt' ls st μ := by
  unfold qs_aret
  split
  · split
    · exact fun hs => ⟨hs.1, hR _ _ hs.2⟩
    · exact id
  · exact id
theorem qm_vret {rk : Nat} {Rt Rt' : qV → qM → Prop} (hR : ∀ v μ, Rt v μ → Rt' v μ) : qs_vret rk Rt ls' st μ → qs_vret rk Rt' ls st μ := by
  unfold qs_vret
  split
  · split
    · exact hR _ _
    · exact id
  · exact id

theorem qsel_mono {call call' : qCall} {t : qT} {rk : Nat} {Rt Rt' : qV → qM → Prop} {X Y : qK} (hr : qrok r) (hc : qcm call call') (hR : ∀ v μ, Rt v μ → Rt' v μ) (hK : ∀ pc a b st μ, r a b → X pc a st μ → Y pc b st μ) (hl : r ls' ls) {pc : Nat} {ins : Instr} {len r1 r2 : Nat} {c : Int} : qsel call t rk Rt X pc ins len r1 r2 c ls' st μ → qsel call' t rk Rt' Y pc ins len r1 r2 c ls st μ := by
  cases ins
  case iload_n k => exact qm_iload hr (hK _) hl
  case iload k => exact qm_iload hr (hK _) hl
  case aload_n k => exact qm_aload hr (hK _) hl
  case aload k => exact qm_aload hr (hK _) hl
  case lload_n k => exact qm_lload hr (hK _) hl
  case lload k => exact qm_lload hr (hK _) hl
  case istore_n k => exact qm_istore hr (hK _) hl
  case istore k => exact qm_istore hr (hK _) hl
  case astore_n k => exact qm_astore hr (hK _) hl
  case astore k => exact qm_astore hr (hK _) hl
  case lstore_n k => exact qm_lstore hr (hK _) hl
  case lstore k => exact qm_lstore hr (hK _) hl
  case iconst n => exact qm_push hr (hK _) hl
  case bipush n => exact qm_push hr (hK _) hl
  case sipush n => exact qm_push hr (hK _) hl
  case lconst n => exact qm_push hr (hK _) hl
  case ldc_w n => exact qm_push hr (hK _) hl
  case ldc2_w n => exact qm_push hr (hK _) hl
  case ldc n => exact qm_push hr (hK _) hl
  case getstatic n => exact qm_push hr (hK _) hl
  case iadd => exact qm_b hr (hK _) hl
  case isub => exact qm_b hr (hK _) hl
  case imul => exact qm_b hr (hK _) hl
  case iand => exact qm_b hr (hK _) hl
  case ior => exact qm_b hr (hK _) hl
  case ixor => exact qm_b hr (hK _) hl
  case ishl => exact qm_b hr (hK _) hl
  case ishr => exact qm_b hr (hK _) hl
  case iushr => exact qm_b hr (hK _) hl
  case idiv => exact qm_bd hr (hK _) hl
  case irem => exact qm_bd hr (hK _) hl
  case iinc k n => exact qm_iinc hr (hK _) hl
  case ladd => exact qm_l hr (hK _) hl
  case lsub => exact qm_l hr (hK _) hl
  case lmul => exact qm_l hr (hK _) hl
  case land => exact qm_l hr (hK _) hl
  case lor => exact qm_l hr (hK _) hl
  case lrem => exact qm_ld hr (hK _) hl
  case lshl => exact qm_lsh hr (hK _) hl
  case lshr => exact qm_lsh hr (hK _) hl
  case lushr => exact qm_lsh hr (hK _) hl
  case i2l => exact qm_i2l hr (hK _) hl
  case l2i => exact qm_l2i hr (hK _) hl
  case i2b => exact qm_u hr (hK _) hl
  case i2c => exact qm_u hr (hK _) hl
  case lcmp => exact qm_lcmp hr (hK _) hl
  case dup => exact qm_dup hr (hK _) hl
  case dup2 => exact qm_dup2 hr (hK _) hl
  case pop => exact qm_pop hr (hK _) hl
  case baload => exact qm_bald hr (hK _) hl
  case iaload => exact qm_iald hr (hK _) hl
  case caload => exact qm_cald hr (hK _) hl
  case laload => exact qm_lald hr (hK _) hl
  case aaload => exact qm_aald hr (hK _) hl
  case iastore => exact qm_iast hr (hK _) hl
  case bastore => exact qm_bast hr (hK _) hl
  case castore => exact qm_cast hr (hK _) hl
  case lastore => exact qm_last hr (hK _) hl
  case arraylength => exact qm_alen hr (hK _) hl
  case goto n => exact qm_goto hr (hK _) hl
  case if_icmp k n => exact qm_icmp (hK _) (hK _) hl
  case ifCond k n => exact qm_if (hK _) (hK _) hl
  case tableswitch df lo hi offs => exact qm_table (f := fun o => ((pc : Int) + o).toNat) hK hl
  case getfield n => exact qm_gf hr (hK _) hl
  case putfield n => exact qm_pf hr (hK _) hl
  case invokevirtual n => exact qm_inv hc (hK _) hl
  case ireturn => exact qm_iret (ls' := ls') (ls := ls) hR
  case lreturn => exact qm_lret (ls' := ls') (ls := ls) hR
  case areturn => exact qm_aret (ls' := ls') (ls := ls) hR
  case return_ => exact qm_vret (ls' := ls') (ls := ls) hR
  case invokestatic n =>
    show (bif Nat.beq r1 1001 then qs_copy (X (pc + len)) else bif Nat.beq r1 1002 then qs_mm qmax (X (pc + len)) else bif Nat.beq r1 1003 then qs_mm qmin (X (pc + len)) else qinv call r1 r2 (X (pc + len))) ls' st μ → (bif Nat.beq r1 1001 then qs_copy (Y (pc + len)) else bif Nat.beq r1 1002 then qs_mm qmax (Y (pc + len)) else bif Nat.beq r1 1003 then qs_mm qmin (Y (pc + len)) else qinv call' r1 r2 (Y (pc + len))) ls st μ
    cases Nat.beq r1 1001 with
    | true => exact qm_copy hr (hK _) hl
    | false =>
      cases Nat.beq r1 1002 with
      | true => exact qm_mm hr (hK _) hl
      | false =>
        cases Nat.beq r1 1003 with
        | true => exact qm_mm hr (hK _) hl
        | false => exact qm_inv hc (hK _) hl
  all_goals exact fun hs => hs.elim
end QM
/-! runs -/
theorem qrok_eq : qrok Eq := ⟨fun _ _ _ _ h e => h ▸ e, fun _ _ _ _ h => h ▸ rfl, fun _ _ _ h => h ▸ rfl⟩
/-- a state of the locals of which less is known -/
def qle : qL → qL → Prop
  | [], [] => True
  | a :: l, b :: m => (a = none ∨ a = b) ∧ qle l m
  | _, _ => False
theorem qle_refl : ∀ l, qle l l
  | [] => trivial
  | _ :: l => ⟨Or.inr rfl, qle_refl l⟩
theorem qle_g : ∀ (a b : qL) (k : Nat) (v : qV), qle a b → qg a k = some v → qg b k = some v
  | [], [], _, _, _, e => by cases e
  | [], _ :: _, _, _, h, _ => h.elim
  | _ :: _, [], _, _, h, _ => h.elim
  | a :: l, b :: m, 0, v, h, e => by
    have e : a = some v := e
    rcases h.1 with h1 | h1
    · rw [h1] at e; cases e
    · show b = some v
      rw [← h1, e]
  | _ :: l, _ :: m, k + 1, v, h, e => qle_g l m k v h.2 e
theorem qle_set : ∀ (a b : qL) (k : Nat) (v : qV), qle a b → qle (qset a k v) (qset b k v)
  | [], [], _, _, _ => by unfold qset; trivial
  | [], _ :: _, _, _, h => h.elim
  | _ :: _, [], _, _, h => h.elim
  | _ :: l, _ :: m, 0, v, h => ⟨Or.inr rfl, h.2⟩
  | a :: l, b :: m, 1, v, h => by
    refine ⟨?_, ?_⟩
    · rcases h.1 with h1 | h1
      · rw [h1]; exact Or.inl rfl
      · rw [h1]; exact Or.inr rfl
    · match l, m, h.2 with
      | [], [], _ => trivial
      | [], _ :: _, w => exact w.elim
      | _ :: _, [], w => exact w.elim
      | _ :: _, _ :: _, w => exact ⟨Or.inr rfl, w.2⟩
  | _ :: l, _ :: m, k + 2, v, h => ⟨h.1, qle_set l m (k + 1) v h.2⟩
theorem qle_none : ∀ (a b : qL) (k : Nat), qle a b → qle (qnone a k) (qnone b k)
  | [], [], _, _ => by unfold qnone; trivial
  | [], _ :: _, _, h => h.elim
  | _ :: _, [], _, h => h.elim
  | _ :: _, _ :: _, 0, h => ⟨Or.inr rfl, h.2⟩
  | _ :: l, _ :: m, k + 1, h => ⟨h.1, qle_none l m k h.2⟩
theorem qrok_le : qrok qle := ⟨qle_g, qle_set, qle_none⟩
noncomputable def qstep (call : qCall) (t : qT) (rk : Nat) (cd : Nat → Option qI) (Rt : qV → qM → Prop) (X : qK) : qK := fun pc ls st μ => match cd pc with
  | some x => qsel call t rk Rt X pc x.2.1 x.2.2.1 x.2.2.2.1 x.2.2.2.2.1 x.2.2.2.2.2 ls st μ
  | none => False
/-- from this state the code comes to its end, with Rt: the least fixed point of the step -/
def qw (call : qCall) (t : qT) (rk : Nat) (cd : Nat → Option qI) (Rt : qV → qM → Prop) : qK := fun pc ls st μ => ∀ X : qK, (∀ pc ls st μ, qstep call t rk cd Rt X pc ls st μ → X pc ls st μ) → X pc ls st μ
section QW
variable {call call' : qCall} {t : qT} {rk : Nat} {cd : Nat → Option qI} {Rt Rt' : qV → qM → Prop} {X Y : qK} {pc : Nat} {ls ls' : qL} {st : List qV} {μ : qM}
theorem qstep_mono {r : qL → qL → Prop} (hr : qrok r) (hc : qcm call call') (hR : ∀ v μ, Rt v μ → Rt' v μ) (hK : ∀ pc a b st μ, r a b → X pc a st μ → Y pc b st μ) (hl : r ls' ls) : qstep call t rk cd Rt X pc ls' st μ → qstep call' t rk cd Rt' Y pc ls st μ := by
  unfold qstep
  split
  · exact qsel_mono hr hc hR hK hl
  · exact id
theorem qw_fold (hc : qcm call call) (h : qstep call t rk cd Rt (qw call t rk cd Rt) pc ls st μ) : qw call t rk cd Rt pc ls st μ := fun X hX =>
  hX _ _ _ _ (qstep_mono qrok_eq hc (fun _ _ q => q) (fun pc a b st μ e q => by subst e; exact q X hX) rfl h)
theorem qw_unfold (hc : qcm call call) (h : qw call t rk cd Rt pc ls st μ) : qstep call t rk cd Rt (qw call t rk cd Rt) pc ls st μ :=
  h (qstep call t rk cd Rt (qw call t rk cd Rt)) (fun pc ls st μ hs => qstep_mono qrok_eq hc (fun _ _ q => q) (fun pc a b st μ e q => by subst e; exact qw_fold hc q) rfl hs)
theorem qw_eq (hc : qcm call call) : qw call t rk cd Rt pc ls st μ = qstep call t rk cd Rt (qw call t rk cd Rt) pc ls st μ := propext ⟨qw_unfold hc, qw_fold hc⟩
theorem qw_mono (hc' : qcm call' call') (hc : qcm call call') (hR : ∀ v μ, Rt v μ → Rt' v μ) (h : qw call t rk cd Rt pc ls st μ) : qw call' t rk cd Rt' pc ls st μ :=
  h (qw call' t rk cd Rt') (fun pc ls st μ hs => qw_fold hc' (qstep_mono qrok_eq hc hR (fun _ _ _ _ _ e q => by subst e; exact q) rfl hs))
theorem qw_weak (hc : qcm call call) (hl : qle ls' ls) (h : qw call t rk cd Rt pc ls' st μ) : qw call t rk cd Rt pc ls st μ :=
  h (fun pc ls' st μ => ∀ ls, qle ls' ls → qw call t rk cd Rt pc ls st μ) (fun pc ls' st μ hs ls hl => qw_fold hc (qstep_mono qrok_le hc (fun _ _ q => q) (fun pc a b st μ hab q => q b hab) hl hs)) ls hl
end QW
end
section
/-! THE METHODS, FOR THE q-LAYER -/
def qc0 : List (List qI) := []
def qc1 : List (List qI) := [[(0, .aload_n 0, 1, 0, 0, 0), (1, .iconst 0, 1, 0, 0, 0), (2, .putfield 28, 3, 0, 4, 0), (5, .aload_n 0, 1, 0, 0, 0), (6, .iconst 0, 1, 0, 0, 0), (7, .putfield 32, 3, 0, 5, 0), (10, .aload_n 0, 1, 0, 0, 0), (11, .iconst 0, 1, 0, 0, 0), (12, .putfield 35, 3, 0, 6, 0), (15, .iconst 0, 1, 0, 0, 0)], [(16, .istore_n 3, 1, 0, 0, 0), (17, .iload_n 3, 1, 0, 0, 0), (18, .iconst 3, 1, 0, 0, 0), (19, .if_icmp .ge 85, 3, 104, 0, 0), (22, .iload_n 3, 1, 0, 0, 0), (23, .aload_n 1, 1, 0, 0, 0), (24, .getfield 38, 3, 5, 10, 0), (27, .if_icmp .ge 17, 3, 44, 0, 0), (30, .aload_n 1, 1, 0, 0, 0), (31, .getfield 43, 3, 5, 7, 0)], [(34, .iload_n 3, 1, 0, 0, 0), (35, .iaload, 1, 0, 0, 0), (36, .iload_n 2, 1, 0, 0, 0), (37, .if_icmp .gt 7, 3, 44, 0, 0), (40, .iconst 1, 1, 0, 0, 0), (41, .goto 4, 3, 45, 0, 0), (44, .iconst 0, 1, 0, 0, 0), (45, .istore 4, 2, 0, 0, 0), (47, .aload_n 0, 1, 0, 0, 0)], [(48, .getfield 22, 3, 0, 2, 0), (51, .iload_n 3, 1, 0, 0, 0), (52, .iload 4, 2, 0, 0, 0), (54, .ifCond .eq 12, 3, 66, 0, 0), (57, .aload_n 1, 1, 0, 0, 0), (58, .getfield 46, 3, 5, 6, 0), (61, .iload_n 3, 1, 0, 0, 0), (62, .iaload, 1, 0, 0, 0), (63, .goto 4, 3, 67, 0, 0)], [(66, .iconst 0, 1, 0, 0, 0), (67, .iastore, 1, 0, 0, 0), (68, .aload_n 0, 1, 0, 0, 0), (69, .getfield 25, 3, 0, 3, 0), (72, .iload_n 3, 1, 0, 0, 0), (73, .iload 4, 2, 0, 0, 0), (75, .ifCond .eq 21, 3, 96, 0, 0), (78, .aload_n 1, 1, 0, 0, 0), (79, .getfield 49, 3, 5, 5, 0)], [(82, .iload_n 3, 1, 0, 0, 0), (83, .iaload, 1, 0, 0, 0), (84, .aload_n 1, 1, 0, 0, 0), (85, .getfield 52, 3, 5, 4, 0), (88, .iload_n 3, 1, 0, 0, 0), (89, .iaload, 1, 0, 0, 0), (90, .isub, 1, 0, 0, 0), (91, .iconst 1, 1, 0, 0, 0), (92, .iadd, 1, 0, 0, 0), (93, .goto 4, 3, 97, 0, 0)], [(96, .iconst 0, 1, 0, 0, 0), (97, .iastore, 1, 0, 0, 0), (98, .iinc 3 1, 3, 0, 0, 0), (101, .goto (-84), 3, 17, 0, 0), (104, .iconst 0, 1, 0, 0, 0), (105, .istore_n 3, 1, 0, 0, 0), (106, .iload_n 3, 1, 0, 0, 0), (107, .bipush 10, 2, 0, 0, 0), (109, .if_icmp .ge 84, 3, 193, 0, 0)], [(112, .aload_n 0, 1, 0, 0, 0), (113, .getfield 18, 3, 0, 1, 0), (116, .iload_n 3, 1, 0, 0, 0), (117, .aload_n 1, 1, 0, 0, 0), (118, .iload_n 3, 1, 0, 0, 0), (119, .iload_n 2, 1, 0, 0, 0), (120, .invokevirtual 55, 3, 44, 3, 0), (123, .iastore, 1, 0, 0, 0), (124, .aload_n 0, 1, 0, 0, 0), (125, .getfield 18, 3, 0, 1, 0)], [(128, .iload_n 3, 1, 0, 0, 0), (129, .iaload, 1, 0, 0, 0), (130, .ifCond .lt 57, 3, 187, 0, 0), (133, .aload_n 0, 1, 0, 0, 0), (134, .dup, 1, 0, 0, 0), (135, .getfield 32, 3, 0, 5, 0), (138, .aload_n 0, 1, 0, 0, 0), (139, .getfield 12, 3, 0, 0, 0), (142, .aload_n 1, 1, 0, 0, 0), (143, .getfield 59, 3, 5, 0, 0)], [(146, .iload_n 3, 1, 0, 0, 0), (147, .iaload, 1, 0, 0, 0), (148, .invokevirtual 62, 3, 65, 2, 0), (151, .iadd, 1, 0, 0, 0), (152, .putfield 32, 3, 0, 5, 0), (155, .aload_n 0, 1, 0, 0, 0), (156, .dup, 1, 0, 0, 0), (157, .getfield 28, 3, 0, 4, 0)], [(160, .iconst 1, 1, 0, 0, 0), (161, .iload_n 3, 1, 0, 0, 0), (162, .ishl, 1, 0, 0, 0), (163, .ior, 1, 0, 0, 0), (164, .putfield 28, 3, 0, 4, 0), (167, .aload_n 1, 1, 0, 0, 0), (168, .iload_n 3, 1, 0, 0, 0), (169, .iload_n 2, 1, 0, 0, 0), (170, .invokevirtual 66, 3, 45, 3, 0), (173, .ifCond .eq 14, 3, 187, 0, 0)], [(176, .aload_n 0, 1, 0, 0, 0), (177, .iload_n 3, 1, 0, 0, 0), (178, .aload_n 1, 1, 0, 0, 0), (179, .getfield 70, 3, 5, 2, 0), (182, .iload_n 3, 1, 0, 0, 0), (183, .iaload, 1, 0, 0, 0), (184, .invokevirtual 73, 3, 4, 103, 0), (187, .iinc 3 1, 3, 0, 0, 0), (190, .goto (-84), 3, 106, 0, 0)], [(193, .return_, 1, 0, 0, 0)]]
def qc2 : List (List qI) := [[(0, .aload_n 0, 1, 0, 0, 0), (1, .getfield 18, 3, 0, 1, 0), (4, .iload_n 1, 1, 0, 0, 0), (5, .iaload, 1, 0, 0, 0), (6, .ifCond .lt 7, 3, 13, 0, 0), (9, .iconst 1, 1, 0, 0, 0), (10, .goto 4, 3, 14, 0, 0), (13, .iconst 0, 1, 0, 0, 0), (14, .ireturn, 1, 0, 0, 0)]]
def qc3 : List (List qI) := [[(0, .aload_n 0, 1, 0, 0, 0), (1, .getfield 28, 3, 0, 4, 0), (4, .iload_n 1, 1, 0, 0, 0), (5, .ishr, 1, 0, 0, 0), (6, .iconst 1, 1, 0, 0, 0), (7, .iand, 1, 0, 0, 0), (8, .iconst 1, 1, 0, 0, 0), (9, .if_icmp .ne 7, 3, 16, 0, 0), (12, .iconst 1, 1, 0, 0, 0), (13, .goto 4, 3, 17, 0, 0)], [(16, .iconst 0, 1, 0, 0, 0), (17, .ireturn, 1, 0, 0, 0)]]
def qc4 : List (List qI) := [[(0, .aload_n 0, 1, 0, 0, 0), (1, .getfield 18, 3, 0, 1, 0), (4, .iload_n 1, 1, 0, 0, 0), (5, .iaload, 1, 0, 0, 0), (6, .istore_n 3, 1, 0, 0, 0), (7, .iload_n 3, 1, 0, 0, 0), (8, .ifCond .lt 54, 3, 62, 0, 0), (11, .aload_n 0, 1, 0, 0, 0), (12, .getfield 22, 3, 0, 2, 0), (15, .iload_n 3, 1, 0, 0, 0)], [(16, .dup2, 1, 0, 0, 0), (17, .iaload, 1, 0, 0, 0), (18, .iload_n 2, 1, 0, 0, 0), (19, .isub, 1, 0, 0, 0), (20, .iastore, 1, 0, 0, 0), (21, .aload_n 0, 1, 0, 0, 0), (22, .getfield 25, 3, 0, 3, 0), (25, .iload_n 3, 1, 0, 0, 0), (26, .dup2, 1, 0, 0, 0), (27, .iaload, 1, 0, 0, 0), (28, .iconst 1, 1, 0, 0, 0), (29, .isub, 1, 0, 0, 0), (30, .iastore, 1, 0, 0, 0), (31, .aload_n 0, 1, 0, 0, 0)], [(32, .dup, 1, 0, 0, 0), (33, .getfield 35, 3, 0, 6, 0), (36, .aload_n 0, 1, 0, 0, 0), (37, .getfield 12, 3, 0, 0, 0), (40, .iload_n 2, 1, 0, 0, 0), (41, .invokevirtual 62, 3, 65, 2, 0), (44, .iadd, 1, 0, 0, 0), (45, .putfield 35, 3, 0, 6, 0)], [(48, .aload_n 0, 1, 0, 0, 0), (49, .dup, 1, 0, 0, 0), (50, .getfield 28, 3, 0, 4, 0), (53, .iconst 1, 1, 0, 0, 0), (54, .iload_n 1, 1, 0, 0, 0), (55, .ishl, 1, 0, 0, 0), (56, .iconst (-1), 1, 0, 0, 0), (57, .ixor, 1, 0, 0, 0), (58, .iand, 1, 0, 0, 0), (59, .putfield 28, 3, 0, 4, 0), (62, .return_, 1, 0, 0, 0)]]
def qc5 : List (List qI) := [[(0, .aload_n 0, 1, 0, 0, 0), (1, .getfield 18, 3, 0, 1, 0), (4, .iload_n 1, 1, 0, 0, 0), (5, .iaload, 1, 0, 0, 0), (6, .istore_n 3, 1, 0, 0, 0), (7, .iload_n 3, 1, 0, 0, 0), (8, .ifCond .lt 52, 3, 60, 0, 0), (11, .aload_n 0, 1, 0, 0, 0), (12, .getfield 22, 3, 0, 2, 0), (15, .iload_n 3, 1, 0, 0, 0)], [(16, .dup2, 1, 0, 0, 0), (17, .iaload, 1, 0, 0, 0), (18, .iload_n 2, 1, 0, 0, 0), (19, .iadd, 1, 0, 0, 0), (20, .iastore, 1, 0, 0, 0), (21, .aload_n 0, 1, 0, 0, 0), (22, .getfield 25, 3, 0, 3, 0), (25, .iload_n 3, 1, 0, 0, 0), (26, .dup2, 1, 0, 0, 0), (27, .iaload, 1, 0, 0, 0), (28, .iconst 1, 1, 0, 0, 0), (29, .iadd, 1, 0, 0, 0), (30, .iastore, 1, 0, 0, 0), (31, .aload_n 0, 1, 0, 0, 0)], [(32, .dup, 1, 0, 0, 0), (33, .getfield 35, 3, 0, 6, 0), (36, .aload_n 0, 1, 0, 0, 0), (37, .getfield 12, 3, 0, 0, 0), (40, .iload_n 2, 1, 0, 0, 0), (41, .invokevirtual 62, 3, 65, 2, 0), (44, .isub, 1, 0, 0, 0), (45, .putfield 35, 3, 0, 6, 0)], [(48, .aload_n 0, 1, 0, 0, 0), (49, .dup, 1, 0, 0, 0), (50, .getfield 28, 3, 0, 4, 0), (53, .iconst 1, 1, 0, 0, 0), (54, .iload_n 1, 1, 0, 0, 0), (55, .ishl, 1, 0, 0, 0), (56, .ior, 1, 0, 0, 0), (57, .putfield 28, 3, 0, 4, 0), (60, .return_, 1, 0, 0, 0)]]
def qc6 : List (List qI) := [[(0, .aload_n 0, 1, 0, 0, 0), (1, .iload_n 2, 1, 0, 0, 0), (2, .invokevirtual 77, 3, 3, 2, 0), (5, .ifCond .ne 10, 3, 15, 0, 0), (8, .aload_n 1, 1, 0, 0, 0), (9, .getfield 70, 3, 5, 2, 0), (12, .iload_n 2, 1, 0, 0, 0), (13, .iaload, 1, 0, 0, 0), (14, .ireturn, 1, 0, 0, 0), (15, .aload_n 0, 1, 0, 0, 0)], [(16, .getfield 18, 3, 0, 1, 0), (19, .iload_n 2, 1, 0, 0, 0), (20, .iaload, 1, 0, 0, 0), (21, .istore_n 3, 1, 0, 0, 0), (22, .iload_n 3, 1, 0, 0, 0), (23, .ifCond .ge 7, 3, 30, 0, 0), (26, .iconst 0, 1, 0, 0, 0), (27, .goto 25, 3, 52, 0, 0), (30, .iconst 0, 1, 0, 0, 0), (31, .aload_n 0, 1, 0, 0, 0)], [(32, .getfield 22, 3, 0, 2, 0), (35, .iload_n 3, 1, 0, 0, 0), (36, .iaload, 1, 0, 0, 0), (37, .bipush 20, 2, 0, 0, 0), (39, .aload_n 0, 1, 0, 0, 0), (40, .getfield 25, 3, 0, 3, 0), (43, .iload_n 3, 1, 0, 0, 0), (44, .iaload, 1, 0, 0, 0), (45, .iconst 1, 1, 0, 0, 0), (46, .isub, 1, 0, 0, 0), (47, .imul, 1, 0, 0, 0)], [(48, .isub, 1, 0, 0, 0), (49, .invokestatic 81, 3, 1002, 0, 0), (52, .ireturn, 1, 0, 0, 0)]]
def qc7 : List (List qI) := [[(0, .aload_n 0, 1, 0, 0, 0), (1, .iload_n 2, 1, 0, 0, 0), (2, .invokevirtual 77, 3, 3, 2, 0), (5, .ifCond .ne 10, 3, 15, 0, 0), (8, .aload_n 1, 1, 0, 0, 0), (9, .getfield 70, 3, 5, 2, 0), (12, .iload_n 2, 1, 0, 0, 0), (13, .iaload, 1, 0, 0, 0), (14, .ireturn, 1, 0, 0, 0), (15, .aload_n 0, 1, 0, 0, 0)], [(16, .getfield 18, 3, 0, 1, 0), (19, .iload_n 2, 1, 0, 0, 0), (20, .iaload, 1, 0, 0, 0), (21, .istore_n 3, 1, 0, 0, 0), (22, .iload_n 3, 1, 0, 0, 0), (23, .ifCond .ge 7, 3, 30, 0, 0), (26, .iconst 0, 1, 0, 0, 0), (27, .goto 14, 3, 41, 0, 0), (30, .bipush 20, 2, 0, 0, 0)], [(32, .aload_n 0, 1, 0, 0, 0), (33, .getfield 22, 3, 0, 2, 0), (36, .iload_n 3, 1, 0, 0, 0), (37, .iaload, 1, 0, 0, 0), (38, .invokestatic 86, 3, 1003, 0, 0), (41, .ireturn, 1, 0, 0, 0)]]
def qc8 : List (List qI) := [[(0, .iconst 0, 1, 0, 0, 0), (1, .istore_n 1, 1, 0, 0, 0), (2, .iconst 0, 1, 0, 0, 0), (3, .istore_n 2, 1, 0, 0, 0), (4, .iload_n 2, 1, 0, 0, 0), (5, .iconst 3, 1, 0, 0, 0), (6, .if_icmp .ge 20, 3, 26, 0, 0), (9, .iload_n 1, 1, 0, 0, 0), (10, .aload_n 0, 1, 0, 0, 0), (11, .getfield 25, 3, 0, 3, 0), (14, .iload_n 2, 1, 0, 0, 0), (15, .iaload, 1, 0, 0, 0)], [(16, .invokestatic 81, 3, 1002, 0, 0), (19, .istore_n 1, 1, 0, 0, 0), (20, .iinc 2 1, 3, 0, 0, 0), (23, .goto (-19), 3, 4, 0, 0), (26, .iload_n 1, 1, 0, 0, 0), (27, .ireturn, 1, 0, 0, 0)]]
def qc9 : List (List qI) := [[(0, .aload_n 0, 1, 0, 0, 0), (1, .getfield 12, 3, 0, 0, 0), (4, .aload_n 0, 1, 0, 0, 0), (5, .invokevirtual 89, 3, 8, 1, 0), (8, .invokevirtual 93, 3, 67, 102, 0), (11, .lconst 1, 1, 0, 0, 0), (12, .lstore_n 1, 1, 0, 0, 0), (13, .iconst 0, 1, 0, 0, 0), (14, .istore_n 3, 1, 0, 0, 0), (15, .iload_n 3, 1, 0, 0, 0)], [(16, .iconst 3, 1, 0, 0, 0), (17, .if_icmp .ge 36, 3, 53, 0, 0), (20, .lload_n 1, 1, 0, 0, 0), (21, .aload_n 0, 1, 0, 0, 0), (22, .getfield 12, 3, 0, 0, 0), (25, .aload_n 0, 1, 0, 0, 0), (26, .getfield 25, 3, 0, 3, 0), (29, .iload_n 3, 1, 0, 0, 0), (30, .iaload, 1, 0, 0, 0), (31, .aload_n 0, 1, 0, 0, 0)], [(32, .getfield 22, 3, 0, 2, 0), (35, .iload_n 3, 1, 0, 0, 0), (36, .iaload, 1, 0, 0, 0), (37, .invokevirtual 97, 3, 70, 3, 0), (40, .i2l, 1, 0, 0, 0), (41, .lmul, 1, 0, 0, 0), (42, .ldc2_w 100, 3, 0, 0, 1000000007), (45, .lrem, 1, 0, 0, 0), (46, .lstore_n 1, 1, 0, 0, 0), (47, .iinc 3 1, 3, 0, 0, 0)], [(50, .goto (-35), 3, 15, 0, 0), (53, .lload_n 1, 1, 0, 0, 0), (54, .l2i, 1, 0, 0, 0), (55, .ireturn, 1, 0, 0, 0)]]
def qc10 : List (List qI) := [[(0, .aload_n 0, 1, 0, 0, 0), (1, .getfield 35, 3, 0, 6, 0), (4, .istore_n 1, 1, 0, 0, 0), (5, .iconst 0, 1, 0, 0, 0), (6, .istore_n 2, 1, 0, 0, 0), (7, .iload_n 2, 1, 0, 0, 0), (8, .iconst 3, 1, 0, 0, 0), (9, .if_icmp .ge 31, 3, 40, 0, 0), (12, .iload_n 1, 1, 0, 0, 0), (13, .aload_n 0, 1, 0, 0, 0), (14, .getfield 12, 3, 0, 0, 0)], [(17, .aload_n 0, 1, 0, 0, 0), (18, .getfield 25, 3, 0, 3, 0), (21, .iload_n 2, 1, 0, 0, 0), (22, .iaload, 1, 0, 0, 0), (23, .aload_n 0, 1, 0, 0, 0), (24, .getfield 22, 3, 0, 2, 0), (27, .iload_n 2, 1, 0, 0, 0), (28, .iaload, 1, 0, 0, 0), (29, .invokevirtual 102, 3, 69, 3, 0)], [(32, .iadd, 1, 0, 0, 0), (33, .istore_n 1, 1, 0, 0, 0), (34, .iinc 2 1, 3, 0, 0, 0), (37, .goto (-30), 3, 7, 0, 0), (40, .iconst 0, 1, 0, 0, 0), (41, .aload_n 0, 1, 0, 0, 0), (42, .getfield 32, 3, 0, 5, 0), (45, .iload_n 1, 1, 0, 0, 0), (46, .isub, 1, 0, 0, 0), (47, .invokestatic 81, 3, 1002, 0, 0)], [(50, .ireturn, 1, 0, 0, 0)]]
def qc11 : List (List qI) := [[(0, .aload_n 0, 1, 0, 0, 0), (1, .getfield 35, 3, 0, 6, 0), (4, .istore_n 1, 1, 0, 0, 0), (5, .iconst 0, 1, 0, 0, 0), (6, .istore_n 2, 1, 0, 0, 0), (7, .iload_n 2, 1, 0, 0, 0), (8, .iconst 3, 1, 0, 0, 0), (9, .if_icmp .ge 31, 3, 40, 0, 0), (12, .iload_n 1, 1, 0, 0, 0), (13, .aload_n 0, 1, 0, 0, 0), (14, .getfield 12, 3, 0, 0, 0)], [(17, .aload_n 0, 1, 0, 0, 0), (18, .getfield 25, 3, 0, 3, 0), (21, .iload_n 2, 1, 0, 0, 0), (22, .iaload, 1, 0, 0, 0), (23, .aload_n 0, 1, 0, 0, 0), (24, .getfield 22, 3, 0, 2, 0), (27, .iload_n 2, 1, 0, 0, 0), (28, .iaload, 1, 0, 0, 0), (29, .invokevirtual 105, 3, 68, 3, 0)], [(32, .iadd, 1, 0, 0, 0), (33, .istore_n 1, 1, 0, 0, 0), (34, .iinc 2 1, 3, 0, 0, 0), (37, .goto (-30), 3, 7, 0, 0), (40, .iconst 0, 1, 0, 0, 0), (41, .aload_n 0, 1, 0, 0, 0), (42, .getfield 32, 3, 0, 5, 0), (45, .iload_n 1, 1, 0, 0, 0), (46, .isub, 1, 0, 0, 0), (47, .invokestatic 81, 3, 1002, 0, 0)], [(50, .ireturn, 1, 0, 0, 0)]]
def qc12 : List (List qI) := [[(0, .aload_n 0, 1, 0, 0, 0), (1, .invokevirtual 108, 3, 11, 1, 0), (4, .aload_n 0, 1, 0, 0, 0), (5, .invokevirtual 111, 3, 10, 1, 0), (8, .isub, 1, 0, 0, 0), (9, .ireturn, 1, 0, 0, 0)]]
def qc13 : List (List qI) := [[(0, .iload_n 2, 1, 0, 0, 0), (1, .iconst 1, 1, 0, 0, 0), (2, .if_icmp .ne 8, 3, 10, 0, 0), (5, .aload_n 0, 1, 0, 0, 0), (6, .invokevirtual 111, 3, 10, 1, 0), (9, .ireturn, 1, 0, 0, 0), (10, .iload_n 2, 1, 0, 0, 0), (11, .iconst 2, 1, 0, 0, 0), (12, .if_icmp .ne 8, 3, 20, 0, 0), (15, .aload_n 0, 1, 0, 0, 0)], [(16, .invokevirtual 108, 3, 11, 1, 0), (19, .ireturn, 1, 0, 0, 0), (20, .iconst 0, 1, 0, 0, 0), (21, .istore_n 3, 1, 0, 0, 0), (22, .iconst 0, 1, 0, 0, 0), (23, .istore 4, 2, 0, 0, 0), (25, .iload 4, 2, 0, 0, 0), (27, .bipush 10, 2, 0, 0, 0), (29, .if_icmp .ge 60, 3, 89, 0, 0)], [(32, .aload_n 0, 1, 0, 0, 0), (33, .getfield 18, 3, 0, 1, 0), (36, .iload 4, 2, 0, 0, 0), (38, .iaload, 1, 0, 0, 0), (39, .ifCond .lt 44, 3, 83, 0, 0), (42, .iload_n 2, 1, 0, 0, 0), (43, .ifCond .ne 19, 3, 62, 0, 0), (46, .aload_n 1, 1, 0, 0, 0), (47, .aload_n 0, 1, 0, 0, 0)], [(48, .getfield 18, 3, 0, 1, 0), (51, .iload 4, 2, 0, 0, 0), (53, .iaload, 1, 0, 0, 0), (54, .iload 4, 2, 0, 0, 0), (56, .invokevirtual 114, 3, 46, 3, 0), (59, .goto 10, 3, 69, 0, 0), (62, .aload_n 1, 1, 0, 0, 0), (63, .getfield 117, 3, 5, 1, 0)], [(66, .iload 4, 2, 0, 0, 0), (68, .iaload, 1, 0, 0, 0), (69, .istore 5, 2, 0, 0, 0), (71, .iload_n 3, 1, 0, 0, 0), (72, .aload_n 0, 1, 0, 0, 0), (73, .getfield 12, 3, 0, 0, 0), (76, .iload 5, 2, 0, 0, 0), (78, .invokevirtual 62, 3, 65, 2, 0)], [(81, .iadd, 1, 0, 0, 0), (82, .istore_n 3, 1, 0, 0, 0), (83, .iinc 4 1, 3, 0, 0, 0), (86, .goto (-61), 3, 25, 0, 0), (89, .iconst 0, 1, 0, 0, 0), (90, .aload_n 0, 1, 0, 0, 0), (91, .getfield 32, 3, 0, 5, 0), (94, .iload_n 3, 1, 0, 0, 0), (95, .isub, 1, 0, 0, 0)], [(96, .invokestatic 81, 3, 1002, 0, 0), (99, .ireturn, 1, 0, 0, 0)]]
def qc14 : List (List qI) := [[(0, .iconst 0, 1, 0, 0, 0), (1, .istore_n 3, 1, 0, 0, 0), (2, .iload_n 3, 1, 0, 0, 0), (3, .bipush 10, 2, 0, 0, 0), (5, .if_icmp .ge 39, 3, 44, 0, 0), (8, .aload_n 0, 1, 0, 0, 0), (9, .iload_n 3, 1, 0, 0, 0), (10, .invokevirtual 120, 3, 2, 2, 0), (13, .ifCond .eq 25, 3, 38, 0, 0)], [(16, .aload_n 0, 1, 0, 0, 0), (17, .iload_n 3, 1, 0, 0, 0), (18, .invokevirtual 77, 3, 3, 2, 0), (21, .ifCond .ne 17, 3, 38, 0, 0), (24, .aload_n 2, 1, 0, 0, 0), (25, .iload_n 3, 1, 0, 0, 0), (26, .iaload, 1, 0, 0, 0), (27, .aload_n 1, 1, 0, 0, 0), (28, .getfield 70, 3, 5, 2, 0), (31, .iload_n 3, 1, 0, 0, 0)], [(32, .iaload, 1, 0, 0, 0), (33, .if_icmp .eq 5, 3, 38, 0, 0), (36, .iconst 0, 1, 0, 0, 0), (37, .ireturn, 1, 0, 0, 0), (38, .iinc 3 1, 3, 0, 0, 0), (41, .goto (-39), 3, 2, 0, 0), (44, .iconst 0, 1, 0, 0, 0), (45, .istore_n 3, 1, 0, 0, 0), (46, .iload_n 3, 1, 0, 0, 0), (47, .iconst 3, 1, 0, 0, 0)], [(48, .if_icmp .ge 26, 3, 74, 0, 0), (51, .aload_n 0, 1, 0, 0, 0), (52, .iload_n 3, 1, 0, 0, 0), (53, .aload_n 2, 1, 0, 0, 0), (54, .invokevirtual 123, 3, 15, 3, 0), (57, .aload_n 0, 1, 0, 0, 0), (58, .getfield 22, 3, 0, 2, 0), (61, .iload_n 3, 1, 0, 0, 0), (62, .iaload, 1, 0, 0, 0), (63, .if_icmp .eq 5, 3, 68, 0, 0)], [(66, .iconst 0, 1, 0, 0, 0), (67, .ireturn, 1, 0, 0, 0), (68, .iinc 3 1, 3, 0, 0, 0), (71, .goto (-25), 3, 46, 0, 0), (74, .iconst 1, 1, 0, 0, 0), (75, .ireturn, 1, 0, 0, 0)]]
def qc15 : List (List qI) := [[(0, .iconst 0, 1, 0, 0, 0), (1, .istore_n 3, 1, 0, 0, 0), (2, .iconst 0, 1, 0, 0, 0), (3, .istore 4, 2, 0, 0, 0), (5, .iload 4, 2, 0, 0, 0), (7, .bipush 10, 2, 0, 0, 0), (9, .if_icmp .ge 36, 3, 45, 0, 0), (12, .aload_n 0, 1, 0, 0, 0), (13, .getfield 18, 3, 0, 1, 0)], [(16, .iload 4, 2, 0, 0, 0), (18, .iaload, 1, 0, 0, 0), (19, .iload_n 1, 1, 0, 0, 0), (20, .if_icmp .ne 19, 3, 39, 0, 0), (23, .aload_n 0, 1, 0, 0, 0), (24, .iload 4, 2, 0, 0, 0), (26, .invokevirtual 77, 3, 3, 2, 0), (29, .ifCond .eq 10, 3, 39, 0, 0)], [(32, .iload_n 3, 1, 0, 0, 0), (33, .aload_n 2, 1, 0, 0, 0), (34, .iload 4, 2, 0, 0, 0), (36, .iaload, 1, 0, 0, 0), (37, .iadd, 1, 0, 0, 0), (38, .istore_n 3, 1, 0, 0, 0), (39, .iinc 4 1, 3, 0, 0, 0), (42, .goto (-37), 3, 5, 0, 0), (45, .iload_n 3, 1, 0, 0, 0), (46, .ireturn, 1, 0, 0, 0)]]
def qc16 : List (List qI) := [[(0, .aload_n 0, 1, 0, 0, 0), (1, .getfield 28, 3, 0, 4, 0), (4, .istore_n 2, 1, 0, 0, 0), (5, .iconst 0, 1, 0, 0, 0), (6, .istore_n 3, 1, 0, 0, 0), (7, .iload_n 3, 1, 0, 0, 0), (8, .bipush 10, 2, 0, 0, 0), (10, .if_icmp .ge 55, 3, 65, 0, 0), (13, .iconst 0, 1, 0, 0, 0), (14, .istore 4, 2, 0, 0, 0)], [(16, .iload 4, 2, 0, 0, 0), (18, .iload_n 2, 1, 0, 0, 0), (19, .if_icmp .gt 40, 3, 59, 0, 0), (22, .iload 4, 2, 0, 0, 0), (24, .iload_n 2, 1, 0, 0, 0), (25, .iconst (-1), 1, 0, 0, 0), (26, .ixor, 1, 0, 0, 0), (27, .iand, 1, 0, 0, 0), (28, .ifCond .ne 25, 3, 53, 0, 0), (31, .iload 4, 2, 0, 0, 0)], [(33, .invokestatic 127, 3, 182, 1, 0), (36, .iload_n 3, 1, 0, 0, 0), (37, .if_icmp .ne 16, 3, 53, 0, 0), (40, .aload_n 0, 1, 0, 0, 0), (41, .iload 4, 2, 0, 0, 0), (43, .aload_n 1, 1, 0, 0, 0), (44, .invokevirtual 132, 3, 17, 3, 0), (47, .ifCond .eq 6, 3, 53, 0, 0)], [(50, .iload 4, 2, 0, 0, 0), (52, .ireturn, 1, 0, 0, 0), (53, .iinc 4 1, 3, 0, 0, 0), (56, .goto (-40), 3, 16, 0, 0), (59, .iinc 3 1, 3, 0, 0, 0), (62, .goto (-55), 3, 7, 0, 0)], [(65, .iload_n 2, 1, 0, 0, 0), (66, .ireturn, 1, 0, 0, 0)]]
def qc17 : List (List qI) := [[(0, .iconst 0, 1, 0, 0, 0), (1, .istore_n 3, 1, 0, 0, 0), (2, .iload_n 3, 1, 0, 0, 0), (3, .bipush 10, 2, 0, 0, 0), (5, .if_icmp .ge 26, 3, 31, 0, 0), (8, .iload_n 1, 1, 0, 0, 0), (9, .iload_n 3, 1, 0, 0, 0), (10, .ishr, 1, 0, 0, 0), (11, .iconst 1, 1, 0, 0, 0), (12, .iand, 1, 0, 0, 0), (13, .iconst 1, 1, 0, 0, 0), (14, .if_icmp .ne 11, 3, 25, 0, 0)], [(17, .aload_n 0, 1, 0, 0, 0), (18, .iload_n 3, 1, 0, 0, 0), (19, .aload_n 2, 1, 0, 0, 0), (20, .iload_n 3, 1, 0, 0, 0), (21, .iaload, 1, 0, 0, 0), (22, .invokevirtual 73, 3, 4, 103, 0), (25, .iinc 3 1, 3, 0, 0, 0), (28, .goto (-26), 3, 2, 0, 0), (31, .aload_n 0, 1, 0, 0, 0)], [(32, .invokevirtual 136, 3, 12, 1, 0), (35, .ifCond .ne 7, 3, 42, 0, 0), (38, .iconst 1, 1, 0, 0, 0), (39, .goto 4, 3, 43, 0, 0), (42, .iconst 0, 1, 0, 0, 0), (43, .istore_n 3, 1, 0, 0, 0), (44, .iconst 0, 1, 0, 0, 0), (45, .istore 4, 2, 0, 0, 0), (47, .iload 4, 2, 0, 0, 0)], [(49, .bipush 10, 2, 0, 0, 0), (51, .if_icmp .ge 29, 3, 80, 0, 0), (54, .iload_n 1, 1, 0, 0, 0), (55, .iload 4, 2, 0, 0, 0), (57, .ishr, 1, 0, 0, 0), (58, .iconst 1, 1, 0, 0, 0), (59, .iand, 1, 0, 0, 0), (60, .iconst 1, 1, 0, 0, 0), (61, .if_icmp .ne 13, 3, 74, 0, 0)], [(64, .aload_n 0, 1, 0, 0, 0), (65, .iload 4, 2, 0, 0, 0), (67, .aload_n 2, 1, 0, 0, 0), (68, .iload 4, 2, 0, 0, 0), (70, .iaload, 1, 0, 0, 0), (71, .invokevirtual 139, 3, 5, 103, 0), (74, .iinc 4 1, 3, 0, 0, 0), (77, .goto (-30), 3, 47, 0, 0)], [(80, .iload_n 3, 1, 0, 0, 0), (81, .ireturn, 1, 0, 0, 0)]]
def qc18 : List (List qI) := [[(0, .bipush (-9), 2, 0, 0, 0), (2, .istore_n 2, 1, 0, 0, 0), (3, .iconst 0, 1, 0, 0, 0), (4, .istore_n 3, 1, 0, 0, 0), (5, .iconst 0, 1, 0, 0, 0), (6, .istore 4, 2, 0, 0, 0), (8, .iload 4, 2, 0, 0, 0), (10, .bipush 10, 2, 0, 0, 0), (12, .if_icmp .ge 45, 3, 57, 0, 0), (15, .aload_n 0, 1, 0, 0, 0)], [(16, .iload 4, 2, 0, 0, 0), (18, .invokevirtual 77, 3, 3, 2, 0), (21, .ifCond .eq 30, 3, 51, 0, 0), (24, .aload_n 0, 1, 0, 0, 0), (25, .aload_n 1, 1, 0, 0, 0), (26, .iload 4, 2, 0, 0, 0), (28, .invokevirtual 142, 3, 19, 3, 0), (31, .istore 5, 2, 0, 0, 0)], [(33, .iload_n 2, 1, 0, 0, 0), (34, .bipush (-9), 2, 0, 0, 0), (36, .if_icmp .eq 9, 3, 45, 0, 0), (39, .iload 5, 2, 0, 0, 0), (41, .iload_n 3, 1, 0, 0, 0), (42, .if_icmp .ge 9, 3, 51, 0, 0), (45, .iload 4, 2, 0, 0, 0), (47, .istore_n 2, 1, 0, 0, 0)], [(48, .iload 5, 2, 0, 0, 0), (50, .istore_n 3, 1, 0, 0, 0), (51, .iinc 4 1, 3, 0, 0, 0), (54, .goto (-46), 3, 8, 0, 0), (57, .iload_n 2, 1, 0, 0, 0), (58, .ireturn, 1, 0, 0, 0)]]
def qc19 : List (List qI) := [[(0, .iconst 0, 1, 0, 0, 0), (1, .istore_n 3, 1, 0, 0, 0), (2, .aload_n 0, 1, 0, 0, 0), (3, .aload_n 1, 1, 0, 0, 0), (4, .iload_n 2, 1, 0, 0, 0), (5, .invokevirtual 146, 3, 7, 3, 0), (8, .istore 4, 2, 0, 0, 0), (10, .aload_n 0, 1, 0, 0, 0), (11, .aload_n 1, 1, 0, 0, 0), (12, .iload_n 2, 1, 0, 0, 0), (13, .invokevirtual 149, 3, 6, 3, 0)], [(16, .istore 5, 2, 0, 0, 0), (18, .iload 5, 2, 0, 0, 0), (20, .iload 4, 2, 0, 0, 0), (22, .if_icmp .gt 32, 3, 54, 0, 0), (25, .aload_n 0, 1, 0, 0, 0), (26, .iload_n 2, 1, 0, 0, 0), (27, .iload 5, 2, 0, 0, 0), (29, .invokevirtual 73, 3, 4, 103, 0)], [(32, .iload_n 3, 1, 0, 0, 0), (33, .aload_n 0, 1, 0, 0, 0), (34, .invokevirtual 136, 3, 12, 1, 0), (37, .invokestatic 81, 3, 1002, 0, 0), (40, .istore_n 3, 1, 0, 0, 0), (41, .aload_n 0, 1, 0, 0, 0), (42, .iload_n 2, 1, 0, 0, 0), (43, .iload 5, 2, 0, 0, 0), (45, .invokevirtual 139, 3, 5, 103, 0)], [(48, .iinc 5 1, 3, 0, 0, 0), (51, .goto (-33), 3, 18, 0, 0), (54, .iload_n 3, 1, 0, 0, 0), (55, .ireturn, 1, 0, 0, 0)]]
def qc20 : List (List qI) := [[(0, .aload_n 0, 1, 0, 0, 0), (1, .getfield 18, 3, 0, 1, 0), (4, .iload_n 2, 1, 0, 0, 0), (5, .iaload, 1, 0, 0, 0), (6, .istore_n 3, 1, 0, 0, 0), (7, .iload_n 3, 1, 0, 0, 0), (8, .ifCond .ge 7, 3, 15, 0, 0), (11, .iconst 0, 1, 0, 0, 0), (12, .goto 9, 3, 21, 0, 0), (15, .aload_n 1, 1, 0, 0, 0)], [(16, .getfield 46, 3, 5, 6, 0), (19, .iload_n 3, 1, 0, 0, 0), (20, .iaload, 1, 0, 0, 0), (21, .ireturn, 1, 0, 0, 0)]]
def qc21 : List (List qI) := [[(0, .aload_n 0, 1, 0, 0, 0), (1, .getfield 18, 3, 0, 1, 0), (4, .iload_n 2, 1, 0, 0, 0), (5, .iaload, 1, 0, 0, 0), (6, .istore_n 3, 1, 0, 0, 0), (7, .iload_n 3, 1, 0, 0, 0), (8, .ifCond .ge 5, 3, 13, 0, 0), (11, .iconst 0, 1, 0, 0, 0), (12, .ireturn, 1, 0, 0, 0), (13, .aload_n 0, 1, 0, 0, 0), (14, .getfield 12, 3, 0, 0, 0)], [(17, .aload_n 1, 1, 0, 0, 0), (18, .getfield 59, 3, 5, 0, 0), (21, .iload_n 2, 1, 0, 0, 0), (22, .iaload, 1, 0, 0, 0), (23, .invokevirtual 62, 3, 65, 2, 0), (26, .istore 4, 2, 0, 0, 0), (28, .iconst 0, 1, 0, 0, 0), (29, .iload 4, 2, 0, 0, 0), (31, .aload_n 0, 1, 0, 0, 0)], [(32, .getfield 12, 3, 0, 0, 0), (35, .aload_n 1, 1, 0, 0, 0), (36, .iload_n 3, 1, 0, 0, 0), (37, .iload_n 2, 1, 0, 0, 0), (38, .invokevirtual 114, 3, 46, 3, 0), (41, .invokevirtual 62, 3, 65, 2, 0), (44, .isub, 1, 0, 0, 0), (45, .invokestatic 81, 3, 1002, 0, 0)], [(48, .ireturn, 1, 0, 0, 0)]]
def qc22 : List (List qI) := []
def qc23 : List (List qI) := [[(0, .aload_n 0, 1, 0, 0, 0), (1, .getfield 10, 3, 1, 0, 0), (4, .aload_n 1, 1, 0, 0, 0), (5, .getfield 10, 3, 1, 0, 0), (8, .invokevirtual 38, 3, 33, 102, 0), (11, .aload_n 0, 1, 0, 0, 0), (12, .getfield 19, 3, 1, 1, 0), (15, .aload_n 1, 1, 0, 0, 0)], [(16, .getfield 19, 3, 1, 1, 0), (19, .invokevirtual 42, 3, 36, 102, 0), (22, .aload_n 0, 1, 0, 0, 0), (23, .getfield 26, 3, 1, 2, 0), (26, .aload_n 1, 1, 0, 0, 0), (27, .getfield 26, 3, 1, 2, 0), (30, .invokevirtual 45, 3, 41, 102, 0)], [(33, .aload_n 0, 1, 0, 0, 0), (34, .aload_n 1, 1, 0, 0, 0), (35, .getfield 30, 3, 1, 3, 0), (38, .putfield 30, 3, 1, 3, 0), (41, .return_, 1, 0, 0, 0)]]
def qc24 : List (List qI) := []
def qc25 : List (List qI) := [[(0, .aload_n 0, 1, 0, 0, 0), (1, .getfield 33, 3, 2, 7, 0), (4, .bipush 20, 2, 0, 0, 0), (6, .if_icmp .lt 6, 3, 12, 0, 0), (9, .bipush (-3), 2, 0, 0, 0), (11, .ireturn, 1, 0, 0, 0), (12, .aload_n 0, 1, 0, 0, 0), (13, .getfield 9, 3, 2, 0, 0)], [(16, .aload_n 0, 1, 0, 0, 0), (17, .getfield 33, 3, 2, 7, 0), (20, .iload_n 1, 1, 0, 0, 0), (21, .iastore, 1, 0, 0, 0), (22, .aload_n 0, 1, 0, 0, 0), (23, .getfield 15, 3, 2, 1, 0), (26, .aload_n 0, 1, 0, 0, 0), (27, .getfield 33, 3, 2, 7, 0), (30, .iload_n 2, 1, 0, 0, 0), (31, .iastore, 1, 0, 0, 0)], [(32, .aload_n 0, 1, 0, 0, 0), (33, .getfield 18, 3, 2, 2, 0), (36, .aload_n 0, 1, 0, 0, 0), (37, .getfield 33, 3, 2, 7, 0), (40, .iload_n 2, 1, 0, 0, 0), (41, .iastore, 1, 0, 0, 0), (42, .aload_n 0, 1, 0, 0, 0), (43, .getfield 21, 3, 2, 3, 0), (46, .aload_n 0, 1, 0, 0, 0), (47, .getfield 33, 3, 2, 7, 0)], [(50, .iconst 0, 1, 0, 0, 0), (51, .iastore, 1, 0, 0, 0), (52, .aload_n 0, 1, 0, 0, 0), (53, .getfield 24, 3, 2, 4, 0), (56, .aload_n 0, 1, 0, 0, 0), (57, .getfield 33, 3, 2, 7, 0), (60, .iconst 0, 1, 0, 0, 0), (61, .iastore, 1, 0, 0, 0), (62, .aload_n 0, 1, 0, 0, 0), (63, .getfield 27, 3, 2, 5, 0)], [(66, .aload_n 0, 1, 0, 0, 0), (67, .getfield 33, 3, 2, 7, 0), (70, .iload_n 3, 1, 0, 0, 0), (71, .iastore, 1, 0, 0, 0), (72, .aload_n 0, 1, 0, 0, 0), (73, .getfield 30, 3, 2, 6, 0), (76, .aload_n 0, 1, 0, 0, 0), (77, .getfield 33, 3, 2, 7, 0)], [(80, .iconst 0, 1, 0, 0, 0), (81, .iastore, 1, 0, 0, 0), (82, .aload_n 0, 1, 0, 0, 0), (83, .dup, 1, 0, 0, 0), (84, .getfield 33, 3, 2, 7, 0), (87, .iconst 1, 1, 0, 0, 0), (88, .iadd, 1, 0, 0, 0), (89, .putfield 33, 3, 2, 7, 0), (92, .aload_n 0, 1, 0, 0, 0), (93, .getfield 33, 3, 2, 7, 0)], [(96, .iconst 1, 1, 0, 0, 0), (97, .isub, 1, 0, 0, 0), (98, .ireturn, 1, 0, 0, 0)]]
def qc26 : List (List qI) := [[(0, .iconst 0, 1, 0, 0, 0), (1, .aload_n 0, 1, 0, 0, 0), (2, .getfield 18, 3, 2, 2, 0), (5, .iload_n 1, 1, 0, 0, 0), (6, .iaload, 1, 0, 0, 0), (7, .iload_n 2, 1, 0, 0, 0), (8, .invokestatic 37, 3, 1003, 0, 0), (11, .invokestatic 43, 3, 1002, 0, 0), (14, .istore_n 3, 1, 0, 0, 0), (15, .aload_n 0, 1, 0, 0, 0)], [(16, .getfield 18, 3, 2, 2, 0), (19, .iload_n 1, 1, 0, 0, 0), (20, .dup2, 1, 0, 0, 0), (21, .iaload, 1, 0, 0, 0), (22, .iload_n 3, 1, 0, 0, 0), (23, .isub, 1, 0, 0, 0), (24, .iastore, 1, 0, 0, 0), (25, .aload_n 0, 1, 0, 0, 0), (26, .getfield 21, 3, 2, 3, 0), (29, .iload_n 1, 1, 0, 0, 0), (30, .dup2, 1, 0, 0, 0), (31, .iaload, 1, 0, 0, 0)], [(32, .iload_n 3, 1, 0, 0, 0), (33, .iadd, 1, 0, 0, 0), (34, .iastore, 1, 0, 0, 0), (35, .aload_n 0, 1, 0, 0, 0), (36, .getfield 30, 3, 2, 6, 0), (39, .iload_n 1, 1, 0, 0, 0), (40, .dup2, 1, 0, 0, 0), (41, .iaload, 1, 0, 0, 0), (42, .iload_n 3, 1, 0, 0, 0), (43, .bipush 9, 2, 0, 0, 0), (45, .iadd, 1, 0, 0, 0), (46, .bipush 10, 2, 0, 0, 0)], [(48, .idiv, 1, 0, 0, 0), (49, .iadd, 1, 0, 0, 0), (50, .iastore, 1, 0, 0, 0), (51, .iload_n 3, 1, 0, 0, 0), (52, .ireturn, 1, 0, 0, 0)]]
def qc27 : List (List qI) := [[(0, .aload_n 0, 1, 0, 0, 0), (1, .getfield 24, 3, 2, 4, 0), (4, .iload_n 1, 1, 0, 0, 0), (5, .iaload, 1, 0, 0, 0), (6, .ifCond .le 7, 3, 13, 0, 0), (9, .iconst 1, 1, 0, 0, 0), (10, .goto 4, 3, 14, 0, 0), (13, .iconst 0, 1, 0, 0, 0), (14, .ireturn, 1, 0, 0, 0)]]
def qc28 : List (List qI) := [[(0, .aload_n 0, 1, 0, 0, 0), (1, .getfield 21, 3, 2, 3, 0), (4, .iload_n 1, 1, 0, 0, 0), (5, .iaload, 1, 0, 0, 0), (6, .istore_n 2, 1, 0, 0, 0), (7, .aload_n 0, 1, 0, 0, 0), (8, .getfield 24, 3, 2, 4, 0), (11, .iload_n 1, 1, 0, 0, 0), (12, .aload_n 0, 1, 0, 0, 0), (13, .getfield 15, 3, 2, 1, 0)], [(16, .iload_n 1, 1, 0, 0, 0), (17, .iaload, 1, 0, 0, 0), (18, .iastore, 1, 0, 0, 0), (19, .aload_n 0, 1, 0, 0, 0), (20, .getfield 18, 3, 2, 2, 0), (23, .iload_n 1, 1, 0, 0, 0), (24, .iconst 0, 1, 0, 0, 0), (25, .iastore, 1, 0, 0, 0), (26, .aload_n 0, 1, 0, 0, 0), (27, .getfield 21, 3, 2, 3, 0), (30, .iload_n 1, 1, 0, 0, 0), (31, .iconst 0, 1, 0, 0, 0)], [(32, .iastore, 1, 0, 0, 0), (33, .iload_n 2, 1, 0, 0, 0), (34, .ireturn, 1, 0, 0, 0)]]
def qc29 : List (List qI) := [[(0, .iload_n 2, 1, 0, 0, 0), (1, .tableswitch 81 0 5 #[39, 46, 53, 60, 67, 74], 39, 0, 0, 0)], [], [(40, .aload_n 0, 1, 0, 0, 0), (41, .getfield 9, 3, 2, 0, 0), (44, .iload_n 1, 1, 0, 0, 0), (45, .iaload, 1, 0, 0, 0), (46, .ireturn, 1, 0, 0, 0), (47, .aload_n 0, 1, 0, 0, 0)], [(48, .getfield 15, 3, 2, 1, 0), (51, .iload_n 1, 1, 0, 0, 0), (52, .iaload, 1, 0, 0, 0), (53, .ireturn, 1, 0, 0, 0), (54, .aload_n 0, 1, 0, 0, 0), (55, .getfield 18, 3, 2, 2, 0), (58, .iload_n 1, 1, 0, 0, 0), (59, .iaload, 1, 0, 0, 0), (60, .ireturn, 1, 0, 0, 0), (61, .aload_n 0, 1, 0, 0, 0), (62, .getfield 21, 3, 2, 3, 0)], [(65, .iload_n 1, 1, 0, 0, 0), (66, .iaload, 1, 0, 0, 0), (67, .ireturn, 1, 0, 0, 0), (68, .aload_n 0, 1, 0, 0, 0), (69, .getfield 24, 3, 2, 4, 0), (72, .iload_n 1, 1, 0, 0, 0), (73, .iaload, 1, 0, 0, 0), (74, .ireturn, 1, 0, 0, 0), (75, .aload_n 0, 1, 0, 0, 0), (76, .getfield 27, 3, 2, 5, 0), (79, .iload_n 1, 1, 0, 0, 0)], [(80, .iaload, 1, 0, 0, 0), (81, .ireturn, 1, 0, 0, 0), (82, .aload_n 0, 1, 0, 0, 0), (83, .getfield 30, 3, 2, 6, 0), (86, .iload_n 1, 1, 0, 0, 0), (87, .iaload, 1, 0, 0, 0), (88, .ireturn, 1, 0, 0, 0)]]
def qc30 : List (List qI) := [[(0, .iconst 0, 1, 0, 0, 0), (1, .istore_n 1, 1, 0, 0, 0), (2, .iconst 0, 1, 0, 0, 0), (3, .istore_n 2, 1, 0, 0, 0), (4, .iload_n 2, 1, 0, 0, 0), (5, .aload_n 0, 1, 0, 0, 0), (6, .getfield 33, 3, 2, 7, 0), (9, .if_icmp .ge 18, 3, 27, 0, 0), (12, .iload_n 1, 1, 0, 0, 0), (13, .aload_n 0, 1, 0, 0, 0), (14, .getfield 21, 3, 2, 3, 0)], [(17, .iload_n 2, 1, 0, 0, 0), (18, .iaload, 1, 0, 0, 0), (19, .iadd, 1, 0, 0, 0), (20, .istore_n 1, 1, 0, 0, 0), (21, .iinc 2 1, 3, 0, 0, 0), (24, .goto (-20), 3, 4, 0, 0), (27, .iload_n 1, 1, 0, 0, 0), (28, .ireturn, 1, 0, 0, 0)]]
def qc31 : List (List qI) := [[(0, .iconst 0, 1, 0, 0, 0), (1, .istore_n 1, 1, 0, 0, 0), (2, .iconst 0, 1, 0, 0, 0), (3, .istore_n 2, 1, 0, 0, 0), (4, .iload_n 2, 1, 0, 0, 0), (5, .aload_n 0, 1, 0, 0, 0), (6, .getfield 33, 3, 2, 7, 0), (9, .if_icmp .ge 18, 3, 27, 0, 0), (12, .iload_n 1, 1, 0, 0, 0), (13, .aload_n 0, 1, 0, 0, 0), (14, .getfield 30, 3, 2, 6, 0)], [(17, .iload_n 2, 1, 0, 0, 0), (18, .iaload, 1, 0, 0, 0), (19, .iadd, 1, 0, 0, 0), (20, .istore_n 1, 1, 0, 0, 0), (21, .iinc 2 1, 3, 0, 0, 0), (24, .goto (-20), 3, 4, 0, 0), (27, .iload_n 1, 1, 0, 0, 0), (28, .ireturn, 1, 0, 0, 0)]]
def qc32 : List (List qI) := [[(0, .iconst 0, 1, 0, 0, 0), (1, .istore_n 1, 1, 0, 0, 0), (2, .iconst 0, 1, 0, 0, 0), (3, .istore_n 2, 1, 0, 0, 0), (4, .iload_n 2, 1, 0, 0, 0), (5, .aload_n 0, 1, 0, 0, 0), (6, .getfield 33, 3, 2, 7, 0), (9, .if_icmp .ge 30, 3, 39, 0, 0), (12, .iload_n 1, 1, 0, 0, 0), (13, .aload_n 0, 1, 0, 0, 0), (14, .iload_n 2, 1, 0, 0, 0), (15, .invokevirtual 46, 3, 27, 2, 0)], [(18, .ifCond .eq 12, 3, 30, 0, 0), (21, .aload_n 0, 1, 0, 0, 0), (22, .getfield 30, 3, 2, 6, 0), (25, .iload_n 2, 1, 0, 0, 0), (26, .iaload, 1, 0, 0, 0), (27, .goto 4, 3, 31, 0, 0), (30, .iconst 0, 1, 0, 0, 0), (31, .iadd, 1, 0, 0, 0)], [(32, .istore_n 1, 1, 0, 0, 0), (33, .iinc 2 1, 3, 0, 0, 0), (36, .goto (-32), 3, 4, 0, 0), (39, .iload_n 1, 1, 0, 0, 0), (40, .ireturn, 1, 0, 0, 0)]]
def qc33 : List (List qI) := [[(0, .aload_n 0, 1, 0, 0, 0), (1, .aload_n 1, 1, 0, 0, 0), (2, .getfield 33, 3, 2, 7, 0), (5, .putfield 33, 3, 2, 7, 0), (8, .aload_n 1, 1, 0, 0, 0), (9, .getfield 9, 3, 2, 0, 0), (12, .aload_n 0, 1, 0, 0, 0), (13, .getfield 9, 3, 2, 0, 0)], [(16, .invokestatic 50, 3, 115, 102, 0), (19, .aload_n 1, 1, 0, 0, 0), (20, .getfield 15, 3, 2, 1, 0), (23, .aload_n 0, 1, 0, 0, 0), (24, .getfield 15, 3, 2, 1, 0), (27, .invokestatic 50, 3, 115, 102, 0), (30, .aload_n 1, 1, 0, 0, 0), (31, .getfield 18, 3, 2, 2, 0)], [(34, .aload_n 0, 1, 0, 0, 0), (35, .getfield 18, 3, 2, 2, 0), (38, .invokestatic 50, 3, 115, 102, 0), (41, .aload_n 1, 1, 0, 0, 0), (42, .getfield 21, 3, 2, 3, 0), (45, .aload_n 0, 1, 0, 0, 0), (46, .getfield 21, 3, 2, 3, 0)], [(49, .invokestatic 50, 3, 115, 102, 0), (52, .aload_n 1, 1, 0, 0, 0), (53, .getfield 24, 3, 2, 4, 0), (56, .aload_n 0, 1, 0, 0, 0), (57, .getfield 24, 3, 2, 4, 0), (60, .invokestatic 50, 3, 115, 102, 0), (63, .aload_n 1, 1, 0, 0, 0)], [(64, .getfield 27, 3, 2, 5, 0), (67, .aload_n 0, 1, 0, 0, 0), (68, .getfield 27, 3, 2, 5, 0), (71, .invokestatic 50, 3, 115, 102, 0), (74, .aload_n 1, 1, 0, 0, 0), (75, .getfield 30, 3, 2, 6, 0), (78, .aload_n 0, 1, 0, 0, 0), (79, .getfield 30, 3, 2, 6, 0)], [(82, .invokestatic 50, 3, 115, 102, 0), (85, .return_, 1, 0, 0, 0)]]
def qc34 : List (List qI) := []
def qc35 : List (List qI) := [[(0, .aload_n 0, 1, 0, 0, 0), (1, .getfield 21, 3, 3, 3, 0), (4, .bipush 30, 2, 0, 0, 0), (6, .if_icmp .lt 6, 3, 12, 0, 0), (9, .bipush (-3), 2, 0, 0, 0), (11, .ireturn, 1, 0, 0, 0), (12, .aload_n 0, 1, 0, 0, 0), (13, .getfield 9, 3, 3, 0, 0)], [(16, .aload_n 0, 1, 0, 0, 0), (17, .getfield 21, 3, 3, 3, 0), (20, .iload_n 1, 1, 0, 0, 0), (21, .iastore, 1, 0, 0, 0), (22, .aload_n 0, 1, 0, 0, 0), (23, .getfield 15, 3, 3, 1, 0), (26, .aload_n 0, 1, 0, 0, 0), (27, .getfield 21, 3, 3, 3, 0), (30, .iload_n 2, 1, 0, 0, 0), (31, .iastore, 1, 0, 0, 0)], [(32, .aload_n 0, 1, 0, 0, 0), (33, .getfield 18, 3, 3, 2, 0), (36, .aload_n 0, 1, 0, 0, 0), (37, .getfield 21, 3, 3, 3, 0), (40, .iload_n 3, 1, 0, 0, 0), (41, .iastore, 1, 0, 0, 0), (42, .aload_n 0, 1, 0, 0, 0), (43, .dup, 1, 0, 0, 0), (44, .getfield 21, 3, 3, 3, 0), (47, .iconst 1, 1, 0, 0, 0)], [(48, .iadd, 1, 0, 0, 0), (49, .putfield 21, 3, 3, 3, 0), (52, .aload_n 0, 1, 0, 0, 0), (53, .getfield 21, 3, 3, 3, 0), (56, .iconst 1, 1, 0, 0, 0), (57, .isub, 1, 0, 0, 0), (58, .ireturn, 1, 0, 0, 0)]]
def qc36 : List (List qI) := [[(0, .aload_n 0, 1, 0, 0, 0), (1, .aload_n 1, 1, 0, 0, 0), (2, .getfield 21, 3, 3, 3, 0), (5, .putfield 21, 3, 3, 3, 0), (8, .aload_n 1, 1, 0, 0, 0), (9, .getfield 9, 3, 3, 0, 0), (12, .aload_n 0, 1, 0, 0, 0), (13, .getfield 9, 3, 3, 0, 0)], [(16, .invokestatic 25, 3, 115, 102, 0), (19, .aload_n 1, 1, 0, 0, 0), (20, .getfield 15, 3, 3, 1, 0), (23, .aload_n 0, 1, 0, 0, 0), (24, .getfield 15, 3, 3, 1, 0), (27, .invokestatic 25, 3, 115, 102, 0), (30, .aload_n 1, 1, 0, 0, 0), (31, .getfield 18, 3, 3, 2, 0)], [(34, .aload_n 0, 1, 0, 0, 0), (35, .getfield 18, 3, 3, 2, 0), (38, .invokestatic 25, 3, 115, 102, 0), (41, .return_, 1, 0, 0, 0)]]
def qc37 : List (List qI) := []
def qc38 : List (List qI) := [[(0, .aload_n 0, 1, 0, 0, 0), (1, .getfield 15, 3, 4, 1, 0), (4, .bipush 40, 2, 0, 0, 0), (6, .if_icmp .lt 5, 3, 11, 0, 0), (9, .iconst 0, 1, 0, 0, 0), (10, .ireturn, 1, 0, 0, 0), (11, .aload_n 0, 1, 0, 0, 0), (12, .getfield 9, 3, 4, 0, 0), (15, .aload_n 0, 1, 0, 0, 0)], [(16, .getfield 15, 3, 4, 1, 0), (19, .iload_n 1, 1, 0, 0, 0), (20, .iastore, 1, 0, 0, 0), (21, .aload_n 0, 1, 0, 0, 0), (22, .dup, 1, 0, 0, 0), (23, .getfield 15, 3, 4, 1, 0), (26, .iconst 1, 1, 0, 0, 0), (27, .iadd, 1, 0, 0, 0), (28, .putfield 15, 3, 4, 1, 0), (31, .iconst 1, 1, 0, 0, 0)], [(32, .ireturn, 1, 0, 0, 0)]]
def qc39 : List (List qI) := [[(0, .iconst 0, 1, 0, 0, 0), (1, .istore_n 1, 1, 0, 0, 0), (2, .iconst 0, 1, 0, 0, 0), (3, .istore_n 2, 1, 0, 0, 0), (4, .iconst 0, 1, 0, 0, 0), (5, .istore_n 3, 1, 0, 0, 0), (6, .iload_n 3, 1, 0, 0, 0), (7, .aload_n 0, 1, 0, 0, 0), (8, .getfield 15, 3, 4, 1, 0), (11, .if_icmp .ge 34, 3, 45, 0, 0), (14, .iload_n 2, 1, 0, 0, 0), (15, .aload_n 0, 1, 0, 0, 0)], [(16, .getfield 9, 3, 4, 0, 0), (19, .iload_n 3, 1, 0, 0, 0), (20, .iaload, 1, 0, 0, 0), (21, .iadd, 1, 0, 0, 0), (22, .istore_n 2, 1, 0, 0, 0), (23, .iload_n 2, 1, 0, 0, 0), (24, .bipush 60, 2, 0, 0, 0), (26, .if_icmp .le 13, 3, 39, 0, 0), (29, .iinc 1 1, 3, 0, 0, 0)], [(32, .aload_n 0, 1, 0, 0, 0), (33, .getfield 9, 3, 4, 0, 0), (36, .iload_n 3, 1, 0, 0, 0), (37, .iaload, 1, 0, 0, 0), (38, .istore_n 2, 1, 0, 0, 0), (39, .iinc 3 1, 3, 0, 0, 0), (42, .goto (-36), 3, 6, 0, 0), (45, .iload_n 1, 1, 0, 0, 0), (46, .ireturn, 1, 0, 0, 0)]]
def qc40 : List (List qI) := [[(0, .iconst 0, 1, 0, 0, 0), (1, .istore_n 1, 1, 0, 0, 0), (2, .iconst 0, 1, 0, 0, 0), (3, .istore_n 2, 1, 0, 0, 0), (4, .iload_n 1, 1, 0, 0, 0), (5, .aload_n 0, 1, 0, 0, 0), (6, .getfield 15, 3, 4, 1, 0), (9, .if_icmp .ge 31, 3, 40, 0, 0), (12, .iload_n 2, 1, 0, 0, 0), (13, .aload_n 0, 1, 0, 0, 0), (14, .getfield 9, 3, 4, 0, 0)], [(17, .iload_n 1, 1, 0, 0, 0), (18, .iaload, 1, 0, 0, 0), (19, .iadd, 1, 0, 0, 0), (20, .bipush 60, 2, 0, 0, 0), (22, .if_icmp .gt 18, 3, 40, 0, 0), (25, .iload_n 2, 1, 0, 0, 0), (26, .aload_n 0, 1, 0, 0, 0), (27, .getfield 9, 3, 4, 0, 0), (30, .iload_n 1, 1, 0, 0, 0), (31, .iaload, 1, 0, 0, 0)], [(32, .iadd, 1, 0, 0, 0), (33, .istore_n 2, 1, 0, 0, 0), (34, .iinc 1 1, 3, 0, 0, 0), (37, .goto (-33), 3, 4, 0, 0), (40, .iload_n 1, 1, 0, 0, 0), (41, .istore_n 3, 1, 0, 0, 0), (42, .iload_n 3, 1, 0, 0, 0), (43, .aload_n 0, 1, 0, 0, 0), (44, .getfield 15, 3, 4, 1, 0), (47, .if_icmp .ge 23, 3, 70, 0, 0)], [(50, .aload_n 0, 1, 0, 0, 0), (51, .getfield 9, 3, 4, 0, 0), (54, .iload_n 3, 1, 0, 0, 0), (55, .iload_n 1, 1, 0, 0, 0), (56, .isub, 1, 0, 0, 0), (57, .aload_n 0, 1, 0, 0, 0), (58, .getfield 9, 3, 4, 0, 0), (61, .iload_n 3, 1, 0, 0, 0), (62, .iaload, 1, 0, 0, 0), (63, .iastore, 1, 0, 0, 0)], [(64, .iinc 3 1, 3, 0, 0, 0), (67, .goto (-25), 3, 42, 0, 0), (70, .aload_n 0, 1, 0, 0, 0), (71, .dup, 1, 0, 0, 0), (72, .getfield 15, 3, 4, 1, 0), (75, .iload_n 1, 1, 0, 0, 0), (76, .isub, 1, 0, 0, 0), (77, .putfield 15, 3, 4, 1, 0)], [(80, .iload_n 1, 1, 0, 0, 0), (81, .ireturn, 1, 0, 0, 0)]]
def qc41 : List (List qI) := [[(0, .aload_n 0, 1, 0, 0, 0), (1, .aload_n 1, 1, 0, 0, 0), (2, .getfield 15, 3, 4, 1, 0), (5, .putfield 15, 3, 4, 1, 0), (8, .aload_n 1, 1, 0, 0, 0), (9, .getfield 9, 3, 4, 0, 0), (12, .aload_n 0, 1, 0, 0, 0), (13, .getfield 9, 3, 4, 0, 0)], [(16, .invokestatic 19, 3, 115, 102, 0), (19, .return_, 1, 0, 0, 0)]]
def qc42 : List (List qI) := []
def qc43 : List (List qI) := [[(0, .aload_n 0, 1, 0, 0, 0), (1, .getfield 42, 3, 5, 10, 0), (4, .iconst 3, 1, 0, 0, 0), (5, .if_icmp .lt 6, 3, 11, 0, 0), (8, .bipush (-3), 2, 0, 0, 0), (10, .ireturn, 1, 0, 0, 0), (11, .aload_n 0, 1, 0, 0, 0), (12, .getfield 24, 3, 5, 4, 0), (15, .aload_n 0, 1, 0, 0, 0)], [(16, .getfield 42, 3, 5, 10, 0), (19, .iload_n 1, 1, 0, 0, 0), (20, .iastore, 1, 0, 0, 0), (21, .aload_n 0, 1, 0, 0, 0), (22, .getfield 27, 3, 5, 5, 0), (25, .aload_n 0, 1, 0, 0, 0), (26, .getfield 42, 3, 5, 10, 0), (29, .iload_n 2, 1, 0, 0, 0), (30, .iastore, 1, 0, 0, 0), (31, .aload_n 0, 1, 0, 0, 0)], [(32, .getfield 30, 3, 5, 6, 0), (35, .aload_n 0, 1, 0, 0, 0), (36, .getfield 42, 3, 5, 10, 0), (39, .iload_n 3, 1, 0, 0, 0), (40, .iastore, 1, 0, 0, 0), (41, .aload_n 0, 1, 0, 0, 0), (42, .getfield 33, 3, 5, 7, 0), (45, .aload_n 0, 1, 0, 0, 0), (46, .getfield 42, 3, 5, 10, 0)], [(49, .iload 4, 2, 0, 0, 0), (51, .iastore, 1, 0, 0, 0), (52, .aload_n 0, 1, 0, 0, 0), (53, .dup, 1, 0, 0, 0), (54, .getfield 42, 3, 5, 10, 0), (57, .iconst 1, 1, 0, 0, 0), (58, .iadd, 1, 0, 0, 0), (59, .putfield 42, 3, 5, 10, 0), (62, .aload_n 0, 1, 0, 0, 0), (63, .getfield 42, 3, 5, 10, 0)], [(66, .ireturn, 1, 0, 0, 0)]]
def qc44 : List (List qI) := [[(0, .iconst 0, 1, 0, 0, 0), (1, .istore_n 3, 1, 0, 0, 0), (2, .iload_n 3, 1, 0, 0, 0), (3, .aload_n 0, 1, 0, 0, 0), (4, .getfield 42, 3, 5, 10, 0), (7, .if_icmp .ge 41, 3, 48, 0, 0), (10, .aload_n 0, 1, 0, 0, 0), (11, .getfield 33, 3, 5, 7, 0), (14, .iload_n 3, 1, 0, 0, 0), (15, .iaload, 1, 0, 0, 0)], [(16, .iload_n 2, 1, 0, 0, 0), (17, .if_icmp .gt 25, 3, 42, 0, 0), (20, .aload_n 0, 1, 0, 0, 0), (21, .getfield 24, 3, 5, 4, 0), (24, .iload_n 3, 1, 0, 0, 0), (25, .iaload, 1, 0, 0, 0), (26, .iload_n 1, 1, 0, 0, 0), (27, .if_icmp .gt 15, 3, 42, 0, 0), (30, .iload_n 1, 1, 0, 0, 0), (31, .aload_n 0, 1, 0, 0, 0)], [(32, .getfield 27, 3, 5, 5, 0), (35, .iload_n 3, 1, 0, 0, 0), (36, .iaload, 1, 0, 0, 0), (37, .if_icmp .gt 5, 3, 42, 0, 0), (40, .iload_n 3, 1, 0, 0, 0), (41, .ireturn, 1, 0, 0, 0), (42, .iinc 3 1, 3, 0, 0, 0), (45, .goto (-43), 3, 2, 0, 0)], [(48, .iconst (-1), 1, 0, 0, 0), (49, .ireturn, 1, 0, 0, 0)]]
def qc45 : List (List qI) := [[(0, .aload_n 0, 1, 0, 0, 0), (1, .getfield 18, 3, 5, 2, 0), (4, .iload_n 1, 1, 0, 0, 0), (5, .iaload, 1, 0, 0, 0), (6, .ifCond .lt 17, 3, 23, 0, 0), (9, .aload_n 0, 1, 0, 0, 0), (10, .getfield 21, 3, 5, 3, 0), (13, .iload_n 1, 1, 0, 0, 0), (14, .iaload, 1, 0, 0, 0), (15, .iload_n 2, 1, 0, 0, 0)], [(16, .if_icmp .gt 7, 3, 23, 0, 0), (19, .iconst 1, 1, 0, 0, 0), (20, .goto 4, 3, 24, 0, 0), (23, .iconst 0, 1, 0, 0, 0), (24, .ireturn, 1, 0, 0, 0)]]
def qc46 : List (List qI) := [[(0, .aload_n 0, 1, 0, 0, 0), (1, .getfield 27, 3, 5, 5, 0), (4, .iload_n 1, 1, 0, 0, 0), (5, .iaload, 1, 0, 0, 0), (6, .aload_n 0, 1, 0, 0, 0), (7, .getfield 24, 3, 5, 4, 0), (10, .iload_n 1, 1, 0, 0, 0), (11, .iaload, 1, 0, 0, 0), (12, .isub, 1, 0, 0, 0), (13, .iconst 1, 1, 0, 0, 0), (14, .iadd, 1, 0, 0, 0), (15, .istore_n 3, 1, 0, 0, 0)], [(16, .iload_n 3, 1, 0, 0, 0), (17, .ifCond .gt 5, 3, 22, 0, 0), (20, .iconst 0, 1, 0, 0, 0), (21, .ireturn, 1, 0, 0, 0), (22, .iload_n 2, 1, 0, 0, 0), (23, .aload_n 0, 1, 0, 0, 0), (24, .getfield 24, 3, 5, 4, 0), (27, .iload_n 1, 1, 0, 0, 0), (28, .iaload, 1, 0, 0, 0), (29, .isub, 1, 0, 0, 0), (30, .aload_n 0, 1, 0, 0, 0), (31, .getfield 30, 3, 5, 6, 0)], [(34, .iload_n 1, 1, 0, 0, 0), (35, .iaload, 1, 0, 0, 0), (36, .iload_n 3, 1, 0, 0, 0), (37, .irem, 1, 0, 0, 0), (38, .if_icmp .ge 7, 3, 45, 0, 0), (41, .iconst 1, 1, 0, 0, 0), (42, .goto 4, 3, 46, 0, 0), (45, .iconst 0, 1, 0, 0, 0), (46, .istore 4, 2, 0, 0, 0)], [(48, .aload_n 0, 1, 0, 0, 0), (49, .getfield 30, 3, 5, 6, 0), (52, .iload_n 1, 1, 0, 0, 0), (53, .iaload, 1, 0, 0, 0), (54, .iload_n 3, 1, 0, 0, 0), (55, .idiv, 1, 0, 0, 0), (56, .iload 4, 2, 0, 0, 0), (58, .iadd, 1, 0, 0, 0), (59, .ireturn, 1, 0, 0, 0)]]
def qc47 : List (List qI) := []
def qc48 : List (List qI) := [[(0, .aload_n 0, 1, 0, 0, 0), (1, .getfield 27, 3, 6, 5, 0), (4, .iconst 1, 1, 0, 0, 0), (5, .isub, 1, 0, 0, 0), (6, .istore_n 2, 1, 0, 0, 0), (7, .iload_n 2, 1, 0, 0, 0), (8, .ifCond .lt 21, 3, 29, 0, 0), (11, .aload_n 0, 1, 0, 0, 0), (12, .getfield 9, 3, 6, 0, 0), (15, .iload_n 2, 1, 0, 0, 0)], [(16, .iaload, 1, 0, 0, 0), (17, .iload_n 1, 1, 0, 0, 0), (18, .if_icmp .gt 5, 3, 23, 0, 0), (21, .iload_n 2, 1, 0, 0, 0), (22, .ireturn, 1, 0, 0, 0), (23, .iinc 2 (-1), 3, 0, 0, 0), (26, .goto (-19), 3, 7, 0, 0), (29, .iconst (-1), 1, 0, 0, 0), (30, .ireturn, 1, 0, 0, 0)]]
def qc49 : List (List qI) := [[(0, .iload_n 1, 1, 0, 0, 0), (1, .ifCond .lt 20, 3, 21, 0, 0), (4, .iload_n 1, 1, 0, 0, 0), (5, .aload_n 0, 1, 0, 0, 0), (6, .getfield 27, 3, 6, 5, 0), (9, .if_icmp .ge 12, 3, 21, 0, 0), (12, .aload_n 0, 1, 0, 0, 0), (13, .getfield 24, 3, 6, 4, 0)], [(16, .iload_n 1, 1, 0, 0, 0), (17, .iaload, 1, 0, 0, 0), (18, .ifCond .gt 5, 3, 23, 0, 0), (21, .iconst 0, 1, 0, 0, 0), (22, .ireturn, 1, 0, 0, 0), (23, .iconst 0, 1, 0, 0, 0), (24, .iload_n 2, 1, 0, 0, 0), (25, .aload_n 0, 1, 0, 0, 0), (26, .getfield 18, 3, 6, 2, 0), (29, .iload_n 1, 1, 0, 0, 0), (30, .iaload, 1, 0, 0, 0), (31, .isub, 1, 0, 0, 0)], [(32, .invokestatic 31, 3, 1002, 0, 0), (35, .istore_n 3, 1, 0, 0, 0), (36, .iconst 0, 1, 0, 0, 0), (37, .aload_n 0, 1, 0, 0, 0), (38, .getfield 15, 3, 6, 1, 0), (41, .iload_n 1, 1, 0, 0, 0), (42, .iaload, 1, 0, 0, 0), (43, .aload_n 0, 1, 0, 0, 0), (44, .getfield 21, 3, 6, 3, 0), (47, .iload_n 1, 1, 0, 0, 0)], [(48, .iaload, 1, 0, 0, 0), (49, .iload_n 3, 1, 0, 0, 0), (50, .imul, 1, 0, 0, 0), (51, .aload_n 0, 1, 0, 0, 0), (52, .getfield 24, 3, 6, 4, 0), (55, .iload_n 1, 1, 0, 0, 0), (56, .iaload, 1, 0, 0, 0), (57, .idiv, 1, 0, 0, 0), (58, .isub, 1, 0, 0, 0), (59, .invokestatic 31, 3, 1002, 0, 0), (62, .ireturn, 1, 0, 0, 0)]]
def qc50 : List (List qI) := [[(0, .aload_n 0, 1, 0, 0, 0), (1, .aload_n 1, 1, 0, 0, 0), (2, .getfield 27, 3, 6, 5, 0), (5, .putfield 27, 3, 6, 5, 0), (8, .aload_n 1, 1, 0, 0, 0), (9, .getfield 9, 3, 6, 0, 0), (12, .aload_n 0, 1, 0, 0, 0), (13, .getfield 9, 3, 6, 0, 0)], [(16, .invokestatic 37, 3, 115, 102, 0), (19, .aload_n 1, 1, 0, 0, 0), (20, .getfield 15, 3, 6, 1, 0), (23, .aload_n 0, 1, 0, 0, 0), (24, .getfield 15, 3, 6, 1, 0), (27, .invokestatic 37, 3, 115, 102, 0), (30, .aload_n 1, 1, 0, 0, 0), (31, .getfield 18, 3, 6, 2, 0)], [(34, .aload_n 0, 1, 0, 0, 0), (35, .getfield 18, 3, 6, 2, 0), (38, .invokestatic 37, 3, 115, 102, 0), (41, .aload_n 1, 1, 0, 0, 0), (42, .getfield 21, 3, 6, 3, 0), (45, .aload_n 0, 1, 0, 0, 0), (46, .getfield 21, 3, 6, 3, 0)], [(49, .invokestatic 37, 3, 115, 102, 0), (52, .aload_n 1, 1, 0, 0, 0), (53, .getfield 24, 3, 6, 4, 0), (56, .aload_n 0, 1, 0, 0, 0), (57, .getfield 24, 3, 6, 4, 0), (60, .invokestatic 37, 3, 115, 102, 0), (63, .return_, 1, 0, 0, 0)]]
def qc51 : List (List qI) := []
def qc52 : List (List qI) := [[(0, .iload_n 3, 1, 0, 0, 0), (1, .iconst 1, 1, 0, 0, 0), (2, .isub, 1, 0, 0, 0), (3, .istore 4, 2, 0, 0, 0), (5, .iload 4, 2, 0, 0, 0), (7, .ifCond .lt 51, 3, 58, 0, 0), (10, .aload_n 0, 1, 0, 0, 0), (11, .getfield 22, 3, 7, 2, 0), (14, .sipush 300, 3, 0, 0, 0)], [(17, .if_icmp .ge 41, 3, 58, 0, 0), (20, .aload_n 0, 1, 0, 0, 0), (21, .getfield 9, 3, 7, 0, 0), (24, .aload_n 0, 1, 0, 0, 0), (25, .getfield 22, 3, 7, 2, 0), (28, .lload_n 1, 1, 0, 0, 0), (29, .bipush 8, 2, 0, 0, 0), (31, .iload 4, 2, 0, 0, 0)], [(33, .imul, 1, 0, 0, 0), (34, .lushr, 1, 0, 0, 0), (35, .ldc2_w 26, 3, 0, 0, 255), (38, .land, 1, 0, 0, 0), (39, .l2i, 1, 0, 0, 0), (40, .i2c, 1, 0, 0, 0), (41, .castore, 1, 0, 0, 0), (42, .aload_n 0, 1, 0, 0, 0), (43, .dup, 1, 0, 0, 0), (44, .getfield 22, 3, 7, 2, 0), (47, .iconst 1, 1, 0, 0, 0)], [(48, .iadd, 1, 0, 0, 0), (49, .putfield 22, 3, 7, 2, 0), (52, .iinc 4 (-1), 3, 0, 0, 0), (55, .goto (-50), 3, 5, 0, 0), (58, .return_, 1, 0, 0, 0)]]
def qc53 : List (List qI) := [[(0, .aload_n 0, 1, 0, 0, 0), (1, .getfield 18, 3, 7, 1, 0), (4, .iconst 0, 1, 0, 0, 0), (5, .putfield 28, 3, 6, 5, 0), (8, .iconst 0, 1, 0, 0, 0), (9, .istore_n 1, 1, 0, 0, 0), (10, .iconst 0, 1, 0, 0, 0), (11, .istore_n 2, 1, 0, 0, 0), (12, .iconst 0, 1, 0, 0, 0), (13, .istore_n 3, 1, 0, 0, 0), (14, .iload_n 3, 1, 0, 0, 0), (15, .aload_n 0, 1, 0, 0, 0)], [(16, .getfield 22, 3, 7, 2, 0), (19, .if_icmp .ge 70, 3, 89, 0, 0), (22, .iload_n 3, 1, 0, 0, 0), (23, .iload_n 2, 1, 0, 0, 0), (24, .if_icmp .lt 59, 3, 83, 0, 0), (27, .aload_n 0, 1, 0, 0, 0), (28, .getfield 9, 3, 7, 0, 0), (31, .iload_n 3, 1, 0, 0, 0)], [(32, .caload, 1, 0, 0, 0), (33, .bipush 32, 2, 0, 0, 0), (35, .if_icmp .ne 6, 3, 41, 0, 0), (38, .goto 45, 3, 83, 0, 0), (41, .aload_n 0, 1, 0, 0, 0), (42, .iload_n 3, 1, 0, 0, 0), (43, .invokevirtual 31, 3, 54, 2, 0), (46, .istore_n 2, 1, 0, 0, 0), (47, .aload_n 0, 1, 0, 0, 0)], [(48, .iload_n 1, 1, 0, 0, 0), (49, .iload_n 3, 1, 0, 0, 0), (50, .iload_n 2, 1, 0, 0, 0), (51, .invokevirtual 35, 3, 57, 4, 0), (54, .ifCond .ne 5, 3, 59, 0, 0), (57, .iload_n 3, 1, 0, 0, 0), (58, .ireturn, 1, 0, 0, 0), (59, .iinc 1 1, 3, 0, 0, 0), (62, .iload_n 1, 1, 0, 0, 0), (63, .bipush 11, 2, 0, 0, 0)], [(65, .if_icmp .ne 18, 3, 83, 0, 0), (68, .iconst 0, 1, 0, 0, 0), (69, .istore_n 1, 1, 0, 0, 0), (70, .aload_n 0, 1, 0, 0, 0), (71, .getfield 18, 3, 7, 1, 0), (74, .dup, 1, 0, 0, 0), (75, .getfield 28, 3, 6, 5, 0), (78, .iconst 1, 1, 0, 0, 0), (79, .iadd, 1, 0, 0, 0)], [(80, .putfield 28, 3, 6, 5, 0), (83, .iinc 3 1, 3, 0, 0, 0), (86, .goto (-72), 3, 14, 0, 0), (89, .iload_n 1, 1, 0, 0, 0), (90, .ifCond .ne 7, 3, 97, 0, 0), (93, .iconst (-1), 1, 0, 0, 0), (94, .goto 7, 3, 101, 0, 0)], [(97, .aload_n 0, 1, 0, 0, 0), (98, .getfield 22, 3, 7, 2, 0), (101, .ireturn, 1, 0, 0, 0)]]
def qc54 : List (List qI) := [[(0, .iload_n 1, 1, 0, 0, 0), (1, .iconst 1, 1, 0, 0, 0), (2, .iadd, 1, 0, 0, 0), (3, .istore_n 2, 1, 0, 0, 0), (4, .aload_n 0, 1, 0, 0, 0), (5, .iload_n 1, 1, 0, 0, 0), (6, .invokevirtual 39, 3, 55, 2, 0), (9, .ifCond .eq 25, 3, 34, 0, 0), (12, .iload_n 2, 1, 0, 0, 0), (13, .aload_n 0, 1, 0, 0, 0), (14, .getfield 22, 3, 7, 2, 0)], [(17, .if_icmp .ge 47, 3, 64, 0, 0), (20, .aload_n 0, 1, 0, 0, 0), (21, .iload_n 2, 1, 0, 0, 0), (22, .invokevirtual 39, 3, 55, 2, 0), (25, .ifCond .eq 39, 3, 64, 0, 0), (28, .iinc 2 1, 3, 0, 0, 0), (31, .goto (-19), 3, 12, 0, 0)], [(34, .aload_n 0, 1, 0, 0, 0), (35, .iload_n 1, 1, 0, 0, 0), (36, .invokevirtual 43, 3, 56, 2, 0), (39, .ifCond .eq 25, 3, 64, 0, 0), (42, .iload_n 2, 1, 0, 0, 0), (43, .aload_n 0, 1, 0, 0, 0), (44, .getfield 22, 3, 7, 2, 0), (47, .if_icmp .ge 17, 3, 64, 0, 0)], [(50, .aload_n 0, 1, 0, 0, 0), (51, .iload_n 2, 1, 0, 0, 0), (52, .invokevirtual 43, 3, 56, 2, 0), (55, .ifCond .eq 9, 3, 64, 0, 0), (58, .iinc 2 1, 3, 0, 0, 0), (61, .goto (-19), 3, 42, 0, 0)], [(64, .iload_n 2, 1, 0, 0, 0), (65, .ireturn, 1, 0, 0, 0)]]
def qc55 : List (List qI) := [[(0, .aload_n 0, 1, 0, 0, 0), (1, .getfield 9, 3, 7, 0, 0), (4, .iload_n 1, 1, 0, 0, 0), (5, .caload, 1, 0, 0, 0), (6, .istore_n 2, 1, 0, 0, 0), (7, .iload_n 2, 1, 0, 0, 0), (8, .bipush 97, 2, 0, 0, 0), (10, .if_icmp .lt 9, 3, 19, 0, 0), (13, .iload_n 2, 1, 0, 0, 0), (14, .bipush 122, 2, 0, 0, 0)], [(16, .if_icmp .le 15, 3, 31, 0, 0), (19, .iload_n 2, 1, 0, 0, 0), (20, .bipush 65, 2, 0, 0, 0), (22, .if_icmp .lt 13, 3, 35, 0, 0), (25, .iload_n 2, 1, 0, 0, 0), (26, .bipush 90, 2, 0, 0, 0), (28, .if_icmp .gt 7, 3, 35, 0, 0), (31, .iconst 1, 1, 0, 0, 0)], [(32, .goto 4, 3, 36, 0, 0), (35, .iconst 0, 1, 0, 0, 0), (36, .ireturn, 1, 0, 0, 0)]]
def qc56 : List (List qI) := [[(0, .aload_n 0, 1, 0, 0, 0), (1, .getfield 9, 3, 7, 0, 0), (4, .iload_n 1, 1, 0, 0, 0), (5, .caload, 1, 0, 0, 0), (6, .bipush 48, 2, 0, 0, 0), (8, .if_icmp .lt 18, 3, 26, 0, 0), (11, .aload_n 0, 1, 0, 0, 0), (12, .getfield 9, 3, 7, 0, 0), (15, .iload_n 1, 1, 0, 0, 0)], [(16, .caload, 1, 0, 0, 0), (17, .bipush 57, 2, 0, 0, 0), (19, .if_icmp .gt 7, 3, 26, 0, 0), (22, .iconst 1, 1, 0, 0, 0), (23, .goto 4, 3, 27, 0, 0), (26, .iconst 0, 1, 0, 0, 0), (27, .ireturn, 1, 0, 0, 0)]]
def qc57 : List (List qI) := [[(0, .aload_n 0, 1, 0, 0, 0), (1, .getfield 18, 3, 7, 1, 0), (4, .getfield 28, 3, 6, 5, 0), (7, .istore 4, 2, 0, 0, 0), (9, .iload 4, 2, 0, 0, 0), (11, .bipush 6, 2, 0, 0, 0), (13, .if_icmp .lt 5, 3, 18, 0, 0)], [(16, .iconst 0, 1, 0, 0, 0), (17, .ireturn, 1, 0, 0, 0), (18, .iload_n 1, 1, 0, 0, 0), (19, .tableswitch 157 1 9 #[49, 157, 89, 157, 106, 157, 123, 157, 140], 49, 0, 0, 0)], [], [], [(68, .aload_n 0, 1, 0, 0, 0), (69, .aload_n 0, 1, 0, 0, 0), (70, .getfield 18, 3, 7, 1, 0), (73, .getfield 46, 3, 6, 0, 0), (76, .iload_n 2, 1, 0, 0, 0), (77, .iload_n 3, 1, 0, 0, 0), (78, .iload 4, 2, 0, 0, 0)], [(80, .ifCond .ne 7, 3, 87, 0, 0), (83, .iconst 0, 1, 0, 0, 0), (84, .goto 17, 3, 101, 0, 0), (87, .aload_n 0, 1, 0, 0, 0), (88, .getfield 18, 3, 7, 1, 0), (91, .getfield 46, 3, 6, 0, 0), (94, .iload 4, 2, 0, 0, 0)], [(96, .iconst 1, 1, 0, 0, 0), (97, .isub, 1, 0, 0, 0), (98, .iaload, 1, 0, 0, 0), (99, .iconst 1, 1, 0, 0, 0), (100, .iadd, 1, 0, 0, 0), (101, .sipush 200, 3, 0, 0, 0), (104, .invokevirtual 50, 3, 58, 6, 0), (107, .ireturn, 1, 0, 0, 0), (108, .aload_n 0, 1, 0, 0, 0), (109, .aload_n 0, 1, 0, 0, 0), (110, .getfield 18, 3, 7, 1, 0)], [(113, .getfield 54, 3, 6, 1, 0), (116, .iload_n 2, 1, 0, 0, 0), (117, .iload_n 3, 1, 0, 0, 0), (118, .iconst 0, 1, 0, 0, 0), (119, .bipush 99, 2, 0, 0, 0), (121, .invokevirtual 50, 3, 58, 6, 0), (124, .ireturn, 1, 0, 0, 0), (125, .aload_n 0, 1, 0, 0, 0), (126, .aload_n 0, 1, 0, 0, 0), (127, .getfield 18, 3, 7, 1, 0)], [(130, .getfield 57, 3, 6, 2, 0), (133, .iload_n 2, 1, 0, 0, 0), (134, .iload_n 3, 1, 0, 0, 0), (135, .iconst 0, 1, 0, 0, 0), (136, .bipush 99, 2, 0, 0, 0), (138, .invokevirtual 50, 3, 58, 6, 0), (141, .ireturn, 1, 0, 0, 0), (142, .aload_n 0, 1, 0, 0, 0), (143, .aload_n 0, 1, 0, 0, 0)], [(144, .getfield 18, 3, 7, 1, 0), (147, .getfield 60, 3, 6, 3, 0), (150, .iload_n 2, 1, 0, 0, 0), (151, .iload_n 3, 1, 0, 0, 0), (152, .iconst 1, 1, 0, 0, 0), (153, .bipush 20, 2, 0, 0, 0), (155, .invokevirtual 50, 3, 58, 6, 0), (158, .ireturn, 1, 0, 0, 0), (159, .aload_n 0, 1, 0, 0, 0)], [(160, .aload_n 0, 1, 0, 0, 0), (161, .getfield 18, 3, 7, 1, 0), (164, .getfield 63, 3, 6, 4, 0), (167, .iload_n 2, 1, 0, 0, 0), (168, .iload_n 3, 1, 0, 0, 0), (169, .iconst 1, 1, 0, 0, 0), (170, .bipush 20, 2, 0, 0, 0), (172, .invokevirtual 50, 3, 58, 6, 0), (175, .ireturn, 1, 0, 0, 0)], [(176, .aload_n 0, 1, 0, 0, 0), (177, .iload_n 1, 1, 0, 0, 0), (178, .invokestatic 66, 3, 60, 1, 0), (181, .iload_n 2, 1, 0, 0, 0), (182, .iload_n 3, 1, 0, 0, 0), (183, .invokevirtual 70, 3, 61, 4, 0), (186, .ireturn, 1, 0, 0, 0)]]
def qc58 : List (List qI) := [[(0, .aload_n 0, 1, 0, 0, 0), (1, .iload_n 2, 1, 0, 0, 0), (2, .iload_n 3, 1, 0, 0, 0), (3, .invokevirtual 74, 3, 59, 3, 0), (6, .istore 6, 2, 0, 0, 0), (8, .iload 6, 2, 0, 0, 0), (10, .ifCond .lt 27, 3, 37, 0, 0), (13, .iload 6, 2, 0, 0, 0), (15, .iload 4, 2, 0, 0, 0)], [(17, .iload 5, 2, 0, 0, 0), (19, .invokestatic 78, 3, 104, 3, 0), (22, .ifCond .ne 15, 3, 37, 0, 0), (25, .aload_n 0, 1, 0, 0, 0), (26, .getfield 18, 3, 7, 1, 0), (29, .getfield 28, 3, 6, 5, 0)], [(32, .aload_n 1, 1, 0, 0, 0), (33, .arraylength, 1, 0, 0, 0), (34, .if_icmp .lt 5, 3, 39, 0, 0), (37, .iconst 0, 1, 0, 0, 0), (38, .ireturn, 1, 0, 0, 0), (39, .aload_n 1, 1, 0, 0, 0), (40, .aload_n 0, 1, 0, 0, 0), (41, .getfield 18, 3, 7, 1, 0), (44, .getfield 28, 3, 6, 5, 0), (47, .iload 6, 2, 0, 0, 0)], [(49, .iastore, 1, 0, 0, 0), (50, .iconst 1, 1, 0, 0, 0), (51, .ireturn, 1, 0, 0, 0)]]
def qc59 : List (List qI) := [[(0, .aload_n 0, 1, 0, 0, 0), (1, .getfield 9, 3, 7, 0, 0), (4, .iload_n 1, 1, 0, 0, 0), (5, .caload, 1, 0, 0, 0), (6, .bipush 48, 2, 0, 0, 0), (8, .if_icmp .ne 14, 3, 22, 0, 0), (11, .iload_n 2, 1, 0, 0, 0), (12, .iload_n 1, 1, 0, 0, 0), (13, .isub, 1, 0, 0, 0), (14, .iconst 1, 1, 0, 0, 0), (15, .if_icmp .le 7, 3, 22, 0, 0)], [(18, .iconst 1, 1, 0, 0, 0), (19, .goto 4, 3, 23, 0, 0), (22, .iconst 0, 1, 0, 0, 0), (23, .istore_n 3, 1, 0, 0, 0), (24, .aload_n 0, 1, 0, 0, 0), (25, .iload_n 1, 1, 0, 0, 0), (26, .invokevirtual 43, 3, 56, 2, 0), (29, .ifCond .eq 14, 3, 43, 0, 0)], [(32, .iload_n 3, 1, 0, 0, 0), (33, .ifCond .ne 10, 3, 43, 0, 0), (36, .iload_n 2, 1, 0, 0, 0), (37, .iload_n 1, 1, 0, 0, 0), (38, .isub, 1, 0, 0, 0), (39, .iconst 3, 1, 0, 0, 0), (40, .if_icmp .le 5, 3, 45, 0, 0), (43, .iconst (-1), 1, 0, 0, 0), (44, .ireturn, 1, 0, 0, 0), (45, .iconst 0, 1, 0, 0, 0), (46, .istore 4, 2, 0, 0, 0)], [(48, .iload_n 1, 1, 0, 0, 0), (49, .istore 5, 2, 0, 0, 0), (51, .iload 5, 2, 0, 0, 0), (53, .iload_n 2, 1, 0, 0, 0), (54, .if_icmp .ge 27, 3, 81, 0, 0), (57, .iload 4, 2, 0, 0, 0), (59, .bipush 10, 2, 0, 0, 0), (61, .imul, 1, 0, 0, 0), (62, .aload_n 0, 1, 0, 0, 0), (63, .getfield 9, 3, 7, 0, 0)], [(66, .iload 5, 2, 0, 0, 0), (68, .caload, 1, 0, 0, 0), (69, .bipush 48, 2, 0, 0, 0), (71, .isub, 1, 0, 0, 0), (72, .iadd, 1, 0, 0, 0), (73, .istore 4, 2, 0, 0, 0), (75, .iinc 5 1, 3, 0, 0, 0), (78, .goto (-27), 3, 51, 0, 0)], [(81, .iload 4, 2, 0, 0, 0), (83, .ireturn, 1, 0, 0, 0)]]
def qc60 : List (List qI) := [[(0, .iload_n 0, 1, 0, 0, 0), (1, .tableswitch 66 0 8 #[51, 66, 54, 66, 57, 66, 60, 66, 63], 51, 0, 0, 0)], [], [], [(52, .ldc 81, 2, 0, 0, 0), (54, .areturn, 1, 0, 0, 0), (55, .ldc 82, 2, 1, 0, 0), (57, .areturn, 1, 0, 0, 0), (58, .ldc 83, 2, 2, 0, 0), (60, .areturn, 1, 0, 0, 0), (61, .ldc 84, 2, 3, 0, 0), (63, .areturn, 1, 0, 0, 0)], [(64, .ldc 85, 2, 4, 0, 0), (66, .areturn, 1, 0, 0, 0), (67, .ldc 87, 2, 5, 0, 0), (69, .areturn, 1, 0, 0, 0)]]
def qc61 : List (List qI) := [[(0, .aload_n 1, 1, 0, 0, 0), (1, .invokevirtual 89, 3, 183, 1, 0), (4, .iload_n 3, 1, 0, 0, 0), (5, .iload_n 2, 1, 0, 0, 0), (6, .isub, 1, 0, 0, 0), (7, .if_icmp .eq 5, 3, 12, 0, 0), (10, .iconst 0, 1, 0, 0, 0), (11, .ireturn, 1, 0, 0, 0), (12, .iload_n 2, 1, 0, 0, 0), (13, .istore 4, 2, 0, 0, 0), (15, .iload 4, 2, 0, 0, 0)], [(17, .iload_n 3, 1, 0, 0, 0), (18, .if_icmp .ge 29, 3, 47, 0, 0), (21, .aload_n 0, 1, 0, 0, 0), (22, .getfield 9, 3, 7, 0, 0), (25, .iload 4, 2, 0, 0, 0), (27, .caload, 1, 0, 0, 0), (28, .aload_n 1, 1, 0, 0, 0), (29, .iload 4, 2, 0, 0, 0), (31, .iload_n 2, 1, 0, 0, 0)], [(32, .isub, 1, 0, 0, 0), (33, .invokevirtual 94, 3, 184, 2, 0), (36, .if_icmp .eq 5, 3, 41, 0, 0), (39, .iconst 0, 1, 0, 0, 0), (40, .ireturn, 1, 0, 0, 0), (41, .iinc 4 1, 3, 0, 0, 0), (44, .goto (-29), 3, 15, 0, 0), (47, .iconst 1, 1, 0, 0, 0)], [(48, .ireturn, 1, 0, 0, 0)]]
def qc62 : List (List qI) := []
def qc63 : List (List qI) := [[(0, .aload_n 0, 1, 0, 0, 0), (1, .bipush (-2), 2, 0, 0, 0), (3, .putfield 26, 3, 8, 4, 0), (6, .return_, 1, 0, 0, 0)]]
def qc64 : List (List qI) := [[(0, .aload_n 0, 1, 0, 0, 0), (1, .getfield 26, 3, 8, 4, 0), (4, .iload_n 2, 1, 0, 0, 0), (5, .if_icmp .ne 4, 3, 9, 0, 0), (8, .return_, 1, 0, 0, 0), (9, .aload_n 0, 1, 0, 0, 0), (10, .iload_n 2, 1, 0, 0, 0), (11, .putfield 26, 3, 8, 4, 0), (14, .aload_n 0, 1, 0, 0, 0), (15, .iconst 1, 1, 0, 0, 0)], [(16, .putfield 30, 3, 8, 5, 0), (19, .iconst 0, 1, 0, 0, 0), (20, .istore_n 3, 1, 0, 0, 0), (21, .iload_n 3, 1, 0, 0, 0), (22, .bipush 20, 2, 0, 0, 0), (24, .if_icmp .gt 21, 3, 45, 0, 0), (27, .aload_n 0, 1, 0, 0, 0), (28, .getfield 9, 3, 8, 0, 0), (31, .iload_n 3, 1, 0, 0, 0)], [(32, .aload_n 1, 1, 0, 0, 0), (33, .iload_n 2, 1, 0, 0, 0), (34, .iload_n 3, 1, 0, 0, 0), (35, .invokevirtual 36, 3, 49, 3, 0), (38, .iastore, 1, 0, 0, 0), (39, .iinc 3 1, 3, 0, 0, 0), (42, .goto (-21), 3, 21, 0, 0), (45, .return_, 1, 0, 0, 0)]]
def qc65 : List (List qI) := [[(0, .iload_n 1, 1, 0, 0, 0), (1, .iconst 0, 1, 0, 0, 0), (2, .bipush 20, 2, 0, 0, 0), (4, .invokestatic 42, 3, 104, 3, 0), (7, .ifCond .eq 7, 3, 14, 0, 0), (10, .iconst 0, 1, 0, 0, 0), (11, .goto 9, 3, 20, 0, 0), (14, .aload_n 0, 1, 0, 0, 0), (15, .getfield 9, 3, 8, 0, 0)], [(18, .iload_n 1, 1, 0, 0, 0), (19, .iaload, 1, 0, 0, 0), (20, .ireturn, 1, 0, 0, 0)]]
def qc66 : List (List qI) := [[(0, .aload_n 0, 1, 0, 0, 0), (1, .getfield 30, 3, 8, 5, 0), (4, .iload_n 1, 1, 0, 0, 0), (5, .if_icmp .gt 33, 3, 38, 0, 0), (8, .aload_n 0, 1, 0, 0, 0), (9, .getfield 30, 3, 8, 5, 0), (12, .bipush 10, 2, 0, 0, 0), (14, .if_icmp .gt 24, 3, 38, 0, 0)], [(17, .aload_n 0, 1, 0, 0, 0), (18, .aload_n 0, 1, 0, 0, 0), (19, .getfield 30, 3, 8, 5, 0), (22, .invokevirtual 46, 3, 73, 102, 0), (25, .aload_n 0, 1, 0, 0, 0), (26, .dup, 1, 0, 0, 0), (27, .getfield 30, 3, 8, 5, 0), (30, .iconst 1, 1, 0, 0, 0), (31, .iadd, 1, 0, 0, 0)], [(32, .putfield 30, 3, 8, 5, 0), (35, .goto (-35), 3, 0, 0, 0), (38, .return_, 1, 0, 0, 0)]]
def qc67 : List (List qI) := [[(0, .aload_n 0, 1, 0, 0, 0), (1, .getfield 33, 3, 8, 6, 0), (4, .iload_n 1, 1, 0, 0, 0), (5, .if_icmp .gt 33, 3, 38, 0, 0), (8, .aload_n 0, 1, 0, 0, 0), (9, .getfield 33, 3, 8, 6, 0), (12, .bipush 10, 2, 0, 0, 0), (14, .if_icmp .gt 24, 3, 38, 0, 0)], [(17, .aload_n 0, 1, 0, 0, 0), (18, .aload_n 0, 1, 0, 0, 0), (19, .getfield 33, 3, 8, 6, 0), (22, .invokevirtual 50, 3, 72, 102, 0), (25, .aload_n 0, 1, 0, 0, 0), (26, .dup, 1, 0, 0, 0), (27, .getfield 33, 3, 8, 6, 0), (30, .iconst 1, 1, 0, 0, 0), (31, .iadd, 1, 0, 0, 0)], [(32, .putfield 33, 3, 8, 6, 0), (35, .goto (-35), 3, 0, 0, 0), (38, .return_, 1, 0, 0, 0)]]
def qc68 : List (List qI) := [[(0, .iload_n 1, 1, 0, 0, 0), (1, .iload_n 2, 1, 0, 0, 0), (2, .aload_n 0, 1, 0, 0, 0), (3, .getfield 30, 3, 8, 5, 0), (6, .invokestatic 53, 3, 71, 3, 0), (9, .ifCond .eq 14, 3, 23, 0, 0), (12, .aload_n 0, 1, 0, 0, 0), (13, .getfield 17, 3, 8, 1, 0)], [(16, .iload_n 1, 1, 0, 0, 0), (17, .aaload, 1, 0, 0, 0), (18, .iload_n 2, 1, 0, 0, 0), (19, .iaload, 1, 0, 0, 0), (20, .goto 4, 3, 24, 0, 0), (23, .iconst 0, 1, 0, 0, 0), (24, .ireturn, 1, 0, 0, 0)]]
def qc69 : List (List qI) := [[(0, .iload_n 1, 1, 0, 0, 0), (1, .iload_n 2, 1, 0, 0, 0), (2, .aload_n 0, 1, 0, 0, 0), (3, .getfield 30, 3, 8, 5, 0), (6, .invokestatic 53, 3, 71, 3, 0), (9, .ifCond .eq 14, 3, 23, 0, 0), (12, .aload_n 0, 1, 0, 0, 0), (13, .getfield 20, 3, 8, 2, 0)], [(16, .iload_n 1, 1, 0, 0, 0), (17, .aaload, 1, 0, 0, 0), (18, .iload_n 2, 1, 0, 0, 0), (19, .iaload, 1, 0, 0, 0), (20, .goto 4, 3, 24, 0, 0), (23, .iconst 0, 1, 0, 0, 0), (24, .ireturn, 1, 0, 0, 0)]]
def qc70 : List (List qI) := [[(0, .iload_n 1, 1, 0, 0, 0), (1, .iload_n 2, 1, 0, 0, 0), (2, .aload_n 0, 1, 0, 0, 0), (3, .getfield 33, 3, 8, 6, 0), (6, .invokestatic 53, 3, 71, 3, 0), (9, .ifCond .eq 14, 3, 23, 0, 0), (12, .aload_n 0, 1, 0, 0, 0), (13, .getfield 23, 3, 8, 3, 0)], [(16, .iload_n 1, 1, 0, 0, 0), (17, .aaload, 1, 0, 0, 0), (18, .iload_n 2, 1, 0, 0, 0), (19, .iaload, 1, 0, 0, 0), (20, .goto 4, 3, 24, 0, 0), (23, .iconst 0, 1, 0, 0, 0), (24, .ireturn, 1, 0, 0, 0)]]
def qc71 : List (List qI) := [[(0, .iload_n 0, 1, 0, 0, 0), (1, .ifCond .lt 24, 3, 25, 0, 0), (4, .iload_n 0, 1, 0, 0, 0), (5, .iload_n 2, 1, 0, 0, 0), (6, .if_icmp .ge 19, 3, 25, 0, 0), (9, .iload_n 1, 1, 0, 0, 0), (10, .ifCond .lt 15, 3, 25, 0, 0), (13, .iload_n 1, 1, 0, 0, 0), (14, .bipush 20, 2, 0, 0, 0)], [(16, .iload_n 0, 1, 0, 0, 0), (17, .imul, 1, 0, 0, 0), (18, .if_icmp .gt 7, 3, 25, 0, 0), (21, .iconst 1, 1, 0, 0, 0), (22, .goto 4, 3, 26, 0, 0), (25, .iconst 0, 1, 0, 0, 0), (26, .ireturn, 1, 0, 0, 0)]]
def qc72 : List (List qI) := [[(0, .iconst 0, 1, 0, 0, 0), (1, .istore_n 2, 1, 0, 0, 0), (2, .iload_n 2, 1, 0, 0, 0), (3, .bipush 20, 2, 0, 0, 0), (5, .iload_n 1, 1, 0, 0, 0), (6, .imul, 1, 0, 0, 0), (7, .if_icmp .gt 70, 3, 77, 0, 0), (10, .lconst 0, 1, 0, 0, 0), (11, .lstore_n 3, 1, 0, 0, 0), (12, .bipush 20, 2, 0, 0, 0), (14, .iload_n 2, 1, 0, 0, 0), (15, .invokestatic 56, 3, 1003, 0, 0)], [(18, .istore 5, 2, 0, 0, 0), (20, .iload_n 1, 1, 0, 0, 0), (21, .iload_n 2, 1, 0, 0, 0), (22, .invokestatic 61, 3, 74, 2, 0), (25, .istore 6, 2, 0, 0, 0), (27, .iload 6, 2, 0, 0, 0), (29, .iload 5, 2, 0, 0, 0), (31, .if_icmp .gt 26, 3, 57, 0, 0)], [(34, .lload_n 3, 1, 0, 0, 0), (35, .aload_n 0, 1, 0, 0, 0), (36, .getfield 23, 3, 8, 3, 0), (39, .iload_n 1, 1, 0, 0, 0), (40, .iconst 1, 1, 0, 0, 0), (41, .isub, 1, 0, 0, 0), (42, .aaload, 1, 0, 0, 0), (43, .iload_n 2, 1, 0, 0, 0), (44, .iload 6, 2, 0, 0, 0), (46, .isub, 1, 0, 0, 0), (47, .iaload, 1, 0, 0, 0)], [(48, .i2l, 1, 0, 0, 0), (49, .ladd, 1, 0, 0, 0), (50, .lstore_n 3, 1, 0, 0, 0), (51, .iinc 6 1, 3, 0, 0, 0), (54, .goto (-27), 3, 27, 0, 0), (57, .aload_n 0, 1, 0, 0, 0), (58, .getfield 23, 3, 8, 3, 0), (61, .iload_n 1, 1, 0, 0, 0), (62, .aaload, 1, 0, 0, 0), (63, .iload_n 2, 1, 0, 0, 0)], [(64, .lload_n 3, 1, 0, 0, 0), (65, .ldc2_w 64, 3, 0, 0, 1000000007), (68, .lrem, 1, 0, 0, 0), (69, .l2i, 1, 0, 0, 0), (70, .iastore, 1, 0, 0, 0), (71, .iinc 2 1, 3, 0, 0, 0), (74, .goto (-72), 3, 2, 0, 0), (77, .return_, 1, 0, 0, 0)]]
def qc73 : List (List qI) := [[(0, .iconst 0, 1, 0, 0, 0), (1, .istore_n 2, 1, 0, 0, 0), (2, .iload_n 2, 1, 0, 0, 0), (3, .bipush 20, 2, 0, 0, 0), (5, .iload_n 1, 1, 0, 0, 0), (6, .imul, 1, 0, 0, 0), (7, .if_icmp .gt 163, 3, 170, 0, 0), (10, .bipush 20, 2, 0, 0, 0), (12, .iload_n 2, 1, 0, 0, 0), (13, .invokestatic 56, 3, 1003, 0, 0)], [(16, .istore_n 3, 1, 0, 0, 0), (17, .iload_n 1, 1, 0, 0, 0), (18, .iload_n 2, 1, 0, 0, 0), (19, .invokestatic 61, 3, 74, 2, 0), (22, .istore 4, 2, 0, 0, 0), (24, .aload_n 0, 1, 0, 0, 0), (25, .getfield 17, 3, 8, 1, 0), (28, .iload_n 1, 1, 0, 0, 0), (29, .iconst 1, 1, 0, 0, 0), (30, .isub, 1, 0, 0, 0), (31, .aaload, 1, 0, 0, 0)], [(32, .iload_n 2, 1, 0, 0, 0), (33, .iload 4, 2, 0, 0, 0), (35, .isub, 1, 0, 0, 0), (36, .iaload, 1, 0, 0, 0), (37, .aload_n 0, 1, 0, 0, 0), (38, .getfield 9, 3, 8, 0, 0), (41, .iload 4, 2, 0, 0, 0), (43, .iaload, 1, 0, 0, 0), (44, .iadd, 1, 0, 0, 0), (45, .istore 5, 2, 0, 0, 0), (47, .aload_n 0, 1, 0, 0, 0)], [(48, .getfield 20, 3, 8, 2, 0), (51, .iload_n 1, 1, 0, 0, 0), (52, .iconst 1, 1, 0, 0, 0), (53, .isub, 1, 0, 0, 0), (54, .aaload, 1, 0, 0, 0), (55, .iload_n 2, 1, 0, 0, 0), (56, .iload 4, 2, 0, 0, 0), (58, .isub, 1, 0, 0, 0), (59, .iaload, 1, 0, 0, 0), (60, .aload_n 0, 1, 0, 0, 0), (61, .getfield 9, 3, 8, 0, 0)], [(64, .iload 4, 2, 0, 0, 0), (66, .iaload, 1, 0, 0, 0), (67, .iadd, 1, 0, 0, 0), (68, .istore 6, 2, 0, 0, 0), (70, .iload 4, 2, 0, 0, 0), (72, .iconst 1, 1, 0, 0, 0), (73, .iadd, 1, 0, 0, 0), (74, .istore 7, 2, 0, 0, 0), (76, .iload 7, 2, 0, 0, 0), (78, .iload_n 3, 1, 0, 0, 0), (79, .if_icmp .gt 65, 3, 144, 0, 0)], [(82, .iload 5, 2, 0, 0, 0), (84, .aload_n 0, 1, 0, 0, 0), (85, .getfield 17, 3, 8, 1, 0), (88, .iload_n 1, 1, 0, 0, 0), (89, .iconst 1, 1, 0, 0, 0), (90, .isub, 1, 0, 0, 0), (91, .aaload, 1, 0, 0, 0), (92, .iload_n 2, 1, 0, 0, 0), (93, .iload 7, 2, 0, 0, 0), (95, .isub, 1, 0, 0, 0)], [(96, .iaload, 1, 0, 0, 0), (97, .aload_n 0, 1, 0, 0, 0), (98, .getfield 9, 3, 8, 0, 0), (101, .iload 7, 2, 0, 0, 0), (103, .iaload, 1, 0, 0, 0), (104, .iadd, 1, 0, 0, 0), (105, .invokestatic 56, 3, 1003, 0, 0), (108, .istore 5, 2, 0, 0, 0), (110, .iload 6, 2, 0, 0, 0)], [(112, .aload_n 0, 1, 0, 0, 0), (113, .getfield 20, 3, 8, 2, 0), (116, .iload_n 1, 1, 0, 0, 0), (117, .iconst 1, 1, 0, 0, 0), (118, .isub, 1, 0, 0, 0), (119, .aaload, 1, 0, 0, 0), (120, .iload_n 2, 1, 0, 0, 0), (121, .iload 7, 2, 0, 0, 0), (123, .isub, 1, 0, 0, 0), (124, .iaload, 1, 0, 0, 0), (125, .aload_n 0, 1, 0, 0, 0), (126, .getfield 9, 3, 8, 0, 0)], [(129, .iload 7, 2, 0, 0, 0), (131, .iaload, 1, 0, 0, 0), (132, .iadd, 1, 0, 0, 0), (133, .invokestatic 66, 3, 1002, 0, 0), (136, .istore 6, 2, 0, 0, 0), (138, .iinc 7 1, 3, 0, 0, 0), (141, .goto (-65), 3, 76, 0, 0)], [(144, .aload_n 0, 1, 0, 0, 0), (145, .getfield 17, 3, 8, 1, 0), (148, .iload_n 1, 1, 0, 0, 0), (149, .aaload, 1, 0, 0, 0), (150, .iload_n 2, 1, 0, 0, 0), (151, .iload 5, 2, 0, 0, 0), (153, .iastore, 1, 0, 0, 0), (154, .aload_n 0, 1, 0, 0, 0), (155, .getfield 20, 3, 8, 2, 0), (158, .iload_n 1, 1, 0, 0, 0), (159, .aaload, 1, 0, 0, 0)], [(160, .iload_n 2, 1, 0, 0, 0), (161, .iload 6, 2, 0, 0, 0), (163, .iastore, 1, 0, 0, 0), (164, .iinc 2 1, 3, 0, 0, 0), (167, .goto (-165), 3, 2, 0, 0), (170, .return_, 1, 0, 0, 0)]]
def qc74 : List (List qI) := [[(0, .iconst 0, 1, 0, 0, 0), (1, .iload_n 1, 1, 0, 0, 0), (2, .bipush 20, 2, 0, 0, 0), (4, .iload_n 0, 1, 0, 0, 0), (5, .iconst 1, 1, 0, 0, 0), (6, .isub, 1, 0, 0, 0), (7, .imul, 1, 0, 0, 0), (8, .isub, 1, 0, 0, 0), (9, .invokestatic 66, 3, 1002, 0, 0), (12, .ireturn, 1, 0, 0, 0)]]
def qc75 : List (List qI) := []
def qc76 : List (List qI) := [[(0, .iload_n 3, 1, 0, 0, 0), (1, .iconst 1, 1, 0, 0, 0), (2, .bipush 8, 2, 0, 0, 0), (4, .invokestatic 52, 3, 104, 3, 0), (7, .ifCond .eq 5, 3, 12, 0, 0), (10, .iconst (-1), 1, 0, 0, 0), (11, .ireturn, 1, 0, 0, 0), (12, .aload_n 0, 1, 0, 0, 0), (13, .getfield 12, 3, 9, 0, 0)], [(16, .getfield 56, 3, 7, 2, 0), (19, .iload_n 3, 1, 0, 0, 0), (20, .iadd, 1, 0, 0, 0), (21, .sipush 300, 3, 0, 0, 0), (24, .if_icmp .le 6, 3, 30, 0, 0), (27, .bipush (-3), 2, 0, 0, 0), (29, .ireturn, 1, 0, 0, 0), (30, .aload_n 0, 1, 0, 0, 0), (31, .getfield 12, 3, 9, 0, 0)], [(34, .lload_n 1, 1, 0, 0, 0), (35, .iload_n 3, 1, 0, 0, 0), (36, .invokevirtual 60, 3, 52, 103, 0), (39, .aload_n 0, 1, 0, 0, 0), (40, .getfield 12, 3, 9, 0, 0), (43, .getfield 56, 3, 7, 2, 0), (46, .ireturn, 1, 0, 0, 0)]]
def qc77 : List (List qI) := [[(0, .aload_n 0, 1, 0, 0, 0), (1, .getfield 12, 3, 9, 0, 0), (4, .getfield 56, 3, 7, 2, 0), (7, .istore_n 1, 1, 0, 0, 0), (8, .aload_n 0, 1, 0, 0, 0), (9, .getfield 12, 3, 9, 0, 0), (12, .iconst 0, 1, 0, 0, 0), (13, .putfield 56, 3, 7, 2, 0)], [(16, .iload_n 1, 1, 0, 0, 0), (17, .ireturn, 1, 0, 0, 0)]]
def qc78 : List (List qI) := [[(0, .aload_n 0, 1, 0, 0, 0), (1, .getfield 12, 3, 9, 0, 0), (4, .invokevirtual 64, 3, 53, 1, 0), (7, .istore_n 1, 1, 0, 0, 0), (8, .iload_n 1, 1, 0, 0, 0), (9, .ifCond .lt 8, 3, 17, 0, 0), (12, .bipush (-10), 2, 0, 0, 0), (14, .iload_n 1, 1, 0, 0, 0), (15, .isub, 1, 0, 0, 0)], [(16, .ireturn, 1, 0, 0, 0), (17, .aload_n 0, 1, 0, 0, 0), (18, .getfield 19, 3, 9, 1, 0), (21, .aload_n 0, 1, 0, 0, 0), (22, .getfield 12, 3, 9, 0, 0), (25, .getfield 68, 3, 7, 1, 0), (28, .invokevirtual 71, 3, 50, 102, 0), (31, .aload_n 0, 1, 0, 0, 0)], [(32, .getfield 26, 3, 9, 2, 0), (35, .getfield 75, 3, 0, 0, 0), (38, .invokevirtual 79, 3, 63, 101, 0), (41, .aload_n 0, 1, 0, 0, 0), (42, .getfield 12, 3, 9, 0, 0), (45, .iconst 0, 1, 0, 0, 0), (46, .putfield 56, 3, 7, 2, 0)], [(49, .aload_n 0, 1, 0, 0, 0), (50, .getfield 19, 3, 9, 1, 0), (53, .getfield 84, 3, 6, 5, 0), (56, .ireturn, 1, 0, 0, 0)]]
def qc79 : List (List qI) := [[(0, .iload_n 1, 1, 0, 0, 0), (1, .iconst 0, 1, 0, 0, 0), (2, .bipush 20, 2, 0, 0, 0), (4, .invokestatic 52, 3, 104, 3, 0), (7, .ifCond .ne 14, 3, 21, 0, 0), (10, .iload_n 2, 1, 0, 0, 0), (11, .iconst 0, 1, 0, 0, 0), (12, .sipush 200, 3, 0, 0, 0), (15, .invokestatic 52, 3, 104, 3, 0)], [(18, .ifCond .eq 5, 3, 23, 0, 0), (21, .iconst (-1), 1, 0, 0, 0), (22, .ireturn, 1, 0, 0, 0), (23, .aload_n 0, 1, 0, 0, 0), (24, .getfield 19, 3, 9, 1, 0), (27, .aload_n 0, 1, 0, 0, 0), (28, .getfield 19, 3, 9, 1, 0), (31, .iload_n 2, 1, 0, 0, 0)], [(32, .invokevirtual 87, 3, 48, 2, 0), (35, .iload_n 1, 1, 0, 0, 0), (36, .invokevirtual 91, 3, 49, 3, 0), (39, .ireturn, 1, 0, 0, 0)]]
def qc80 : List (List qI) := [[(0, .iload_n 1, 1, 0, 0, 0), (1, .invokestatic 95, 3, 105, 1, 0), (4, .ifCond .ne 30, 3, 34, 0, 0), (7, .iload_n 2, 1, 0, 0, 0), (8, .invokestatic 99, 3, 106, 1, 0), (11, .ifCond .ne 23, 3, 34, 0, 0), (14, .iload_n 3, 1, 0, 0, 0), (15, .iconst 0, 1, 0, 0, 0)], [(16, .iconst 1, 1, 0, 0, 0), (17, .invokestatic 52, 3, 104, 3, 0), (20, .ifCond .ne 14, 3, 34, 0, 0), (23, .iload 4, 2, 0, 0, 0), (25, .iconst 0, 1, 0, 0, 0), (26, .bipush 20, 2, 0, 0, 0), (28, .invokestatic 52, 3, 104, 3, 0), (31, .ifCond .eq 5, 3, 36, 0, 0)], [(34, .iconst (-1), 1, 0, 0, 0), (35, .ireturn, 1, 0, 0, 0), (36, .iload_n 3, 1, 0, 0, 0), (37, .ifCond .ne 15, 3, 52, 0, 0), (40, .aload_n 0, 1, 0, 0, 0), (41, .getfield 32, 3, 9, 3, 0), (44, .iload_n 1, 1, 0, 0, 0), (45, .aaload, 1, 0, 0, 0), (46, .getfield 102, 3, 5, 0, 0)], [(49, .goto 12, 3, 61, 0, 0), (52, .aload_n 0, 1, 0, 0, 0), (53, .getfield 32, 3, 9, 3, 0), (56, .iload_n 1, 1, 0, 0, 0), (57, .aaload, 1, 0, 0, 0), (58, .getfield 106, 3, 5, 1, 0), (61, .astore 5, 2, 0, 0, 0), (63, .aload 5, 2, 0, 0, 0)], [(65, .iload_n 2, 1, 0, 0, 0), (66, .iaload, 1, 0, 0, 0), (67, .istore 6, 2, 0, 0, 0), (69, .aload 5, 2, 0, 0, 0), (71, .iload_n 2, 1, 0, 0, 0), (72, .iload 4, 2, 0, 0, 0), (74, .iastore, 1, 0, 0, 0), (75, .iload 6, 2, 0, 0, 0), (77, .ireturn, 1, 0, 0, 0)]]
def qc81 : List (List qI) := [[(0, .iload_n 1, 1, 0, 0, 0), (1, .invokestatic 95, 3, 105, 1, 0), (4, .ifCond .ne 22, 3, 26, 0, 0), (7, .iload_n 2, 1, 0, 0, 0), (8, .invokestatic 99, 3, 106, 1, 0), (11, .ifCond .ne 15, 3, 26, 0, 0), (14, .iload_n 3, 1, 0, 0, 0), (15, .invokestatic 99, 3, 106, 1, 0)], [(18, .ifCond .ne 8, 3, 26, 0, 0), (21, .iload_n 3, 1, 0, 0, 0), (22, .iload_n 2, 1, 0, 0, 0), (23, .if_icmp .ge 5, 3, 28, 0, 0), (26, .iconst (-1), 1, 0, 0, 0), (27, .ireturn, 1, 0, 0, 0), (28, .iload 4, 2, 0, 0, 0), (30, .iconst 0, 1, 0, 0, 0), (31, .bipush 20, 2, 0, 0, 0)], [(33, .iload_n 3, 1, 0, 0, 0), (34, .iload_n 2, 1, 0, 0, 0), (35, .isub, 1, 0, 0, 0), (36, .iconst 1, 1, 0, 0, 0), (37, .iadd, 1, 0, 0, 0), (38, .imul, 1, 0, 0, 0), (39, .invokestatic 52, 3, 104, 3, 0), (42, .ifCond .eq 5, 3, 47, 0, 0), (45, .iconst (-1), 1, 0, 0, 0), (46, .ireturn, 1, 0, 0, 0), (47, .aload_n 0, 1, 0, 0, 0)], [(48, .getfield 32, 3, 9, 3, 0), (51, .iload_n 1, 1, 0, 0, 0), (52, .aaload, 1, 0, 0, 0), (53, .astore 5, 2, 0, 0, 0), (55, .iload_n 2, 1, 0, 0, 0), (56, .istore 6, 2, 0, 0, 0), (58, .iload 6, 2, 0, 0, 0), (60, .iload_n 3, 1, 0, 0, 0), (61, .if_icmp .gt 25, 3, 86, 0, 0)], [(64, .aload 5, 2, 0, 0, 0), (66, .iload 6, 2, 0, 0, 0), (68, .sipush 200, 3, 0, 0, 0), (71, .invokevirtual 109, 3, 44, 3, 0), (74, .ifCond .lt 6, 3, 80, 0, 0), (77, .bipush (-2), 2, 0, 0, 0), (79, .ireturn, 1, 0, 0, 0)], [(80, .iinc 6 1, 3, 0, 0, 0), (83, .goto (-25), 3, 58, 0, 0), (86, .aload 5, 2, 0, 0, 0), (88, .iload_n 2, 1, 0, 0, 0), (89, .iload_n 3, 1, 0, 0, 0), (90, .iload 4, 2, 0, 0, 0), (92, .aload_n 0, 1, 0, 0, 0), (93, .getfield 39, 3, 9, 4, 0)], [(96, .getfield 112, 3, 1, 3, 0), (99, .invokevirtual 115, 3, 43, 5, 0), (102, .ireturn, 1, 0, 0, 0)]]
def qc82 : List (List qI) := [[(0, .iload_n 1, 1, 0, 0, 0), (1, .invokestatic 95, 3, 105, 1, 0), (4, .ifCond .ne 20, 3, 24, 0, 0), (7, .iload_n 2, 1, 0, 0, 0), (8, .invokestatic 99, 3, 106, 1, 0), (11, .ifCond .ne 13, 3, 24, 0, 0), (14, .iload_n 3, 1, 0, 0, 0), (15, .iconst 0, 1, 0, 0, 0)], [(16, .bipush 20, 2, 0, 0, 0), (18, .invokestatic 52, 3, 104, 3, 0), (21, .ifCond .eq 5, 3, 26, 0, 0), (24, .iconst (-1), 1, 0, 0, 0), (25, .ireturn, 1, 0, 0, 0), (26, .aload_n 0, 1, 0, 0, 0), (27, .getfield 32, 3, 9, 3, 0), (30, .iload_n 1, 1, 0, 0, 0), (31, .aaload, 1, 0, 0, 0)], [(32, .astore 4, 2, 0, 0, 0), (34, .aload_n 0, 1, 0, 0, 0), (35, .iload_n 1, 1, 0, 0, 0), (36, .sipush 200, 3, 0, 0, 0), (39, .invokevirtual 119, 3, 108, 103, 0), (42, .aload_n 0, 1, 0, 0, 0), (43, .getfield 26, 3, 9, 2, 0), (46, .iload_n 2, 1, 0, 0, 0), (47, .invokevirtual 123, 3, 3, 2, 0)], [(50, .ifCond .eq 31, 3, 81, 0, 0), (53, .iload_n 3, 1, 0, 0, 0), (54, .aload_n 0, 1, 0, 0, 0), (55, .getfield 26, 3, 9, 2, 0), (58, .aload 4, 2, 0, 0, 0), (60, .iload_n 2, 1, 0, 0, 0), (61, .invokevirtual 126, 3, 6, 3, 0)], [(64, .if_icmp .lt 17, 3, 81, 0, 0), (67, .iload_n 3, 1, 0, 0, 0), (68, .aload_n 0, 1, 0, 0, 0), (69, .getfield 26, 3, 9, 2, 0), (72, .aload 4, 2, 0, 0, 0), (74, .iload_n 2, 1, 0, 0, 0), (75, .invokevirtual 130, 3, 7, 3, 0), (78, .if_icmp .le 6, 3, 84, 0, 0)], [(81, .bipush (-2), 2, 0, 0, 0), (83, .ireturn, 1, 0, 0, 0), (84, .aload 4, 2, 0, 0, 0), (86, .getfield 133, 3, 5, 2, 0), (89, .iload_n 2, 1, 0, 0, 0), (90, .iload_n 3, 1, 0, 0, 0), (91, .iastore, 1, 0, 0, 0), (92, .aload 4, 2, 0, 0, 0), (94, .getfield 136, 3, 5, 3, 0)], [(97, .iload_n 2, 1, 0, 0, 0), (98, .aload_n 0, 1, 0, 0, 0), (99, .getfield 39, 3, 9, 4, 0), (102, .getfield 112, 3, 1, 3, 0), (105, .iastore, 1, 0, 0, 0), (106, .aload_n 0, 1, 0, 0, 0), (107, .iload_n 1, 1, 0, 0, 0), (108, .aload_n 0, 1, 0, 0, 0), (109, .getfield 39, 3, 9, 4, 0)], [(112, .getfield 112, 3, 1, 3, 0), (115, .invokevirtual 119, 3, 108, 103, 0), (118, .aload_n 0, 1, 0, 0, 0), (119, .getfield 26, 3, 9, 2, 0), (122, .invokevirtual 139, 3, 9, 1, 0), (125, .ireturn, 1, 0, 0, 0)]]
def qc83 : List (List qI) := [[(0, .iload_n 1, 1, 0, 0, 0), (1, .invokestatic 95, 3, 105, 1, 0), (4, .ifCond .ne 14, 3, 18, 0, 0), (7, .iload_n 2, 1, 0, 0, 0), (8, .iconst 0, 1, 0, 0, 0), (9, .sipush 200, 3, 0, 0, 0), (12, .invokestatic 52, 3, 104, 3, 0), (15, .ifCond .eq 5, 3, 20, 0, 0)], [(18, .iconst (-1), 1, 0, 0, 0), (19, .ireturn, 1, 0, 0, 0), (20, .aload_n 0, 1, 0, 0, 0), (21, .iload_n 1, 1, 0, 0, 0), (22, .iload_n 2, 1, 0, 0, 0), (23, .invokevirtual 119, 3, 108, 103, 0), (26, .aload_n 0, 1, 0, 0, 0), (27, .getfield 26, 3, 9, 2, 0), (30, .invokevirtual 139, 3, 9, 1, 0)], [(33, .ireturn, 1, 0, 0, 0)]]
def qc84 : List (List qI) := [[(0, .iload_n 1, 1, 0, 0, 0), (1, .invokestatic 95, 3, 105, 1, 0), (4, .ifCond .ne 23, 3, 27, 0, 0), (7, .iload_n 2, 1, 0, 0, 0), (8, .iconst 0, 1, 0, 0, 0), (9, .sipush 200, 3, 0, 0, 0), (12, .invokestatic 52, 3, 104, 3, 0), (15, .ifCond .ne 12, 3, 27, 0, 0)], [(18, .iload_n 3, 1, 0, 0, 0), (19, .iconst 0, 1, 0, 0, 0), (20, .iconst 3, 1, 0, 0, 0), (21, .invokestatic 52, 3, 104, 3, 0), (24, .ifCond .eq 5, 3, 29, 0, 0), (27, .iconst (-1), 1, 0, 0, 0), (28, .ireturn, 1, 0, 0, 0), (29, .aload_n 0, 1, 0, 0, 0), (30, .iload_n 1, 1, 0, 0, 0), (31, .iload_n 2, 1, 0, 0, 0)], [(32, .invokevirtual 142, 3, 109, 103, 0), (35, .aload_n 0, 1, 0, 0, 0), (36, .getfield 26, 3, 9, 2, 0), (39, .aload_n 0, 1, 0, 0, 0), (40, .getfield 32, 3, 9, 3, 0), (43, .iload_n 1, 1, 0, 0, 0), (44, .aaload, 1, 0, 0, 0), (45, .iload_n 3, 1, 0, 0, 0), (46, .invokevirtual 145, 3, 13, 3, 0)], [(49, .ireturn, 1, 0, 0, 0)]]
def qc85 : List (List qI) := [[(0, .iload_n 1, 1, 0, 0, 0), (1, .invokestatic 95, 3, 105, 1, 0), (4, .ifCond .ne 14, 3, 18, 0, 0), (7, .iload_n 2, 1, 0, 0, 0), (8, .iconst 0, 1, 0, 0, 0), (9, .sipush 200, 3, 0, 0, 0), (12, .invokestatic 52, 3, 104, 3, 0), (15, .ifCond .eq 5, 3, 20, 0, 0)], [(18, .iconst (-1), 1, 0, 0, 0), (19, .ireturn, 1, 0, 0, 0), (20, .aload_n 0, 1, 0, 0, 0), (21, .iload_n 1, 1, 0, 0, 0), (22, .iload_n 2, 1, 0, 0, 0), (23, .invokevirtual 142, 3, 109, 103, 0), (26, .aload_n 0, 1, 0, 0, 0), (27, .getfield 26, 3, 9, 2, 0), (30, .invokevirtual 148, 3, 12, 1, 0)], [(33, .ifCond .ne 7, 3, 40, 0, 0), (36, .iconst 1, 1, 0, 0, 0), (37, .goto 4, 3, 41, 0, 0), (40, .iconst 0, 1, 0, 0, 0), (41, .ireturn, 1, 0, 0, 0)]]
def qc86 : List (List qI) := [[(0, .iload_n 1, 1, 0, 0, 0), (1, .invokestatic 95, 3, 105, 1, 0), (4, .ifCond .ne 31, 3, 35, 0, 0), (7, .iload_n 2, 1, 0, 0, 0), (8, .iconst 0, 1, 0, 0, 0), (9, .sipush 200, 3, 0, 0, 0), (12, .invokestatic 52, 3, 104, 3, 0), (15, .ifCond .ne 20, 3, 35, 0, 0)], [(18, .iload_n 3, 1, 0, 0, 0), (19, .invokestatic 99, 3, 106, 1, 0), (22, .ifCond .ne 13, 3, 35, 0, 0), (25, .iload 4, 2, 0, 0, 0), (27, .iconst 0, 1, 0, 0, 0), (28, .iconst 1, 1, 0, 0, 0), (29, .invokestatic 52, 3, 104, 3, 0)], [(32, .ifCond .eq 5, 3, 37, 0, 0), (35, .iconst (-1), 1, 0, 0, 0), (36, .ireturn, 1, 0, 0, 0), (37, .aload_n 0, 1, 0, 0, 0), (38, .iload_n 1, 1, 0, 0, 0), (39, .iload_n 2, 1, 0, 0, 0), (40, .invokevirtual 119, 3, 108, 103, 0), (43, .aload_n 0, 1, 0, 0, 0), (44, .getfield 26, 3, 9, 2, 0), (47, .iload_n 3, 1, 0, 0, 0)], [(48, .invokevirtual 151, 3, 2, 2, 0), (51, .ifCond .ne 6, 3, 57, 0, 0), (54, .bipush (-2), 2, 0, 0, 0), (56, .ireturn, 1, 0, 0, 0), (57, .aload_n 0, 1, 0, 0, 0), (58, .getfield 32, 3, 9, 3, 0), (61, .iload_n 1, 1, 0, 0, 0), (62, .aaload, 1, 0, 0, 0), (63, .astore 5, 2, 0, 0, 0)], [(65, .iload 4, 2, 0, 0, 0), (67, .ifCond .ne 16, 3, 83, 0, 0), (70, .aload_n 0, 1, 0, 0, 0), (71, .getfield 26, 3, 9, 2, 0), (74, .aload 5, 2, 0, 0, 0), (76, .iload_n 3, 1, 0, 0, 0), (77, .invokevirtual 126, 3, 6, 3, 0)], [(80, .goto 13, 3, 93, 0, 0), (83, .aload_n 0, 1, 0, 0, 0), (84, .getfield 26, 3, 9, 2, 0), (87, .aload 5, 2, 0, 0, 0), (89, .iload_n 3, 1, 0, 0, 0), (90, .invokevirtual 130, 3, 7, 3, 0), (93, .ireturn, 1, 0, 0, 0)]]
def qc87 : List (List qI) := [[(0, .iload_n 1, 1, 0, 0, 0), (1, .invokestatic 95, 3, 105, 1, 0), (4, .ifCond .ne 23, 3, 27, 0, 0), (7, .iload_n 2, 1, 0, 0, 0), (8, .iconst 0, 1, 0, 0, 0), (9, .sipush 200, 3, 0, 0, 0), (12, .invokestatic 52, 3, 104, 3, 0), (15, .ifCond .ne 12, 3, 27, 0, 0)], [(18, .iload_n 3, 1, 0, 0, 0), (19, .iconst 0, 1, 0, 0, 0), (20, .iconst 1, 1, 0, 0, 0), (21, .invokestatic 52, 3, 104, 3, 0), (24, .ifCond .eq 5, 3, 29, 0, 0), (27, .iconst (-1), 1, 0, 0, 0), (28, .ireturn, 1, 0, 0, 0), (29, .aload_n 0, 1, 0, 0, 0), (30, .iload_n 1, 1, 0, 0, 0), (31, .iload_n 2, 1, 0, 0, 0)], [(32, .invokevirtual 142, 3, 109, 103, 0), (35, .aload_n 0, 1, 0, 0, 0), (36, .getfield 32, 3, 9, 3, 0), (39, .iload_n 1, 1, 0, 0, 0), (40, .aaload, 1, 0, 0, 0), (41, .astore 4, 2, 0, 0, 0), (43, .aload_n 0, 1, 0, 0, 0), (44, .getfield 26, 3, 9, 2, 0), (47, .aload 4, 2, 0, 0, 0)], [(49, .aload 4, 2, 0, 0, 0), (51, .getfield 106, 3, 5, 1, 0), (54, .invokevirtual 154, 3, 14, 3, 0), (57, .ifCond .ne 6, 3, 63, 0, 0), (60, .bipush (-9), 2, 0, 0, 0), (62, .ireturn, 1, 0, 0, 0), (63, .aload_n 0, 1, 0, 0, 0)], [(64, .getfield 26, 3, 9, 2, 0), (67, .aload 4, 2, 0, 0, 0), (69, .getfield 106, 3, 5, 1, 0), (72, .invokevirtual 158, 3, 16, 2, 0), (75, .istore 5, 2, 0, 0, 0), (77, .iload_n 3, 1, 0, 0, 0), (78, .ifCond .ne 11, 3, 89, 0, 0)], [(81, .iload 5, 2, 0, 0, 0), (83, .invokestatic 162, 3, 182, 1, 0), (86, .goto 5, 3, 91, 0, 0), (89, .iload 5, 2, 0, 0, 0), (91, .ireturn, 1, 0, 0, 0)]]
def qc88 : List (List qI) := [[(0, .iload_n 1, 1, 0, 0, 0), (1, .invokestatic 95, 3, 105, 1, 0), (4, .ifCond .ne 14, 3, 18, 0, 0), (7, .iload_n 2, 1, 0, 0, 0), (8, .iconst 0, 1, 0, 0, 0), (9, .sipush 200, 3, 0, 0, 0), (12, .invokestatic 52, 3, 104, 3, 0), (15, .ifCond .eq 5, 3, 20, 0, 0)], [(18, .iconst (-1), 1, 0, 0, 0), (19, .ireturn, 1, 0, 0, 0), (20, .aload_n 0, 1, 0, 0, 0), (21, .iload_n 1, 1, 0, 0, 0), (22, .iload_n 2, 1, 0, 0, 0), (23, .invokevirtual 142, 3, 109, 103, 0), (26, .aload_n 0, 1, 0, 0, 0), (27, .getfield 26, 3, 9, 2, 0), (30, .aload_n 0, 1, 0, 0, 0), (31, .getfield 32, 3, 9, 3, 0)], [(34, .iload_n 1, 1, 0, 0, 0), (35, .aaload, 1, 0, 0, 0), (36, .invokevirtual 167, 3, 18, 2, 0), (39, .ireturn, 1, 0, 0, 0)]]
def qc89 : List (List qI) := [[(0, .iload_n 1, 1, 0, 0, 0), (1, .invokestatic 95, 3, 105, 1, 0), (4, .ifCond .ne 12, 3, 16, 0, 0), (7, .iload_n 2, 1, 0, 0, 0), (8, .iconst 0, 1, 0, 0, 0), (9, .iconst 2, 1, 0, 0, 0), (10, .invokestatic 52, 3, 104, 3, 0), (13, .ifCond .eq 5, 3, 18, 0, 0)], [(16, .iconst (-1), 1, 0, 0, 0), (17, .ireturn, 1, 0, 0, 0), (18, .aload_n 0, 1, 0, 0, 0), (19, .iload_n 1, 1, 0, 0, 0), (20, .aload_n 0, 1, 0, 0, 0), (21, .getfield 39, 3, 9, 4, 0), (24, .getfield 112, 3, 1, 3, 0), (27, .invokevirtual 142, 3, 109, 103, 0), (30, .aload_n 0, 1, 0, 0, 0), (31, .getfield 26, 3, 9, 2, 0)], [(34, .aload_n 0, 1, 0, 0, 0), (35, .getfield 32, 3, 9, 3, 0), (38, .iload_n 1, 1, 0, 0, 0), (39, .aaload, 1, 0, 0, 0), (40, .iload_n 2, 1, 0, 0, 0), (41, .invokevirtual 145, 3, 13, 3, 0), (44, .istore_n 3, 1, 0, 0, 0), (45, .iload_n 3, 1, 0, 0, 0), (46, .ifCond .gt 6, 3, 52, 0, 0)], [(49, .bipush (-2), 2, 0, 0, 0), (51, .ireturn, 1, 0, 0, 0), (52, .aload_n 0, 1, 0, 0, 0), (53, .getfield 39, 3, 9, 4, 0), (56, .getfield 171, 3, 1, 0, 0), (59, .iload_n 1, 1, 0, 0, 0), (60, .iload_n 3, 1, 0, 0, 0), (61, .aload_n 0, 1, 0, 0, 0), (62, .getfield 39, 3, 9, 4, 0)], [(65, .getfield 112, 3, 1, 3, 0), (68, .invokevirtual 175, 3, 25, 4, 0), (71, .ireturn, 1, 0, 0, 0)]]
def qc90 : List (List qI) := [[(0, .iload_n 1, 1, 0, 0, 0), (1, .invokestatic 95, 3, 105, 1, 0), (4, .ifCond .ne 14, 3, 18, 0, 0), (7, .iload_n 2, 1, 0, 0, 0), (8, .iconst 0, 1, 0, 0, 0), (9, .sipush 999, 3, 0, 0, 0), (12, .invokestatic 52, 3, 104, 3, 0), (15, .ifCond .eq 5, 3, 20, 0, 0)], [(18, .iconst (-1), 1, 0, 0, 0), (19, .ireturn, 1, 0, 0, 0), (20, .iload_n 3, 1, 0, 0, 0), (21, .iconst 1, 1, 0, 0, 0), (22, .bipush 20, 2, 0, 0, 0), (24, .invokestatic 52, 3, 104, 3, 0), (27, .ifCond .ne 20, 3, 47, 0, 0), (30, .iload 4, 2, 0, 0, 0)], [(32, .iconst 1, 1, 0, 0, 0), (33, .bipush 20, 2, 0, 0, 0), (35, .invokestatic 52, 3, 104, 3, 0), (38, .ifCond .ne 9, 3, 47, 0, 0), (41, .iload_n 3, 1, 0, 0, 0), (42, .iload 4, 2, 0, 0, 0), (44, .if_icmp .le 5, 3, 49, 0, 0), (47, .iconst (-1), 1, 0, 0, 0)], [(48, .ireturn, 1, 0, 0, 0), (49, .iload_n 2, 1, 0, 0, 0), (50, .iload_n 3, 1, 0, 0, 0), (51, .imul, 1, 0, 0, 0), (52, .iload 4, 2, 0, 0, 0), (54, .idiv, 1, 0, 0, 0), (55, .istore 5, 2, 0, 0, 0), (57, .iconst 0, 1, 0, 0, 0), (58, .istore 6, 2, 0, 0, 0), (60, .iconst 0, 1, 0, 0, 0), (61, .istore 7, 2, 0, 0, 0), (63, .iload 7, 2, 0, 0, 0)], [(65, .aload_n 0, 1, 0, 0, 0), (66, .getfield 39, 3, 9, 4, 0), (69, .getfield 171, 3, 1, 0, 0), (72, .getfield 181, 3, 2, 7, 0), (75, .if_icmp .ge 57, 3, 132, 0, 0), (78, .aload_n 0, 1, 0, 0, 0), (79, .getfield 39, 3, 9, 4, 0)], [(82, .getfield 171, 3, 1, 0, 0), (85, .getfield 182, 3, 2, 0, 0), (88, .iload 7, 2, 0, 0, 0), (90, .iaload, 1, 0, 0, 0), (91, .iload_n 1, 1, 0, 0, 0), (92, .if_icmp .ne 34, 3, 126, 0, 0), (95, .aload_n 0, 1, 0, 0, 0)], [(96, .iload 7, 2, 0, 0, 0), (98, .invokevirtual 185, 3, 111, 2, 0), (101, .ifCond .eq 25, 3, 126, 0, 0), (104, .iload 6, 2, 0, 0, 0), (106, .aload_n 0, 1, 0, 0, 0), (107, .getfield 39, 3, 9, 4, 0), (110, .getfield 171, 3, 1, 0, 0)], [(113, .iload 7, 2, 0, 0, 0), (115, .iload 5, 2, 0, 0, 0), (117, .iload 6, 2, 0, 0, 0), (119, .isub, 1, 0, 0, 0), (120, .invokevirtual 188, 3, 26, 3, 0), (123, .iadd, 1, 0, 0, 0), (124, .istore 6, 2, 0, 0, 0), (126, .iinc 7 1, 3, 0, 0, 0)], [(129, .goto (-66), 3, 63, 0, 0), (132, .iload 6, 2, 0, 0, 0), (134, .ireturn, 1, 0, 0, 0)]]
def qc91 : List (List qI) := [[(0, .aload_n 0, 1, 0, 0, 0), (1, .iload_n 1, 1, 0, 0, 0), (2, .invokevirtual 191, 3, 107, 2, 0), (5, .ifCond .eq 5, 3, 10, 0, 0), (8, .iconst (-1), 1, 0, 0, 0), (9, .ireturn, 1, 0, 0, 0), (10, .aload_n 0, 1, 0, 0, 0), (11, .getfield 39, 3, 9, 4, 0), (14, .getfield 171, 3, 1, 0, 0)], [(17, .iload_n 1, 1, 0, 0, 0), (18, .invokevirtual 194, 3, 27, 2, 0), (21, .ifCond .eq 6, 3, 27, 0, 0), (24, .bipush (-2), 2, 0, 0, 0), (26, .ireturn, 1, 0, 0, 0), (27, .aload_n 0, 1, 0, 0, 0), (28, .getfield 39, 3, 9, 4, 0), (31, .getfield 171, 3, 1, 0, 0)], [(34, .iload_n 1, 1, 0, 0, 0), (35, .invokevirtual 197, 3, 28, 2, 0), (38, .ireturn, 1, 0, 0, 0)]]
def qc92 : List (List qI) := [[(0, .aload_n 0, 1, 0, 0, 0), (1, .iload_n 1, 1, 0, 0, 0), (2, .invokevirtual 191, 3, 107, 2, 0), (5, .ifCond .ne 13, 3, 18, 0, 0), (8, .iload_n 2, 1, 0, 0, 0), (9, .iconst 0, 1, 0, 0, 0), (10, .bipush 6, 2, 0, 0, 0), (12, .invokestatic 52, 3, 104, 3, 0), (15, .ifCond .eq 5, 3, 20, 0, 0)], [(18, .iconst (-1), 1, 0, 0, 0), (19, .ireturn, 1, 0, 0, 0), (20, .aload_n 0, 1, 0, 0, 0), (21, .getfield 39, 3, 9, 4, 0), (24, .getfield 171, 3, 1, 0, 0), (27, .iload_n 1, 1, 0, 0, 0), (28, .iload_n 2, 1, 0, 0, 0), (29, .invokevirtual 200, 3, 29, 3, 0)], [(32, .ireturn, 1, 0, 0, 0)]]
def qc93 : List (List qI) := [[(0, .aload_n 0, 1, 0, 0, 0), (1, .iload_n 1, 1, 0, 0, 0), (2, .invokevirtual 191, 3, 107, 2, 0), (5, .ifCond .ne 14, 3, 19, 0, 0), (8, .iload_n 2, 1, 0, 0, 0), (9, .iconst 0, 1, 0, 0, 0), (10, .sipush 200, 3, 0, 0, 0), (13, .invokestatic 52, 3, 104, 3, 0)], [(16, .ifCond .eq 5, 3, 21, 0, 0), (19, .iconst (-1), 1, 0, 0, 0), (20, .ireturn, 1, 0, 0, 0), (21, .aload_n 0, 1, 0, 0, 0), (22, .aload_n 0, 1, 0, 0, 0), (23, .getfield 39, 3, 9, 4, 0), (26, .getfield 171, 3, 1, 0, 0), (29, .getfield 182, 3, 2, 0, 0)], [(32, .iload_n 1, 1, 0, 0, 0), (33, .iaload, 1, 0, 0, 0), (34, .iload_n 2, 1, 0, 0, 0), (35, .invokevirtual 142, 3, 109, 103, 0), (38, .aload_n 0, 1, 0, 0, 0), (39, .getfield 39, 3, 9, 4, 0), (42, .getfield 171, 3, 1, 0, 0), (45, .getfield 202, 3, 2, 1, 0)], [(48, .iload_n 1, 1, 0, 0, 0), (49, .iaload, 1, 0, 0, 0), (50, .istore_n 3, 1, 0, 0, 0), (51, .iload_n 3, 1, 0, 0, 0), (52, .aload_n 0, 1, 0, 0, 0), (53, .getfield 26, 3, 9, 2, 0), (56, .invokevirtual 205, 3, 11, 1, 0), (59, .if_icmp .le 5, 3, 64, 0, 0), (62, .iconst 2, 1, 0, 0, 0), (63, .ireturn, 1, 0, 0, 0)], [(64, .iload_n 3, 1, 0, 0, 0), (65, .aload_n 0, 1, 0, 0, 0), (66, .getfield 26, 3, 9, 2, 0), (69, .invokevirtual 208, 3, 10, 1, 0), (72, .if_icmp .le 7, 3, 79, 0, 0), (75, .iconst 1, 1, 0, 0, 0), (76, .goto 4, 3, 80, 0, 0), (79, .iconst 0, 1, 0, 0, 0)], [(80, .ireturn, 1, 0, 0, 0)]]
def qc94 : List (List qI) := [[(0, .iload_n 1, 1, 0, 0, 0), (1, .invokestatic 95, 3, 105, 1, 0), (4, .ifCond .ne 22, 3, 26, 0, 0), (7, .iload_n 2, 1, 0, 0, 0), (8, .iconst 0, 1, 0, 0, 0), (9, .iconst 1, 1, 0, 0, 0), (10, .invokestatic 52, 3, 104, 3, 0), (13, .ifCond .ne 13, 3, 26, 0, 0)], [(16, .iload_n 3, 1, 0, 0, 0), (17, .iconst 0, 1, 0, 0, 0), (18, .bipush 99, 2, 0, 0, 0), (20, .invokestatic 52, 3, 104, 3, 0), (23, .ifCond .eq 5, 3, 28, 0, 0), (26, .iconst (-1), 1, 0, 0, 0), (27, .ireturn, 1, 0, 0, 0), (28, .iload_n 2, 1, 0, 0, 0), (29, .ifCond .ne 15, 3, 44, 0, 0)], [(32, .aload_n 0, 1, 0, 0, 0), (33, .getfield 32, 3, 9, 3, 0), (36, .iload_n 1, 1, 0, 0, 0), (37, .aaload, 1, 0, 0, 0), (38, .getfield 211, 3, 5, 8, 0), (41, .goto 12, 3, 53, 0, 0), (44, .aload_n 0, 1, 0, 0, 0), (45, .getfield 32, 3, 9, 3, 0)], [(48, .iload_n 1, 1, 0, 0, 0), (49, .aaload, 1, 0, 0, 0), (50, .getfield 214, 3, 5, 9, 0), (53, .astore 4, 2, 0, 0, 0), (55, .aload 4, 2, 0, 0, 0), (57, .aload_n 0, 1, 0, 0, 0), (58, .getfield 39, 3, 9, 4, 0), (61, .getfield 112, 3, 1, 3, 0)], [(64, .iaload, 1, 0, 0, 0), (65, .istore 5, 2, 0, 0, 0), (67, .aload_n 0, 1, 0, 0, 0), (68, .getfield 39, 3, 9, 4, 0), (71, .getfield 112, 3, 1, 3, 0), (74, .istore 6, 2, 0, 0, 0), (76, .iload 6, 2, 0, 0, 0), (78, .sipush 200, 3, 0, 0, 0)], [(81, .if_icmp .gt 15, 3, 96, 0, 0), (84, .aload 4, 2, 0, 0, 0), (86, .iload 6, 2, 0, 0, 0), (88, .iload_n 3, 1, 0, 0, 0), (89, .iastore, 1, 0, 0, 0), (90, .iinc 6 1, 3, 0, 0, 0), (93, .goto (-17), 3, 76, 0, 0)], [(96, .iload 5, 2, 0, 0, 0), (98, .ireturn, 1, 0, 0, 0)]]
def qc95 : List (List qI) := [[(0, .aload_n 0, 1, 0, 0, 0), (1, .iload_n 1, 1, 0, 0, 0), (2, .invokevirtual 191, 3, 107, 2, 0), (5, .ifCond .eq 5, 3, 10, 0, 0), (8, .iconst (-1), 1, 0, 0, 0), (9, .ireturn, 1, 0, 0, 0), (10, .aload_n 0, 1, 0, 0, 0), (11, .getfield 32, 3, 9, 3, 0), (14, .aload_n 0, 1, 0, 0, 0), (15, .getfield 39, 3, 9, 4, 0)], [(18, .getfield 171, 3, 1, 0, 0), (21, .getfield 182, 3, 2, 0, 0), (24, .iload_n 1, 1, 0, 0, 0), (25, .iaload, 1, 0, 0, 0), (26, .aaload, 1, 0, 0, 0), (27, .getfield 214, 3, 5, 9, 0), (30, .aload_n 0, 1, 0, 0, 0), (31, .getfield 39, 3, 9, 4, 0)], [(34, .getfield 112, 3, 1, 3, 0), (37, .iaload, 1, 0, 0, 0), (38, .istore_n 2, 1, 0, 0, 0), (39, .aload_n 0, 1, 0, 0, 0), (40, .getfield 39, 3, 9, 4, 0), (43, .getfield 217, 3, 1, 1, 0), (46, .iload_n 1, 1, 0, 0, 0), (47, .aload_n 0, 1, 0, 0, 0)], [(48, .getfield 39, 3, 9, 4, 0), (51, .getfield 112, 3, 1, 3, 0), (54, .iload_n 2, 1, 0, 0, 0), (55, .invokevirtual 221, 3, 35, 4, 0), (58, .ireturn, 1, 0, 0, 0)]]
def qc96 : List (List qI) := [[(0, .iload_n 1, 1, 0, 0, 0), (1, .iconst 0, 1, 0, 0, 0), (2, .aload_n 0, 1, 0, 0, 0), (3, .getfield 39, 3, 9, 4, 0), (6, .getfield 217, 3, 1, 1, 0), (9, .getfield 224, 3, 3, 3, 0), (12, .iconst 1, 1, 0, 0, 0), (13, .isub, 1, 0, 0, 0), (14, .invokestatic 52, 3, 104, 3, 0)], [(17, .ifCond .ne 12, 3, 29, 0, 0), (20, .iload_n 2, 1, 0, 0, 0), (21, .iconst 0, 1, 0, 0, 0), (22, .iconst 3, 1, 0, 0, 0), (23, .invokestatic 52, 3, 104, 3, 0), (26, .ifCond .eq 5, 3, 31, 0, 0), (29, .iconst (-1), 1, 0, 0, 0), (30, .ireturn, 1, 0, 0, 0), (31, .iload_n 2, 1, 0, 0, 0)], [(32, .tableswitch 67 0 2 #[28, 41, 54], 28, 0, 0, 0)], [(60, .aload_n 0, 1, 0, 0, 0), (61, .getfield 39, 3, 9, 4, 0)], [(64, .getfield 217, 3, 1, 1, 0), (67, .getfield 225, 3, 3, 0, 0), (70, .iload_n 1, 1, 0, 0, 0), (71, .iaload, 1, 0, 0, 0), (72, .ireturn, 1, 0, 0, 0), (73, .aload_n 0, 1, 0, 0, 0), (74, .getfield 39, 3, 9, 4, 0), (77, .getfield 217, 3, 1, 1, 0)], [(80, .getfield 228, 3, 3, 1, 0), (83, .iload_n 1, 1, 0, 0, 0), (84, .iaload, 1, 0, 0, 0), (85, .ireturn, 1, 0, 0, 0), (86, .aload_n 0, 1, 0, 0, 0), (87, .getfield 39, 3, 9, 4, 0), (90, .getfield 217, 3, 1, 1, 0), (93, .getfield 231, 3, 3, 2, 0)], [(96, .iload_n 1, 1, 0, 0, 0), (97, .iaload, 1, 0, 0, 0), (98, .ireturn, 1, 0, 0, 0), (99, .aload_n 0, 1, 0, 0, 0), (100, .iload_n 1, 1, 0, 0, 0), (101, .invokevirtual 234, 3, 110, 2, 0), (104, .ireturn, 1, 0, 0, 0)]]
def qc97 : List (List qI) := [[(0, .iload_n 1, 1, 0, 0, 0), (1, .invokestatic 95, 3, 105, 1, 0), (4, .ifCond .ne 13, 3, 17, 0, 0), (7, .iload_n 2, 1, 0, 0, 0), (8, .iconst 1, 1, 0, 0, 0), (9, .bipush 60, 2, 0, 0, 0), (11, .invokestatic 52, 3, 104, 3, 0), (14, .ifCond .eq 5, 3, 19, 0, 0)], [(17, .iconst (-1), 1, 0, 0, 0), (18, .ireturn, 1, 0, 0, 0), (19, .aload_n 0, 1, 0, 0, 0), (20, .getfield 39, 3, 9, 4, 0), (23, .getfield 237, 3, 1, 2, 0), (26, .iload_n 2, 1, 0, 0, 0), (27, .invokevirtual 241, 3, 38, 2, 0), (30, .ifCond .ne 6, 3, 36, 0, 0)], [(33, .bipush (-3), 2, 0, 0, 0), (35, .ireturn, 1, 0, 0, 0), (36, .aload_n 0, 1, 0, 0, 0), (37, .getfield 39, 3, 9, 4, 0), (40, .getfield 237, 3, 1, 2, 0), (43, .invokevirtual 245, 3, 39, 1, 0), (46, .ireturn, 1, 0, 0, 0)]]
def qc98 : List (List qI) := [[(0, .aload_n 0, 1, 0, 0, 0), (1, .getfield 39, 3, 9, 4, 0), (4, .getfield 112, 3, 1, 3, 0), (7, .sipush 200, 3, 0, 0, 0), (10, .if_icmp .lt 6, 3, 16, 0, 0), (13, .bipush (-2), 2, 0, 0, 0), (15, .ireturn, 1, 0, 0, 0)], [(16, .aload_n 0, 1, 0, 0, 0), (17, .getfield 39, 3, 9, 4, 0), (20, .dup, 1, 0, 0, 0), (21, .getfield 112, 3, 1, 3, 0), (24, .iconst 1, 1, 0, 0, 0), (25, .iadd, 1, 0, 0, 0), (26, .putfield 112, 3, 1, 3, 0), (29, .aload_n 0, 1, 0, 0, 0), (30, .getfield 39, 3, 9, 4, 0)], [(33, .getfield 237, 3, 1, 2, 0), (36, .invokevirtual 248, 3, 40, 1, 0), (39, .ireturn, 1, 0, 0, 0)]]
def qc99 : List (List qI) := [[(0, .iload_n 1, 1, 0, 0, 0), (1, .iconst 0, 1, 0, 0, 0), (2, .bipush 7, 2, 0, 0, 0), (4, .invokestatic 52, 3, 104, 3, 0), (7, .ifCond .ne 17, 3, 24, 0, 0), (10, .iload_n 2, 1, 0, 0, 0), (11, .invokestatic 95, 3, 105, 1, 0), (14, .ifCond .ne 10, 3, 24, 0, 0)], [(17, .iload_n 3, 1, 0, 0, 0), (18, .invokestatic 99, 3, 106, 1, 0), (21, .ifCond .eq 5, 3, 26, 0, 0), (24, .iconst (-1), 1, 0, 0, 0), (25, .ireturn, 1, 0, 0, 0), (26, .aload_n 0, 1, 0, 0, 0), (27, .iload_n 2, 1, 0, 0, 0), (28, .aload_n 0, 1, 0, 0, 0), (29, .getfield 39, 3, 9, 4, 0)], [(32, .getfield 112, 3, 1, 3, 0), (35, .invokevirtual 119, 3, 108, 103, 0), (38, .aload_n 0, 1, 0, 0, 0), (39, .iload_n 1, 1, 0, 0, 0), (40, .aload_n 0, 1, 0, 0, 0), (41, .getfield 32, 3, 9, 3, 0), (44, .iload_n 2, 1, 0, 0, 0), (45, .aaload, 1, 0, 0, 0), (46, .iload_n 3, 1, 0, 0, 0), (47, .invokevirtual 251, 3, 112, 4, 0)], [(50, .ireturn, 1, 0, 0, 0)]]
def qc100 : List (List qI) := [[(0, .iload_n 1, 1, 0, 0, 0), (1, .iconst 0, 1, 0, 0, 0), (2, .iconst 1, 1, 0, 0, 0), (3, .invokestatic 52, 3, 104, 3, 0), (6, .ifCond .eq 5, 3, 11, 0, 0), (9, .iconst (-1), 1, 0, 0, 0), (10, .ireturn, 1, 0, 0, 0), (11, .aload_n 0, 1, 0, 0, 0), (12, .getfield 43, 3, 9, 5, 0), (15, .iload_n 1, 1, 0, 0, 0)], [(16, .aaload, 1, 0, 0, 0), (17, .aload_n 0, 1, 0, 0, 0), (18, .getfield 39, 3, 9, 4, 0), (21, .invokevirtual 255, 3, 23, 102, 0), (24, .aload_n 0, 1, 0, 0, 0), (25, .getfield 43, 3, 9, 5, 0), (28, .iload_n 1, 1, 0, 0, 0), (29, .aaload, 1, 0, 0, 0), (30, .iconst 1, 1, 0, 0, 0), (31, .putfield 258, 3, 1, 4, 0)], [(34, .aload_n 0, 1, 0, 0, 0), (35, .getfield 39, 3, 9, 4, 0), (38, .getfield 112, 3, 1, 3, 0), (41, .ireturn, 1, 0, 0, 0)]]
def qc101 : List (List qI) := [[(0, .iload_n 1, 1, 0, 0, 0), (1, .iconst 0, 1, 0, 0, 0), (2, .iconst 1, 1, 0, 0, 0), (3, .invokestatic 52, 3, 104, 3, 0), (6, .ifCond .eq 5, 3, 11, 0, 0), (9, .iconst (-1), 1, 0, 0, 0), (10, .ireturn, 1, 0, 0, 0), (11, .aload_n 0, 1, 0, 0, 0), (12, .getfield 43, 3, 9, 5, 0), (15, .iload_n 1, 1, 0, 0, 0)], [(16, .aaload, 1, 0, 0, 0), (17, .getfield 258, 3, 1, 4, 0), (20, .ifCond .ne 6, 3, 26, 0, 0), (23, .bipush (-2), 2, 0, 0, 0), (25, .ireturn, 1, 0, 0, 0), (26, .aload_n 0, 1, 0, 0, 0), (27, .getfield 39, 3, 9, 4, 0), (30, .aload_n 0, 1, 0, 0, 0), (31, .getfield 43, 3, 9, 5, 0)], [(34, .iload_n 1, 1, 0, 0, 0), (35, .aaload, 1, 0, 0, 0), (36, .invokevirtual 255, 3, 23, 102, 0), (39, .aload_n 0, 1, 0, 0, 0), (40, .getfield 39, 3, 9, 4, 0), (43, .getfield 112, 3, 1, 3, 0), (46, .ireturn, 1, 0, 0, 0)]]
def qc102 : List (List qI) := [[(0, .iload_n 1, 1, 0, 0, 0), (1, .tableswitch 159 0 10 #[59, 67, 72, 77, 88, 99, 110, 118, 126, 137, 148], 59, 0, 0, 0)], [], [], [(60, .aload_n 0, 1, 0, 0, 0), (61, .getfield 19, 3, 9, 1, 0)], [(64, .getfield 84, 3, 6, 5, 0), (67, .ireturn, 1, 0, 0, 0), (68, .aload_n 0, 1, 0, 0, 0), (69, .invokevirtual 262, 3, 113, 1, 0), (72, .ireturn, 1, 0, 0, 0), (73, .aload_n 0, 1, 0, 0, 0), (74, .invokevirtual 265, 3, 114, 1, 0), (77, .ireturn, 1, 0, 0, 0), (78, .aload_n 0, 1, 0, 0, 0), (79, .getfield 39, 3, 9, 4, 0)], [(82, .getfield 171, 3, 1, 0, 0), (85, .getfield 181, 3, 2, 7, 0), (88, .ireturn, 1, 0, 0, 0), (89, .aload_n 0, 1, 0, 0, 0), (90, .getfield 39, 3, 9, 4, 0), (93, .getfield 217, 3, 1, 1, 0)], [(96, .getfield 224, 3, 3, 3, 0), (99, .ireturn, 1, 0, 0, 0), (100, .aload_n 0, 1, 0, 0, 0), (101, .getfield 39, 3, 9, 4, 0), (104, .getfield 237, 3, 1, 2, 0), (107, .getfield 268, 3, 4, 1, 0), (110, .ireturn, 1, 0, 0, 0), (111, .aload_n 0, 1, 0, 0, 0)], [(112, .getfield 39, 3, 9, 4, 0), (115, .getfield 112, 3, 1, 3, 0), (118, .ireturn, 1, 0, 0, 0), (119, .aload_n 0, 1, 0, 0, 0), (120, .getfield 12, 3, 9, 0, 0), (123, .getfield 56, 3, 7, 2, 0), (126, .ireturn, 1, 0, 0, 0), (127, .aload_n 0, 1, 0, 0, 0)], [(128, .getfield 39, 3, 9, 4, 0), (131, .getfield 171, 3, 1, 0, 0), (134, .invokevirtual 269, 3, 30, 1, 0), (137, .ireturn, 1, 0, 0, 0), (138, .aload_n 0, 1, 0, 0, 0), (139, .getfield 39, 3, 9, 4, 0), (142, .getfield 171, 3, 1, 0, 0)], [(145, .invokevirtual 272, 3, 31, 1, 0), (148, .ireturn, 1, 0, 0, 0), (149, .aload_n 0, 1, 0, 0, 0), (150, .getfield 39, 3, 9, 4, 0), (153, .getfield 171, 3, 1, 0, 0), (156, .invokevirtual 275, 3, 32, 1, 0), (159, .ireturn, 1, 0, 0, 0)], [(160, .iconst (-1), 1, 0, 0, 0), (161, .ireturn, 1, 0, 0, 0)]]
def qc103 : List (List qI) := [[(0, .aload_n 0, 1, 0, 0, 0), (1, .getfield 47, 3, 9, 6, 0), (4, .lreturn, 1, 0, 0, 0)]]
def qc104 : List (List qI) := [[(0, .iload_n 0, 1, 0, 0, 0), (1, .iload_n 1, 1, 0, 0, 0), (2, .if_icmp .lt 8, 3, 10, 0, 0), (5, .iload_n 0, 1, 0, 0, 0), (6, .iload_n 2, 1, 0, 0, 0), (7, .if_icmp .le 7, 3, 14, 0, 0), (10, .iconst 1, 1, 0, 0, 0), (11, .goto 4, 3, 15, 0, 0), (14, .iconst 0, 1, 0, 0, 0), (15, .ireturn, 1, 0, 0, 0)]]
def qc105 : List (List qI) := [[(0, .iload_n 0, 1, 0, 0, 0), (1, .iconst 0, 1, 0, 0, 0), (2, .iconst 5, 1, 0, 0, 0), (3, .invokestatic 52, 3, 104, 3, 0), (6, .ireturn, 1, 0, 0, 0)]]
def qc106 : List (List qI) := [[(0, .iload_n 0, 1, 0, 0, 0), (1, .iconst 0, 1, 0, 0, 0), (2, .bipush 9, 2, 0, 0, 0), (4, .invokestatic 52, 3, 104, 3, 0), (7, .ireturn, 1, 0, 0, 0)]]
def qc107 : List (List qI) := [[(0, .iload_n 1, 1, 0, 0, 0), (1, .iconst 0, 1, 0, 0, 0), (2, .aload_n 0, 1, 0, 0, 0), (3, .getfield 39, 3, 9, 4, 0), (6, .getfield 171, 3, 1, 0, 0), (9, .getfield 181, 3, 2, 7, 0), (12, .iconst 1, 1, 0, 0, 0), (13, .isub, 1, 0, 0, 0), (14, .invokestatic 52, 3, 104, 3, 0)], [(17, .ireturn, 1, 0, 0, 0)]]
def qc108 : List (List qI) := [[(0, .aload_n 0, 1, 0, 0, 0), (1, .getfield 26, 3, 9, 2, 0), (4, .getfield 75, 3, 0, 0, 0), (7, .aload_n 0, 1, 0, 0, 0), (8, .getfield 19, 3, 9, 1, 0), (11, .aload_n 0, 1, 0, 0, 0), (12, .getfield 19, 3, 9, 1, 0), (15, .iload_n 2, 1, 0, 0, 0)], [(16, .invokevirtual 87, 3, 48, 2, 0), (19, .invokevirtual 278, 3, 64, 103, 0), (22, .aload_n 0, 1, 0, 0, 0), (23, .getfield 26, 3, 9, 2, 0), (26, .aload_n 0, 1, 0, 0, 0), (27, .getfield 32, 3, 9, 3, 0), (30, .iload_n 1, 1, 0, 0, 0), (31, .aaload, 1, 0, 0, 0)], [(32, .iload_n 2, 1, 0, 0, 0), (33, .invokevirtual 282, 3, 1, 103, 0), (36, .return_, 1, 0, 0, 0)]]
def qc109 : List (List qI) := [[(0, .aload_n 0, 1, 0, 0, 0), (1, .iload_n 1, 1, 0, 0, 0), (2, .iload_n 2, 1, 0, 0, 0), (3, .invokevirtual 119, 3, 108, 103, 0), (6, .aload_n 0, 1, 0, 0, 0), (7, .getfield 26, 3, 9, 2, 0), (10, .getfield 75, 3, 0, 0, 0), (13, .aload_n 0, 1, 0, 0, 0), (14, .getfield 26, 3, 9, 2, 0)], [(17, .invokevirtual 286, 3, 8, 1, 0), (20, .invokevirtual 289, 3, 66, 102, 0), (23, .return_, 1, 0, 0, 0)]]
def qc110 : List (List qI) := [[(0, .aload_n 0, 1, 0, 0, 0), (1, .getfield 39, 3, 9, 4, 0), (4, .getfield 217, 3, 1, 1, 0), (7, .getfield 228, 3, 3, 1, 0), (10, .iload_n 1, 1, 0, 0, 0), (11, .iaload, 1, 0, 0, 0), (12, .iconst 2, 1, 0, 0, 0), (13, .iadd, 1, 0, 0, 0), (14, .istore_n 2, 1, 0, 0, 0), (15, .iload_n 2, 1, 0, 0, 0)], [(16, .aload_n 0, 1, 0, 0, 0), (17, .getfield 39, 3, 9, 4, 0), (20, .getfield 112, 3, 1, 3, 0), (23, .if_icmp .gt 10, 3, 33, 0, 0), (26, .iload_n 2, 1, 0, 0, 0), (27, .sipush 200, 3, 0, 0, 0), (30, .if_icmp .le 5, 3, 35, 0, 0)], [(33, .iconst 0, 1, 0, 0, 0), (34, .ireturn, 1, 0, 0, 0), (35, .aload_n 0, 1, 0, 0, 0), (36, .getfield 39, 3, 9, 4, 0), (39, .getfield 171, 3, 1, 0, 0), (42, .getfield 182, 3, 2, 0, 0), (45, .aload_n 0, 1, 0, 0, 0), (46, .getfield 39, 3, 9, 4, 0)], [(49, .getfield 217, 3, 1, 1, 0), (52, .getfield 225, 3, 3, 0, 0), (55, .iload_n 1, 1, 0, 0, 0), (56, .iaload, 1, 0, 0, 0), (57, .iaload, 1, 0, 0, 0), (58, .istore_n 3, 1, 0, 0, 0), (59, .aload_n 0, 1, 0, 0, 0), (60, .getfield 32, 3, 9, 3, 0), (63, .iload_n 3, 1, 0, 0, 0)], [(64, .aaload, 1, 0, 0, 0), (65, .getfield 211, 3, 5, 8, 0), (68, .iload_n 2, 1, 0, 0, 0), (69, .iaload, 1, 0, 0, 0), (70, .aload_n 0, 1, 0, 0, 0), (71, .getfield 39, 3, 9, 4, 0), (74, .getfield 217, 3, 1, 1, 0), (77, .getfield 231, 3, 3, 2, 0)], [(80, .iload_n 1, 1, 0, 0, 0), (81, .iaload, 1, 0, 0, 0), (82, .if_icmp .ne 7, 3, 89, 0, 0), (85, .iconst 1, 1, 0, 0, 0), (86, .goto 4, 3, 90, 0, 0), (89, .iconst 2, 1, 0, 0, 0), (90, .ireturn, 1, 0, 0, 0)]]
def qc111 : List (List qI) := [[(0, .iconst 0, 1, 0, 0, 0), (1, .istore_n 2, 1, 0, 0, 0), (2, .iload_n 2, 1, 0, 0, 0), (3, .aload_n 0, 1, 0, 0, 0), (4, .getfield 39, 3, 9, 4, 0), (7, .getfield 217, 3, 1, 1, 0), (10, .getfield 224, 3, 3, 3, 0), (13, .if_icmp .ge 73, 3, 86, 0, 0)], [(16, .aload_n 0, 1, 0, 0, 0), (17, .getfield 39, 3, 9, 4, 0), (20, .getfield 217, 3, 1, 1, 0), (23, .getfield 228, 3, 3, 1, 0), (26, .iload_n 2, 1, 0, 0, 0), (27, .iaload, 1, 0, 0, 0), (28, .iconst 2, 1, 0, 0, 0), (29, .iadd, 1, 0, 0, 0), (30, .bipush 7, 2, 0, 0, 0)], [(32, .iadd, 1, 0, 0, 0), (33, .aload_n 0, 1, 0, 0, 0), (34, .getfield 39, 3, 9, 4, 0), (37, .getfield 112, 3, 1, 3, 0), (40, .if_icmp .gt 7, 3, 47, 0, 0), (43, .iconst 1, 1, 0, 0, 0), (44, .goto 4, 3, 48, 0, 0), (47, .iconst 0, 1, 0, 0, 0)], [(48, .istore_n 3, 1, 0, 0, 0), (49, .aload_n 0, 1, 0, 0, 0), (50, .getfield 39, 3, 9, 4, 0), (53, .getfield 217, 3, 1, 1, 0), (56, .getfield 225, 3, 3, 0, 0), (59, .iload_n 2, 1, 0, 0, 0), (60, .iaload, 1, 0, 0, 0), (61, .iload_n 1, 1, 0, 0, 0), (62, .if_icmp .ne 18, 3, 80, 0, 0)], [(65, .iload_n 3, 1, 0, 0, 0), (66, .ifCond .eq 14, 3, 80, 0, 0), (69, .aload_n 0, 1, 0, 0, 0), (70, .iload_n 2, 1, 0, 0, 0), (71, .invokevirtual 234, 3, 110, 2, 0), (74, .iconst 1, 1, 0, 0, 0), (75, .if_icmp .ne 5, 3, 80, 0, 0), (78, .iconst 1, 1, 0, 0, 0), (79, .ireturn, 1, 0, 0, 0)], [(80, .iinc 2 1, 3, 0, 0, 0), (83, .goto (-81), 3, 2, 0, 0), (86, .iconst 0, 1, 0, 0, 0), (87, .ireturn, 1, 0, 0, 0)]]
def qc112 : List (List qI) := [[(0, .aload_n 0, 1, 0, 0, 0), (1, .dup, 1, 0, 0, 0), (2, .getfield 47, 3, 9, 6, 0), (5, .getstatic 293, 3, 1, 0, 0), (8, .iload_n 1, 1, 0, 0, 0), (9, .iaload, 1, 0, 0, 0), (10, .i2l, 1, 0, 0, 0), (11, .ladd, 1, 0, 0, 0), (12, .putfield 47, 3, 9, 6, 0), (15, .getstatic 296, 3, 0, 0, 0)], [(18, .iload_n 1, 1, 0, 0, 0), (19, .iaload, 1, 0, 0, 0), (20, .istore 4, 2, 0, 0, 0), (22, .iload 4, 2, 0, 0, 0), (24, .ifCond .lt 20, 3, 44, 0, 0), (27, .iload 4, 2, 0, 0, 0), (29, .iload_n 1, 1, 0, 0, 0), (30, .if_icmp .ge 14, 3, 44, 0, 0)], [(33, .aload_n 0, 1, 0, 0, 0), (34, .iload 4, 2, 0, 0, 0), (36, .aload_n 2, 1, 0, 0, 0), (37, .iload_n 3, 1, 0, 0, 0), (38, .invokevirtual 251, 3, 112, 4, 0), (41, .goto 4, 3, 45, 0, 0), (44, .iconst 0, 1, 0, 0, 0), (45, .istore 5, 2, 0, 0, 0), (47, .iload_n 1, 1, 0, 0, 0)], [(48, .tableswitch 120 0 6 #[44, 46, 56, 71, 76, 89, 94], 44, 0, 0, 0)], [], [(92, .iconst 1, 1, 0, 0, 0), (93, .ireturn, 1, 0, 0, 0), (94, .iload 5, 2, 0, 0, 0)], [(96, .aload_n 2, 1, 0, 0, 0), (97, .getfield 102, 3, 5, 0, 0), (100, .iload_n 3, 1, 0, 0, 0), (101, .iaload, 1, 0, 0, 0), (102, .iadd, 1, 0, 0, 0), (103, .ireturn, 1, 0, 0, 0), (104, .iload 5, 2, 0, 0, 0), (106, .iconst 2, 1, 0, 0, 0), (107, .aload_n 0, 1, 0, 0, 0), (108, .getfield 26, 3, 9, 2, 0), (111, .aload_n 2, 1, 0, 0, 0)], [(112, .iload_n 3, 1, 0, 0, 0), (113, .invokevirtual 299, 3, 20, 3, 0), (116, .imul, 1, 0, 0, 0), (117, .iadd, 1, 0, 0, 0), (118, .ireturn, 1, 0, 0, 0), (119, .iload 5, 2, 0, 0, 0), (121, .iconst 2, 1, 0, 0, 0), (122, .idiv, 1, 0, 0, 0), (123, .ireturn, 1, 0, 0, 0), (124, .iload 5, 2, 0, 0, 0), (126, .aload_n 0, 1, 0, 0, 0), (127, .getfield 26, 3, 9, 2, 0)], [(130, .aload_n 2, 1, 0, 0, 0), (131, .iload_n 3, 1, 0, 0, 0), (132, .invokevirtual 302, 3, 21, 3, 0), (135, .iadd, 1, 0, 0, 0), (136, .ireturn, 1, 0, 0, 0), (137, .iconst 3, 1, 0, 0, 0), (138, .iload 5, 2, 0, 0, 0), (140, .imul, 1, 0, 0, 0), (141, .ireturn, 1, 0, 0, 0), (142, .aload_n 2, 1, 0, 0, 0), (143, .iload_n 3, 1, 0, 0, 0)], [(144, .aload_n 0, 1, 0, 0, 0), (145, .getfield 39, 3, 9, 4, 0), (148, .getfield 112, 3, 1, 3, 0), (151, .invokevirtual 305, 3, 45, 3, 0), (154, .ifCond .eq 11, 3, 165, 0, 0), (157, .iload 5, 2, 0, 0, 0), (159, .bipush 50, 2, 0, 0, 0)], [(161, .iadd, 1, 0, 0, 0), (162, .goto 5, 3, 167, 0, 0), (165, .iload 5, 2, 0, 0, 0), (167, .ireturn, 1, 0, 0, 0), (168, .iconst 0, 1, 0, 0, 0), (169, .iload 5, 2, 0, 0, 0), (171, .iconst 5, 1, 0, 0, 0), (172, .isub, 1, 0, 0, 0), (173, .invokestatic 309, 3, 1002, 0, 0)], [(176, .ireturn, 1, 0, 0, 0)]]
def qc113 : List (List qI) := [[(0, .iconst 0, 1, 0, 0, 0), (1, .istore_n 1, 1, 0, 0, 0), (2, .iconst 0, 1, 0, 0, 0), (3, .istore_n 2, 1, 0, 0, 0), (4, .iload_n 2, 1, 0, 0, 0), (5, .bipush 6, 2, 0, 0, 0), (7, .if_icmp .ge 21, 3, 28, 0, 0), (10, .iload_n 1, 1, 0, 0, 0), (11, .aload_n 0, 1, 0, 0, 0), (12, .getfield 32, 3, 9, 3, 0), (15, .iload_n 2, 1, 0, 0, 0)], [(16, .aaload, 1, 0, 0, 0), (17, .getfield 314, 3, 5, 10, 0), (20, .iadd, 1, 0, 0, 0), (21, .istore_n 1, 1, 0, 0, 0), (22, .iinc 2 1, 3, 0, 0, 0), (25, .goto (-21), 3, 4, 0, 0), (28, .iload_n 1, 1, 0, 0, 0), (29, .ireturn, 1, 0, 0, 0)]]
def qc114 : List (List qI) := [[(0, .iconst 0, 1, 0, 0, 0), (1, .istore_n 1, 1, 0, 0, 0), (2, .iconst 0, 1, 0, 0, 0), (3, .istore_n 2, 1, 0, 0, 0), (4, .iload_n 2, 1, 0, 0, 0), (5, .bipush 6, 2, 0, 0, 0), (7, .if_icmp .ge 42, 3, 49, 0, 0), (10, .iconst 0, 1, 0, 0, 0), (11, .istore_n 3, 1, 0, 0, 0), (12, .iload_n 3, 1, 0, 0, 0), (13, .bipush 10, 2, 0, 0, 0), (15, .if_icmp .ge 28, 3, 43, 0, 0)], [(18, .aload_n 0, 1, 0, 0, 0), (19, .getfield 32, 3, 9, 3, 0), (22, .iload_n 2, 1, 0, 0, 0), (23, .aaload, 1, 0, 0, 0), (24, .iload_n 3, 1, 0, 0, 0), (25, .sipush 200, 3, 0, 0, 0), (28, .invokevirtual 305, 3, 45, 3, 0), (31, .ifCond .eq 6, 3, 37, 0, 0)], [(34, .iinc 1 1, 3, 0, 0, 0), (37, .iinc 3 1, 3, 0, 0, 0), (40, .goto (-28), 3, 12, 0, 0), (43, .iinc 2 1, 3, 0, 0, 0), (46, .goto (-42), 3, 4, 0, 0)], [(49, .iload_n 1, 1, 0, 0, 0), (50, .ireturn, 1, 0, 0, 0)]]
def qc115 : List (List qI) := [[(0, .aload_n 0, 1, 0, 0, 0), (1, .iconst 0, 1, 0, 0, 0), (2, .aload_n 1, 1, 0, 0, 0), (3, .iconst 0, 1, 0, 0, 0), (4, .aload_n 0, 1, 0, 0, 0), (5, .arraylength, 1, 0, 0, 0), (6, .aload_n 1, 1, 0, 0, 0), (7, .arraylength, 1, 0, 0, 0), (8, .invokestatic 317, 3, 1003, 0, 0), (11, .invokestatic 320, 3, 1001, 0, 0), (14, .return_, 1, 0, 0, 0)]]
def qc116 : List (List qI) := []
def qc117 : List (List qI) := [[(0, .iload_n 0, 1, 0, 0, 0), (1, .iload_n 1, 1, 0, 0, 0), (2, .if_icmp .lt 12, 3, 14, 0, 0), (5, .iload_n 0, 1, 0, 0, 0), (6, .iload_n 2, 1, 0, 0, 0), (7, .if_icmp .gt 7, 3, 14, 0, 0), (10, .iconst 1, 1, 0, 0, 0), (11, .goto 4, 3, 15, 0, 0), (14, .iconst 0, 1, 0, 0, 0), (15, .ireturn, 1, 0, 0, 0)]]
def qc118 : List (List qI) := [[(0, .iload_n 3, 1, 0, 0, 0), (1, .iconst 1, 1, 0, 0, 0), (2, .bipush 8, 2, 0, 0, 0), (4, .invokestatic 130, 3, 117, 3, 0), (7, .ifCond .ne 5, 3, 12, 0, 0), (10, .iconst (-1), 1, 0, 0, 0), (11, .ireturn, 1, 0, 0, 0), (12, .aload_n 0, 1, 0, 0, 0), (13, .getfield 134, 3, 10, 3, 0)], [(16, .iload_n 3, 1, 0, 0, 0), (17, .iadd, 1, 0, 0, 0), (18, .sipush 300, 3, 0, 0, 0), (21, .if_icmp .le 6, 3, 27, 0, 0), (24, .bipush (-3), 2, 0, 0, 0), (26, .ireturn, 1, 0, 0, 0), (27, .iload_n 3, 1, 0, 0, 0), (28, .iconst 1, 1, 0, 0, 0), (29, .isub, 1, 0, 0, 0), (30, .istore 4, 2, 0, 0, 0)], [(32, .iload 4, 2, 0, 0, 0), (34, .ifCond .lt 41, 3, 75, 0, 0), (37, .aload_n 0, 1, 0, 0, 0), (38, .getfield 7, 3, 10, 2, 0), (41, .aload_n 0, 1, 0, 0, 0), (42, .getfield 134, 3, 10, 3, 0), (45, .lload_n 1, 1, 0, 0, 0), (46, .bipush 8, 2, 0, 0, 0)], [(48, .iload 4, 2, 0, 0, 0), (50, .imul, 1, 0, 0, 0), (51, .lshr, 1, 0, 0, 0), (52, .ldc2_w 138, 3, 0, 0, 255), (55, .land, 1, 0, 0, 0), (56, .l2i, 1, 0, 0, 0), (57, .i2b, 1, 0, 0, 0), (58, .bastore, 1, 0, 0, 0), (59, .aload_n 0, 1, 0, 0, 0), (60, .dup, 1, 0, 0, 0), (61, .getfield 134, 3, 10, 3, 0)], [(64, .iconst 1, 1, 0, 0, 0), (65, .iadd, 1, 0, 0, 0), (66, .putfield 134, 3, 10, 3, 0), (69, .iinc 4 (-1), 3, 0, 0, 0), (72, .goto (-40), 3, 32, 0, 0), (75, .aload_n 0, 1, 0, 0, 0), (76, .getfield 134, 3, 10, 3, 0), (79, .ireturn, 1, 0, 0, 0)]]
def qc119 : List (List qI) := [[(0, .aload_n 0, 1, 0, 0, 0), (1, .getfield 134, 3, 10, 3, 0), (4, .istore_n 1, 1, 0, 0, 0), (5, .aload_n 0, 1, 0, 0, 0), (6, .iconst 0, 1, 0, 0, 0), (7, .putfield 134, 3, 10, 3, 0), (10, .iload_n 1, 1, 0, 0, 0), (11, .ireturn, 1, 0, 0, 0)]]
def qc120 : List (List qI) := [[(0, .aload_n 0, 1, 0, 0, 0), (1, .getfield 140, 3, 10, 10, 0), (4, .aload_n 0, 1, 0, 0, 0), (5, .getfield 134, 3, 10, 3, 0), (8, .if_icmp .ge 19, 3, 27, 0, 0), (11, .aload_n 0, 1, 0, 0, 0), (12, .getfield 7, 3, 10, 2, 0), (15, .aload_n 0, 1, 0, 0, 0)], [(16, .getfield 140, 3, 10, 10, 0), (19, .baload, 1, 0, 0, 0), (20, .sipush 255, 3, 0, 0, 0), (23, .iand, 1, 0, 0, 0), (24, .goto 4, 3, 28, 0, 0), (27, .iconst (-1), 1, 0, 0, 0), (28, .ireturn, 1, 0, 0, 0)]]
def qc121 : List (List qI) := [[(0, .lload_n 0, 1, 0, 0, 0), (1, .ldc2_w 143, 3, 0, 0, 27), (4, .lmul, 1, 0, 0, 0), (5, .iload_n 2, 1, 0, 0, 0), (6, .i2l, 1, 0, 0, 0), (7, .ladd, 1, 0, 0, 0), (8, .ldc2_w 145, 3, 0, 0, 97), (11, .lsub, 1, 0, 0, 0), (12, .lconst 1, 1, 0, 0, 0), (13, .ladd, 1, 0, 0, 0), (14, .lreturn, 1, 0, 0, 0)]]
def qc122 : List (List qI) := [[(0, .lconst 0, 1, 0, 0, 0), (1, .iload_n 0, 1, 0, 0, 0), (2, .invokestatic 147, 3, 121, 2, 0), (5, .iload_n 1, 1, 0, 0, 0), (6, .invokestatic 147, 3, 121, 2, 0), (9, .iload_n 2, 1, 0, 0, 0), (10, .invokestatic 147, 3, 121, 2, 0), (13, .iload_n 3, 1, 0, 0, 0), (14, .invokestatic 147, 3, 121, 2, 0)], [(17, .lreturn, 1, 0, 0, 0)]]
def qc123 : List (List qI) := [[(0, .lconst 0, 1, 0, 0, 0), (1, .lstore_n 3, 1, 0, 0, 0), (2, .iload_n 1, 1, 0, 0, 0), (3, .istore 5, 2, 0, 0, 0), (5, .iload 5, 2, 0, 0, 0), (7, .iload_n 2, 1, 0, 0, 0), (8, .if_icmp .ge 29, 3, 37, 0, 0), (11, .iload 5, 2, 0, 0, 0), (13, .iload_n 1, 1, 0, 0, 0), (14, .iconst 5, 1, 0, 0, 0), (15, .iadd, 1, 0, 0, 0)], [(16, .if_icmp .ge 21, 3, 37, 0, 0), (19, .lload_n 3, 1, 0, 0, 0), (20, .aload_n 0, 1, 0, 0, 0), (21, .getfield 7, 3, 10, 2, 0), (24, .iload 5, 2, 0, 0, 0), (26, .baload, 1, 0, 0, 0), (27, .invokestatic 147, 3, 121, 2, 0), (30, .lstore_n 3, 1, 0, 0, 0), (31, .iinc 5 1, 3, 0, 0, 0)], [(34, .goto (-29), 3, 5, 0, 0), (37, .bipush (-9), 2, 0, 0, 0), (39, .istore 5, 2, 0, 0, 0), (41, .lload_n 3, 1, 0, 0, 0), (42, .bipush 102, 2, 0, 0, 0), (44, .bipush 114, 2, 0, 0, 0), (46, .bipush 111, 2, 0, 0, 0)], [(48, .bipush 109, 2, 0, 0, 0), (50, .invokestatic 151, 3, 122, 4, 0), (53, .lcmp, 1, 0, 0, 0), (54, .ifCond .ne 7, 3, 61, 0, 0), (57, .iconst 0, 1, 0, 0, 0), (58, .goto 5, 3, 63, 0, 0), (61, .iload 5, 2, 0, 0, 0), (63, .istore 5, 2, 0, 0, 0)], [(65, .lload_n 3, 1, 0, 0, 0), (66, .bipush 98, 2, 0, 0, 0), (68, .bipush 97, 2, 0, 0, 0), (70, .bipush 115, 2, 0, 0, 0), (72, .bipush 101, 2, 0, 0, 0), (74, .invokestatic 151, 3, 122, 4, 0), (77, .lcmp, 1, 0, 0, 0), (78, .ifCond .ne 7, 3, 85, 0, 0)], [(81, .iconst 1, 1, 0, 0, 0), (82, .goto 5, 3, 87, 0, 0), (85, .iload 5, 2, 0, 0, 0), (87, .istore 5, 2, 0, 0, 0), (89, .lload_n 3, 1, 0, 0, 0), (90, .bipush 102, 2, 0, 0, 0), (92, .bipush 114, 2, 0, 0, 0), (94, .bipush 101, 2, 0, 0, 0)], [(96, .bipush 101, 2, 0, 0, 0), (98, .invokestatic 151, 3, 122, 4, 0), (101, .lcmp, 1, 0, 0, 0), (102, .ifCond .ne 7, 3, 109, 0, 0), (105, .iconst 2, 1, 0, 0, 0), (106, .goto 5, 3, 111, 0, 0), (109, .iload 5, 2, 0, 0, 0), (111, .istore 5, 2, 0, 0, 0)], [(113, .lload_n 3, 1, 0, 0, 0), (114, .bipush 116, 2, 0, 0, 0), (116, .bipush 97, 2, 0, 0, 0), (118, .bipush 107, 2, 0, 0, 0), (120, .bipush 101, 2, 0, 0, 0), (122, .invokestatic 151, 3, 122, 4, 0), (125, .lcmp, 1, 0, 0, 0), (126, .ifCond .ne 7, 3, 133, 0, 0)], [(129, .iconst 3, 1, 0, 0, 0), (130, .goto 5, 3, 135, 0, 0), (133, .iload 5, 2, 0, 0, 0), (135, .istore 5, 2, 0, 0, 0), (137, .iload_n 2, 1, 0, 0, 0), (138, .iload_n 1, 1, 0, 0, 0), (139, .isub, 1, 0, 0, 0), (140, .iconst 4, 1, 0, 0, 0), (141, .if_icmp .ne 8, 3, 149, 0, 0)], [(144, .iload 5, 2, 0, 0, 0), (146, .goto 5, 3, 151, 0, 0), (149, .bipush (-9), 2, 0, 0, 0), (151, .ireturn, 1, 0, 0, 0)]]
def qc124 : List (List qI) := [[(0, .aload_n 0, 1, 0, 0, 0), (1, .invokevirtual 155, 3, 120, 1, 0), (4, .bipush 32, 2, 0, 0, 0), (6, .if_icmp .ne 16, 3, 22, 0, 0), (9, .aload_n 0, 1, 0, 0, 0), (10, .dup, 1, 0, 0, 0), (11, .getfield 140, 3, 10, 10, 0), (14, .iconst 1, 1, 0, 0, 0), (15, .iadd, 1, 0, 0, 0)], [(16, .putfield 140, 3, 10, 10, 0), (19, .goto (-19), 3, 0, 0, 0), (22, .aload_n 0, 1, 0, 0, 0), (23, .aload_n 0, 1, 0, 0, 0), (24, .getfield 140, 3, 10, 10, 0), (27, .putfield 159, 3, 10, 11, 0), (30, .aload_n 0, 1, 0, 0, 0), (31, .iconst 0, 1, 0, 0, 0)], [(32, .putfield 162, 3, 10, 13, 0), (35, .aload_n 0, 1, 0, 0, 0), (36, .invokevirtual 155, 3, 120, 1, 0), (39, .istore_n 1, 1, 0, 0, 0), (40, .iload_n 1, 1, 0, 0, 0), (41, .ifCond .ge 11, 3, 52, 0, 0), (44, .aload_n 0, 1, 0, 0, 0), (45, .iconst 0, 1, 0, 0, 0), (46, .putfield 165, 3, 10, 12, 0)], [(49, .goto 229, 3, 278, 0, 0), (52, .iload_n 1, 1, 0, 0, 0), (53, .bipush 97, 2, 0, 0, 0), (55, .bipush 122, 2, 0, 0, 0), (57, .invokestatic 130, 3, 117, 3, 0), (60, .ifCond .eq 67, 3, 127, 0, 0), (63, .aload_n 0, 1, 0, 0, 0)], [(64, .invokevirtual 155, 3, 120, 1, 0), (67, .bipush 97, 2, 0, 0, 0), (69, .bipush 122, 2, 0, 0, 0), (71, .invokestatic 130, 3, 117, 3, 0), (74, .ifCond .eq 16, 3, 90, 0, 0), (77, .aload_n 0, 1, 0, 0, 0), (78, .dup, 1, 0, 0, 0), (79, .getfield 140, 3, 10, 10, 0)], [(82, .iconst 1, 1, 0, 0, 0), (83, .iadd, 1, 0, 0, 0), (84, .putfield 140, 3, 10, 10, 0), (87, .goto (-24), 3, 63, 0, 0), (90, .aload_n 0, 1, 0, 0, 0), (91, .aload_n 0, 1, 0, 0, 0), (92, .aload_n 0, 1, 0, 0, 0), (93, .getfield 159, 3, 10, 11, 0)], [(96, .aload_n 0, 1, 0, 0, 0), (97, .getfield 140, 3, 10, 10, 0), (100, .invokevirtual 168, 3, 123, 3, 0), (103, .putfield 162, 3, 10, 13, 0), (106, .aload_n 0, 1, 0, 0, 0), (107, .aload_n 0, 1, 0, 0, 0), (108, .getfield 162, 3, 10, 13, 0), (111, .bipush (-9), 2, 0, 0, 0)], [(113, .if_icmp .ne 7, 3, 120, 0, 0), (116, .iconst 4, 1, 0, 0, 0), (117, .goto 4, 3, 121, 0, 0), (120, .iconst 1, 1, 0, 0, 0), (121, .putfield 165, 3, 10, 12, 0), (124, .goto 154, 3, 278, 0, 0), (127, .iload_n 1, 1, 0, 0, 0)], [(128, .bipush 48, 2, 0, 0, 0), (130, .bipush 57, 2, 0, 0, 0), (132, .invokestatic 130, 3, 117, 3, 0), (135, .ifCond .eq 107, 3, 242, 0, 0), (138, .aload_n 0, 1, 0, 0, 0), (139, .invokevirtual 155, 3, 120, 1, 0), (142, .bipush 48, 2, 0, 0, 0)], [(144, .bipush 57, 2, 0, 0, 0), (146, .invokestatic 130, 3, 117, 3, 0), (149, .ifCond .eq 52, 3, 201, 0, 0), (152, .aload_n 0, 1, 0, 0, 0), (153, .aload_n 0, 1, 0, 0, 0), (154, .getfield 162, 3, 10, 13, 0), (157, .sipush 999, 3, 0, 0, 0)], [(160, .if_icmp .le 10, 3, 170, 0, 0), (163, .aload_n 0, 1, 0, 0, 0), (164, .getfield 162, 3, 10, 13, 0), (167, .goto 18, 3, 185, 0, 0), (170, .bipush 10, 2, 0, 0, 0), (172, .aload_n 0, 1, 0, 0, 0), (173, .getfield 162, 3, 10, 13, 0)], [(176, .imul, 1, 0, 0, 0), (177, .aload_n 0, 1, 0, 0, 0), (178, .invokevirtual 155, 3, 120, 1, 0), (181, .iadd, 1, 0, 0, 0), (182, .bipush 48, 2, 0, 0, 0), (184, .isub, 1, 0, 0, 0), (185, .putfield 162, 3, 10, 13, 0), (188, .aload_n 0, 1, 0, 0, 0), (189, .dup, 1, 0, 0, 0), (190, .getfield 140, 3, 10, 10, 0)], [(193, .iconst 1, 1, 0, 0, 0), (194, .iadd, 1, 0, 0, 0), (195, .putfield 140, 3, 10, 10, 0), (198, .goto (-60), 3, 138, 0, 0), (201, .aload_n 0, 1, 0, 0, 0), (202, .aload_n 0, 1, 0, 0, 0), (203, .getfield 162, 3, 10, 13, 0), (206, .sipush 999, 3, 0, 0, 0)], [(209, .if_icmp .gt 22, 3, 231, 0, 0), (212, .iload_n 1, 1, 0, 0, 0), (213, .bipush 48, 2, 0, 0, 0), (215, .if_icmp .ne 20, 3, 235, 0, 0), (218, .aload_n 0, 1, 0, 0, 0), (219, .getfield 140, 3, 10, 10, 0), (222, .aload_n 0, 1, 0, 0, 0), (223, .getfield 159, 3, 10, 11, 0)], [(226, .isub, 1, 0, 0, 0), (227, .iconst 1, 1, 0, 0, 0), (228, .if_icmp .le 7, 3, 235, 0, 0), (231, .iconst 4, 1, 0, 0, 0), (232, .goto 4, 3, 236, 0, 0), (235, .iconst 2, 1, 0, 0, 0), (236, .putfield 165, 3, 10, 12, 0), (239, .goto 39, 3, 278, 0, 0)], [(242, .aload_n 0, 1, 0, 0, 0), (243, .dup, 1, 0, 0, 0), (244, .getfield 140, 3, 10, 10, 0), (247, .iconst 1, 1, 0, 0, 0), (248, .iadd, 1, 0, 0, 0), (249, .putfield 140, 3, 10, 10, 0), (252, .aload_n 0, 1, 0, 0, 0), (253, .iload_n 1, 1, 0, 0, 0), (254, .putfield 162, 3, 10, 13, 0)], [(257, .aload_n 0, 1, 0, 0, 0), (258, .iload_n 1, 1, 0, 0, 0), (259, .bipush 47, 2, 0, 0, 0), (261, .if_icmp .eq 9, 3, 270, 0, 0), (264, .iload_n 1, 1, 0, 0, 0), (265, .bipush 59, 2, 0, 0, 0), (267, .if_icmp .ne 7, 3, 274, 0, 0), (270, .iconst 3, 1, 0, 0, 0), (271, .goto 4, 3, 275, 0, 0)], [(274, .iconst 4, 1, 0, 0, 0), (275, .putfield 165, 3, 10, 12, 0), (278, .return_, 1, 0, 0, 0)]]
def qc125 : List (List qI) := [[(0, .aload_n 0, 1, 0, 0, 0), (1, .getfield 162, 3, 10, 13, 0), (4, .istore_n 2, 1, 0, 0, 0), (5, .aload_n 0, 1, 0, 0, 0), (6, .getfield 172, 3, 10, 14, 0), (9, .bipush (-9), 2, 0, 0, 0), (11, .if_icmp .ne 22, 3, 33, 0, 0), (14, .iload_n 1, 1, 0, 0, 0), (15, .ifCond .eq 10, 3, 25, 0, 0)], [(18, .aload_n 0, 1, 0, 0, 0), (19, .invokevirtual 175, 3, 124, 101, 0), (22, .goto 11, 3, 33, 0, 0), (25, .aload_n 0, 1, 0, 0, 0), (26, .aload_n 0, 1, 0, 0, 0), (27, .getfield 159, 3, 10, 11, 0), (30, .putfield 172, 3, 10, 14, 0)], [(33, .iload_n 2, 1, 0, 0, 0), (34, .ireturn, 1, 0, 0, 0)]]
def qc126 : List (List qI) := [[(0, .aload_n 0, 1, 0, 0, 0), (1, .aload_n 0, 1, 0, 0, 0), (2, .getfield 165, 3, 10, 12, 0), (5, .iconst 2, 1, 0, 0, 0), (6, .if_icmp .ne 19, 3, 25, 0, 0), (9, .aload_n 0, 1, 0, 0, 0), (10, .getfield 162, 3, 10, 13, 0), (13, .iload_n 1, 1, 0, 0, 0), (14, .iload_n 2, 1, 0, 0, 0), (15, .invokestatic 130, 3, 117, 3, 0)], [(18, .ifCond .eq 7, 3, 25, 0, 0), (21, .iconst 1, 1, 0, 0, 0), (22, .goto 4, 3, 26, 0, 0), (25, .iconst 0, 1, 0, 0, 0), (26, .invokevirtual 178, 3, 125, 2, 0), (29, .ireturn, 1, 0, 0, 0)]]
def qc127 : List (List qI) := [[(0, .aload_n 0, 1, 0, 0, 0), (1, .aload_n 0, 1, 0, 0, 0), (2, .getfield 165, 3, 10, 12, 0), (5, .iconst 1, 1, 0, 0, 0), (6, .if_icmp .ne 15, 3, 21, 0, 0), (9, .aload_n 0, 1, 0, 0, 0), (10, .getfield 162, 3, 10, 13, 0), (13, .iload_n 1, 1, 0, 0, 0), (14, .if_icmp .ne 7, 3, 21, 0, 0)], [(17, .iconst 1, 1, 0, 0, 0), (18, .goto 4, 3, 22, 0, 0), (21, .iconst 0, 1, 0, 0, 0), (22, .invokevirtual 178, 3, 125, 2, 0), (25, .pop, 1, 0, 0, 0), (26, .return_, 1, 0, 0, 0)]]
def qc128 : List (List qI) := [[(0, .aload_n 0, 1, 0, 0, 0), (1, .aload_n 0, 1, 0, 0, 0), (2, .getfield 165, 3, 10, 12, 0), (5, .iconst 3, 1, 0, 0, 0), (6, .if_icmp .ne 15, 3, 21, 0, 0), (9, .aload_n 0, 1, 0, 0, 0), (10, .getfield 162, 3, 10, 13, 0), (13, .iload_n 1, 1, 0, 0, 0), (14, .if_icmp .ne 7, 3, 21, 0, 0)], [(17, .iconst 1, 1, 0, 0, 0), (18, .goto 4, 3, 22, 0, 0), (21, .iconst 0, 1, 0, 0, 0), (22, .invokevirtual 178, 3, 125, 2, 0), (25, .pop, 1, 0, 0, 0), (26, .return_, 1, 0, 0, 0)]]
def qc129 : List (List qI) := [[(0, .aload_n 0, 1, 0, 0, 0), (1, .iconst 0, 1, 0, 0, 0), (2, .putfield 140, 3, 10, 10, 0), (5, .aload_n 0, 1, 0, 0, 0), (6, .bipush (-9), 2, 0, 0, 0), (8, .putfield 172, 3, 10, 14, 0), (11, .iconst 0, 1, 0, 0, 0), (12, .istore_n 1, 1, 0, 0, 0), (13, .aload_n 0, 1, 0, 0, 0), (14, .invokevirtual 175, 3, 124, 101, 0)], [(17, .aload_n 0, 1, 0, 0, 0), (18, .getfield 172, 3, 10, 14, 0), (21, .bipush (-9), 2, 0, 0, 0), (23, .if_icmp .ne 171, 3, 194, 0, 0), (26, .aload_n 0, 1, 0, 0, 0), (27, .getfield 165, 3, 10, 12, 0), (30, .ifCond .eq 164, 3, 194, 0, 0)], [(33, .bipush 6, 2, 0, 0, 0), (35, .iload_n 1, 1, 0, 0, 0), (36, .iadd, 1, 0, 0, 0), (37, .istore_n 2, 1, 0, 0, 0), (38, .aload_n 0, 1, 0, 0, 0), (39, .iload_n 1, 1, 0, 0, 0), (40, .bipush 6, 2, 0, 0, 0), (42, .if_icmp .ge 22, 3, 64, 0, 0), (45, .aload_n 0, 1, 0, 0, 0), (46, .getfield 165, 3, 10, 12, 0)], [(49, .iconst 1, 1, 0, 0, 0), (50, .if_icmp .ne 14, 3, 64, 0, 0), (53, .aload_n 0, 1, 0, 0, 0), (54, .getfield 162, 3, 10, 13, 0), (57, .ifCond .ne 7, 3, 64, 0, 0), (60, .iconst 1, 1, 0, 0, 0), (61, .goto 4, 3, 65, 0, 0)], [(64, .iconst 0, 1, 0, 0, 0), (65, .invokevirtual 178, 3, 125, 2, 0), (68, .pop, 1, 0, 0, 0), (69, .aload_n 0, 1, 0, 0, 0), (70, .getfield 172, 3, 10, 14, 0), (73, .bipush (-9), 2, 0, 0, 0), (75, .if_icmp .ne 116, 3, 191, 0, 0), (78, .aload_n 0, 1, 0, 0, 0), (79, .getfield 13, 3, 10, 5, 0)], [(82, .iload_n 2, 1, 0, 0, 0), (83, .aload_n 0, 1, 0, 0, 0), (84, .iload_n 1, 1, 0, 0, 0), (85, .ifCond .ne 7, 3, 92, 0, 0), (88, .iconst 0, 1, 0, 0, 0), (89, .goto 13, 3, 102, 0, 0), (92, .aload_n 0, 1, 0, 0, 0), (93, .getfield 13, 3, 10, 5, 0)], [(96, .iload_n 2, 1, 0, 0, 0), (97, .iconst 1, 1, 0, 0, 0), (98, .isub, 1, 0, 0, 0), (99, .iaload, 1, 0, 0, 0), (100, .iconst 1, 1, 0, 0, 0), (101, .iadd, 1, 0, 0, 0), (102, .sipush 200, 3, 0, 0, 0), (105, .invokevirtual 182, 3, 126, 3, 0), (108, .iastore, 1, 0, 0, 0), (109, .aload_n 0, 1, 0, 0, 0), (110, .iconst 1, 1, 0, 0, 0), (111, .invokevirtual 185, 3, 127, 102, 0)], [(114, .aload_n 0, 1, 0, 0, 0), (115, .getfield 17, 3, 10, 6, 0), (118, .iload_n 2, 1, 0, 0, 0), (119, .aload_n 0, 1, 0, 0, 0), (120, .iconst 0, 1, 0, 0, 0), (121, .bipush 99, 2, 0, 0, 0), (123, .invokevirtual 182, 3, 126, 3, 0), (126, .iastore, 1, 0, 0, 0), (127, .aload_n 0, 1, 0, 0, 0)], [(128, .iconst 2, 1, 0, 0, 0), (129, .invokevirtual 185, 3, 127, 102, 0), (132, .aload_n 0, 1, 0, 0, 0), (133, .getfield 20, 3, 10, 7, 0), (136, .iload_n 2, 1, 0, 0, 0), (137, .aload_n 0, 1, 0, 0, 0), (138, .iconst 0, 1, 0, 0, 0), (139, .bipush 99, 2, 0, 0, 0), (141, .invokevirtual 182, 3, 126, 3, 0)], [(144, .iastore, 1, 0, 0, 0), (145, .aload_n 0, 1, 0, 0, 0), (146, .iconst 3, 1, 0, 0, 0), (147, .invokevirtual 185, 3, 127, 102, 0), (150, .aload_n 0, 1, 0, 0, 0), (151, .getfield 23, 3, 10, 8, 0), (154, .iload_n 2, 1, 0, 0, 0), (155, .aload_n 0, 1, 0, 0, 0), (156, .iconst 1, 1, 0, 0, 0), (157, .bipush 20, 2, 0, 0, 0), (159, .invokevirtual 182, 3, 126, 3, 0)], [(162, .iastore, 1, 0, 0, 0), (163, .aload_n 0, 1, 0, 0, 0), (164, .bipush 47, 2, 0, 0, 0), (166, .invokevirtual 189, 3, 128, 102, 0), (169, .aload_n 0, 1, 0, 0, 0), (170, .getfield 26, 3, 10, 9, 0), (173, .iload_n 2, 1, 0, 0, 0), (174, .aload_n 0, 1, 0, 0, 0), (175, .iconst 1, 1, 0, 0, 0)], [(176, .bipush 20, 2, 0, 0, 0), (178, .invokevirtual 182, 3, 126, 3, 0), (181, .iastore, 1, 0, 0, 0), (182, .aload_n 0, 1, 0, 0, 0), (183, .bipush 59, 2, 0, 0, 0), (185, .invokevirtual 189, 3, 128, 102, 0), (188, .iinc 1 1, 3, 0, 0, 0), (191, .goto (-174), 3, 17, 0, 0)], [(194, .aload_n 0, 1, 0, 0, 0), (195, .getfield 172, 3, 10, 14, 0), (198, .bipush (-9), 2, 0, 0, 0), (200, .if_icmp .eq 11, 3, 211, 0, 0), (203, .bipush (-10), 2, 0, 0, 0), (205, .aload_n 0, 1, 0, 0, 0), (206, .getfield 172, 3, 10, 14, 0)], [(209, .isub, 1, 0, 0, 0), (210, .ireturn, 1, 0, 0, 0), (211, .iconst 0, 1, 0, 0, 0), (212, .istore_n 2, 1, 0, 0, 0), (213, .iload_n 2, 1, 0, 0, 0), (214, .bipush 6, 2, 0, 0, 0), (216, .if_icmp .ge 84, 3, 300, 0, 0), (219, .aload_n 0, 1, 0, 0, 0), (220, .getfield 13, 3, 10, 5, 0), (223, .iload_n 2, 1, 0, 0, 0)], [(224, .aload_n 0, 1, 0, 0, 0), (225, .getfield 13, 3, 10, 5, 0), (228, .bipush 6, 2, 0, 0, 0), (230, .iload_n 2, 1, 0, 0, 0), (231, .iadd, 1, 0, 0, 0), (232, .iaload, 1, 0, 0, 0), (233, .iastore, 1, 0, 0, 0), (234, .aload_n 0, 1, 0, 0, 0), (235, .getfield 17, 3, 10, 6, 0), (238, .iload_n 2, 1, 0, 0, 0), (239, .aload_n 0, 1, 0, 0, 0)], [(240, .getfield 17, 3, 10, 6, 0), (243, .bipush 6, 2, 0, 0, 0), (245, .iload_n 2, 1, 0, 0, 0), (246, .iadd, 1, 0, 0, 0), (247, .iaload, 1, 0, 0, 0), (248, .iastore, 1, 0, 0, 0), (249, .aload_n 0, 1, 0, 0, 0), (250, .getfield 20, 3, 10, 7, 0), (253, .iload_n 2, 1, 0, 0, 0), (254, .aload_n 0, 1, 0, 0, 0), (255, .getfield 20, 3, 10, 7, 0)], [(258, .bipush 6, 2, 0, 0, 0), (260, .iload_n 2, 1, 0, 0, 0), (261, .iadd, 1, 0, 0, 0), (262, .iaload, 1, 0, 0, 0), (263, .iastore, 1, 0, 0, 0), (264, .aload_n 0, 1, 0, 0, 0), (265, .getfield 23, 3, 10, 8, 0), (268, .iload_n 2, 1, 0, 0, 0), (269, .aload_n 0, 1, 0, 0, 0), (270, .getfield 23, 3, 10, 8, 0)], [(273, .bipush 6, 2, 0, 0, 0), (275, .iload_n 2, 1, 0, 0, 0), (276, .iadd, 1, 0, 0, 0), (277, .iaload, 1, 0, 0, 0), (278, .iastore, 1, 0, 0, 0), (279, .aload_n 0, 1, 0, 0, 0), (280, .getfield 26, 3, 10, 9, 0), (283, .iload_n 2, 1, 0, 0, 0), (284, .aload_n 0, 1, 0, 0, 0), (285, .getfield 26, 3, 10, 9, 0)], [(288, .bipush 6, 2, 0, 0, 0), (290, .iload_n 2, 1, 0, 0, 0), (291, .iadd, 1, 0, 0, 0), (292, .iaload, 1, 0, 0, 0), (293, .iastore, 1, 0, 0, 0), (294, .iinc 2 1, 3, 0, 0, 0), (297, .goto (-84), 3, 213, 0, 0), (300, .aload_n 0, 1, 0, 0, 0), (301, .iload_n 1, 1, 0, 0, 0), (302, .putfield 192, 3, 10, 4, 0)], [(305, .aload_n 0, 1, 0, 0, 0), (306, .iconst 0, 1, 0, 0, 0), (307, .putfield 134, 3, 10, 3, 0), (310, .iload_n 1, 1, 0, 0, 0), (311, .ireturn, 1, 0, 0, 0)]]
def qc130 : List (List qI) := [[(0, .iload_n 0, 1, 0, 0, 0), (1, .iconst 0, 1, 0, 0, 0), (2, .sipush 200, 3, 0, 0, 0), (5, .invokestatic 130, 3, 117, 3, 0), (8, .ireturn, 1, 0, 0, 0)]]
def qc131 : List (List qI) := [[(0, .bipush (-9), 2, 0, 0, 0), (2, .istore_n 3, 1, 0, 0, 0), (3, .iconst 0, 1, 0, 0, 0), (4, .istore 4, 2, 0, 0, 0), (6, .iload 4, 2, 0, 0, 0), (8, .aload_n 0, 1, 0, 0, 0), (9, .getfield 192, 3, 10, 4, 0), (12, .if_icmp .ge 27, 3, 39, 0, 0), (15, .aload_n 0, 1, 0, 0, 0)], [(16, .getfield 13, 3, 10, 5, 0), (19, .iload 4, 2, 0, 0, 0), (21, .iaload, 1, 0, 0, 0), (22, .iload_n 2, 1, 0, 0, 0), (23, .if_icmp .gt 8, 3, 31, 0, 0), (26, .iload 4, 2, 0, 0, 0), (28, .goto 4, 3, 32, 0, 0), (31, .iload_n 3, 1, 0, 0, 0)], [(32, .istore_n 3, 1, 0, 0, 0), (33, .iinc 4 1, 3, 0, 0, 0), (36, .goto (-30), 3, 6, 0, 0), (39, .iload_n 3, 1, 0, 0, 0), (40, .bipush (-9), 2, 0, 0, 0), (42, .if_icmp .ne 5, 3, 47, 0, 0), (45, .iconst 0, 1, 0, 0, 0), (46, .ireturn, 1, 0, 0, 0), (47, .iload_n 1, 1, 0, 0, 0)], [(48, .aload_n 0, 1, 0, 0, 0), (49, .getfield 20, 3, 10, 7, 0), (52, .iload_n 3, 1, 0, 0, 0), (53, .iaload, 1, 0, 0, 0), (54, .if_icmp .le 14, 3, 68, 0, 0), (57, .iload_n 1, 1, 0, 0, 0), (58, .aload_n 0, 1, 0, 0, 0), (59, .getfield 20, 3, 10, 7, 0), (62, .iload_n 3, 1, 0, 0, 0), (63, .iaload, 1, 0, 0, 0)], [(64, .isub, 1, 0, 0, 0), (65, .goto 4, 3, 69, 0, 0), (68, .iconst 0, 1, 0, 0, 0), (69, .istore 4, 2, 0, 0, 0), (71, .aload_n 0, 1, 0, 0, 0), (72, .getfield 17, 3, 10, 6, 0), (75, .iload_n 3, 1, 0, 0, 0), (76, .iaload, 1, 0, 0, 0), (77, .aload_n 0, 1, 0, 0, 0), (78, .getfield 23, 3, 10, 8, 0)], [(81, .iload_n 3, 1, 0, 0, 0), (82, .iaload, 1, 0, 0, 0), (83, .iload 4, 2, 0, 0, 0), (85, .imul, 1, 0, 0, 0), (86, .aload_n 0, 1, 0, 0, 0), (87, .getfield 26, 3, 10, 9, 0), (90, .iload_n 3, 1, 0, 0, 0), (91, .iaload, 1, 0, 0, 0), (92, .idiv, 1, 0, 0, 0), (93, .isub, 1, 0, 0, 0), (94, .istore 5, 2, 0, 0, 0)], [(96, .iload 5, 2, 0, 0, 0), (98, .ifCond .ge 7, 3, 105, 0, 0), (101, .iconst 0, 1, 0, 0, 0), (102, .goto 5, 3, 107, 0, 0), (105, .iload 5, 2, 0, 0, 0), (107, .ireturn, 1, 0, 0, 0)]]
def qc132 : List (List qI) := [[(0, .iload_n 1, 1, 0, 0, 0), (1, .iconst 0, 1, 0, 0, 0), (2, .bipush 20, 2, 0, 0, 0), (4, .invokestatic 130, 3, 117, 3, 0), (7, .ifCond .eq 19, 3, 26, 0, 0), (10, .iload_n 2, 1, 0, 0, 0), (11, .invokestatic 195, 3, 130, 1, 0), (14, .ifCond .eq 12, 3, 26, 0, 0)], [(17, .aload_n 0, 1, 0, 0, 0), (18, .iload_n 1, 1, 0, 0, 0), (19, .iload_n 2, 1, 0, 0, 0), (20, .invokevirtual 199, 3, 131, 3, 0), (23, .goto 4, 3, 27, 0, 0), (26, .iconst (-1), 1, 0, 0, 0), (27, .ireturn, 1, 0, 0, 0)]]
def qc133 : List (List qI) := [[(0, .iload_n 0, 1, 0, 0, 0), (1, .iconst 0, 1, 0, 0, 0), (2, .iconst 5, 1, 0, 0, 0), (3, .invokestatic 130, 3, 117, 3, 0), (6, .ireturn, 1, 0, 0, 0)]]
def qc134 : List (List qI) := [[(0, .iload_n 0, 1, 0, 0, 0), (1, .iconst 0, 1, 0, 0, 0), (2, .bipush 9, 2, 0, 0, 0), (4, .invokestatic 130, 3, 117, 3, 0), (7, .ireturn, 1, 0, 0, 0)]]
def qc135 : List (List qI) := [[(0, .iload_n 1, 1, 0, 0, 0), (1, .invokestatic 202, 3, 133, 1, 0), (4, .ifCond .eq 30, 3, 34, 0, 0), (7, .iload_n 2, 1, 0, 0, 0), (8, .invokestatic 205, 3, 134, 1, 0), (11, .ifCond .eq 23, 3, 34, 0, 0), (14, .iload_n 3, 1, 0, 0, 0), (15, .iconst 0, 1, 0, 0, 0)], [(16, .iconst 1, 1, 0, 0, 0), (17, .invokestatic 130, 3, 117, 3, 0), (20, .ifCond .eq 14, 3, 34, 0, 0), (23, .iload 4, 2, 0, 0, 0), (25, .iconst 0, 1, 0, 0, 0), (26, .bipush 20, 2, 0, 0, 0), (28, .invokestatic 130, 3, 117, 3, 0), (31, .ifCond .ne 5, 3, 36, 0, 0)], [(34, .iconst (-1), 1, 0, 0, 0), (35, .ireturn, 1, 0, 0, 0), (36, .bipush 10, 2, 0, 0, 0), (38, .iload_n 1, 1, 0, 0, 0), (39, .imul, 1, 0, 0, 0), (40, .iload_n 2, 1, 0, 0, 0), (41, .iadd, 1, 0, 0, 0), (42, .istore 5, 2, 0, 0, 0), (44, .iload_n 3, 1, 0, 0, 0), (45, .ifCond .ne 13, 3, 58, 0, 0)], [(48, .aload_n 0, 1, 0, 0, 0), (49, .getfield 29, 3, 10, 15, 0), (52, .iload 5, 2, 0, 0, 0), (54, .iaload, 1, 0, 0, 0), (55, .goto 10, 3, 65, 0, 0), (58, .aload_n 0, 1, 0, 0, 0), (59, .getfield 32, 3, 10, 16, 0), (62, .iload 5, 2, 0, 0, 0)], [(64, .iaload, 1, 0, 0, 0), (65, .istore 6, 2, 0, 0, 0), (67, .iload_n 3, 1, 0, 0, 0), (68, .ifCond .ne 15, 3, 83, 0, 0), (71, .aload_n 0, 1, 0, 0, 0), (72, .getfield 29, 3, 10, 15, 0), (75, .iload 5, 2, 0, 0, 0), (77, .iload 4, 2, 0, 0, 0), (79, .iastore, 1, 0, 0, 0)], [(80, .goto 12, 3, 92, 0, 0), (83, .aload_n 0, 1, 0, 0, 0), (84, .getfield 32, 3, 10, 16, 0), (87, .iload 5, 2, 0, 0, 0), (89, .iload 4, 2, 0, 0, 0), (91, .iastore, 1, 0, 0, 0), (92, .iload 6, 2, 0, 0, 0), (94, .ireturn, 1, 0, 0, 0)]]
def qc136 : List (List qI) := [[(0, .iconst 3, 1, 0, 0, 0), (1, .iload_n 1, 1, 0, 0, 0), (2, .imul, 1, 0, 0, 0), (3, .istore 4, 2, 0, 0, 0), (5, .iload 4, 2, 0, 0, 0), (7, .iconst 3, 1, 0, 0, 0), (8, .iload_n 1, 1, 0, 0, 0), (9, .imul, 1, 0, 0, 0), (10, .aload_n 0, 1, 0, 0, 0), (11, .getfield 41, 3, 10, 19, 0), (14, .iload_n 1, 1, 0, 0, 0), (15, .iaload, 1, 0, 0, 0)], [(16, .iadd, 1, 0, 0, 0), (17, .if_icmp .ge 44, 3, 61, 0, 0), (20, .aload_n 0, 1, 0, 0, 0), (21, .getfield 53, 3, 10, 23, 0), (24, .iload 4, 2, 0, 0, 0), (26, .iaload, 1, 0, 0, 0), (27, .iload_n 3, 1, 0, 0, 0), (28, .if_icmp .gt 27, 3, 55, 0, 0), (31, .iload_n 2, 1, 0, 0, 0)], [(32, .aload_n 0, 1, 0, 0, 0), (33, .getfield 44, 3, 10, 20, 0), (36, .iload 4, 2, 0, 0, 0), (38, .iaload, 1, 0, 0, 0), (39, .aload_n 0, 1, 0, 0, 0), (40, .getfield 47, 3, 10, 21, 0), (43, .iload 4, 2, 0, 0, 0), (45, .iaload, 1, 0, 0, 0), (46, .invokestatic 130, 3, 117, 3, 0)], [(49, .ifCond .eq 6, 3, 55, 0, 0), (52, .iload 4, 2, 0, 0, 0), (54, .ireturn, 1, 0, 0, 0), (55, .iinc 4 1, 3, 0, 0, 0), (58, .goto (-53), 3, 5, 0, 0), (61, .bipush (-9), 2, 0, 0, 0), (63, .ireturn, 1, 0, 0, 0)]]
def qc137 : List (List qI) := [[(0, .iload_n 1, 1, 0, 0, 0), (1, .invokestatic 202, 3, 133, 1, 0), (4, .ifCond .eq 37, 3, 41, 0, 0), (7, .iload_n 2, 1, 0, 0, 0), (8, .invokestatic 205, 3, 134, 1, 0), (11, .ifCond .eq 30, 3, 41, 0, 0), (14, .iload_n 3, 1, 0, 0, 0), (15, .iload_n 2, 1, 0, 0, 0)], [(16, .bipush 9, 2, 0, 0, 0), (18, .invokestatic 130, 3, 117, 3, 0), (21, .ifCond .eq 20, 3, 41, 0, 0), (24, .iload 4, 2, 0, 0, 0), (26, .iconst 0, 1, 0, 0, 0), (27, .bipush 20, 2, 0, 0, 0), (29, .iload_n 3, 1, 0, 0, 0), (30, .iload_n 2, 1, 0, 0, 0), (31, .isub, 1, 0, 0, 0)], [(32, .iconst 1, 1, 0, 0, 0), (33, .iadd, 1, 0, 0, 0), (34, .imul, 1, 0, 0, 0), (35, .invokestatic 130, 3, 117, 3, 0), (38, .ifCond .ne 5, 3, 43, 0, 0), (41, .iconst (-1), 1, 0, 0, 0), (42, .ireturn, 1, 0, 0, 0), (43, .iload_n 2, 1, 0, 0, 0), (44, .istore 5, 2, 0, 0, 0), (46, .iload 5, 2, 0, 0, 0)], [(48, .iload_n 3, 1, 0, 0, 0), (49, .if_icmp .gt 27, 3, 76, 0, 0), (52, .aload_n 0, 1, 0, 0, 0), (53, .iload_n 1, 1, 0, 0, 0), (54, .iload 5, 2, 0, 0, 0), (56, .sipush 200, 3, 0, 0, 0), (59, .invokevirtual 208, 3, 136, 4, 0), (62, .bipush (-9), 2, 0, 0, 0)], [(64, .if_icmp .eq 6, 3, 70, 0, 0), (67, .bipush (-2), 2, 0, 0, 0), (69, .ireturn, 1, 0, 0, 0), (70, .iinc 5 1, 3, 0, 0, 0), (73, .goto (-27), 3, 46, 0, 0), (76, .aload_n 0, 1, 0, 0, 0), (77, .getfield 41, 3, 10, 19, 0)], [(80, .iload_n 1, 1, 0, 0, 0), (81, .iaload, 1, 0, 0, 0), (82, .iconst 3, 1, 0, 0, 0), (83, .if_icmp .ne 6, 3, 89, 0, 0), (86, .bipush (-3), 2, 0, 0, 0), (88, .ireturn, 1, 0, 0, 0), (89, .iconst 3, 1, 0, 0, 0), (90, .iload_n 1, 1, 0, 0, 0), (91, .imul, 1, 0, 0, 0), (92, .aload_n 0, 1, 0, 0, 0), (93, .getfield 41, 3, 10, 19, 0)], [(96, .iload_n 1, 1, 0, 0, 0), (97, .iaload, 1, 0, 0, 0), (98, .iadd, 1, 0, 0, 0), (99, .istore 5, 2, 0, 0, 0), (101, .aload_n 0, 1, 0, 0, 0), (102, .getfield 44, 3, 10, 20, 0), (105, .iload 5, 2, 0, 0, 0), (107, .iload_n 2, 1, 0, 0, 0), (108, .iastore, 1, 0, 0, 0), (109, .aload_n 0, 1, 0, 0, 0), (110, .getfield 47, 3, 10, 21, 0)], [(113, .iload 5, 2, 0, 0, 0), (115, .iload_n 3, 1, 0, 0, 0), (116, .iastore, 1, 0, 0, 0), (117, .aload_n 0, 1, 0, 0, 0), (118, .getfield 50, 3, 10, 22, 0), (121, .iload 5, 2, 0, 0, 0), (123, .iload 4, 2, 0, 0, 0), (125, .iastore, 1, 0, 0, 0), (126, .aload_n 0, 1, 0, 0, 0), (127, .getfield 53, 3, 10, 23, 0)], [(130, .iload 5, 2, 0, 0, 0), (132, .aload_n 0, 1, 0, 0, 0), (133, .getfield 212, 3, 10, 1, 0), (136, .iastore, 1, 0, 0, 0), (137, .aload_n 0, 1, 0, 0, 0), (138, .getfield 41, 3, 10, 19, 0), (141, .iload_n 1, 1, 0, 0, 0), (142, .dup2, 1, 0, 0, 0), (143, .iaload, 1, 0, 0, 0)], [(144, .iconst 1, 1, 0, 0, 0), (145, .iadd, 1, 0, 0, 0), (146, .iastore, 1, 0, 0, 0), (147, .aload_n 0, 1, 0, 0, 0), (148, .getfield 41, 3, 10, 19, 0), (151, .iload_n 1, 1, 0, 0, 0), (152, .iaload, 1, 0, 0, 0), (153, .ireturn, 1, 0, 0, 0)]]
def qc138 : List (List qI) := [[(0, .iconst 0, 1, 0, 0, 0), (1, .istore_n 3, 1, 0, 0, 0), (2, .iload_n 3, 1, 0, 0, 0), (3, .bipush 10, 2, 0, 0, 0), (5, .if_icmp .ge 70, 3, 75, 0, 0), (8, .bipush 10, 2, 0, 0, 0), (10, .iload_n 1, 1, 0, 0, 0), (11, .imul, 1, 0, 0, 0), (12, .iload_n 3, 1, 0, 0, 0), (13, .iadd, 1, 0, 0, 0), (14, .istore 4, 2, 0, 0, 0)], [(16, .aload_n 0, 1, 0, 0, 0), (17, .getfield 56, 3, 10, 24, 0), (20, .iload_n 3, 1, 0, 0, 0), (21, .aload_n 0, 1, 0, 0, 0), (22, .getfield 35, 3, 10, 17, 0), (25, .iload 4, 2, 0, 0, 0), (27, .iaload, 1, 0, 0, 0), (28, .bipush (-9), 2, 0, 0, 0), (30, .if_icmp .eq 36, 3, 66, 0, 0)], [(33, .aload_n 0, 1, 0, 0, 0), (34, .getfield 38, 3, 10, 18, 0), (37, .iload 4, 2, 0, 0, 0), (39, .iaload, 1, 0, 0, 0), (40, .iload_n 2, 1, 0, 0, 0), (41, .if_icmp .gt 25, 3, 66, 0, 0), (44, .aload_n 0, 1, 0, 0, 0), (45, .iload_n 1, 1, 0, 0, 0), (46, .iload_n 3, 1, 0, 0, 0), (47, .iload_n 2, 1, 0, 0, 0)], [(48, .invokevirtual 208, 3, 136, 4, 0), (51, .bipush (-9), 2, 0, 0, 0), (53, .if_icmp .eq 13, 3, 66, 0, 0), (56, .aload_n 0, 1, 0, 0, 0), (57, .getfield 35, 3, 10, 17, 0), (60, .iload 4, 2, 0, 0, 0), (62, .iaload, 1, 0, 0, 0), (63, .goto 5, 3, 68, 0, 0)], [(66, .bipush (-9), 2, 0, 0, 0), (68, .iastore, 1, 0, 0, 0), (69, .iinc 3 1, 3, 0, 0, 0), (72, .goto (-70), 3, 2, 0, 0), (75, .return_, 1, 0, 0, 0)]]
def qc139 : List (List qI) := [[(0, .aload_n 0, 1, 0, 0, 0), (1, .aload_n 0, 1, 0, 0, 0), (2, .getfield 29, 3, 10, 15, 0), (5, .bipush 10, 2, 0, 0, 0), (7, .iload_n 1, 1, 0, 0, 0), (8, .imul, 1, 0, 0, 0), (9, .iload_n 2, 1, 0, 0, 0), (10, .iadd, 1, 0, 0, 0), (11, .iaload, 1, 0, 0, 0), (12, .iload_n 3, 1, 0, 0, 0), (13, .invokevirtual 199, 3, 131, 3, 0)], [(16, .ireturn, 1, 0, 0, 0)]]
def qc140 : List (List qI) := [[(0, .aload_n 0, 1, 0, 0, 0), (1, .getfield 56, 3, 10, 24, 0), (4, .iload_n 2, 1, 0, 0, 0), (5, .iaload, 1, 0, 0, 0), (6, .bipush (-9), 2, 0, 0, 0), (8, .if_icmp .ne 7, 3, 15, 0, 0), (11, .iconst 0, 1, 0, 0, 0), (12, .goto 9, 3, 21, 0, 0), (15, .aload_n 0, 1, 0, 0, 0)], [(16, .getfield 56, 3, 10, 24, 0), (19, .iload_n 2, 1, 0, 0, 0), (20, .iaload, 1, 0, 0, 0), (21, .istore 5, 2, 0, 0, 0), (23, .aload_n 0, 1, 0, 0, 0), (24, .getfield 56, 3, 10, 24, 0), (27, .iload_n 2, 1, 0, 0, 0), (28, .iaload, 1, 0, 0, 0), (29, .bipush (-9), 2, 0, 0, 0), (31, .if_icmp .ne 8, 3, 39, 0, 0)], [(34, .bipush 20, 2, 0, 0, 0), (36, .goto 9, 3, 45, 0, 0), (39, .aload_n 0, 1, 0, 0, 0), (40, .getfield 56, 3, 10, 24, 0), (43, .iload_n 2, 1, 0, 0, 0), (44, .iaload, 1, 0, 0, 0), (45, .istore 6, 2, 0, 0, 0), (47, .aload_n 0, 1, 0, 0, 0)], [(48, .iload_n 1, 1, 0, 0, 0), (49, .iload_n 2, 1, 0, 0, 0), (50, .iload_n 3, 1, 0, 0, 0), (51, .invokevirtual 215, 3, 139, 4, 0), (54, .istore 7, 2, 0, 0, 0), (56, .iload 4, 2, 0, 0, 0), (58, .istore 8, 2, 0, 0, 0), (60, .iload 8, 2, 0, 0, 0), (62, .ifCond .lt 214, 3, 276, 0, 0)], [(65, .lconst 0, 1, 0, 0, 0), (66, .lstore 9, 2, 0, 0, 0), (68, .iconst 0, 1, 0, 0, 0), (69, .istore 11, 2, 0, 0, 0), (71, .iconst 0, 1, 0, 0, 0), (72, .istore 12, 2, 0, 0, 0), (74, .iconst 0, 1, 0, 0, 0), (75, .istore 13, 2, 0, 0, 0), (77, .iload 5, 2, 0, 0, 0), (79, .istore 14, 2, 0, 0, 0)], [(81, .iload 14, 2, 0, 0, 0), (83, .iload 6, 2, 0, 0, 0), (85, .if_icmp .gt 145, 3, 230, 0, 0), (88, .iload 14, 2, 0, 0, 0), (90, .iload 8, 2, 0, 0, 0), (92, .if_icmp .gt 138, 3, 230, 0, 0), (95, .aload_n 0, 1, 0, 0, 0)], [(96, .getfield 69, 3, 10, 31, 0), (99, .iload 8, 2, 0, 0, 0), (101, .iload 14, 2, 0, 0, 0), (103, .isub, 1, 0, 0, 0), (104, .baload, 1, 0, 0, 0), (105, .ifCond .eq 119, 3, 224, 0, 0), (108, .iload 7, 2, 0, 0, 0), (110, .aload_n 0, 1, 0, 0, 0), (111, .iload 14, 2, 0, 0, 0)], [(113, .iload_n 3, 1, 0, 0, 0), (114, .invokevirtual 199, 3, 131, 3, 0), (117, .isub, 1, 0, 0, 0), (118, .istore 15, 2, 0, 0, 0), (120, .lload 9, 2, 0, 0, 0), (122, .aload_n 0, 1, 0, 0, 0), (123, .getfield 59, 3, 10, 25, 0), (126, .iload 8, 2, 0, 0, 0)], [(128, .iload 14, 2, 0, 0, 0), (130, .isub, 1, 0, 0, 0), (131, .laload, 1, 0, 0, 0), (132, .ladd, 1, 0, 0, 0), (133, .lstore 9, 2, 0, 0, 0), (135, .iload 13, 2, 0, 0, 0), (137, .ifCond .eq 21, 3, 158, 0, 0), (140, .aload_n 0, 1, 0, 0, 0), (141, .getfield 63, 3, 10, 26, 0)], [(144, .iload 8, 2, 0, 0, 0), (146, .iload 14, 2, 0, 0, 0), (148, .isub, 1, 0, 0, 0), (149, .iaload, 1, 0, 0, 0), (150, .iload 15, 2, 0, 0, 0), (152, .iadd, 1, 0, 0, 0), (153, .iload 11, 2, 0, 0, 0), (155, .if_icmp .ge 19, 3, 174, 0, 0), (158, .aload_n 0, 1, 0, 0, 0), (159, .getfield 63, 3, 10, 26, 0)], [(162, .iload 8, 2, 0, 0, 0), (164, .iload 14, 2, 0, 0, 0), (166, .isub, 1, 0, 0, 0), (167, .iaload, 1, 0, 0, 0), (168, .iload 15, 2, 0, 0, 0), (170, .iadd, 1, 0, 0, 0), (171, .goto 5, 3, 176, 0, 0), (174, .iload 11, 2, 0, 0, 0)], [(176, .istore 11, 2, 0, 0, 0), (178, .iload 13, 2, 0, 0, 0), (180, .ifCond .eq 21, 3, 201, 0, 0), (183, .aload_n 0, 1, 0, 0, 0), (184, .getfield 66, 3, 10, 27, 0), (187, .iload 8, 2, 0, 0, 0), (189, .iload 14, 2, 0, 0, 0), (191, .isub, 1, 0, 0, 0)], [(192, .iaload, 1, 0, 0, 0), (193, .iload 15, 2, 0, 0, 0), (195, .iadd, 1, 0, 0, 0), (196, .iload 12, 2, 0, 0, 0), (198, .if_icmp .le 19, 3, 217, 0, 0), (201, .aload_n 0, 1, 0, 0, 0), (202, .getfield 66, 3, 10, 27, 0), (205, .iload 8, 2, 0, 0, 0), (207, .iload 14, 2, 0, 0, 0)], [(209, .isub, 1, 0, 0, 0), (210, .iaload, 1, 0, 0, 0), (211, .iload 15, 2, 0, 0, 0), (213, .iadd, 1, 0, 0, 0), (214, .goto 5, 3, 219, 0, 0), (217, .iload 12, 2, 0, 0, 0), (219, .istore 12, 2, 0, 0, 0), (221, .iconst 1, 1, 0, 0, 0), (222, .istore 13, 2, 0, 0, 0)], [(224, .iinc 14 1, 3, 0, 0, 0), (227, .goto (-146), 3, 81, 0, 0), (230, .aload_n 0, 1, 0, 0, 0), (231, .getfield 59, 3, 10, 25, 0), (234, .iload 8, 2, 0, 0, 0), (236, .lload 9, 2, 0, 0, 0), (238, .ldc2_w 218, 3, 0, 0, 1000000007)], [(241, .lrem, 1, 0, 0, 0), (242, .lastore, 1, 0, 0, 0), (243, .aload_n 0, 1, 0, 0, 0), (244, .getfield 63, 3, 10, 26, 0), (247, .iload 8, 2, 0, 0, 0), (249, .iload 11, 2, 0, 0, 0), (251, .iastore, 1, 0, 0, 0), (252, .aload_n 0, 1, 0, 0, 0), (253, .getfield 66, 3, 10, 27, 0)], [(256, .iload 8, 2, 0, 0, 0), (258, .iload 12, 2, 0, 0, 0), (260, .iastore, 1, 0, 0, 0), (261, .aload_n 0, 1, 0, 0, 0), (262, .getfield 69, 3, 10, 31, 0), (265, .iload 8, 2, 0, 0, 0), (267, .iload 13, 2, 0, 0, 0), (269, .bastore, 1, 0, 0, 0), (270, .iinc 8 (-1), 3, 0, 0, 0)], [(273, .goto (-213), 3, 60, 0, 0), (276, .return_, 1, 0, 0, 0)]]
def qc141 : List (List qI) := [[(0, .aload_n 0, 1, 0, 0, 0), (1, .lconst 1, 1, 0, 0, 0), (2, .putfield 220, 3, 10, 28, 0), (5, .aload_n 0, 1, 0, 0, 0), (6, .iconst 0, 1, 0, 0, 0), (7, .putfield 224, 3, 10, 29, 0), (10, .aload_n 0, 1, 0, 0, 0), (11, .iconst 0, 1, 0, 0, 0), (12, .putfield 227, 3, 10, 30, 0), (15, .iconst 1, 1, 0, 0, 0)], [(16, .istore_n 3, 1, 0, 0, 0), (17, .iconst 3, 1, 0, 0, 0), (18, .iload_n 1, 1, 0, 0, 0), (19, .imul, 1, 0, 0, 0), (20, .istore 4, 2, 0, 0, 0), (22, .iload 4, 2, 0, 0, 0), (24, .iconst 3, 1, 0, 0, 0), (25, .iload_n 1, 1, 0, 0, 0), (26, .imul, 1, 0, 0, 0), (27, .aload_n 0, 1, 0, 0, 0), (28, .getfield 41, 3, 10, 19, 0), (31, .iload_n 1, 1, 0, 0, 0)], [(32, .iaload, 1, 0, 0, 0), (33, .iadd, 1, 0, 0, 0), (34, .if_icmp .ge 204, 3, 238, 0, 0), (37, .aload_n 0, 1, 0, 0, 0), (38, .getfield 53, 3, 10, 23, 0), (41, .iload 4, 2, 0, 0, 0), (43, .iaload, 1, 0, 0, 0), (44, .iload_n 2, 1, 0, 0, 0), (45, .if_icmp .gt 187, 3, 232, 0, 0)], [(48, .aload_n 0, 1, 0, 0, 0), (49, .getfield 50, 3, 10, 22, 0), (52, .iload 4, 2, 0, 0, 0), (54, .iaload, 1, 0, 0, 0), (55, .istore 5, 2, 0, 0, 0), (57, .iconst 0, 1, 0, 0, 0), (58, .istore 6, 2, 0, 0, 0), (60, .iload 6, 2, 0, 0, 0), (62, .iload 5, 2, 0, 0, 0)], [(64, .if_icmp .gt 59, 3, 123, 0, 0), (67, .aload_n 0, 1, 0, 0, 0), (68, .getfield 69, 3, 10, 31, 0), (71, .iload 6, 2, 0, 0, 0), (73, .iload 6, 2, 0, 0, 0), (75, .ifCond .ne 7, 3, 82, 0, 0), (78, .iconst 1, 1, 0, 0, 0), (79, .goto 4, 3, 83, 0, 0)], [(82, .iconst 0, 1, 0, 0, 0), (83, .bastore, 1, 0, 0, 0), (84, .aload_n 0, 1, 0, 0, 0), (85, .getfield 59, 3, 10, 25, 0), (88, .iload 6, 2, 0, 0, 0), (90, .iload 6, 2, 0, 0, 0), (92, .ifCond .ne 7, 3, 99, 0, 0), (95, .lconst 1, 1, 0, 0, 0)], [(96, .goto 4, 3, 100, 0, 0), (99, .lconst 0, 1, 0, 0, 0), (100, .lastore, 1, 0, 0, 0), (101, .aload_n 0, 1, 0, 0, 0), (102, .getfield 63, 3, 10, 26, 0), (105, .iload 6, 2, 0, 0, 0), (107, .iconst 0, 1, 0, 0, 0), (108, .iastore, 1, 0, 0, 0), (109, .aload_n 0, 1, 0, 0, 0), (110, .getfield 66, 3, 10, 27, 0)], [(113, .iload 6, 2, 0, 0, 0), (115, .iconst 0, 1, 0, 0, 0), (116, .iastore, 1, 0, 0, 0), (117, .iinc 6 1, 3, 0, 0, 0), (120, .goto (-60), 3, 60, 0, 0), (123, .aload_n 0, 1, 0, 0, 0), (124, .getfield 44, 3, 10, 20, 0), (127, .iload 4, 2, 0, 0, 0)], [(129, .iaload, 1, 0, 0, 0), (130, .istore 6, 2, 0, 0, 0), (132, .iload 6, 2, 0, 0, 0), (134, .aload_n 0, 1, 0, 0, 0), (135, .getfield 47, 3, 10, 21, 0), (138, .iload 4, 2, 0, 0, 0), (140, .iaload, 1, 0, 0, 0), (141, .if_icmp .gt 19, 3, 160, 0, 0)], [(144, .aload_n 0, 1, 0, 0, 0), (145, .iload_n 1, 1, 0, 0, 0), (146, .iload 6, 2, 0, 0, 0), (148, .iload_n 2, 1, 0, 0, 0), (149, .iload 5, 2, 0, 0, 0), (151, .invokevirtual 230, 3, 140, 105, 0), (154, .iinc 6 1, 3, 0, 0, 0), (157, .goto (-25), 3, 132, 0, 0)], [(160, .iload_n 3, 1, 0, 0, 0), (161, .ifCond .eq 17, 3, 178, 0, 0), (164, .aload_n 0, 1, 0, 0, 0), (165, .getfield 69, 3, 10, 31, 0), (168, .iload 5, 2, 0, 0, 0), (170, .baload, 1, 0, 0, 0), (171, .ifCond .eq 7, 3, 178, 0, 0), (174, .iconst 1, 1, 0, 0, 0), (175, .goto 4, 3, 179, 0, 0)], [(178, .iconst 0, 1, 0, 0, 0), (179, .istore_n 3, 1, 0, 0, 0), (180, .aload_n 0, 1, 0, 0, 0), (181, .aload_n 0, 1, 0, 0, 0), (182, .getfield 220, 3, 10, 28, 0), (185, .aload_n 0, 1, 0, 0, 0), (186, .getfield 59, 3, 10, 25, 0), (189, .iload 5, 2, 0, 0, 0), (191, .laload, 1, 0, 0, 0)], [(192, .lmul, 1, 0, 0, 0), (193, .ldc2_w 218, 3, 0, 0, 1000000007), (196, .lrem, 1, 0, 0, 0), (197, .putfield 220, 3, 10, 28, 0), (200, .aload_n 0, 1, 0, 0, 0), (201, .dup, 1, 0, 0, 0), (202, .getfield 224, 3, 10, 29, 0), (205, .aload_n 0, 1, 0, 0, 0), (206, .getfield 63, 3, 10, 26, 0)], [(209, .iload 5, 2, 0, 0, 0), (211, .iaload, 1, 0, 0, 0), (212, .iadd, 1, 0, 0, 0), (213, .putfield 224, 3, 10, 29, 0), (216, .aload_n 0, 1, 0, 0, 0), (217, .dup, 1, 0, 0, 0), (218, .getfield 227, 3, 10, 30, 0), (221, .aload_n 0, 1, 0, 0, 0), (222, .getfield 66, 3, 10, 27, 0)], [(225, .iload 5, 2, 0, 0, 0), (227, .iaload, 1, 0, 0, 0), (228, .iadd, 1, 0, 0, 0), (229, .putfield 227, 3, 10, 30, 0), (232, .iinc 4 1, 3, 0, 0, 0), (235, .goto (-213), 3, 22, 0, 0), (238, .iload_n 3, 1, 0, 0, 0), (239, .ireturn, 1, 0, 0, 0)]]
def qc142 : List (List qI) := [[(0, .iload_n 0, 1, 0, 0, 0), (1, .ifCond .ge 7, 3, 8, 0, 0), (4, .iconst 0, 1, 0, 0, 0), (5, .goto 4, 3, 9, 0, 0), (8, .iload_n 0, 1, 0, 0, 0), (9, .ireturn, 1, 0, 0, 0)]]
def qc143 : List (List qI) := [[(0, .iload_n 1, 1, 0, 0, 0), (1, .invokestatic 202, 3, 133, 1, 0), (4, .ifCond .eq 20, 3, 24, 0, 0), (7, .iload_n 2, 1, 0, 0, 0), (8, .invokestatic 205, 3, 134, 1, 0), (11, .ifCond .eq 13, 3, 24, 0, 0), (14, .iload_n 3, 1, 0, 0, 0), (15, .iconst 0, 1, 0, 0, 0)], [(16, .bipush 20, 2, 0, 0, 0), (18, .invokestatic 130, 3, 117, 3, 0), (21, .ifCond .ne 5, 3, 26, 0, 0), (24, .iconst (-1), 1, 0, 0, 0), (25, .ireturn, 1, 0, 0, 0), (26, .bipush 10, 2, 0, 0, 0), (28, .iload_n 1, 1, 0, 0, 0), (29, .imul, 1, 0, 0, 0), (30, .iload_n 2, 1, 0, 0, 0), (31, .iadd, 1, 0, 0, 0)], [(32, .istore 4, 2, 0, 0, 0), (34, .aload_n 0, 1, 0, 0, 0), (35, .iload_n 1, 1, 0, 0, 0), (36, .iload_n 2, 1, 0, 0, 0), (37, .sipush 200, 3, 0, 0, 0), (40, .invokevirtual 208, 3, 136, 4, 0), (43, .bipush (-9), 2, 0, 0, 0), (45, .if_icmp .eq 15, 3, 60, 0, 0)], [(48, .aload_n 0, 1, 0, 0, 0), (49, .getfield 35, 3, 10, 17, 0), (52, .iload 4, 2, 0, 0, 0), (54, .iaload, 1, 0, 0, 0), (55, .bipush (-9), 2, 0, 0, 0), (57, .if_icmp .eq 6, 3, 63, 0, 0), (60, .bipush (-2), 2, 0, 0, 0), (62, .ireturn, 1, 0, 0, 0), (63, .aload_n 0, 1, 0, 0, 0)], [(64, .iload_n 1, 1, 0, 0, 0), (65, .sipush 200, 3, 0, 0, 0), (68, .invokevirtual 234, 3, 138, 103, 0), (71, .aload_n 0, 1, 0, 0, 0), (72, .getfield 56, 3, 10, 24, 0), (75, .iload_n 2, 1, 0, 0, 0), (76, .iload_n 3, 1, 0, 0, 0), (77, .iastore, 1, 0, 0, 0), (78, .aload_n 0, 1, 0, 0, 0), (79, .iload_n 1, 1, 0, 0, 0)], [(80, .sipush 200, 3, 0, 0, 0), (83, .invokevirtual 238, 3, 141, 3, 0), (86, .ifCond .ne 6, 3, 92, 0, 0), (89, .bipush (-2), 2, 0, 0, 0), (91, .ireturn, 1, 0, 0, 0), (92, .aload_n 0, 1, 0, 0, 0), (93, .getfield 35, 3, 10, 17, 0)], [(96, .iload 4, 2, 0, 0, 0), (98, .iload_n 3, 1, 0, 0, 0), (99, .iastore, 1, 0, 0, 0), (100, .aload_n 0, 1, 0, 0, 0), (101, .getfield 38, 3, 10, 18, 0), (104, .iload 4, 2, 0, 0, 0), (106, .aload_n 0, 1, 0, 0, 0), (107, .getfield 212, 3, 10, 1, 0), (110, .iastore, 1, 0, 0, 0), (111, .aload_n 0, 1, 0, 0, 0)], [(112, .iload_n 1, 1, 0, 0, 0), (113, .aload_n 0, 1, 0, 0, 0), (114, .getfield 212, 3, 10, 1, 0), (117, .invokevirtual 234, 3, 138, 103, 0), (120, .aload_n 0, 1, 0, 0, 0), (121, .iload_n 1, 1, 0, 0, 0), (122, .aload_n 0, 1, 0, 0, 0), (123, .getfield 212, 3, 10, 1, 0), (126, .invokevirtual 238, 3, 141, 3, 0)], [(129, .pop, 1, 0, 0, 0), (130, .aload_n 0, 1, 0, 0, 0), (131, .getfield 220, 3, 10, 28, 0), (134, .l2i, 1, 0, 0, 0), (135, .ireturn, 1, 0, 0, 0)]]
def qc144 : List (List qI) := [[(0, .aload_n 0, 1, 0, 0, 0), (1, .iload_n 1, 1, 0, 0, 0), (2, .iload_n 2, 1, 0, 0, 0), (3, .invokevirtual 234, 3, 138, 103, 0), (6, .aload_n 0, 1, 0, 0, 0), (7, .iload_n 1, 1, 0, 0, 0), (8, .iload_n 2, 1, 0, 0, 0), (9, .invokevirtual 238, 3, 141, 3, 0), (12, .pop, 1, 0, 0, 0), (13, .return_, 1, 0, 0, 0)]]
def qc145 : List (List qI) := [[(0, .iload_n 1, 1, 0, 0, 0), (1, .invokestatic 202, 3, 133, 1, 0), (4, .ifCond .eq 10, 3, 14, 0, 0), (7, .iload_n 2, 1, 0, 0, 0), (8, .invokestatic 195, 3, 130, 1, 0), (11, .ifCond .ne 5, 3, 16, 0, 0), (14, .iconst (-1), 1, 0, 0, 0), (15, .ireturn, 1, 0, 0, 0)], [(16, .aload_n 0, 1, 0, 0, 0), (17, .iload_n 1, 1, 0, 0, 0), (18, .iload_n 2, 1, 0, 0, 0), (19, .invokevirtual 242, 3, 144, 103, 0), (22, .aload_n 0, 1, 0, 0, 0), (23, .getfield 220, 3, 10, 28, 0), (26, .l2i, 1, 0, 0, 0), (27, .ireturn, 1, 0, 0, 0)]]
def qc146 : List (List qI) := [[(0, .aload_n 0, 1, 0, 0, 0), (1, .getfield 47, 3, 10, 21, 0), (4, .iload_n 1, 1, 0, 0, 0), (5, .iaload, 1, 0, 0, 0), (6, .aload_n 0, 1, 0, 0, 0), (7, .getfield 44, 3, 10, 20, 0), (10, .iload_n 1, 1, 0, 0, 0), (11, .iaload, 1, 0, 0, 0), (12, .isub, 1, 0, 0, 0), (13, .iconst 1, 1, 0, 0, 0), (14, .iadd, 1, 0, 0, 0), (15, .istore_n 3, 1, 0, 0, 0)], [(16, .aload_n 0, 1, 0, 0, 0), (17, .getfield 50, 3, 10, 22, 0), (20, .iload_n 1, 1, 0, 0, 0), (21, .iaload, 1, 0, 0, 0), (22, .iload_n 3, 1, 0, 0, 0), (23, .idiv, 1, 0, 0, 0), (24, .iload_n 2, 1, 0, 0, 0), (25, .aload_n 0, 1, 0, 0, 0), (26, .getfield 44, 3, 10, 20, 0), (29, .iload_n 1, 1, 0, 0, 0), (30, .iaload, 1, 0, 0, 0), (31, .isub, 1, 0, 0, 0)], [(32, .aload_n 0, 1, 0, 0, 0), (33, .getfield 50, 3, 10, 22, 0), (36, .iload_n 1, 1, 0, 0, 0), (37, .iaload, 1, 0, 0, 0), (38, .iload_n 3, 1, 0, 0, 0), (39, .irem, 1, 0, 0, 0), (40, .if_icmp .ge 7, 3, 47, 0, 0), (43, .iconst 1, 1, 0, 0, 0), (44, .goto 4, 3, 48, 0, 0), (47, .iconst 0, 1, 0, 0, 0)], [(48, .iadd, 1, 0, 0, 0), (49, .ireturn, 1, 0, 0, 0)]]
def qc147 : List (List qI) := [[(0, .iconst 0, 1, 0, 0, 0), (1, .istore 4, 2, 0, 0, 0), (3, .iconst 0, 1, 0, 0, 0), (4, .istore 5, 2, 0, 0, 0), (6, .iload 5, 2, 0, 0, 0), (8, .bipush 10, 2, 0, 0, 0), (10, .if_icmp .ge 72, 3, 82, 0, 0), (13, .aload_n 0, 1, 0, 0, 0), (14, .iload_n 1, 1, 0, 0, 0), (15, .iload 5, 2, 0, 0, 0)], [(17, .iload_n 2, 1, 0, 0, 0), (18, .invokevirtual 208, 3, 136, 4, 0), (21, .istore 6, 2, 0, 0, 0), (23, .iload 6, 2, 0, 0, 0), (25, .bipush (-9), 2, 0, 0, 0), (27, .if_icmp .eq 49, 3, 76, 0, 0), (30, .iload 4, 2, 0, 0, 0)], [(32, .aload_n 0, 1, 0, 0, 0), (33, .iload_n 1, 1, 0, 0, 0), (34, .iload 5, 2, 0, 0, 0), (36, .iload_n 2, 1, 0, 0, 0), (37, .invokevirtual 215, 3, 139, 4, 0), (40, .aload_n 0, 1, 0, 0, 0), (41, .iload_n 3, 1, 0, 0, 0), (42, .ifCond .eq 14, 3, 56, 0, 0), (45, .aload_n 0, 1, 0, 0, 0), (46, .iload 6, 2, 0, 0, 0)], [(48, .iload 5, 2, 0, 0, 0), (50, .invokevirtual 245, 3, 146, 3, 0), (53, .goto 15, 3, 68, 0, 0), (56, .aload_n 0, 1, 0, 0, 0), (57, .getfield 32, 3, 10, 16, 0), (60, .bipush 10, 2, 0, 0, 0), (62, .iload_n 1, 1, 0, 0, 0), (63, .imul, 1, 0, 0, 0)], [(64, .iload 5, 2, 0, 0, 0), (66, .iadd, 1, 0, 0, 0), (67, .iaload, 1, 0, 0, 0), (68, .iload_n 2, 1, 0, 0, 0), (69, .invokevirtual 199, 3, 131, 3, 0), (72, .isub, 1, 0, 0, 0), (73, .iadd, 1, 0, 0, 0), (74, .istore 4, 2, 0, 0, 0), (76, .iinc 5 1, 3, 0, 0, 0), (79, .goto (-73), 3, 6, 0, 0)], [(82, .iload 4, 2, 0, 0, 0), (84, .invokestatic 248, 3, 142, 1, 0), (87, .ireturn, 1, 0, 0, 0)]]
def qc148 : List (List qI) := [[(0, .iload_n 3, 1, 0, 0, 0), (1, .ifCond .eq 8, 3, 9, 0, 0), (4, .iload_n 3, 1, 0, 0, 0), (5, .iconst 3, 1, 0, 0, 0), (6, .if_icmp .ne 19, 3, 25, 0, 0), (9, .aload_n 0, 1, 0, 0, 0), (10, .iload_n 1, 1, 0, 0, 0), (11, .iload_n 2, 1, 0, 0, 0), (12, .iload_n 3, 1, 0, 0, 0), (13, .ifCond .ne 7, 3, 20, 0, 0)], [(16, .iconst 1, 1, 0, 0, 0), (17, .goto 4, 3, 21, 0, 0), (20, .iconst 0, 1, 0, 0, 0), (21, .invokevirtual 252, 3, 147, 4, 0), (24, .ireturn, 1, 0, 0, 0), (25, .aload_n 0, 1, 0, 0, 0), (26, .iload_n 1, 1, 0, 0, 0), (27, .iload_n 2, 1, 0, 0, 0), (28, .invokevirtual 242, 3, 144, 103, 0), (31, .iload_n 3, 1, 0, 0, 0)], [(32, .iconst 1, 1, 0, 0, 0), (33, .if_icmp .ne 10, 3, 43, 0, 0), (36, .aload_n 0, 1, 0, 0, 0), (37, .getfield 224, 3, 10, 29, 0), (40, .goto 7, 3, 47, 0, 0), (43, .aload_n 0, 1, 0, 0, 0), (44, .getfield 227, 3, 10, 30, 0), (47, .invokestatic 248, 3, 142, 1, 0)], [(50, .ireturn, 1, 0, 0, 0)]]
def qc149 : List (List qI) := [[(0, .iload_n 1, 1, 0, 0, 0), (1, .invokestatic 202, 3, 133, 1, 0), (4, .ifCond .eq 29, 3, 33, 0, 0), (7, .iload_n 2, 1, 0, 0, 0), (8, .invokestatic 195, 3, 130, 1, 0), (11, .ifCond .eq 22, 3, 33, 0, 0), (14, .iload_n 3, 1, 0, 0, 0), (15, .iconst 0, 1, 0, 0, 0)], [(16, .iconst 3, 1, 0, 0, 0), (17, .invokestatic 130, 3, 117, 3, 0), (20, .ifCond .eq 13, 3, 33, 0, 0), (23, .aload_n 0, 1, 0, 0, 0), (24, .iload_n 1, 1, 0, 0, 0), (25, .iload_n 2, 1, 0, 0, 0), (26, .iload_n 3, 1, 0, 0, 0), (27, .invokevirtual 256, 3, 148, 4, 0), (30, .goto 4, 3, 34, 0, 0)], [(33, .iconst (-1), 1, 0, 0, 0), (34, .ireturn, 1, 0, 0, 0)]]
def qc150 : List (List qI) := [[(0, .aload_n 0, 1, 0, 0, 0), (1, .getfield 224, 3, 10, 29, 0), (4, .invokestatic 248, 3, 142, 1, 0), (7, .aload_n 0, 1, 0, 0, 0), (8, .getfield 227, 3, 10, 30, 0), (11, .invokestatic 248, 3, 142, 1, 0), (14, .if_icmp .ne 7, 3, 21, 0, 0)], [(17, .iconst 1, 1, 0, 0, 0), (18, .goto 4, 3, 22, 0, 0), (21, .iconst 0, 1, 0, 0, 0), (22, .ireturn, 1, 0, 0, 0)]]
def qc151 : List (List qI) := [[(0, .iload_n 1, 1, 0, 0, 0), (1, .invokestatic 202, 3, 133, 1, 0), (4, .ifCond .eq 10, 3, 14, 0, 0), (7, .iload_n 2, 1, 0, 0, 0), (8, .invokestatic 195, 3, 130, 1, 0), (11, .ifCond .ne 5, 3, 16, 0, 0), (14, .iconst (-1), 1, 0, 0, 0), (15, .ireturn, 1, 0, 0, 0)], [(16, .aload_n 0, 1, 0, 0, 0), (17, .iload_n 1, 1, 0, 0, 0), (18, .iload_n 2, 1, 0, 0, 0), (19, .invokevirtual 242, 3, 144, 103, 0), (22, .aload_n 0, 1, 0, 0, 0), (23, .invokevirtual 259, 3, 150, 1, 0), (26, .ifCond .eq 7, 3, 33, 0, 0), (29, .iconst 1, 1, 0, 0, 0), (30, .goto 4, 3, 34, 0, 0)], [(33, .iconst 0, 1, 0, 0, 0), (34, .ireturn, 1, 0, 0, 0)]]
def qc152 : List (List qI) := [[(0, .iload_n 1, 1, 0, 0, 0), (1, .invokestatic 202, 3, 133, 1, 0), (4, .ifCond .eq 27, 3, 31, 0, 0), (7, .iload_n 2, 1, 0, 0, 0), (8, .invokestatic 195, 3, 130, 1, 0), (11, .ifCond .eq 20, 3, 31, 0, 0), (14, .iload_n 3, 1, 0, 0, 0), (15, .invokestatic 205, 3, 134, 1, 0)], [(18, .ifCond .eq 13, 3, 31, 0, 0), (21, .iload 4, 2, 0, 0, 0), (23, .iconst 0, 1, 0, 0, 0), (24, .iconst 1, 1, 0, 0, 0), (25, .invokestatic 130, 3, 117, 3, 0), (28, .ifCond .ne 5, 3, 33, 0, 0), (31, .iconst (-1), 1, 0, 0, 0)], [(32, .ireturn, 1, 0, 0, 0), (33, .aload_n 0, 1, 0, 0, 0), (34, .iload_n 1, 1, 0, 0, 0), (35, .iload_n 3, 1, 0, 0, 0), (36, .iload_n 2, 1, 0, 0, 0), (37, .invokevirtual 208, 3, 136, 4, 0), (40, .istore 5, 2, 0, 0, 0), (42, .iload 5, 2, 0, 0, 0), (44, .bipush (-9), 2, 0, 0, 0), (46, .if_icmp .ne 6, 3, 52, 0, 0)], [(49, .bipush (-2), 2, 0, 0, 0), (51, .ireturn, 1, 0, 0, 0), (52, .aload_n 0, 1, 0, 0, 0), (53, .iload_n 1, 1, 0, 0, 0), (54, .iload_n 2, 1, 0, 0, 0), (55, .invokevirtual 234, 3, 138, 103, 0), (58, .aload_n 0, 1, 0, 0, 0), (59, .getfield 56, 3, 10, 24, 0), (62, .iload_n 3, 1, 0, 0, 0), (63, .iaload, 1, 0, 0, 0)], [(64, .bipush (-9), 2, 0, 0, 0), (66, .if_icmp .eq 10, 3, 76, 0, 0), (69, .aload_n 0, 1, 0, 0, 0), (70, .getfield 56, 3, 10, 24, 0), (73, .iload_n 3, 1, 0, 0, 0), (74, .iaload, 1, 0, 0, 0), (75, .ireturn, 1, 0, 0, 0), (76, .aload_n 0, 1, 0, 0, 0), (77, .getfield 50, 3, 10, 22, 0)], [(80, .iload 5, 2, 0, 0, 0), (82, .iaload, 1, 0, 0, 0), (83, .istore 6, 2, 0, 0, 0), (85, .iconst 0, 1, 0, 0, 0), (86, .istore 7, 2, 0, 0, 0), (88, .aload_n 0, 1, 0, 0, 0), (89, .getfield 44, 3, 10, 20, 0), (92, .iload 5, 2, 0, 0, 0), (94, .iaload, 1, 0, 0, 0), (95, .istore 8, 2, 0, 0, 0)], [(97, .iload 8, 2, 0, 0, 0), (99, .aload_n 0, 1, 0, 0, 0), (100, .getfield 47, 3, 10, 21, 0), (103, .iload 5, 2, 0, 0, 0), (105, .iaload, 1, 0, 0, 0), (106, .if_icmp .gt 65, 3, 171, 0, 0), (109, .iload 6, 2, 0, 0, 0), (111, .aload_n 0, 1, 0, 0, 0)], [(112, .getfield 56, 3, 10, 24, 0), (115, .iload 8, 2, 0, 0, 0), (117, .iaload, 1, 0, 0, 0), (118, .bipush (-9), 2, 0, 0, 0), (120, .if_icmp .ne 7, 3, 127, 0, 0), (123, .iconst 0, 1, 0, 0, 0), (124, .goto 10, 3, 134, 0, 0), (127, .aload_n 0, 1, 0, 0, 0)], [(128, .getfield 56, 3, 10, 24, 0), (131, .iload 8, 2, 0, 0, 0), (133, .iaload, 1, 0, 0, 0), (134, .isub, 1, 0, 0, 0), (135, .istore 6, 2, 0, 0, 0), (137, .iload 7, 2, 0, 0, 0), (139, .aload_n 0, 1, 0, 0, 0), (140, .getfield 56, 3, 10, 24, 0), (143, .iload 8, 2, 0, 0, 0)], [(145, .iaload, 1, 0, 0, 0), (146, .bipush (-9), 2, 0, 0, 0), (148, .if_icmp .ne 13, 3, 161, 0, 0), (151, .iload 8, 2, 0, 0, 0), (153, .iload_n 3, 1, 0, 0, 0), (154, .if_icmp .eq 7, 3, 161, 0, 0), (157, .iconst 1, 1, 0, 0, 0), (158, .goto 4, 3, 162, 0, 0)], [(161, .iconst 0, 1, 0, 0, 0), (162, .iadd, 1, 0, 0, 0), (163, .istore 7, 2, 0, 0, 0), (165, .iinc 8 1, 3, 0, 0, 0), (168, .goto (-71), 3, 97, 0, 0), (171, .iload 4, 2, 0, 0, 0), (173, .ifCond .ne 17, 3, 190, 0, 0)], [(176, .iload 6, 2, 0, 0, 0), (178, .bipush 20, 2, 0, 0, 0), (180, .iload 7, 2, 0, 0, 0), (182, .imul, 1, 0, 0, 0), (183, .isub, 1, 0, 0, 0), (184, .invokestatic 248, 3, 142, 1, 0), (187, .goto 17, 3, 204, 0, 0), (190, .iload 6, 2, 0, 0, 0)], [(192, .bipush 20, 2, 0, 0, 0), (194, .if_icmp .ge 8, 3, 202, 0, 0), (197, .iload 6, 2, 0, 0, 0), (199, .goto 5, 3, 204, 0, 0), (202, .bipush 20, 2, 0, 0, 0), (204, .ireturn, 1, 0, 0, 0)]]
def qc153 : List (List qI) := [[(0, .iconst 0, 1, 0, 0, 0), (1, .istore_n 1, 1, 0, 0, 0), (2, .iconst 0, 1, 0, 0, 0), (3, .istore_n 2, 1, 0, 0, 0), (4, .iload_n 2, 1, 0, 0, 0), (5, .bipush 10, 2, 0, 0, 0), (7, .if_icmp .ge 17, 3, 24, 0, 0), (10, .iload_n 1, 1, 0, 0, 0), (11, .iload_n 0, 1, 0, 0, 0), (12, .iload_n 2, 1, 0, 0, 0), (13, .ishr, 1, 0, 0, 0), (14, .iconst 1, 1, 0, 0, 0), (15, .iand, 1, 0, 0, 0)], [(16, .iadd, 1, 0, 0, 0), (17, .istore_n 1, 1, 0, 0, 0), (18, .iinc 2 1, 3, 0, 0, 0), (21, .goto (-17), 3, 4, 0, 0), (24, .iload_n 1, 1, 0, 0, 0), (25, .ireturn, 1, 0, 0, 0)]]
def qc154 : List (List qI) := [[(0, .iconst 0, 1, 0, 0, 0), (1, .istore_n 3, 1, 0, 0, 0), (2, .iconst 0, 1, 0, 0, 0), (3, .istore 4, 2, 0, 0, 0), (5, .iload 4, 2, 0, 0, 0), (7, .bipush 10, 2, 0, 0, 0), (9, .if_icmp .ge 33, 3, 42, 0, 0), (12, .iload_n 3, 1, 0, 0, 0), (13, .aload_n 0, 1, 0, 0, 0), (14, .iload_n 1, 1, 0, 0, 0), (15, .iload 4, 2, 0, 0, 0)], [(17, .iload_n 2, 1, 0, 0, 0), (18, .invokevirtual 208, 3, 136, 4, 0), (21, .bipush (-9), 2, 0, 0, 0), (23, .if_icmp .ne 7, 3, 30, 0, 0), (26, .iconst 0, 1, 0, 0, 0), (27, .goto 7, 3, 34, 0, 0), (30, .iconst 1, 1, 0, 0, 0), (31, .iload 4, 2, 0, 0, 0)], [(33, .ishl, 1, 0, 0, 0), (34, .ior, 1, 0, 0, 0), (35, .istore_n 3, 1, 0, 0, 0), (36, .iinc 4 1, 3, 0, 0, 0), (39, .goto (-34), 3, 5, 0, 0), (42, .iload_n 3, 1, 0, 0, 0), (43, .ireturn, 1, 0, 0, 0)]]
def qc155 : List (List qI) := [[(0, .aload_n 0, 1, 0, 0, 0), (1, .iload_n 1, 1, 0, 0, 0), (2, .iload_n 2, 1, 0, 0, 0), (3, .invokevirtual 234, 3, 138, 103, 0), (6, .iconst 1, 1, 0, 0, 0), (7, .istore 4, 2, 0, 0, 0), (9, .iconst 0, 1, 0, 0, 0), (10, .istore 5, 2, 0, 0, 0), (12, .iload 5, 2, 0, 0, 0), (14, .bipush 10, 2, 0, 0, 0)], [(16, .if_icmp .ge 78, 3, 94, 0, 0), (19, .aload_n 0, 1, 0, 0, 0), (20, .getfield 32, 3, 10, 16, 0), (23, .bipush 10, 2, 0, 0, 0), (25, .iload_n 1, 1, 0, 0, 0), (26, .imul, 1, 0, 0, 0), (27, .iload 5, 2, 0, 0, 0), (29, .iadd, 1, 0, 0, 0), (30, .iaload, 1, 0, 0, 0), (31, .istore 6, 2, 0, 0, 0)], [(33, .iload_n 3, 1, 0, 0, 0), (34, .iload 5, 2, 0, 0, 0), (36, .ishr, 1, 0, 0, 0), (37, .iconst 1, 1, 0, 0, 0), (38, .iand, 1, 0, 0, 0), (39, .iconst 1, 1, 0, 0, 0), (40, .if_icmp .ne 48, 3, 88, 0, 0), (43, .iload 4, 2, 0, 0, 0), (45, .ifCond .eq 31, 3, 76, 0, 0)], [(48, .aload_n 0, 1, 0, 0, 0), (49, .getfield 56, 3, 10, 24, 0), (52, .iload 5, 2, 0, 0, 0), (54, .iaload, 1, 0, 0, 0), (55, .bipush (-9), 2, 0, 0, 0), (57, .if_icmp .eq 15, 3, 72, 0, 0), (60, .aload_n 0, 1, 0, 0, 0), (61, .getfield 56, 3, 10, 24, 0)], [(64, .iload 5, 2, 0, 0, 0), (66, .iaload, 1, 0, 0, 0), (67, .iload 6, 2, 0, 0, 0), (69, .if_icmp .ne 7, 3, 76, 0, 0), (72, .iconst 1, 1, 0, 0, 0), (73, .goto 4, 3, 77, 0, 0), (76, .iconst 0, 1, 0, 0, 0), (77, .istore 4, 2, 0, 0, 0), (79, .aload_n 0, 1, 0, 0, 0)], [(80, .getfield 56, 3, 10, 24, 0), (83, .iload 5, 2, 0, 0, 0), (85, .iload 6, 2, 0, 0, 0), (87, .iastore, 1, 0, 0, 0), (88, .iinc 5 1, 3, 0, 0, 0), (91, .goto (-79), 3, 12, 0, 0), (94, .iload 4, 2, 0, 0, 0)], [(96, .ifCond .eq 16, 3, 112, 0, 0), (99, .aload_n 0, 1, 0, 0, 0), (100, .iload_n 1, 1, 0, 0, 0), (101, .iload_n 2, 1, 0, 0, 0), (102, .invokevirtual 238, 3, 141, 3, 0), (105, .ifCond .eq 7, 3, 112, 0, 0), (108, .iconst 1, 1, 0, 0, 0), (109, .goto 4, 3, 113, 0, 0)], [(112, .iconst 0, 1, 0, 0, 0), (113, .ireturn, 1, 0, 0, 0)]]
def qc156 : List (List qI) := [[(0, .aload_n 0, 1, 0, 0, 0), (1, .iload_n 1, 1, 0, 0, 0), (2, .iload_n 2, 1, 0, 0, 0), (3, .invokevirtual 263, 3, 154, 3, 0), (6, .istore_n 3, 1, 0, 0, 0), (7, .aload_n 0, 1, 0, 0, 0), (8, .iload_n 1, 1, 0, 0, 0), (9, .iload_n 2, 1, 0, 0, 0), (10, .iload_n 3, 1, 0, 0, 0), (11, .invokevirtual 266, 3, 155, 4, 0), (14, .ifCond .ne 6, 3, 20, 0, 0)], [(17, .bipush (-9), 2, 0, 0, 0), (19, .ireturn, 1, 0, 0, 0), (20, .iconst 0, 1, 0, 0, 0), (21, .istore 4, 2, 0, 0, 0), (23, .iload 4, 2, 0, 0, 0), (25, .bipush 10, 2, 0, 0, 0), (27, .if_icmp .gt 66, 3, 93, 0, 0), (30, .iconst 0, 1, 0, 0, 0), (31, .istore 5, 2, 0, 0, 0)], [(33, .iload 5, 2, 0, 0, 0), (35, .sipush 1024, 3, 0, 0, 0), (38, .if_icmp .ge 49, 3, 87, 0, 0), (41, .iload 5, 2, 0, 0, 0), (43, .iload_n 3, 1, 0, 0, 0), (44, .iconst (-1), 1, 0, 0, 0), (45, .ixor, 1, 0, 0, 0), (46, .iand, 1, 0, 0, 0), (47, .ifCond .ne 34, 3, 81, 0, 0)], [(50, .iload 5, 2, 0, 0, 0), (52, .invokestatic 269, 3, 153, 1, 0), (55, .iload 4, 2, 0, 0, 0), (57, .if_icmp .ne 24, 3, 81, 0, 0), (60, .aload_n 0, 1, 0, 0, 0), (61, .iload_n 1, 1, 0, 0, 0), (62, .iload_n 2, 1, 0, 0, 0), (63, .iload 5, 2, 0, 0, 0)], [(65, .invokevirtual 266, 3, 155, 4, 0), (68, .ifCond .eq 13, 3, 81, 0, 0), (71, .aload_n 0, 1, 0, 0, 0), (72, .invokevirtual 259, 3, 150, 1, 0), (75, .ifCond .eq 6, 3, 81, 0, 0), (78, .iload 5, 2, 0, 0, 0)], [(80, .ireturn, 1, 0, 0, 0), (81, .iinc 5 1, 3, 0, 0, 0), (84, .goto (-51), 3, 33, 0, 0), (87, .iinc 4 1, 3, 0, 0, 0), (90, .goto (-67), 3, 23, 0, 0), (93, .bipush (-9), 2, 0, 0, 0), (95, .ireturn, 1, 0, 0, 0)]]
def qc157 : List (List qI) := [[(0, .iload_n 1, 1, 0, 0, 0), (1, .invokestatic 202, 3, 133, 1, 0), (4, .ifCond .eq 19, 3, 23, 0, 0), (7, .iload_n 2, 1, 0, 0, 0), (8, .invokestatic 195, 3, 130, 1, 0), (11, .ifCond .eq 12, 3, 23, 0, 0), (14, .iload_n 3, 1, 0, 0, 0), (15, .iconst 0, 1, 0, 0, 0)], [(16, .iconst 1, 1, 0, 0, 0), (17, .invokestatic 130, 3, 117, 3, 0), (20, .ifCond .ne 5, 3, 25, 0, 0), (23, .iconst (-1), 1, 0, 0, 0), (24, .ireturn, 1, 0, 0, 0), (25, .aload_n 0, 1, 0, 0, 0), (26, .iload_n 1, 1, 0, 0, 0), (27, .iload_n 2, 1, 0, 0, 0), (28, .invokevirtual 272, 3, 156, 3, 0), (31, .istore 4, 2, 0, 0, 0)], [(33, .iload 4, 2, 0, 0, 0), (35, .bipush (-9), 2, 0, 0, 0), (37, .if_icmp .eq 8, 3, 45, 0, 0), (40, .iload_n 3, 1, 0, 0, 0), (41, .iconst 1, 1, 0, 0, 0), (42, .if_icmp .ne 8, 3, 50, 0, 0), (45, .iload 4, 2, 0, 0, 0), (47, .goto 8, 3, 55, 0, 0)], [(50, .iload 4, 2, 0, 0, 0), (52, .invokestatic 269, 3, 153, 1, 0), (55, .ireturn, 1, 0, 0, 0)]]
def qc158 : List (List qI) := [[(0, .iload_n 1, 1, 0, 0, 0), (1, .invokestatic 202, 3, 133, 1, 0), (4, .ifCond .eq 10, 3, 14, 0, 0), (7, .iload_n 2, 1, 0, 0, 0), (8, .invokestatic 195, 3, 130, 1, 0), (11, .ifCond .ne 5, 3, 16, 0, 0), (14, .iconst (-1), 1, 0, 0, 0), (15, .ireturn, 1, 0, 0, 0)], [(16, .bipush (-9), 2, 0, 0, 0), (18, .istore_n 3, 1, 0, 0, 0), (19, .iconst 0, 1, 0, 0, 0), (20, .istore 4, 2, 0, 0, 0), (22, .iconst 0, 1, 0, 0, 0), (23, .istore 5, 2, 0, 0, 0), (25, .iload 5, 2, 0, 0, 0), (27, .bipush 10, 2, 0, 0, 0), (29, .if_icmp .ge 130, 3, 159, 0, 0)], [(32, .aload_n 0, 1, 0, 0, 0), (33, .iload_n 1, 1, 0, 0, 0), (34, .iload_n 2, 1, 0, 0, 0), (35, .invokevirtual 234, 3, 138, 103, 0), (38, .aload_n 0, 1, 0, 0, 0), (39, .iload_n 1, 1, 0, 0, 0), (40, .iload 5, 2, 0, 0, 0), (42, .iload_n 2, 1, 0, 0, 0), (43, .invokevirtual 208, 3, 136, 4, 0), (46, .bipush (-9), 2, 0, 0, 0)], [(48, .if_icmp .eq 105, 3, 153, 0, 0), (51, .aload_n 0, 1, 0, 0, 0), (52, .getfield 56, 3, 10, 24, 0), (55, .iload 5, 2, 0, 0, 0), (57, .iaload, 1, 0, 0, 0), (58, .bipush (-9), 2, 0, 0, 0), (60, .if_icmp .ne 93, 3, 153, 0, 0), (63, .iconst 0, 1, 0, 0, 0)], [(64, .istore 6, 2, 0, 0, 0), (66, .iconst 0, 1, 0, 0, 0), (67, .istore 7, 2, 0, 0, 0), (69, .iload 7, 2, 0, 0, 0), (71, .bipush 20, 2, 0, 0, 0), (73, .if_icmp .gt 60, 3, 133, 0, 0), (76, .aload_n 0, 1, 0, 0, 0), (77, .getfield 56, 3, 10, 24, 0)], [(80, .iload 5, 2, 0, 0, 0), (82, .iload 7, 2, 0, 0, 0), (84, .iastore, 1, 0, 0, 0), (85, .aload_n 0, 1, 0, 0, 0), (86, .iload_n 1, 1, 0, 0, 0), (87, .iload_n 2, 1, 0, 0, 0), (88, .invokevirtual 238, 3, 141, 3, 0), (91, .ifCond .eq 36, 3, 127, 0, 0), (94, .aload_n 0, 1, 0, 0, 0), (95, .getfield 227, 3, 10, 30, 0)], [(98, .invokestatic 248, 3, 142, 1, 0), (101, .aload_n 0, 1, 0, 0, 0), (102, .getfield 224, 3, 10, 29, 0), (105, .invokestatic 248, 3, 142, 1, 0), (108, .isub, 1, 0, 0, 0), (109, .istore 8, 2, 0, 0, 0), (111, .iload 8, 2, 0, 0, 0)], [(113, .iload 6, 2, 0, 0, 0), (115, .if_icmp .le 8, 3, 123, 0, 0), (118, .iload 8, 2, 0, 0, 0), (120, .goto 5, 3, 125, 0, 0), (123, .iload 6, 2, 0, 0, 0), (125, .istore 6, 2, 0, 0, 0), (127, .iinc 7 1, 3, 0, 0, 0)], [(130, .goto (-61), 3, 69, 0, 0), (133, .iload_n 3, 1, 0, 0, 0), (134, .bipush (-9), 2, 0, 0, 0), (136, .if_icmp .eq 10, 3, 146, 0, 0), (139, .iload 6, 2, 0, 0, 0), (141, .iload 4, 2, 0, 0, 0), (143, .if_icmp .ge 10, 3, 153, 0, 0)], [(146, .iload 5, 2, 0, 0, 0), (148, .istore_n 3, 1, 0, 0, 0), (149, .iload 6, 2, 0, 0, 0), (151, .istore 4, 2, 0, 0, 0), (153, .iinc 5 1, 3, 0, 0, 0), (156, .goto (-131), 3, 25, 0, 0), (159, .iload_n 3, 1, 0, 0, 0)], [(160, .ireturn, 1, 0, 0, 0)]]
def qc159 : List (List qI) := [[(0, .iload_n 1, 1, 0, 0, 0), (1, .iconst 0, 1, 0, 0, 0), (2, .aload_n 0, 1, 0, 0, 0), (3, .getfield 73, 3, 10, 32, 0), (6, .iconst 0, 1, 0, 0, 0), (7, .iaload, 1, 0, 0, 0), (8, .iconst 1, 1, 0, 0, 0), (9, .isub, 1, 0, 0, 0), (10, .invokestatic 130, 3, 117, 3, 0), (13, .ireturn, 1, 0, 0, 0)]]
def qc160 : List (List qI) := [[(0, .iload_n 1, 1, 0, 0, 0), (1, .invokestatic 202, 3, 133, 1, 0), (4, .ifCond .eq 12, 3, 16, 0, 0), (7, .iload_n 2, 1, 0, 0, 0), (8, .iconst 0, 1, 0, 0, 0), (9, .iconst 2, 1, 0, 0, 0), (10, .invokestatic 130, 3, 117, 3, 0), (13, .ifCond .ne 5, 3, 18, 0, 0)], [(16, .iconst (-1), 1, 0, 0, 0), (17, .ireturn, 1, 0, 0, 0), (18, .aload_n 0, 1, 0, 0, 0), (19, .iload_n 1, 1, 0, 0, 0), (20, .aload_n 0, 1, 0, 0, 0), (21, .getfield 212, 3, 10, 1, 0), (24, .iload_n 2, 1, 0, 0, 0), (25, .invokevirtual 256, 3, 148, 4, 0), (28, .istore_n 3, 1, 0, 0, 0), (29, .iload_n 3, 1, 0, 0, 0), (30, .ifCond .ne 6, 3, 36, 0, 0)], [(33, .bipush (-2), 2, 0, 0, 0), (35, .ireturn, 1, 0, 0, 0), (36, .aload_n 0, 1, 0, 0, 0), (37, .getfield 73, 3, 10, 32, 0), (40, .iconst 0, 1, 0, 0, 0), (41, .iaload, 1, 0, 0, 0), (42, .bipush 20, 2, 0, 0, 0), (44, .if_icmp .ne 6, 3, 50, 0, 0), (47, .bipush (-3), 2, 0, 0, 0)], [(49, .ireturn, 1, 0, 0, 0), (50, .aload_n 0, 1, 0, 0, 0), (51, .getfield 73, 3, 10, 32, 0), (54, .iconst 0, 1, 0, 0, 0), (55, .iaload, 1, 0, 0, 0), (56, .istore 4, 2, 0, 0, 0), (58, .aload_n 0, 1, 0, 0, 0), (59, .getfield 88, 3, 10, 37, 0), (62, .iload 4, 2, 0, 0, 0)], [(64, .iload_n 1, 1, 0, 0, 0), (65, .iastore, 1, 0, 0, 0), (66, .aload_n 0, 1, 0, 0, 0), (67, .getfield 91, 3, 10, 38, 0), (70, .iload 4, 2, 0, 0, 0), (72, .iload_n 3, 1, 0, 0, 0), (73, .iastore, 1, 0, 0, 0), (74, .aload_n 0, 1, 0, 0, 0), (75, .getfield 94, 3, 10, 39, 0), (78, .iload 4, 2, 0, 0, 0)], [(80, .iload_n 3, 1, 0, 0, 0), (81, .iastore, 1, 0, 0, 0), (82, .aload_n 0, 1, 0, 0, 0), (83, .getfield 97, 3, 10, 40, 0), (86, .iload 4, 2, 0, 0, 0), (88, .iconst 0, 1, 0, 0, 0), (89, .iastore, 1, 0, 0, 0), (90, .aload_n 0, 1, 0, 0, 0), (91, .getfield 100, 3, 10, 41, 0), (94, .iload 4, 2, 0, 0, 0)], [(96, .iconst 0, 1, 0, 0, 0), (97, .iastore, 1, 0, 0, 0), (98, .aload_n 0, 1, 0, 0, 0), (99, .getfield 103, 3, 10, 42, 0), (102, .iload 4, 2, 0, 0, 0), (104, .aload_n 0, 1, 0, 0, 0), (105, .getfield 212, 3, 10, 1, 0), (108, .iastore, 1, 0, 0, 0), (109, .aload_n 0, 1, 0, 0, 0), (110, .getfield 106, 3, 10, 43, 0)], [(113, .iload 4, 2, 0, 0, 0), (115, .iconst 0, 1, 0, 0, 0), (116, .iastore, 1, 0, 0, 0), (117, .aload_n 0, 1, 0, 0, 0), (118, .getfield 109, 3, 10, 44, 0), (121, .iload 4, 2, 0, 0, 0), (123, .iconst 0, 1, 0, 0, 0), (124, .iastore, 1, 0, 0, 0), (125, .aload_n 0, 1, 0, 0, 0), (126, .getfield 73, 3, 10, 32, 0)], [(129, .iconst 0, 1, 0, 0, 0), (130, .dup2, 1, 0, 0, 0), (131, .iaload, 1, 0, 0, 0), (132, .iconst 1, 1, 0, 0, 0), (133, .iadd, 1, 0, 0, 0), (134, .iastore, 1, 0, 0, 0), (135, .iload 4, 2, 0, 0, 0), (137, .ireturn, 1, 0, 0, 0)]]
def qc161 : List (List qI) := [[(0, .aload_n 0, 1, 0, 0, 0), (1, .getfield 124, 3, 10, 49, 0), (4, .sipush 201, 3, 0, 0, 0), (7, .iconst 2, 1, 0, 0, 0), (8, .iload_n 1, 1, 0, 0, 0), (9, .imul, 1, 0, 0, 0), (10, .iload_n 2, 1, 0, 0, 0), (11, .iadd, 1, 0, 0, 0), (12, .imul, 1, 0, 0, 0), (13, .iload_n 3, 1, 0, 0, 0), (14, .iadd, 1, 0, 0, 0), (15, .iaload, 1, 0, 0, 0)], [(16, .ireturn, 1, 0, 0, 0)]]
def qc162 : List (List qI) := [[(0, .iload_n 1, 1, 0, 0, 0), (1, .invokestatic 202, 3, 133, 1, 0), (4, .ifCond .eq 22, 3, 26, 0, 0), (7, .iload_n 2, 1, 0, 0, 0), (8, .iconst 0, 1, 0, 0, 0), (9, .iconst 1, 1, 0, 0, 0), (10, .invokestatic 130, 3, 117, 3, 0), (13, .ifCond .eq 13, 3, 26, 0, 0)], [(16, .iload_n 3, 1, 0, 0, 0), (17, .iconst 0, 1, 0, 0, 0), (18, .bipush 99, 2, 0, 0, 0), (20, .invokestatic 130, 3, 117, 3, 0), (23, .ifCond .ne 5, 3, 28, 0, 0), (26, .iconst (-1), 1, 0, 0, 0), (27, .ireturn, 1, 0, 0, 0), (28, .aload_n 0, 1, 0, 0, 0), (29, .iload_n 1, 1, 0, 0, 0), (30, .iload_n 2, 1, 0, 0, 0), (31, .aload_n 0, 1, 0, 0, 0)], [(32, .getfield 212, 3, 10, 1, 0), (35, .invokevirtual 275, 3, 161, 4, 0), (38, .istore 4, 2, 0, 0, 0), (40, .aload_n 0, 1, 0, 0, 0), (41, .getfield 212, 3, 10, 1, 0), (44, .istore 5, 2, 0, 0, 0), (46, .iload 5, 2, 0, 0, 0)], [(48, .sipush 200, 3, 0, 0, 0), (51, .if_icmp .gt 27, 3, 78, 0, 0), (54, .aload_n 0, 1, 0, 0, 0), (55, .getfield 124, 3, 10, 49, 0), (58, .sipush 201, 3, 0, 0, 0), (61, .iconst 2, 1, 0, 0, 0), (62, .iload_n 1, 1, 0, 0, 0), (63, .imul, 1, 0, 0, 0)], [(64, .iload_n 2, 1, 0, 0, 0), (65, .iadd, 1, 0, 0, 0), (66, .imul, 1, 0, 0, 0), (67, .iload 5, 2, 0, 0, 0), (69, .iadd, 1, 0, 0, 0), (70, .iload_n 3, 1, 0, 0, 0), (71, .iastore, 1, 0, 0, 0), (72, .iinc 5 1, 3, 0, 0, 0), (75, .goto (-29), 3, 46, 0, 0), (78, .iload 4, 2, 0, 0, 0)], [(80, .ireturn, 1, 0, 0, 0)]]
def qc163 : List (List qI) := [[(0, .aload_n 0, 1, 0, 0, 0), (1, .iload_n 1, 1, 0, 0, 0), (2, .invokevirtual 278, 3, 159, 2, 0), (5, .ifCond .ne 5, 3, 10, 0, 0), (8, .iconst (-1), 1, 0, 0, 0), (9, .ireturn, 1, 0, 0, 0), (10, .aload_n 0, 1, 0, 0, 0), (11, .getfield 76, 3, 10, 33, 0), (14, .iconst 0, 1, 0, 0, 0), (15, .iaload, 1, 0, 0, 0)], [(16, .bipush 30, 2, 0, 0, 0), (18, .if_icmp .ne 6, 3, 24, 0, 0), (21, .bipush (-3), 2, 0, 0, 0), (23, .ireturn, 1, 0, 0, 0), (24, .aload_n 0, 1, 0, 0, 0), (25, .getfield 76, 3, 10, 33, 0), (28, .iconst 0, 1, 0, 0, 0), (29, .iaload, 1, 0, 0, 0), (30, .istore_n 2, 1, 0, 0, 0), (31, .aload_n 0, 1, 0, 0, 0)], [(32, .getfield 112, 3, 10, 45, 0), (35, .iload_n 2, 1, 0, 0, 0), (36, .iload_n 1, 1, 0, 0, 0), (37, .iastore, 1, 0, 0, 0), (38, .aload_n 0, 1, 0, 0, 0), (39, .getfield 115, 3, 10, 46, 0), (42, .iload_n 2, 1, 0, 0, 0), (43, .aload_n 0, 1, 0, 0, 0), (44, .getfield 212, 3, 10, 1, 0), (47, .iastore, 1, 0, 0, 0)], [(48, .aload_n 0, 1, 0, 0, 0), (49, .getfield 118, 3, 10, 47, 0), (52, .iload_n 2, 1, 0, 0, 0), (53, .aload_n 0, 1, 0, 0, 0), (54, .aload_n 0, 1, 0, 0, 0), (55, .getfield 88, 3, 10, 37, 0), (58, .iload_n 1, 1, 0, 0, 0), (59, .iaload, 1, 0, 0, 0), (60, .iconst 1, 1, 0, 0, 0), (61, .aload_n 0, 1, 0, 0, 0), (62, .getfield 212, 3, 10, 1, 0)], [(65, .invokevirtual 275, 3, 161, 4, 0), (68, .iastore, 1, 0, 0, 0), (69, .aload_n 0, 1, 0, 0, 0), (70, .getfield 76, 3, 10, 33, 0), (73, .iconst 0, 1, 0, 0, 0), (74, .dup2, 1, 0, 0, 0), (75, .iaload, 1, 0, 0, 0), (76, .iconst 1, 1, 0, 0, 0), (77, .iadd, 1, 0, 0, 0), (78, .iastore, 1, 0, 0, 0), (79, .iload_n 2, 1, 0, 0, 0)], [(80, .ireturn, 1, 0, 0, 0)]]
def qc164 : List (List qI) := [[(0, .aload_n 0, 1, 0, 0, 0), (1, .getfield 115, 3, 10, 46, 0), (4, .iload_n 1, 1, 0, 0, 0), (5, .iaload, 1, 0, 0, 0), (6, .iconst 2, 1, 0, 0, 0), (7, .iadd, 1, 0, 0, 0), (8, .istore_n 2, 1, 0, 0, 0), (9, .iload_n 2, 1, 0, 0, 0), (10, .aload_n 0, 1, 0, 0, 0), (11, .getfield 212, 3, 10, 1, 0), (14, .if_icmp .le 5, 3, 19, 0, 0)], [(17, .iconst 0, 1, 0, 0, 0), (18, .ireturn, 1, 0, 0, 0), (19, .aload_n 0, 1, 0, 0, 0), (20, .aload_n 0, 1, 0, 0, 0), (21, .getfield 88, 3, 10, 37, 0), (24, .aload_n 0, 1, 0, 0, 0), (25, .getfield 112, 3, 10, 45, 0), (28, .iload_n 1, 1, 0, 0, 0), (29, .iaload, 1, 0, 0, 0), (30, .iaload, 1, 0, 0, 0), (31, .iconst 0, 1, 0, 0, 0)], [(32, .iload_n 2, 1, 0, 0, 0), (33, .invokevirtual 275, 3, 161, 4, 0), (36, .aload_n 0, 1, 0, 0, 0), (37, .getfield 118, 3, 10, 47, 0), (40, .iload_n 1, 1, 0, 0, 0), (41, .iaload, 1, 0, 0, 0), (42, .if_icmp .ne 7, 3, 49, 0, 0), (45, .iconst 1, 1, 0, 0, 0), (46, .goto 4, 3, 50, 0, 0)], [(49, .iconst 2, 1, 0, 0, 0), (50, .ireturn, 1, 0, 0, 0)]]
def qc165 : List (List qI) := [[(0, .iload_n 1, 1, 0, 0, 0), (1, .iconst 0, 1, 0, 0, 0), (2, .aload_n 0, 1, 0, 0, 0), (3, .getfield 76, 3, 10, 33, 0), (6, .iconst 0, 1, 0, 0, 0), (7, .iaload, 1, 0, 0, 0), (8, .iconst 1, 1, 0, 0, 0), (9, .isub, 1, 0, 0, 0), (10, .invokestatic 130, 3, 117, 3, 0), (13, .ifCond .eq 12, 3, 25, 0, 0)], [(16, .iload_n 2, 1, 0, 0, 0), (17, .iconst 0, 1, 0, 0, 0), (18, .iconst 3, 1, 0, 0, 0), (19, .invokestatic 130, 3, 117, 3, 0), (22, .ifCond .ne 5, 3, 27, 0, 0), (25, .iconst (-1), 1, 0, 0, 0), (26, .ireturn, 1, 0, 0, 0), (27, .iload_n 2, 1, 0, 0, 0), (28, .ifCond .ne 12, 3, 40, 0, 0), (31, .aload_n 0, 1, 0, 0, 0)], [(32, .getfield 112, 3, 10, 45, 0), (35, .iload_n 1, 1, 0, 0, 0), (36, .iaload, 1, 0, 0, 0), (37, .goto 36, 3, 73, 0, 0), (40, .iload_n 2, 1, 0, 0, 0), (41, .iconst 1, 1, 0, 0, 0), (42, .if_icmp .ne 12, 3, 54, 0, 0), (45, .aload_n 0, 1, 0, 0, 0), (46, .getfield 115, 3, 10, 46, 0)], [(49, .iload_n 1, 1, 0, 0, 0), (50, .iaload, 1, 0, 0, 0), (51, .goto 22, 3, 73, 0, 0), (54, .iload_n 2, 1, 0, 0, 0), (55, .iconst 2, 1, 0, 0, 0), (56, .if_icmp .ne 12, 3, 68, 0, 0), (59, .aload_n 0, 1, 0, 0, 0), (60, .getfield 118, 3, 10, 47, 0), (63, .iload_n 1, 1, 0, 0, 0)], [(64, .iaload, 1, 0, 0, 0), (65, .goto 8, 3, 73, 0, 0), (68, .aload_n 0, 1, 0, 0, 0), (69, .iload_n 1, 1, 0, 0, 0), (70, .invokevirtual 281, 3, 164, 2, 0), (73, .ireturn, 1, 0, 0, 0)]]
def qc166 : List (List qI) := [[(0, .iconst 0, 1, 0, 0, 0), (1, .istore_n 2, 1, 0, 0, 0), (2, .iconst 0, 1, 0, 0, 0), (3, .istore_n 3, 1, 0, 0, 0), (4, .iload_n 3, 1, 0, 0, 0), (5, .aload_n 0, 1, 0, 0, 0), (6, .getfield 76, 3, 10, 33, 0), (9, .iconst 0, 1, 0, 0, 0), (10, .iaload, 1, 0, 0, 0), (11, .if_icmp .ge 54, 3, 65, 0, 0), (14, .iload_n 2, 1, 0, 0, 0), (15, .ifCond .ne 38, 3, 53, 0, 0)], [(18, .aload_n 0, 1, 0, 0, 0), (19, .getfield 112, 3, 10, 45, 0), (22, .iload_n 3, 1, 0, 0, 0), (23, .iaload, 1, 0, 0, 0), (24, .iload_n 1, 1, 0, 0, 0), (25, .if_icmp .ne 32, 3, 57, 0, 0), (28, .aload_n 0, 1, 0, 0, 0), (29, .getfield 115, 3, 10, 46, 0)], [(32, .iload_n 3, 1, 0, 0, 0), (33, .iaload, 1, 0, 0, 0), (34, .bipush 9, 2, 0, 0, 0), (36, .iadd, 1, 0, 0, 0), (37, .aload_n 0, 1, 0, 0, 0), (38, .getfield 212, 3, 10, 1, 0), (41, .if_icmp .gt 16, 3, 57, 0, 0), (44, .aload_n 0, 1, 0, 0, 0), (45, .iload_n 3, 1, 0, 0, 0), (46, .invokevirtual 281, 3, 164, 2, 0)], [(49, .iconst 1, 1, 0, 0, 0), (50, .if_icmp .ne 7, 3, 57, 0, 0), (53, .iconst 1, 1, 0, 0, 0), (54, .goto 4, 3, 58, 0, 0), (57, .iconst 0, 1, 0, 0, 0), (58, .istore_n 2, 1, 0, 0, 0), (59, .iinc 3 1, 3, 0, 0, 0), (62, .goto (-58), 3, 4, 0, 0)], [(65, .iload_n 2, 1, 0, 0, 0), (66, .ireturn, 1, 0, 0, 0)]]
def qc167 : List (List qI) := [[(0, .iload_n 1, 1, 0, 0, 0), (1, .invokestatic 202, 3, 133, 1, 0), (4, .ifCond .eq 35, 3, 39, 0, 0), (7, .iload_n 2, 1, 0, 0, 0), (8, .iconst 0, 1, 0, 0, 0), (9, .sipush 999, 3, 0, 0, 0), (12, .invokestatic 130, 3, 117, 3, 0), (15, .ifCond .eq 24, 3, 39, 0, 0)], [(18, .iload_n 3, 1, 0, 0, 0), (19, .iconst 1, 1, 0, 0, 0), (20, .bipush 20, 2, 0, 0, 0), (22, .invokestatic 130, 3, 117, 3, 0), (25, .ifCond .eq 14, 3, 39, 0, 0), (28, .iload 4, 2, 0, 0, 0), (30, .iload_n 3, 1, 0, 0, 0), (31, .bipush 20, 2, 0, 0, 0)], [(33, .invokestatic 130, 3, 117, 3, 0), (36, .ifCond .ne 5, 3, 41, 0, 0), (39, .iconst (-1), 1, 0, 0, 0), (40, .ireturn, 1, 0, 0, 0), (41, .iload_n 2, 1, 0, 0, 0), (42, .iload_n 3, 1, 0, 0, 0), (43, .imul, 1, 0, 0, 0), (44, .iload 4, 2, 0, 0, 0), (46, .idiv, 1, 0, 0, 0), (47, .istore 5, 2, 0, 0, 0)], [(49, .iconst 0, 1, 0, 0, 0), (50, .istore 6, 2, 0, 0, 0), (52, .iconst 0, 1, 0, 0, 0), (53, .istore 7, 2, 0, 0, 0), (55, .iload 7, 2, 0, 0, 0), (57, .aload_n 0, 1, 0, 0, 0), (58, .getfield 73, 3, 10, 32, 0), (61, .iconst 0, 1, 0, 0, 0), (62, .iaload, 1, 0, 0, 0), (63, .if_icmp .ge 111, 3, 174, 0, 0)], [(66, .aload_n 0, 1, 0, 0, 0), (67, .getfield 88, 3, 10, 37, 0), (70, .iload 7, 2, 0, 0, 0), (72, .iaload, 1, 0, 0, 0), (73, .iload_n 1, 1, 0, 0, 0), (74, .if_icmp .ne 94, 3, 168, 0, 0), (77, .aload_n 0, 1, 0, 0, 0), (78, .iload 7, 2, 0, 0, 0)], [(80, .invokevirtual 284, 3, 166, 2, 0), (83, .ifCond .eq 85, 3, 168, 0, 0), (86, .iload 5, 2, 0, 0, 0), (88, .aload_n 0, 1, 0, 0, 0), (89, .getfield 94, 3, 10, 39, 0), (92, .iload 7, 2, 0, 0, 0), (94, .iaload, 1, 0, 0, 0), (95, .if_icmp .ge 8, 3, 103, 0, 0)], [(98, .iload 5, 2, 0, 0, 0), (100, .goto 10, 3, 110, 0, 0), (103, .aload_n 0, 1, 0, 0, 0), (104, .getfield 94, 3, 10, 39, 0), (107, .iload 7, 2, 0, 0, 0), (109, .iaload, 1, 0, 0, 0), (110, .istore 8, 2, 0, 0, 0)], [(112, .aload_n 0, 1, 0, 0, 0), (113, .getfield 94, 3, 10, 39, 0), (116, .iload 7, 2, 0, 0, 0), (118, .dup2, 1, 0, 0, 0), (119, .iaload, 1, 0, 0, 0), (120, .iload 8, 2, 0, 0, 0), (122, .isub, 1, 0, 0, 0), (123, .iastore, 1, 0, 0, 0), (124, .aload_n 0, 1, 0, 0, 0), (125, .getfield 97, 3, 10, 40, 0)], [(128, .iload 7, 2, 0, 0, 0), (130, .dup2, 1, 0, 0, 0), (131, .iaload, 1, 0, 0, 0), (132, .iload 8, 2, 0, 0, 0), (134, .iadd, 1, 0, 0, 0), (135, .iastore, 1, 0, 0, 0), (136, .aload_n 0, 1, 0, 0, 0), (137, .getfield 106, 3, 10, 43, 0), (140, .iload 7, 2, 0, 0, 0), (142, .dup2, 1, 0, 0, 0), (143, .iaload, 1, 0, 0, 0)], [(144, .iload 8, 2, 0, 0, 0), (146, .bipush 9, 2, 0, 0, 0), (148, .iadd, 1, 0, 0, 0), (149, .bipush 10, 2, 0, 0, 0), (151, .idiv, 1, 0, 0, 0), (152, .iadd, 1, 0, 0, 0), (153, .iastore, 1, 0, 0, 0), (154, .iload 5, 2, 0, 0, 0), (156, .iload 8, 2, 0, 0, 0), (158, .isub, 1, 0, 0, 0), (159, .istore 5, 2, 0, 0, 0)], [(161, .iload 6, 2, 0, 0, 0), (163, .iload 8, 2, 0, 0, 0), (165, .iadd, 1, 0, 0, 0), (166, .istore 6, 2, 0, 0, 0), (168, .iinc 7 1, 3, 0, 0, 0), (171, .goto (-116), 3, 55, 0, 0), (174, .iload 6, 2, 0, 0, 0)], [(176, .ireturn, 1, 0, 0, 0)]]
def qc168 : List (List qI) := [[(0, .aload_n 0, 1, 0, 0, 0), (1, .iload_n 1, 1, 0, 0, 0), (2, .invokevirtual 278, 3, 159, 2, 0), (5, .ifCond .ne 5, 3, 10, 0, 0), (8, .iconst (-1), 1, 0, 0, 0), (9, .ireturn, 1, 0, 0, 0), (10, .aload_n 0, 1, 0, 0, 0), (11, .getfield 109, 3, 10, 44, 0), (14, .iload_n 1, 1, 0, 0, 0), (15, .iaload, 1, 0, 0, 0)], [(16, .iconst 1, 1, 0, 0, 0), (17, .if_icmp .ne 6, 3, 23, 0, 0), (20, .bipush (-2), 2, 0, 0, 0), (22, .ireturn, 1, 0, 0, 0), (23, .aload_n 0, 1, 0, 0, 0), (24, .getfield 97, 3, 10, 40, 0), (27, .iload_n 1, 1, 0, 0, 0), (28, .iaload, 1, 0, 0, 0), (29, .istore_n 2, 1, 0, 0, 0), (30, .aload_n 0, 1, 0, 0, 0), (31, .getfield 100, 3, 10, 41, 0)], [(34, .iload_n 1, 1, 0, 0, 0), (35, .aload_n 0, 1, 0, 0, 0), (36, .getfield 94, 3, 10, 39, 0), (39, .iload_n 1, 1, 0, 0, 0), (40, .iaload, 1, 0, 0, 0), (41, .iload_n 2, 1, 0, 0, 0), (42, .iadd, 1, 0, 0, 0), (43, .iastore, 1, 0, 0, 0), (44, .aload_n 0, 1, 0, 0, 0), (45, .getfield 94, 3, 10, 39, 0)], [(48, .iload_n 1, 1, 0, 0, 0), (49, .iconst 0, 1, 0, 0, 0), (50, .iastore, 1, 0, 0, 0), (51, .aload_n 0, 1, 0, 0, 0), (52, .getfield 97, 3, 10, 40, 0), (55, .iload_n 1, 1, 0, 0, 0), (56, .iconst 0, 1, 0, 0, 0), (57, .iastore, 1, 0, 0, 0), (58, .aload_n 0, 1, 0, 0, 0), (59, .getfield 109, 3, 10, 44, 0), (62, .iload_n 1, 1, 0, 0, 0), (63, .iconst 1, 1, 0, 0, 0)], [(64, .iastore, 1, 0, 0, 0), (65, .aload_n 0, 1, 0, 0, 0), (66, .getfield 82, 3, 10, 35, 0), (69, .iconst 0, 1, 0, 0, 0), (70, .dup2, 1, 0, 0, 0), (71, .iaload, 1, 0, 0, 0), (72, .aload_n 0, 1, 0, 0, 0), (73, .getfield 106, 3, 10, 43, 0), (76, .iload_n 1, 1, 0, 0, 0), (77, .iaload, 1, 0, 0, 0), (78, .iadd, 1, 0, 0, 0), (79, .iastore, 1, 0, 0, 0)], [(80, .iload_n 2, 1, 0, 0, 0), (81, .ireturn, 1, 0, 0, 0)]]
def qc169 : List (List qI) := [[(0, .aload_n 0, 1, 0, 0, 0), (1, .iload_n 1, 1, 0, 0, 0), (2, .invokevirtual 278, 3, 159, 2, 0), (5, .ifCond .ne 5, 3, 10, 0, 0), (8, .iconst (-1), 1, 0, 0, 0), (9, .ireturn, 1, 0, 0, 0), (10, .iload_n 2, 1, 0, 0, 0), (11, .tableswitch 90 0 6 #[41, 48, 55, 62, 69, 76, 83], 41, 0, 0, 0)], [], [], [(52, .aload_n 0, 1, 0, 0, 0), (53, .getfield 88, 3, 10, 37, 0), (56, .iload_n 1, 1, 0, 0, 0), (57, .iaload, 1, 0, 0, 0), (58, .ireturn, 1, 0, 0, 0), (59, .aload_n 0, 1, 0, 0, 0), (60, .getfield 91, 3, 10, 38, 0), (63, .iload_n 1, 1, 0, 0, 0)], [(64, .iaload, 1, 0, 0, 0), (65, .ireturn, 1, 0, 0, 0), (66, .aload_n 0, 1, 0, 0, 0), (67, .getfield 94, 3, 10, 39, 0), (70, .iload_n 1, 1, 0, 0, 0), (71, .iaload, 1, 0, 0, 0), (72, .ireturn, 1, 0, 0, 0), (73, .aload_n 0, 1, 0, 0, 0), (74, .getfield 97, 3, 10, 40, 0), (77, .iload_n 1, 1, 0, 0, 0), (78, .iaload, 1, 0, 0, 0), (79, .ireturn, 1, 0, 0, 0)], [(80, .aload_n 0, 1, 0, 0, 0), (81, .getfield 100, 3, 10, 41, 0), (84, .iload_n 1, 1, 0, 0, 0), (85, .iaload, 1, 0, 0, 0), (86, .ireturn, 1, 0, 0, 0), (87, .aload_n 0, 1, 0, 0, 0), (88, .getfield 103, 3, 10, 42, 0), (91, .iload_n 1, 1, 0, 0, 0), (92, .iaload, 1, 0, 0, 0), (93, .ireturn, 1, 0, 0, 0), (94, .aload_n 0, 1, 0, 0, 0), (95, .getfield 106, 3, 10, 43, 0)], [(98, .iload_n 1, 1, 0, 0, 0), (99, .iaload, 1, 0, 0, 0), (100, .ireturn, 1, 0, 0, 0), (101, .iconst (-1), 1, 0, 0, 0), (102, .ireturn, 1, 0, 0, 0)]]
def qc170 : List (List qI) := [[(0, .aload_n 0, 1, 0, 0, 0), (1, .iload_n 1, 1, 0, 0, 0), (2, .invokevirtual 278, 3, 159, 2, 0), (5, .ifCond .eq 10, 3, 15, 0, 0), (8, .iload_n 2, 1, 0, 0, 0), (9, .invokestatic 195, 3, 130, 1, 0), (12, .ifCond .ne 5, 3, 17, 0, 0), (15, .iconst (-1), 1, 0, 0, 0)], [(16, .ireturn, 1, 0, 0, 0), (17, .aload_n 0, 1, 0, 0, 0), (18, .aload_n 0, 1, 0, 0, 0), (19, .getfield 88, 3, 10, 37, 0), (22, .iload_n 1, 1, 0, 0, 0), (23, .iaload, 1, 0, 0, 0), (24, .iload_n 2, 1, 0, 0, 0), (25, .invokevirtual 242, 3, 144, 103, 0), (28, .aload_n 0, 1, 0, 0, 0), (29, .getfield 91, 3, 10, 38, 0)], [(32, .iload_n 1, 1, 0, 0, 0), (33, .iaload, 1, 0, 0, 0), (34, .aload_n 0, 1, 0, 0, 0), (35, .getfield 227, 3, 10, 30, 0), (38, .invokestatic 248, 3, 142, 1, 0), (41, .if_icmp .le 7, 3, 48, 0, 0), (44, .iconst 2, 1, 0, 0, 0), (45, .goto 24, 3, 69, 0, 0)], [(48, .aload_n 0, 1, 0, 0, 0), (49, .getfield 91, 3, 10, 38, 0), (52, .iload_n 1, 1, 0, 0, 0), (53, .iaload, 1, 0, 0, 0), (54, .aload_n 0, 1, 0, 0, 0), (55, .getfield 224, 3, 10, 29, 0), (58, .invokestatic 248, 3, 142, 1, 0), (61, .if_icmp .le 7, 3, 68, 0, 0)], [(64, .iconst 1, 1, 0, 0, 0), (65, .goto 4, 3, 69, 0, 0), (68, .iconst 0, 1, 0, 0, 0), (69, .ireturn, 1, 0, 0, 0)]]
def qc171 : List (List qI) := [[(0, .iconst 0, 1, 0, 0, 0), (1, .istore_n 2, 1, 0, 0, 0), (2, .iconst 0, 1, 0, 0, 0), (3, .istore_n 3, 1, 0, 0, 0), (4, .iload_n 1, 1, 0, 0, 0), (5, .iload_n 2, 1, 0, 0, 0), (6, .iadd, 1, 0, 0, 0), (7, .aload_n 0, 1, 0, 0, 0), (8, .getfield 79, 3, 10, 34, 0), (11, .iconst 0, 1, 0, 0, 0), (12, .iaload, 1, 0, 0, 0), (13, .if_icmp .ge 35, 3, 48, 0, 0)], [(16, .iload_n 3, 1, 0, 0, 0), (17, .aload_n 0, 1, 0, 0, 0), (18, .getfield 121, 3, 10, 48, 0), (21, .iload_n 1, 1, 0, 0, 0), (22, .iload_n 2, 1, 0, 0, 0), (23, .iadd, 1, 0, 0, 0), (24, .iaload, 1, 0, 0, 0), (25, .iadd, 1, 0, 0, 0), (26, .bipush 60, 2, 0, 0, 0), (28, .if_icmp .gt 20, 3, 48, 0, 0), (31, .iload_n 3, 1, 0, 0, 0)], [(32, .aload_n 0, 1, 0, 0, 0), (33, .getfield 121, 3, 10, 48, 0), (36, .iload_n 1, 1, 0, 0, 0), (37, .iload_n 2, 1, 0, 0, 0), (38, .iadd, 1, 0, 0, 0), (39, .iaload, 1, 0, 0, 0), (40, .iadd, 1, 0, 0, 0), (41, .istore_n 3, 1, 0, 0, 0), (42, .iinc 2 1, 3, 0, 0, 0), (45, .goto (-41), 3, 4, 0, 0)], [(48, .iload_n 2, 1, 0, 0, 0), (49, .ireturn, 1, 0, 0, 0)]]
def qc172 : List (List qI) := [[(0, .iload_n 1, 1, 0, 0, 0), (1, .invokestatic 202, 3, 133, 1, 0), (4, .ifCond .eq 13, 3, 17, 0, 0), (7, .iload_n 2, 1, 0, 0, 0), (8, .iconst 1, 1, 0, 0, 0), (9, .bipush 60, 2, 0, 0, 0), (11, .invokestatic 130, 3, 117, 3, 0), (14, .ifCond .ne 5, 3, 19, 0, 0)], [(17, .iconst (-1), 1, 0, 0, 0), (18, .ireturn, 1, 0, 0, 0), (19, .aload_n 0, 1, 0, 0, 0), (20, .getfield 79, 3, 10, 34, 0), (23, .iconst 0, 1, 0, 0, 0), (24, .iaload, 1, 0, 0, 0), (25, .bipush 40, 2, 0, 0, 0), (27, .if_icmp .ne 6, 3, 33, 0, 0), (30, .bipush (-3), 2, 0, 0, 0)], [(32, .ireturn, 1, 0, 0, 0), (33, .aload_n 0, 1, 0, 0, 0), (34, .getfield 121, 3, 10, 48, 0), (37, .aload_n 0, 1, 0, 0, 0), (38, .getfield 79, 3, 10, 34, 0), (41, .iconst 0, 1, 0, 0, 0), (42, .iaload, 1, 0, 0, 0), (43, .iload_n 2, 1, 0, 0, 0), (44, .iastore, 1, 0, 0, 0), (45, .aload_n 0, 1, 0, 0, 0), (46, .getfield 79, 3, 10, 34, 0)], [(49, .iconst 0, 1, 0, 0, 0), (50, .dup2, 1, 0, 0, 0), (51, .iaload, 1, 0, 0, 0), (52, .iconst 1, 1, 0, 0, 0), (53, .iadd, 1, 0, 0, 0), (54, .iastore, 1, 0, 0, 0), (55, .iconst 0, 1, 0, 0, 0), (56, .istore_n 3, 1, 0, 0, 0), (57, .aload_n 0, 1, 0, 0, 0), (58, .iconst 0, 1, 0, 0, 0), (59, .invokevirtual 287, 3, 171, 2, 0), (62, .istore 4, 2, 0, 0, 0)], [(64, .iload 4, 2, 0, 0, 0), (66, .aload_n 0, 1, 0, 0, 0), (67, .getfield 79, 3, 10, 34, 0), (70, .iconst 0, 1, 0, 0, 0), (71, .iaload, 1, 0, 0, 0), (72, .if_icmp .ge 20, 3, 92, 0, 0), (75, .iload 4, 2, 0, 0, 0), (77, .aload_n 0, 1, 0, 0, 0), (78, .iload 4, 2, 0, 0, 0)], [(80, .invokevirtual 287, 3, 171, 2, 0), (83, .iadd, 1, 0, 0, 0), (84, .istore 4, 2, 0, 0, 0), (86, .iinc 3 1, 3, 0, 0, 0), (89, .goto (-25), 3, 64, 0, 0), (92, .iload_n 3, 1, 0, 0, 0), (93, .ireturn, 1, 0, 0, 0)]]
def qc173 : List (List qI) := [[(0, .aload_n 0, 1, 0, 0, 0), (1, .getfield 212, 3, 10, 1, 0), (4, .sipush 200, 3, 0, 0, 0), (7, .if_icmp .ne 6, 3, 13, 0, 0), (10, .bipush (-2), 2, 0, 0, 0), (12, .ireturn, 1, 0, 0, 0), (13, .aload_n 0, 1, 0, 0, 0), (14, .iconst 0, 1, 0, 0, 0), (15, .invokevirtual 287, 3, 171, 2, 0)], [(18, .istore_n 1, 1, 0, 0, 0), (19, .iload_n 1, 1, 0, 0, 0), (20, .istore_n 2, 1, 0, 0, 0), (21, .iload_n 2, 1, 0, 0, 0), (22, .aload_n 0, 1, 0, 0, 0), (23, .getfield 79, 3, 10, 34, 0), (26, .iconst 0, 1, 0, 0, 0), (27, .iaload, 1, 0, 0, 0), (28, .if_icmp .ge 23, 3, 51, 0, 0), (31, .aload_n 0, 1, 0, 0, 0)], [(32, .getfield 121, 3, 10, 48, 0), (35, .iload_n 2, 1, 0, 0, 0), (36, .iload_n 1, 1, 0, 0, 0), (37, .isub, 1, 0, 0, 0), (38, .aload_n 0, 1, 0, 0, 0), (39, .getfield 121, 3, 10, 48, 0), (42, .iload_n 2, 1, 0, 0, 0), (43, .iaload, 1, 0, 0, 0), (44, .iastore, 1, 0, 0, 0), (45, .iinc 2 1, 3, 0, 0, 0)], [(48, .goto (-27), 3, 21, 0, 0), (51, .aload_n 0, 1, 0, 0, 0), (52, .getfield 79, 3, 10, 34, 0), (55, .iconst 0, 1, 0, 0, 0), (56, .dup2, 1, 0, 0, 0), (57, .iaload, 1, 0, 0, 0), (58, .iload_n 1, 1, 0, 0, 0), (59, .isub, 1, 0, 0, 0), (60, .iastore, 1, 0, 0, 0), (61, .aload_n 0, 1, 0, 0, 0), (62, .dup, 1, 0, 0, 0), (63, .getfield 212, 3, 10, 1, 0)], [(66, .iconst 1, 1, 0, 0, 0), (67, .iadd, 1, 0, 0, 0), (68, .putfield 212, 3, 10, 1, 0), (71, .iload_n 1, 1, 0, 0, 0), (72, .ireturn, 1, 0, 0, 0)]]
def qc174 : List (List qI) := [[(0, .iload_n 1, 1, 0, 0, 0), (1, .iconst 0, 1, 0, 0, 0), (2, .bipush 7, 2, 0, 0, 0), (4, .invokestatic 130, 3, 117, 3, 0), (7, .ifCond .eq 17, 3, 24, 0, 0), (10, .iload_n 2, 1, 0, 0, 0), (11, .invokestatic 202, 3, 133, 1, 0), (14, .ifCond .eq 10, 3, 24, 0, 0)], [(17, .iload_n 3, 1, 0, 0, 0), (18, .invokestatic 205, 3, 134, 1, 0), (21, .ifCond .ne 5, 3, 26, 0, 0), (24, .iconst (-1), 1, 0, 0, 0), (25, .ireturn, 1, 0, 0, 0), (26, .aload_n 0, 1, 0, 0, 0), (27, .iload_n 2, 1, 0, 0, 0), (28, .iload_n 3, 1, 0, 0, 0), (29, .aload_n 0, 1, 0, 0, 0), (30, .getfield 212, 3, 10, 1, 0)], [(33, .invokevirtual 208, 3, 136, 4, 0), (36, .istore 4, 2, 0, 0, 0), (38, .bipush 10, 2, 0, 0, 0), (40, .iload_n 2, 1, 0, 0, 0), (41, .imul, 1, 0, 0, 0), (42, .iload_n 3, 1, 0, 0, 0), (43, .iadd, 1, 0, 0, 0), (44, .istore 5, 2, 0, 0, 0), (46, .iconst 1, 1, 0, 0, 0), (47, .iload 4, 2, 0, 0, 0)], [(49, .bipush (-9), 2, 0, 0, 0), (51, .if_icmp .ne 7, 3, 58, 0, 0), (54, .iconst 0, 1, 0, 0, 0), (55, .goto 12, 3, 67, 0, 0), (58, .iconst 2, 1, 0, 0, 0), (59, .aload_n 0, 1, 0, 0, 0), (60, .getfield 50, 3, 10, 22, 0), (63, .iload 4, 2, 0, 0, 0)], [(65, .iaload, 1, 0, 0, 0), (66, .imul, 1, 0, 0, 0), (67, .iadd, 1, 0, 0, 0), (68, .istore 6, 2, 0, 0, 0), (70, .iconst 1, 1, 0, 0, 0), (71, .iload 4, 2, 0, 0, 0), (73, .bipush (-9), 2, 0, 0, 0), (75, .if_icmp .ne 7, 3, 82, 0, 0), (78, .iconst 0, 1, 0, 0, 0), (79, .goto 32, 3, 111, 0, 0)], [(82, .aload_n 0, 1, 0, 0, 0), (83, .iload_n 2, 1, 0, 0, 0), (84, .iload_n 3, 1, 0, 0, 0), (85, .aload_n 0, 1, 0, 0, 0), (86, .getfield 212, 3, 10, 1, 0), (89, .invokevirtual 215, 3, 139, 4, 0), (92, .aload_n 0, 1, 0, 0, 0), (93, .aload_n 0, 1, 0, 0, 0), (94, .iload 4, 2, 0, 0, 0)], [(96, .iload_n 3, 1, 0, 0, 0), (97, .invokevirtual 245, 3, 146, 3, 0), (100, .aload_n 0, 1, 0, 0, 0), (101, .getfield 212, 3, 10, 1, 0), (104, .invokevirtual 199, 3, 131, 3, 0), (107, .isub, 1, 0, 0, 0), (108, .invokestatic 248, 3, 142, 1, 0), (111, .iadd, 1, 0, 0, 0)], [(112, .istore 7, 2, 0, 0, 0), (114, .aload_n 0, 1, 0, 0, 0), (115, .getfield 35, 3, 10, 17, 0), (118, .iload 5, 2, 0, 0, 0), (120, .iaload, 1, 0, 0, 0), (121, .bipush (-9), 2, 0, 0, 0), (123, .if_icmp .eq 21, 3, 144, 0, 0), (126, .aload_n 0, 1, 0, 0, 0), (127, .getfield 38, 3, 10, 18, 0)], [(130, .iload 5, 2, 0, 0, 0), (132, .iaload, 1, 0, 0, 0), (133, .aload_n 0, 1, 0, 0, 0), (134, .getfield 212, 3, 10, 1, 0), (137, .if_icmp .gt 7, 3, 144, 0, 0), (140, .iconst 1, 1, 0, 0, 0), (141, .goto 4, 3, 145, 0, 0)], [(144, .iconst 0, 1, 0, 0, 0), (145, .istore 8, 2, 0, 0, 0), (147, .iload_n 1, 1, 0, 0, 0), (148, .tableswitch 166 0 6 #[44, 56, 78, 93, 110, 125, 142], 44, 0, 0, 0)], [], [], [(192, .aload_n 0, 1, 0, 0, 0), (193, .dup, 1, 0, 0, 0), (194, .getfield 290, 3, 10, 0, 0), (197, .lconst 1, 1, 0, 0, 0), (198, .ladd, 1, 0, 0, 0), (199, .putfield 290, 3, 10, 0, 0), (202, .iconst 1, 1, 0, 0, 0), (203, .ireturn, 1, 0, 0, 0), (204, .aload_n 0, 1, 0, 0, 0), (205, .dup, 1, 0, 0, 0), (206, .getfield 290, 3, 10, 0, 0)], [(209, .ldc2_w 293, 3, 0, 0, 11), (212, .ladd, 1, 0, 0, 0), (213, .putfield 290, 3, 10, 0, 0), (216, .iconst 1, 1, 0, 0, 0), (217, .aload_n 0, 1, 0, 0, 0), (218, .getfield 29, 3, 10, 15, 0), (221, .iload 5, 2, 0, 0, 0), (223, .iaload, 1, 0, 0, 0)], [(224, .iadd, 1, 0, 0, 0), (225, .ireturn, 1, 0, 0, 0), (226, .aload_n 0, 1, 0, 0, 0), (227, .dup, 1, 0, 0, 0), (228, .getfield 290, 3, 10, 0, 0), (231, .ldc2_w 295, 3, 0, 0, 101), (234, .ladd, 1, 0, 0, 0), (235, .putfield 290, 3, 10, 0, 0), (238, .iload 6, 2, 0, 0, 0)], [(240, .ireturn, 1, 0, 0, 0), (241, .aload_n 0, 1, 0, 0, 0), (242, .dup, 1, 0, 0, 0), (243, .getfield 290, 3, 10, 0, 0), (246, .ldc2_w 297, 3, 0, 0, 1101), (249, .ladd, 1, 0, 0, 0), (250, .putfield 290, 3, 10, 0, 0), (253, .iload 6, 2, 0, 0, 0), (255, .iconst 2, 1, 0, 0, 0)], [(256, .idiv, 1, 0, 0, 0), (257, .ireturn, 1, 0, 0, 0), (258, .aload_n 0, 1, 0, 0, 0), (259, .dup, 1, 0, 0, 0), (260, .getfield 290, 3, 10, 0, 0), (263, .ldc2_w 299, 3, 0, 0, 10001), (266, .ladd, 1, 0, 0, 0), (267, .putfield 290, 3, 10, 0, 0), (270, .iload 7, 2, 0, 0, 0)], [(272, .ireturn, 1, 0, 0, 0), (273, .aload_n 0, 1, 0, 0, 0), (274, .dup, 1, 0, 0, 0), (275, .getfield 290, 3, 10, 0, 0), (278, .ldc2_w 301, 3, 0, 0, 110001), (281, .ladd, 1, 0, 0, 0), (282, .putfield 290, 3, 10, 0, 0), (285, .iconst 3, 1, 0, 0, 0), (286, .iload 7, 2, 0, 0, 0)], [(288, .imul, 1, 0, 0, 0), (289, .ireturn, 1, 0, 0, 0), (290, .aload_n 0, 1, 0, 0, 0), (291, .dup, 1, 0, 0, 0), (292, .getfield 290, 3, 10, 0, 0), (295, .ldc2_w 303, 3, 0, 0, 1000001), (298, .ladd, 1, 0, 0, 0), (299, .putfield 290, 3, 10, 0, 0), (302, .iload 8, 2, 0, 0, 0)], [(304, .ifCond .eq 8, 3, 312, 0, 0), (307, .bipush 51, 2, 0, 0, 0), (309, .goto 4, 3, 313, 0, 0), (312, .iconst 1, 1, 0, 0, 0), (313, .ireturn, 1, 0, 0, 0), (314, .aload_n 0, 1, 0, 0, 0), (315, .dup, 1, 0, 0, 0), (316, .getfield 290, 3, 10, 0, 0), (319, .ldc2_w 305, 3, 0, 0, 10010001)], [(322, .ladd, 1, 0, 0, 0), (323, .putfield 290, 3, 10, 0, 0), (326, .iload 7, 2, 0, 0, 0), (328, .iconst 5, 1, 0, 0, 0), (329, .isub, 1, 0, 0, 0), (330, .invokestatic 248, 3, 142, 1, 0), (333, .ireturn, 1, 0, 0, 0)]]
def qc175 : List (List qI) := [[(0, .iconst 0, 1, 0, 0, 0), (1, .istore 4, 2, 0, 0, 0), (3, .iload 4, 2, 0, 0, 0), (5, .iload_n 1, 1, 0, 0, 0), (6, .if_icmp .ge 25, 3, 31, 0, 0), (9, .aload_n 0, 1, 0, 0, 0), (10, .iload_n 1, 1, 0, 0, 0), (11, .iload_n 3, 1, 0, 0, 0), (12, .imul, 1, 0, 0, 0), (13, .iload 4, 2, 0, 0, 0), (15, .iadd, 1, 0, 0, 0)], [(16, .aload_n 0, 1, 0, 0, 0), (17, .iload_n 1, 1, 0, 0, 0), (18, .iload_n 2, 1, 0, 0, 0), (19, .imul, 1, 0, 0, 0), (20, .iload 4, 2, 0, 0, 0), (22, .iadd, 1, 0, 0, 0), (23, .iaload, 1, 0, 0, 0), (24, .iastore, 1, 0, 0, 0), (25, .iinc 4 1, 3, 0, 0, 0), (28, .goto (-25), 3, 3, 0, 0), (31, .return_, 1, 0, 0, 0)]]
def qc176 : List (List qI) := [[(0, .aload_n 0, 1, 0, 0, 0), (1, .getfield 73, 3, 10, 32, 0), (4, .iconst 1, 1, 0, 0, 0), (5, .iload_n 1, 1, 0, 0, 0), (6, .iload_n 2, 1, 0, 0, 0), (7, .invokestatic 307, 3, 175, 104, 0), (10, .aload_n 0, 1, 0, 0, 0), (11, .getfield 76, 3, 10, 33, 0), (14, .iconst 1, 1, 0, 0, 0), (15, .iload_n 1, 1, 0, 0, 0)], [(16, .iload_n 2, 1, 0, 0, 0), (17, .invokestatic 307, 3, 175, 104, 0), (20, .aload_n 0, 1, 0, 0, 0), (21, .getfield 79, 3, 10, 34, 0), (24, .iconst 1, 1, 0, 0, 0), (25, .iload_n 1, 1, 0, 0, 0), (26, .iload_n 2, 1, 0, 0, 0), (27, .invokestatic 307, 3, 175, 104, 0), (30, .aload_n 0, 1, 0, 0, 0), (31, .getfield 82, 3, 10, 35, 0)], [(34, .iconst 1, 1, 0, 0, 0), (35, .iload_n 1, 1, 0, 0, 0), (36, .iload_n 2, 1, 0, 0, 0), (37, .invokestatic 307, 3, 175, 104, 0), (40, .aload_n 0, 1, 0, 0, 0), (41, .getfield 88, 3, 10, 37, 0), (44, .bipush 20, 2, 0, 0, 0), (46, .iload_n 1, 1, 0, 0, 0), (47, .iload_n 2, 1, 0, 0, 0)], [(48, .invokestatic 307, 3, 175, 104, 0), (51, .aload_n 0, 1, 0, 0, 0), (52, .getfield 91, 3, 10, 38, 0), (55, .bipush 20, 2, 0, 0, 0), (57, .iload_n 1, 1, 0, 0, 0), (58, .iload_n 2, 1, 0, 0, 0), (59, .invokestatic 307, 3, 175, 104, 0), (62, .aload_n 0, 1, 0, 0, 0), (63, .getfield 94, 3, 10, 39, 0)], [(66, .bipush 20, 2, 0, 0, 0), (68, .iload_n 1, 1, 0, 0, 0), (69, .iload_n 2, 1, 0, 0, 0), (70, .invokestatic 307, 3, 175, 104, 0), (73, .aload_n 0, 1, 0, 0, 0), (74, .getfield 97, 3, 10, 40, 0), (77, .bipush 20, 2, 0, 0, 0), (79, .iload_n 1, 1, 0, 0, 0)], [(80, .iload_n 2, 1, 0, 0, 0), (81, .invokestatic 307, 3, 175, 104, 0), (84, .aload_n 0, 1, 0, 0, 0), (85, .getfield 100, 3, 10, 41, 0), (88, .bipush 20, 2, 0, 0, 0), (90, .iload_n 1, 1, 0, 0, 0), (91, .iload_n 2, 1, 0, 0, 0), (92, .invokestatic 307, 3, 175, 104, 0), (95, .aload_n 0, 1, 0, 0, 0)], [(96, .getfield 103, 3, 10, 42, 0), (99, .bipush 20, 2, 0, 0, 0), (101, .iload_n 1, 1, 0, 0, 0), (102, .iload_n 2, 1, 0, 0, 0), (103, .invokestatic 307, 3, 175, 104, 0), (106, .aload_n 0, 1, 0, 0, 0), (107, .getfield 106, 3, 10, 43, 0), (110, .bipush 20, 2, 0, 0, 0)], [(112, .iload_n 1, 1, 0, 0, 0), (113, .iload_n 2, 1, 0, 0, 0), (114, .invokestatic 307, 3, 175, 104, 0), (117, .aload_n 0, 1, 0, 0, 0), (118, .getfield 109, 3, 10, 44, 0), (121, .bipush 20, 2, 0, 0, 0), (123, .iload_n 1, 1, 0, 0, 0), (124, .iload_n 2, 1, 0, 0, 0), (125, .invokestatic 307, 3, 175, 104, 0)], [(128, .aload_n 0, 1, 0, 0, 0), (129, .getfield 112, 3, 10, 45, 0), (132, .bipush 30, 2, 0, 0, 0), (134, .iload_n 1, 1, 0, 0, 0), (135, .iload_n 2, 1, 0, 0, 0), (136, .invokestatic 307, 3, 175, 104, 0), (139, .aload_n 0, 1, 0, 0, 0), (140, .getfield 115, 3, 10, 46, 0), (143, .bipush 30, 2, 0, 0, 0)], [(145, .iload_n 1, 1, 0, 0, 0), (146, .iload_n 2, 1, 0, 0, 0), (147, .invokestatic 307, 3, 175, 104, 0), (150, .aload_n 0, 1, 0, 0, 0), (151, .getfield 118, 3, 10, 47, 0), (154, .bipush 30, 2, 0, 0, 0), (156, .iload_n 1, 1, 0, 0, 0), (157, .iload_n 2, 1, 0, 0, 0), (158, .invokestatic 307, 3, 175, 104, 0)], [(161, .aload_n 0, 1, 0, 0, 0), (162, .getfield 121, 3, 10, 48, 0), (165, .bipush 40, 2, 0, 0, 0), (167, .iload_n 1, 1, 0, 0, 0), (168, .iload_n 2, 1, 0, 0, 0), (169, .invokestatic 307, 3, 175, 104, 0), (172, .return_, 1, 0, 0, 0)]]
def qc177 : List (List qI) := [[(0, .iload_n 1, 1, 0, 0, 0), (1, .iconst 0, 1, 0, 0, 0), (2, .iconst 1, 1, 0, 0, 0), (3, .invokestatic 130, 3, 117, 3, 0), (6, .ifCond .ne 5, 3, 11, 0, 0), (9, .iconst (-1), 1, 0, 0, 0), (10, .ireturn, 1, 0, 0, 0), (11, .aload_n 0, 1, 0, 0, 0), (12, .iconst 0, 1, 0, 0, 0), (13, .iconst 1, 1, 0, 0, 0), (14, .iload_n 1, 1, 0, 0, 0), (15, .iadd, 1, 0, 0, 0)], [(16, .invokevirtual 311, 3, 176, 103, 0), (19, .aload_n 0, 1, 0, 0, 0), (20, .getfield 85, 3, 10, 36, 0), (23, .iconst 1, 1, 0, 0, 0), (24, .iload_n 1, 1, 0, 0, 0), (25, .iadd, 1, 0, 0, 0), (26, .aload_n 0, 1, 0, 0, 0), (27, .getfield 212, 3, 10, 1, 0), (30, .iastore, 1, 0, 0, 0), (31, .aload_n 0, 1, 0, 0, 0)], [(32, .getfield 127, 3, 10, 50, 0), (35, .iload_n 1, 1, 0, 0, 0), (36, .iconst 1, 1, 0, 0, 0), (37, .bastore, 1, 0, 0, 0), (38, .aload_n 0, 1, 0, 0, 0), (39, .getfield 212, 3, 10, 1, 0), (42, .ireturn, 1, 0, 0, 0)]]
def qc178 : List (List qI) := [[(0, .iload_n 1, 1, 0, 0, 0), (1, .iconst 0, 1, 0, 0, 0), (2, .iconst 1, 1, 0, 0, 0), (3, .invokestatic 130, 3, 117, 3, 0), (6, .ifCond .ne 5, 3, 11, 0, 0), (9, .iconst (-1), 1, 0, 0, 0), (10, .ireturn, 1, 0, 0, 0), (11, .aload_n 0, 1, 0, 0, 0), (12, .getfield 127, 3, 10, 50, 0), (15, .iload_n 1, 1, 0, 0, 0)], [(16, .baload, 1, 0, 0, 0), (17, .ifCond .ne 6, 3, 23, 0, 0), (20, .bipush (-2), 2, 0, 0, 0), (22, .ireturn, 1, 0, 0, 0), (23, .aload_n 0, 1, 0, 0, 0), (24, .iconst 1, 1, 0, 0, 0), (25, .iload_n 1, 1, 0, 0, 0), (26, .iadd, 1, 0, 0, 0), (27, .iconst 0, 1, 0, 0, 0), (28, .invokevirtual 311, 3, 176, 103, 0), (31, .aload_n 0, 1, 0, 0, 0)], [(32, .aload_n 0, 1, 0, 0, 0), (33, .getfield 85, 3, 10, 36, 0), (36, .iconst 1, 1, 0, 0, 0), (37, .iload_n 1, 1, 0, 0, 0), (38, .iadd, 1, 0, 0, 0), (39, .iaload, 1, 0, 0, 0), (40, .putfield 212, 3, 10, 1, 0), (43, .aload_n 0, 1, 0, 0, 0), (44, .getfield 212, 3, 10, 1, 0), (47, .ireturn, 1, 0, 0, 0)]]
def qc179 : List (List qI) := [[(0, .iconst 0, 1, 0, 0, 0), (1, .istore_n 2, 1, 0, 0, 0), (2, .iload_n 1, 1, 0, 0, 0), (3, .tableswitch 218 0 10 #[57, 62, 87, 122, 129, 136, 143, 148, 153, 182, 211], 57, 0, 0, 0)], [], [], [(60, .aload_n 0, 1, 0, 0, 0), (61, .getfield 192, 3, 10, 4, 0)], [(64, .ireturn, 1, 0, 0, 0), (65, .iconst 0, 1, 0, 0, 0), (66, .istore_n 3, 1, 0, 0, 0), (67, .iload_n 3, 1, 0, 0, 0), (68, .bipush 6, 2, 0, 0, 0), (70, .if_icmp .ge 18, 3, 88, 0, 0), (73, .iload_n 2, 1, 0, 0, 0), (74, .aload_n 0, 1, 0, 0, 0), (75, .getfield 41, 3, 10, 19, 0), (78, .iload_n 3, 1, 0, 0, 0), (79, .iaload, 1, 0, 0, 0)], [(80, .iadd, 1, 0, 0, 0), (81, .istore_n 2, 1, 0, 0, 0), (82, .iinc 3 1, 3, 0, 0, 0), (85, .goto (-18), 3, 67, 0, 0), (88, .iload_n 2, 1, 0, 0, 0), (89, .ireturn, 1, 0, 0, 0), (90, .iconst 0, 1, 0, 0, 0), (91, .istore_n 3, 1, 0, 0, 0), (92, .iload_n 3, 1, 0, 0, 0), (93, .bipush 60, 2, 0, 0, 0), (95, .if_icmp .ge 28, 3, 123, 0, 0)], [(98, .iload_n 2, 1, 0, 0, 0), (99, .aload_n 0, 1, 0, 0, 0), (100, .getfield 35, 3, 10, 17, 0), (103, .iload_n 3, 1, 0, 0, 0), (104, .iaload, 1, 0, 0, 0), (105, .bipush (-9), 2, 0, 0, 0), (107, .if_icmp .ne 7, 3, 114, 0, 0), (110, .iconst 0, 1, 0, 0, 0), (111, .goto 4, 3, 115, 0, 0)], [(114, .iconst 1, 1, 0, 0, 0), (115, .iadd, 1, 0, 0, 0), (116, .istore_n 2, 1, 0, 0, 0), (117, .iinc 3 1, 3, 0, 0, 0), (120, .goto (-28), 3, 92, 0, 0), (123, .iload_n 2, 1, 0, 0, 0), (124, .ireturn, 1, 0, 0, 0), (125, .aload_n 0, 1, 0, 0, 0), (126, .getfield 73, 3, 10, 32, 0)], [(129, .iconst 0, 1, 0, 0, 0), (130, .iaload, 1, 0, 0, 0), (131, .ireturn, 1, 0, 0, 0), (132, .aload_n 0, 1, 0, 0, 0), (133, .getfield 76, 3, 10, 33, 0), (136, .iconst 0, 1, 0, 0, 0), (137, .iaload, 1, 0, 0, 0), (138, .ireturn, 1, 0, 0, 0), (139, .aload_n 0, 1, 0, 0, 0), (140, .getfield 79, 3, 10, 34, 0), (143, .iconst 0, 1, 0, 0, 0)], [(144, .iaload, 1, 0, 0, 0), (145, .ireturn, 1, 0, 0, 0), (146, .aload_n 0, 1, 0, 0, 0), (147, .getfield 212, 3, 10, 1, 0), (150, .ireturn, 1, 0, 0, 0), (151, .aload_n 0, 1, 0, 0, 0), (152, .getfield 134, 3, 10, 3, 0), (155, .ireturn, 1, 0, 0, 0), (156, .iconst 0, 1, 0, 0, 0), (157, .istore_n 3, 1, 0, 0, 0), (158, .iload_n 3, 1, 0, 0, 0), (159, .aload_n 0, 1, 0, 0, 0)], [(160, .getfield 73, 3, 10, 32, 0), (163, .iconst 0, 1, 0, 0, 0), (164, .iaload, 1, 0, 0, 0), (165, .if_icmp .ge 18, 3, 183, 0, 0), (168, .iload_n 2, 1, 0, 0, 0), (169, .aload_n 0, 1, 0, 0, 0), (170, .getfield 97, 3, 10, 40, 0), (173, .iload_n 3, 1, 0, 0, 0), (174, .iaload, 1, 0, 0, 0), (175, .iadd, 1, 0, 0, 0)], [(176, .istore_n 2, 1, 0, 0, 0), (177, .iinc 3 1, 3, 0, 0, 0), (180, .goto (-22), 3, 158, 0, 0), (183, .iload_n 2, 1, 0, 0, 0), (184, .ireturn, 1, 0, 0, 0), (185, .iconst 0, 1, 0, 0, 0), (186, .istore_n 3, 1, 0, 0, 0), (187, .iload_n 3, 1, 0, 0, 0), (188, .aload_n 0, 1, 0, 0, 0), (189, .getfield 73, 3, 10, 32, 0)], [(192, .iconst 0, 1, 0, 0, 0), (193, .iaload, 1, 0, 0, 0), (194, .if_icmp .ge 18, 3, 212, 0, 0), (197, .iload_n 2, 1, 0, 0, 0), (198, .aload_n 0, 1, 0, 0, 0), (199, .getfield 106, 3, 10, 43, 0), (202, .iload_n 3, 1, 0, 0, 0), (203, .iaload, 1, 0, 0, 0), (204, .iadd, 1, 0, 0, 0), (205, .istore_n 2, 1, 0, 0, 0), (206, .iinc 3 1, 3, 0, 0, 0)], [(209, .goto (-22), 3, 187, 0, 0), (212, .iload_n 2, 1, 0, 0, 0), (213, .ireturn, 1, 0, 0, 0), (214, .aload_n 0, 1, 0, 0, 0), (215, .getfield 82, 3, 10, 35, 0), (218, .iconst 0, 1, 0, 0, 0), (219, .iaload, 1, 0, 0, 0), (220, .ireturn, 1, 0, 0, 0), (221, .iconst (-1), 1, 0, 0, 0), (222, .ireturn, 1, 0, 0, 0)]]
def qc180 : List (List qI) := [[(0, .aload_n 0, 1, 0, 0, 0), (1, .getfield 290, 3, 10, 0, 0), (4, .lreturn, 1, 0, 0, 0)]]
def qc181 : List (List qI) := [[(0, .iload_n 0, 1, 0, 0, 0), (1, .iload_n 0, 1, 0, 0, 0), (2, .iconst 1, 1, 0, 0, 0), (3, .iushr, 1, 0, 0, 0), (4, .ldc_w 265, 3, 0, 0, 1431655765), (7, .iand, 1, 0, 0, 0), (8, .isub, 1, 0, 0, 0), (9, .istore_n 0, 1, 0, 0, 0), (10, .iload_n 0, 1, 0, 0, 0), (11, .ldc_w 266, 3, 0, 0, 858993459), (14, .iand, 1, 0, 0, 0), (15, .iload_n 0, 1, 0, 0, 0)], [(16, .iconst 2, 1, 0, 0, 0), (17, .iushr, 1, 0, 0, 0), (18, .ldc_w 266, 3, 0, 0, 858993459), (21, .iand, 1, 0, 0, 0), (22, .iadd, 1, 0, 0, 0), (23, .istore_n 0, 1, 0, 0, 0), (24, .iload_n 0, 1, 0, 0, 0), (25, .iload_n 0, 1, 0, 0, 0), (26, .iconst 4, 1, 0, 0, 0), (27, .iushr, 1, 0, 0, 0), (28, .iadd, 1, 0, 0, 0), (29, .ldc_w 267, 3, 0, 0, 252645135)], [(32, .iand, 1, 0, 0, 0), (33, .istore_n 0, 1, 0, 0, 0), (34, .iload_n 0, 1, 0, 0, 0), (35, .iload_n 0, 1, 0, 0, 0), (36, .bipush 8, 2, 0, 0, 0), (38, .iushr, 1, 0, 0, 0), (39, .iadd, 1, 0, 0, 0), (40, .istore_n 0, 1, 0, 0, 0), (41, .iload_n 0, 1, 0, 0, 0), (42, .iload_n 0, 1, 0, 0, 0), (43, .bipush 16, 2, 0, 0, 0), (45, .iushr, 1, 0, 0, 0), (46, .iadd, 1, 0, 0, 0), (47, .istore_n 0, 1, 0, 0, 0)], [(48, .iload_n 0, 1, 0, 0, 0), (49, .bipush 63, 2, 0, 0, 0), (51, .iand, 1, 0, 0, 0), (52, .ireturn, 1, 0, 0, 0)]]
def qc182 : List (List qI) := [[(0, .iload_n 0, 1, 0, 0, 0), (1, .iload_n 0, 1, 0, 0, 0), (2, .iconst 1, 1, 0, 0, 0), (3, .iushr, 1, 0, 0, 0), (4, .ldc_w 265, 3, 0, 0, 1431655765), (7, .iand, 1, 0, 0, 0), (8, .isub, 1, 0, 0, 0), (9, .istore_n 0, 1, 0, 0, 0), (10, .iload_n 0, 1, 0, 0, 0), (11, .ldc_w 266, 3, 0, 0, 858993459), (14, .iand, 1, 0, 0, 0), (15, .iload_n 0, 1, 0, 0, 0)], [(16, .iconst 2, 1, 0, 0, 0), (17, .iushr, 1, 0, 0, 0), (18, .ldc_w 266, 3, 0, 0, 858993459), (21, .iand, 1, 0, 0, 0), (22, .iadd, 1, 0, 0, 0), (23, .istore_n 0, 1, 0, 0, 0), (24, .iload_n 0, 1, 0, 0, 0), (25, .iload_n 0, 1, 0, 0, 0), (26, .iconst 4, 1, 0, 0, 0), (27, .iushr, 1, 0, 0, 0), (28, .iadd, 1, 0, 0, 0), (29, .ldc_w 267, 3, 0, 0, 252645135)], [(32, .iand, 1, 0, 0, 0), (33, .istore_n 0, 1, 0, 0, 0), (34, .iload_n 0, 1, 0, 0, 0), (35, .iload_n 0, 1, 0, 0, 0), (36, .bipush 8, 2, 0, 0, 0), (38, .iushr, 1, 0, 0, 0), (39, .iadd, 1, 0, 0, 0), (40, .istore_n 0, 1, 0, 0, 0), (41, .iload_n 0, 1, 0, 0, 0), (42, .iload_n 0, 1, 0, 0, 0), (43, .bipush 16, 2, 0, 0, 0), (45, .iushr, 1, 0, 0, 0), (46, .iadd, 1, 0, 0, 0), (47, .istore_n 0, 1, 0, 0, 0)], [(48, .iload_n 0, 1, 0, 0, 0), (49, .bipush 63, 2, 0, 0, 0), (51, .iand, 1, 0, 0, 0), (52, .ireturn, 1, 0, 0, 0)]]
def qc183 : List (List qI) := [[(0, .aload_n 0, 1, 0, 0, 0), (1, .getfield 9, 3, 21, 0, 0), (4, .arraylength, 1, 0, 0, 0), (5, .aload_n 0, 1, 0, 0, 0), (6, .invokevirtual 335, 3, 185, 1, 0), (9, .ishr, 1, 0, 0, 0), (10, .ireturn, 1, 0, 0, 0)]]
def qc184 : List (List qI) := [[(0, .aload_n 0, 1, 0, 0, 0), (1, .invokevirtual 492, 3, 186, 1, 0), (4, .ifCond .eq 12, 3, 16, 0, 0), (7, .aload_n 0, 1, 0, 0, 0), (8, .getfield 9, 3, 21, 0, 0), (11, .iload_n 1, 1, 0, 0, 0), (12, .invokestatic 495, 3, 188, 2, 0), (15, .ireturn, 1, 0, 0, 0)]]
def qc185 : List (List qI) := [[(0, .getstatic 38, 3, 2, 0, 0), (3, .ifCond .eq 10, 3, 13, 0, 0), (6, .aload_n 0, 1, 0, 0, 0), (7, .getfield 15, 3, 20, 0, 0), (10, .goto 4, 3, 14, 0, 0), (13, .iconst 1, 1, 0, 0, 0), (14, .ireturn, 1, 0, 0, 0)]]
def qc186 : List (List qI) := [[(0, .getstatic 38, 3, 2, 0, 0), (3, .ifCond .eq 14, 3, 17, 0, 0), (6, .aload_n 0, 1, 0, 0, 0), (7, .getfield 15, 3, 20, 0, 0), (10, .ifCond .ne 7, 3, 17, 0, 0), (13, .iconst 1, 1, 0, 0, 0), (14, .goto 4, 3, 18, 0, 0)], [(17, .iconst 0, 1, 0, 0, 0), (18, .ireturn, 1, 0, 0, 0)]]
def qc187 : List (List qI) := [[(0, .iload_n 0, 1, 0, 0, 0), (1, .iload_n 1, 1, 0, 0, 0), (2, .getstatic 1053, 3, 3, 0, 0), (5, .invokestatic 1059, 3, 189, 3, 0), (8, .pop, 1, 0, 0, 0), (9, .return_, 1, 0, 0, 0)]]
def qc188 : List (List qI) := [[(0, .iload_n 1, 1, 0, 0, 0), (1, .aload_n 0, 1, 0, 0, 0), (2, .arraylength, 1, 0, 0, 0), (3, .invokestatic 9, 3, 187, 102, 0), (6, .aload_n 0, 1, 0, 0, 0), (7, .iload_n 1, 1, 0, 0, 0), (8, .baload, 1, 0, 0, 0), (9, .sipush 255, 3, 0, 0, 0), (12, .iand, 1, 0, 0, 0), (13, .i2c, 1, 0, 0, 0), (14, .ireturn, 1, 0, 0, 0)]]
def qc189 : List (List qI) := [[(0, .iload_n 0, 1, 0, 0, 0), (1, .ifCond .lt 8, 3, 9, 0, 0), (4, .iload_n 0, 1, 0, 0, 0), (5, .iload_n 1, 1, 0, 0, 0), (6, .if_icmp .lt 10, 3, 16, 0, 0), (9, .aload_n 2, 1, 0, 0, 0), (10, .iload_n 0, 1, 0, 0, 0), (11, .iload_n 1, 1, 0, 0, 0)], [(16, .iload_n 0, 1, 0, 0, 0), (17, .ireturn, 1, 0, 0, 0)]]
abbrev qMt : Type := MethodName × ByteArray × Nat × Option FieldType × Nat × List (List qI)
def qms_0 : List qMt := [(yX0_init, cX0_init, 1, none, 1, qc0), (yX0_look, cX0_look, 5, none, 1, qc1), (yX0_isInSpan, cX0_isInSpan, 2, some .boolean, 1, qc2), (yX0_isLoose, cX0_isLoose, 2, some .boolean, 1, qc3), (yX0_show, cX0_show, 4, none, 1, qc4), (yX0_unshow, cX0_unshow, 4, none, 1, qc5), (yX0_leastPay, cX0_leastPay, 4, some .int, 1, qc6), (yX0_mostPay, cX0_mostPay, 4, some .int, 1, qc7), (yX0_mostLoose, cX0_mostLoose, 3, some .int, 1, qc8), (yX0_ways, cX0_ways, 4, some .int, 1, qc9), (yX0_leastOwed, cX0_leastOwed, 3, some .int, 1, qc10), (yX0_mostOwed, cX0_mostOwed, 3, some .int, 1, qc11), (yX0_spread, cX0_spread, 1, some .int, 1, qc12), (yX0_owedBy, cX0_owedBy, 6, some .int, 1, qc13), (yX0_couldBe, cX0_couldBe, 4, some .boolean, 1, qc14), (yX0_looseSum, cX0_looseSum, 5, some .int, 1, qc15)]
def qms_1 : List qMt := [(yX0_settlingSet, cX0_settlingSet, 5, some .int, 1, qc16), (yX0_settlesBy, cX0_settlesBy, 5, some .boolean, 1, qc17), (yX0_tellingMost, cX0_tellingMost, 6, some .int, 1, qc18), (yX0_worstSpread, cX0_worstSpread, 6, some .int, 1, qc19), (yX0_sumOfSpan, cX0_sumOfSpan, 4, some .int, 1, qc20), (yX0_tooMuch, cX0_tooMuch, 5, some .int, 1, qc21), (yX1_init, cX1_init, 1, none, 2, qc22), (yX1_takeOver, cX1_takeOver, 2, none, 2, qc23), (yX2_init, cX2_init, 1, none, 3, qc24), (yX2_add, cX2_add, 4, some .int, 3, qc25), (yX2_holdOf, cX2_holdOf, 4, some .int, 3, qc26), (yX2_isAside, cX2_isAside, 2, some .boolean, 3, qc27), (yX2_putAside, cX2_putAside, 3, some .int, 3, qc28), (yX2_told, cX2_told, 3, some .int, 3, qc29), (yX2_heldOfAll, cX2_heldOfAll, 3, some .int, 3, qc30), (yX2_feesOfAll, cX2_feesOfAll, 3, some .int, 3, qc31)]
def qms_2 : List qMt := [(yX2_lostOfAll, cX2_lostOfAll, 3, some .int, 3, qc32), (yX2_takeOver, cX2_takeOver, 2, none, 3, qc33), (yX3_init, cX3_init, 1, none, 4, qc34), (yX3_add, cX3_add, 4, some .int, 4, qc35), (yX3_takeOver, cX3_takeOver, 2, none, 4, qc36), (yX4_init, cX4_init, 1, none, 5, qc37), (yX4_add, cX4_add, 2, some .boolean, 5, qc38), (yX4_waitOfLast, cX4_waitOfLast, 4, some .int, 5, qc39), (yX4_hear, cX4_hear, 4, some .int, 5, qc40), (yX4_takeOver, cX4_takeOver, 2, none, 5, qc41), (yX5_init, cX5_init, 2, none, 6, qc42), (yX5_addFirm, cX5_addFirm, 5, some .int, 6, qc43), (yX5_firmWith, cX5_firmWith, 4, some .int, 6, qc44), (yX5_isShown, cX5_isShown, 3, some .boolean, 6, qc45), (yX5_average, cX5_average, 5, some .int, 6, qc46), (yX6_init, cX6_init, 1, none, 7, qc47)]
def qms_3 : List qMt := [(yX6_inForce, cX6_inForce, 3, some .int, 7, qc48), (yX6_dueBy, cX6_dueBy, 4, some .int, 7, qc49), (yX6_takeOver, cX6_takeOver, 2, none, 7, qc50), (yX7_init, cX7_init, 1, none, 8, qc51), (yX7_append, cX7_append, 5, none, 8, qc52), (yX7_read, cX7_read, 4, some .int, 8, qc53), (yX7_endOfToken, cX7_endOfToken, 3, some .int, 8, qc54), (yX7_isLetter, cX7_isLetter, 3, some .boolean, 8, qc55), (yX7_isDigit, cX7_isDigit, 2, some .boolean, 8, qc56), (yX7_canStand, cX7_canStand, 5, some .boolean, 8, qc57), (yX7_putNumber, cX7_putNumber, 7, some .boolean, 8, qc58), (yX7_numberAt, cX7_numberAt, 6, some .int, 8, qc59), (yX7_fixedToken, cX7_fixedToken, 1, some (.object "java/lang/String"), 0, qc60), (yX7_isToken, cX7_isToken, 5, some .boolean, 8, qc61), (yX8_init, cX8_init, 1, none, 9, qc62), (yX8_forget, cX8_forget, 1, none, 9, qc63)]
def qms_4 : List qMt := [(yX8_use, cX8_use, 4, none, 9, qc64), (yX8_dueFor, cX8_dueFor, 2, some .int, 9, qc65), (yX8_makeDueRows, cX8_makeDueRows, 2, none, 9, qc66), (yX8_makeWayRows, cX8_makeWayRows, 2, none, 9, qc67), (yX8_leastFor, cX8_leastFor, 3, some .int, 9, qc68), (yX8_mostFor, cX8_mostFor, 3, some .int, 9, qc69), (yX8_waysFor, cX8_waysFor, 3, some .int, 9, qc70), (yX8_isMade, cX8_isMade, 3, some .boolean, 0, qc71), (yX8_makeWayRow, cX8_makeWayRow, 7, none, 9, qc72), (yX8_makeDueRow, cX8_makeDueRow, 8, none, 9, qc73), (yX8_lowestLast, cX8_lowestLast, 2, some .int, 0, qc74), (yX9_init, cX9_init, 2, none, 10, qc75), (yX9_type, cX9_type, 4, some .int, 10, qc76), (yX9_clear, cX9_clear, 2, some .int, 10, qc77), (yX9_rules, cX9_rules, 2, some .int, 10, qc78), (yX9_due, cX9_due, 3, some .int, 10, qc79)]
def qms_5 : List qMt := [(yX9_pay, cX9_pay, 7, some .int, 10, qc80), (yX9_firm, cX9_firm, 7, some .int, 10, qc81), (yX9_slip, cX9_slip, 5, some .int, 10, qc82), (yX9_could, cX9_could, 3, some .int, 10, qc83), (yX9_owed, cX9_owed, 4, some .int, 10, qc84), (yX9_stands, cX9_stands, 3, some .int, 10, qc85), (yX9_span, cX9_span, 6, some .int, 10, qc86), (yX9_settles, cX9_settles, 6, some .int, 10, qc87), (yX9_tells, cX9_tells, 3, some .int, 10, qc88), (yX9_debt, cX9_debt, 4, some .int, 10, qc89), (yX9_hold, cX9_hold, 8, some .int, 10, qc90), (yX9_set, cX9_set, 2, some .int, 10, qc91), (yX9_about, cX9_about, 3, some .int, 10, qc92), (yX9_right, cX9_right, 4, some .int, 10, qc93), (yX9_place, cX9_place, 7, some .int, 10, qc94), (yX9_letter, cX9_letter, 3, some .int, 10, qc95)]
def qms_6 : List qMt := [(yX9_post, cX9_post, 3, some .int, 10, qc96), (yX9_call, cX9_call, 3, some .int, 10, qc97), (yX9_day, cX9_day, 1, some .int, 10, qc98), (yX9_weight, cX9_weight, 4, some .int, 10, qc99), (yX9_keep, cX9_keep, 2, some .int, 10, qc100), (yX9_back, cX9_back, 2, some .int, 10, qc101), (yX9_count, cX9_count, 2, some .int, 10, qc102), (yX9_trace, cX9_trace, 1, some .long, 10, qc103), (yX9_outside, cX9_outside, 3, some .boolean, 0, qc104), (yX9_noPerson, cX9_noPerson, 1, some .boolean, 0, qc105), (yX9_noFortnight, cX9_noFortnight, 1, some .boolean, 0, qc106), (yX9_noDebt, cX9_noDebt, 2, some .boolean, 10, qc107), (yX9_lookAt, cX9_lookAt, 3, none, 10, qc108), (yX9_lookAtBounds, cX9_lookAtBounds, 3, none, 10, qc109), (yX9_howItIs, cX9_howItIs, 4, some .int, 10, qc110), (yX9_mayBeHeld, cX9_mayBeHeld, 4, some .boolean, 10, qc111)]
def qms_7 : List qMt := [(yX9_weigh, cX9_weigh, 6, some .int, 10, qc112), (yX9_firmsOfAll, cX9_firmsOfAll, 3, some .int, 10, qc113), (yX9_slipsOfAll, cX9_slipsOfAll, 4, some .int, 10, qc114), (yX9_copy, cX9_copy, 2, none, 0, qc115), (yX10_init, cX10_init, 2, none, 11, qc116), (yX10_in, cX10_in, 3, some .boolean, 0, qc117), (yX10_type, cX10_type, 5, some .int, 11, qc118), (yX10_clear, cX10_clear, 2, some .int, 11, qc119), (yX10_here, cX10_here, 1, some .int, 11, qc120), (yX10_more, cX10_more, 3, some .long, 0, qc121), (yX10_code, cX10_code, 4, some .long, 0, qc122), (yX10_wordOf, cX10_wordOf, 6, some .int, 11, qc123), (yX10_next, cX10_next, 2, none, 11, qc124), (yX10_wants, cX10_wants, 3, some .int, 11, qc125), (yX10_number, cX10_number, 3, some .int, 11, qc126), (yX10_word, cX10_word, 2, none, 11, qc127)]
def qms_8 : List qMt := [(yX10_sign, cX10_sign, 2, none, 11, qc128), (yX10_rules, cX10_rules, 3, some .int, 11, qc129), (yX10_isDay, cX10_isDay, 1, some .boolean, 0, qc130), (yX10_dueOf, cX10_dueOf, 6, some .int, 11, qc131), (yX10_due, cX10_due, 3, some .int, 11, qc132), (yX10_isPerson, cX10_isPerson, 1, some .boolean, 0, qc133), (yX10_isFortnight, cX10_isFortnight, 1, some .boolean, 0, qc134), (yX10_pay, cX10_pay, 7, some .int, 11, qc135), (yX10_firmOf, cX10_firmOf, 5, some .int, 11, qc136), (yX10_firm, cX10_firm, 6, some .int, 11, qc137), (yX10_findHeld, cX10_findHeld, 5, none, 11, qc138), (yX10_paid, cX10_paid, 4, some .int, 11, qc139), (yX10_add, cX10_add, 16, none, 11, qc140), (yX10_goThrough, cX10_goThrough, 7, some .boolean, 11, qc141), (yX10_over, cX10_over, 1, some .int, 0, qc142), (yX10_slip, cX10_slip, 5, some .int, 11, qc143)]
def qms_9 : List qMt := [(yX10_look, cX10_look, 3, none, 11, qc144), (yX10_could, cX10_could, 3, some .int, 11, qc145), (yX10_average, cX10_average, 4, some .int, 11, qc146), (yX10_owedBy, cX10_owedBy, 7, some .int, 11, qc147), (yX10_owedOf, cX10_owedOf, 4, some .int, 11, qc148), (yX10_owed, cX10_owed, 4, some .int, 11, qc149), (yX10_isOne, cX10_isOne, 1, some .boolean, 11, qc150), (yX10_stands, cX10_stands, 3, some .int, 11, qc151), (yX10_span, cX10_span, 9, some .int, 11, qc152), (yX10_bitsIn, cX10_bitsIn, 3, some .int, 0, qc153), (yX10_inSpans, cX10_inSpans, 5, some .int, 11, qc154), (yX10_showing, cX10_showing, 7, some .boolean, 11, qc155), (yX10_settling, cX10_settling, 6, some .int, 11, qc156), (yX10_settles, cX10_settles, 5, some .int, 11, qc157), (yX10_tells, cX10_tells, 9, some .int, 11, qc158), (yX10_isDebt, cX10_isDebt, 2, some .boolean, 11, qc159)]
def qms_10 : List qMt := [(yX10_debt, cX10_debt, 5, some .int, 11, qc160), (yX10_placeOf, cX10_placeOf, 4, some .int, 11, qc161), (yX10_place, cX10_place, 6, some .int, 11, qc162), (yX10_letter, cX10_letter, 3, some .int, 11, qc163), (yX10_stateOf, cX10_stateOf, 3, some .int, 11, qc164), (yX10_post, cX10_post, 3, some .int, 11, qc165), (yX10_mayHold, cX10_mayHold, 4, some .boolean, 11, qc166), (yX10_hold, cX10_hold, 9, some .int, 11, qc167), (yX10_set, cX10_set, 3, some .int, 11, qc168), (yX10_about, cX10_about, 3, some .int, 11, qc169), (yX10_right, cX10_right, 3, some .int, 11, qc170), (yX10_heardFrom, cX10_heardFrom, 4, some .int, 11, qc171), (yX10_call, cX10_call, 5, some .int, 11, qc172), (yX10_day, cX10_day, 3, some .int, 11, qc173), (yX10_weight, cX10_weight, 9, some .int, 11, qc174), (yX10_move, cX10_move, 5, none, 0, qc175)]
def qms_11 : List qMt := [(yX10_moveAll, cX10_moveAll, 3, none, 11, qc176), (yX10_keep, cX10_keep, 2, some .int, 11, qc177), (yX10_back, cX10_back, 2, some .int, 11, qc178), (yX10_count, cX10_count, 4, some .int, 11, qc179), (yX10_trace, cX10_trace, 1, some .long, 11, qc180), (yJ6_bitCount_0f7a4, cJ6_bitCount_0f7a4, 1, some .int, 0, qc181), (yJ6_bitCount_0f7a4, cJ6_bitCount_0f7a4, 1, some .int, 0, qc182), (yJ0_length_8abf5, cJ0_length_8abf5, 1, some .int, 21, qc183), (yJ0_charAt_5068e, cJ0_charAt_5068e, 2, some .char, 21, qc184), (yJ0_coder_7d493, cJ0_coder_7d493, 1, some .byte, 21, qc185), (yJ0_isLatin1_aae02, cJ0_isLatin1_aae02, 1, some .boolean, 21, qc186), (yJ0_checkIndex_df160, cJ0_checkIndex_df160, 2, none, 0, qc187), (yJ1_charAt_3b067, cJ1_charAt_3b067, 2, some .char, 0, qc188), (yJ3_checkIndex_8e157, cJ3_checkIndex_8e157, 3, some .int, 0, qc189)]
def qms : List (List qMt) := [qms_0, qms_1, qms_2, qms_3, qms_4, qms_5, qms_6, qms_7, qms_8, qms_9, qms_10, qms_11]
noncomputable def qmt (j : Nat) : Option qMt := match znt qms (j / 16) with
  | some r => znt r (j % 16)
  | none => none
noncomputable def qfd (l : List qI) (pc : Nat) : Option qI := List.rec (motive := fun _ => Option qI) none (fun q _ ih => bif Nat.beq q.1 pc then some q else ih) l
noncomputable def qlk (b : List (List qI)) (pc : Nat) : Option qI := match znt b (pc / 16) with
  | some l => qfd l pc
  | none => none
def qrk (r : Option FieldType) : Nat := match r with
  | none => 0
  | some .int => 1
  | some .boolean => 2
  | some .long => 3
  | some .char => 4
  | some .byte => 5
  | some (.object _) => 6
  | some _ => 7
/-- the receiver is what the method's class asks for -/
def qrc (k : Nat) (as : List qV) : Prop := match k with
  | 0 => True
  | ci + 1 => match as with
    | .inr (.inr (.inl c)) :: _ => qty c = ci
    | .inr (.inr (.inr k)) :: _ => ci = 20 ∧ 10 ≤ k ∧ k < 16
    | _ => False
def qrep : Nat → qL
  | 0 => []
  | n + 1 => none :: qrep n
def qent : List qV → Nat → qL
  | [], n => qrep n
  | .inr (.inl a) :: as, n => some (.inr (.inl a)) :: none :: qent as (n - 2)
  | a :: as, n => some a :: qent as (n - 1)
def qars : List qV → Nat
  | [] => 0
  | a :: as => qca a + qars as
/-- what the method j does, called at most d deep -/
noncomputable def qmw : Nat → qCall
  | 0 => fun _ _ _ _ => False
  | d + 1 => fun j as μ Q => match qmt j with
    | some M => (qrc M.2.2.2.2.1 as ∧ qars as ≤ M.2.2.1) ∧ qw (qmw d) none (qrk M.2.2.2.1) (qlk M.2.2.2.2.2) Q 0 (qent as M.2.2.1) [] μ
    | none => False
theorem qcm_no : qcm (fun _ _ _ _ => False) (fun _ _ _ _ => False) := fun _ _ _ _ _ _ h => h
theorem qmw_cm : ∀ d, qcm (qmw d) (qmw d)
  | 0 => qcm_no
  | d + 1 => fun j as μ Q Q' h => by
    show (match qmt j with
    | some M => (qrc M.2.2.2.2.1 as ∧ qars as ≤ M.2.2.1) ∧ qw (qmw d) none (qrk M.2.2.2.1) (qlk M.2.2.2.2.2) Q 0 (qent as M.2.2.1) [] μ
    | none => False) → (match qmt j with
    | some M => (qrc M.2.2.2.2.1 as ∧ qars as ≤ M.2.2.1) ∧ qw (qmw d) none (qrk M.2.2.2.1) (qlk M.2.2.2.2.2) Q' 0 (qent as M.2.2.1) [] μ
    | none => False)
    split
    · exact fun hs => ⟨hs.1, qw_mono (qmw_cm d) (qmw_cm d) h hs.2⟩
    · exact id
theorem qmw_mono {d j : Nat} {as : List qV} {μ : qM} {Q Q' : qV → qM → Prop} (h : qmw d j as μ Q) (hq : ∀ v μ, Q v μ → Q' v μ) : qmw d j as μ Q' := qmw_cm d j as μ Q Q' hq h
noncomputable def qft (j pc : Nat) : Option qI := match qmt j with
  | some M => qlk M.2.2.2.2.2 pc
  | none => none
noncomputable def qmk (j : Nat) : Nat := match qmt j with
  | some M => qrk M.2.2.2.1
  | none => 9
/-- the method j from its place pc on -/
def qW (d j : Nat) (Q : qV → qM → Prop) : qK := qw (qmw d) none (qmk j) (qft j) Q
theorem qF {d j : Nat} {Q : qV → qM → Prop} {pc : Nat} {ls : qL} {st : List qV} {μ : qM} {x : qI} (h : qft j pc = some x) : qW d j Q pc ls st μ = qsel (qmw d) none (qmk j) Q (qW d j Q) pc x.2.1 x.2.2.1 x.2.2.2.1 x.2.2.2.2.1 x.2.2.2.2.2 ls st μ := by
  show qw (qmw d) none (qmk j) (qft j) Q pc ls st μ = _
  rw [qw_eq (qmw_cm d)]
  unfold qstep
  rw [h]
  rfl
theorem qE {d j : Nat} {Q : qV → qM → Prop} {as : List qV} {μ : qM} {M : qMt} (h : qmt j = some M) : qmw (d + 1) j as μ Q = ((qrc M.2.2.2.2.1 as ∧ qars as ≤ M.2.2.1) ∧ qW d j Q 0 (qent as M.2.2.1) [] μ) := by
  have e1 : qmk j = qrk M.2.2.2.1 := by unfold qmk; rw [h]
  have e2 : qft j = qlk M.2.2.2.2.2 := by funext pc; unfold qft; rw [h]
  unfold qW
  rw [e1, e2]
  show (match qmt j with
    | some M => (qrc M.2.2.2.2.1 as ∧ qars as ≤ M.2.2.1) ∧ qw (qmw d) none (qrk M.2.2.2.1) (qlk M.2.2.2.2.2) Q 0 (qent as M.2.2.1) [] μ
    | none => False) = _
  rw [h]
end
section
/-! WHAT THE q-LAYER's VALUES AND MEMORY SAY OF THE MACHINE -/
/-- where things outside lie; the static that holds a formatter -/
abbrev qG : Type := (Nat → Nat) × Value
def qVr (g : qG) (ad : List Nat) : qV → Value → Prop
  | .inl a, v => ∃ x : Int32, v = .int x ∧ x.toInt = a
  | .inr (.inl a), v => ∃ x : Int64, v = .long x ∧ x.toInt = a
  | .inr (.inr (.inl c)), v => ∃ q, ad[c.toNat]? = some q ∧ v = .ref q ∧ 0 ≤ c
  | .inr (.inr (.inr k)), v => (k = 3 ∧ v = g.2 ∧ v.category = 1) ∨ (¬ k = 3 ∧ v = .ref (g.1 k))
theorem qVr_cat {g : qG} {ad : List Nat} : ∀ {a : qV} {v : Value}, qVr g ad a v → v.category = qca a
  | .inl _, _, h => by
    obtain ⟨x, rfl, -⟩ := h
    rfl
  | .inr (.inl _), _, h => by
    obtain ⟨x, rfl, -⟩ := h
    rfl
  | .inr (.inr (.inl _)), _, h => by
    obtain ⟨q, -, rfl, -⟩ := h
    rfl
  | .inr (.inr (.inr k)), _, h => by
    rcases h with ⟨-, -, h⟩ | ⟨-, rfl⟩
    · exact h
    · rfl
def qVs (g : qG) (ad : List Nat) : List qV → List Value → Prop
  | [], [] => True
  | a :: as, v :: vs => qVr g ad a v ∧ qVs g ad as vs
  | _, _ => False
theorem qVs_nil {g : qG} {ad : List Nat} {vs : List Value} (h : qVs g ad [] vs) : vs = [] := by
  cases vs with
  | nil => rfl
  | cons _ _ => exact h.elim
theorem qVs_cons {g : qG} {ad : List Nat} {a : qV} {as : List qV} {vs : List Value} (h : qVs g ad (a :: as) vs) : ∃ v ws, vs = v :: ws ∧ qVr g ad a v ∧ qVs g ad as ws := by
  cases vs with
  | nil => exact h.elim
  | cons v ws => exact ⟨v, ws, rfl, h.1, h.2⟩
theorem qVs_cat {g : qG} {ad : List Nat} : ∀ {as : List qV} {vs : List Value}, qVs g ad as vs → vs.map (fun v => v.category) = as.map qca
  | [], [], _ => rfl
  | [], _ :: _, h => h.elim
  | _ :: _, [], h => h.elim
  | a :: as, v :: vs, h => by
    rw [List.map_cons, List.map_cons, qVr_cat h.1, qVs_cat h.2]
theorem qVs_app {g : qG} {ad : List Nat} : ∀ {as bs : List qV} {vs ws : List Value}, qVs g ad as vs → qVs g ad bs ws → qVs g ad (as ++ bs) (vs ++ ws)
  | [], _, [], _, _, h2 => h2
  | [], _, _ :: _, _, h1, _ => h1.elim
  | _ :: _, _, [], _, h1, _ => h1.elim
  | _ :: _, _, _ :: _, _, h1, h2 => ⟨h1.1, qVs_app h1.2 h2⟩
theorem qVs_len {g : qG} {ad : List Nat} : ∀ {as : List qV} {vs : List Value}, qVs g ad as vs → vs.length = as.length
  | [], [], _ => rfl
  | [], _ :: _, h => h.elim
  | _ :: _, [], h => h.elim
  | _ :: _, _ :: _, h => by rw [List.length_cons, List.length_cons, qVs_len h.2]
theorem qle4_sum {g : qG} {ad : List Nat} {st : List qV} {sv : List Value} (h : qle4 st = true) (hV : qVs g ad st sv) : (sv.map fun v => v.category).sum ≤ 8 := by
  rw [qVs_cat hV]
  have h2 : ∀ a : qV, qca a ≤ 2 := fun a => by
    unfold qca
    split <;> omega
  unfold qle4 at h
  split at h
  · simp
  · rename_i a
    have := h2 a
    simp only [List.map_cons, List.map_nil, List.sum_cons, List.sum_nil]
    omega
  · rename_i a b
    have := h2 a
    have := h2 b
    simp only [List.map_cons, List.map_nil, List.sum_cons, List.sum_nil]
    omega
  · rename_i a b c
    have := h2 a
    have := h2 b
    have := h2 c
    simp only [List.map_cons, List.map_nil, List.sum_cons, List.sum_nil]
    omega
  · rename_i a b c d
    have := h2 a
    have := h2 b
    have := h2 c
    have := h2 d
    simp only [List.map_cons, List.map_nil, List.sum_cons, List.sum_nil]
    omega
  · cases h
/-! locals -/
def qLr (g : qG) (ad : List Nat) (ls : qL) (lv : List (Nat × Value)) : Prop := ∀ k v, qg ls k = some v → ∃ w, (k, w) ∈ lv ∧ qVr g ad v w
theorem qg_set : ∀ {ls : qL} {i k : Nat} {a v : qV}, qg (qset ls i a) k = some v → (k = i ∧ v = a) ∨ (k ≠ i ∧ qg ls k = some v ∧ ¬ (k + 1 = i ∧ qca v = 2))
  | [], i, k, a, v, h => by
    unfold qset at h
    cases h
  | _ :: l, 0, 0, a, v, h => by
    have h : some a = some v := h
    cases h
    exact Or.inl ⟨rfl, rfl⟩
  | _ :: l, 0, k + 1, a, v, h => Or.inr ⟨by omega, h, by omega⟩
  | b :: l, 1, 0, a, v, h => by
    have h : qcl b = some v := h
    refine Or.inr ⟨by omega, ?_, ?_⟩
    · show b = some v
      unfold qcl at h
      split at h
      · cases h
      · exact h
    · rintro ⟨-, h2⟩
      unfold qcl at h
      split at h
      · cases h
      · rename_i hn
        subst h
        unfold qca at h2
        split at h2
        · rename_i z
          exact hn z rfl
        · cases h2
  | b :: [], 1, k + 1, a, v, h => by
    have h : qg [] k = some v := h
    cases h
  | b :: c :: l, 1, 1, a, v, h => by
    have h : some a = some v := h
    cases h
    exact Or.inl ⟨rfl, rfl⟩
  | b :: c :: l, 1, k + 2, a, v, h => Or.inr ⟨by omega, h, by omega⟩
  | b :: l, i + 2, 0, a, v, h => Or.inr ⟨by omega, h, by omega⟩
  | b :: l, i + 2, k + 1, a, v, h => by
    have h : qg (qset l (i + 1) a) k = some v := h
    rcases qg_set h with ⟨h1, h2⟩ | ⟨h1, h2, h3⟩
    · exact Or.inl ⟨by omega, h2⟩
    · exact Or.inr ⟨by omega, h2, fun q => h3 ⟨by omega, q.2⟩⟩
theorem qg_none : ∀ {ls : qL} {i k : Nat} {v : qV}, qg (qnone ls i) k = some v → k ≠ i ∧ qg ls k = some v
  | [], i, k, v, h => by
    unfold qnone at h
    cases h
  | _ :: l, 0, 0, v, h => by
    have h : (none : Option qV) = some v := h
    cases h
  | _ :: l, 0, k + 1, v, h => ⟨by omega, h⟩
  | b :: l, i + 1, 0, v, h => ⟨by omega, h⟩
  | b :: l, i + 1, k + 1, v, h => by
    have h : qg (qnone l i) k = some v := h
    obtain ⟨h1, h2⟩ := qg_none h
    exact ⟨by omega, h2⟩
theorem qLr_set {g : qG} {ad : List Nat} {ls : qL} {lv : List (Nat × Value)} {i : Nat} {a : qV} {w : Value} (h : qLr g ad ls lv) (ha : qVr g ad a w) : qLr g ad (qset ls i a) ((i, w) :: lv.filter (fun q => !(q.1 == i) && !(q.1 + 1 == i && q.2.category == 2))) := fun k v hk => by
  rcases qg_set hk with ⟨rfl, rfl⟩ | ⟨h1, h2, h3⟩
  · exact ⟨w, List.mem_cons_self, ha⟩
  · obtain ⟨w2, h4, h5⟩ := h k v h2
    refine ⟨w2, List.mem_cons_of_mem _ (List.mem_filter.mpr ⟨h4, ?_⟩), h5⟩
    have h6 := qVr_cat h5
    simp only [Bool.and_eq_true, Bool.not_eq_true', beq_eq_false_iff_ne, ne_eq, Bool.and_eq_false_iff]
    refine ⟨h1, ?_⟩
    by_cases e1 : k + 1 = i
    · exact Or.inr (fun q => h3 ⟨e1, by rw [← h6]; exact q⟩)
    · exact Or.inl e1
theorem qLr_set2 {g : qG} {ad : List Nat} {ls : qL} {lv : List (Nat × Value)} {i : Nat} {a : qV} {w : Value} (h : qLr g ad ls lv) (ha : qVr g ad a w) : qLr g ad (qset (qnone ls (i + 1)) i a) ((i, w) :: lv.filter (fun q => !(q.1 == i) && (!(q.1 == i + 1) && !(q.1 + 1 == i && q.2.category == 2)))) := fun k v hk => by
  rcases qg_set hk with ⟨rfl, rfl⟩ | ⟨h1, h2, h3⟩
  · exact ⟨w, List.mem_cons_self, ha⟩
  · obtain ⟨h7, h8⟩ := qg_none h2
    obtain ⟨w2, h4, h5⟩ := h k v h8
    refine ⟨w2, List.mem_cons_of_mem _ (List.mem_filter.mpr ⟨h4, ?_⟩), h5⟩
    have h6 := qVr_cat h5
    simp only [Bool.and_eq_true, Bool.not_eq_true', beq_eq_false_iff_ne, ne_eq, Bool.and_eq_false_iff]
    refine ⟨h1, h7, ?_⟩
    by_cases e1 : k + 1 = i
    · exact Or.inr (fun q => h3 ⟨e1, by rw [← h6]; exact q⟩)
    · exact Or.inl e1
/-! cells -/
def qFr (ad : List Nat) (μ : qM) (i ci k : Nat) (o : Option Nat) (v : Value) : Prop := match qfk (zty ci k) with
  | 2 => ∃ x : Int64, v = .long x ∧ x.toInt = μ i k
  | 3 => ∃ j q, o = some j ∧ ad[j]? = some q ∧ v = .ref q
  | _ => ∃ x : Int32, v = .int x ∧ x.toInt = μ i k
def qCr (ad : List Nat) (kk : Nat → ClassId) (μ : qM) (i : Nat) : qS → va_E → Prop
  | .inl (ci, fs), e => ∃ vs, e = .inr (ci, vs) ∧ vs.length = zN ci ∧ ∀ k o, fs[k]? = some o → ∃ v, vs[k]? = some v ∧ qFr ad μ i ci k o v
  | .inr (k, n, l), e => (k ≤ 3 ∧ ∃ f : Nat → Int32, e = .inl (kk k, n, .inl f) ∧ ∀ j : Nat, j < n → (f j).toInt = μ i j) ∨
    (k = 4 ∧ ∃ f : Nat → Int64, e = .inl (kk k, n, .inr (.inl f)) ∧ ∀ j : Nat, j < n → (f j).toInt = μ i j) ∨
    (5 ≤ k ∧ k ≤ 7 ∧ ∃ f : Nat → Option Nat, e = .inl (kk k, n, .inr (.inr (.inr (.inr f)))) ∧ ∀ j : Nat, j < n → ∃ q, ad[l.getD j 0]? = some q ∧ f j = some q)
def qHr (ad : List Nat) (kk : Nat → ClassId) (μ : qM) (ws : va_W) : Prop := ws.map (·.1) = ad ∧ ∀ i c, qsh[i]? = some c → ∃ q e, ws[i]? = some (q, e) ∧ qCr ad kk μ i c e
theorem qat_some {c : Int} {x : qS} (h : qat c = some x) : ∃ n : Nat, c = n ∧ qsh[n]? = some x := by
  unfold qat at h
  split at h
  · rename_i n
    exact ⟨n, rfl, h⟩
  · cases h
theorem qty_obj {c : Int} {r : Nat} (h : qty c = r) (hr : r < 100) : ∃ (n : Nat) (fs : List (Option Nat)), c = n ∧ qsh[n]? = some (.inl (r, fs)) ∧ ∀ k, qrf c k = (((fs.getD k none).getD 0 : Nat) : Int) := by
  unfold qty at h
  split at h
  · rename_i x hx
    obtain ⟨n, h1, h2⟩ := qat_some hx
    obtain ⟨x1, x2⟩ := x
    have h : x1 = r := h
    subst h
    refine ⟨n, x2, h1, h2, fun k => ?_⟩
    unfold qrf
    rw [hx]
  · omega
  · omega
theorem qty_arr {c : Int} {r : Nat} (h : qty c = 100 + r) (hr : r < 800) : ∃ (n len : Nat) (l : List Nat), c = n ∧ qsh[n]? = some (.inr (r, len, l)) ∧ qal c = len ∧ ∀ j, qra c j = ((l.getD j.toNat 0 : Nat) : Int) := by
  have hC : ∀ (n : Nat) (x : Nat × List (Option Nat)), qsh[n]? = some (.inl x) → x.1 < 100 := fun n x hx => by
    have h1 : ∀ y ∈ qsh, (match y with
      | .inl x => decide (x.1 < 100)
      | .inr _ => true) = true := by decide +kernel
    exact of_decide_eq_true (h1 _ (List.mem_of_getElem? hx))
  unfold qty at h
  split at h
  · rename_i x hx
    obtain ⟨n, h1, h2⟩ := qat_some hx
    have := hC n x h2
    omega
  · rename_i x hx
    obtain ⟨n, h1, h2⟩ := qat_some hx
    obtain ⟨x1, x2, x3⟩ := x
    have h : 100 + x1 = 100 + r := h
    have h : x1 = r := by omega
    subst h
    refine ⟨n, x2, x3, h1, h2, ?_, fun j => ?_⟩
    · unfold qal
      rw [hx]
    · unfold qra
      rw [hx]
  · omega
end
section
theorem fa_i2b {x : Int32} (h1 : -128 ≤ x.toInt) (h2 : x.toInt ≤ 127) : x.toInt8.toInt32 = x := by
  apply Int32.toInt_inj.mp
  rw [Int8.toInt_toInt32, Int32.toInt_toInt8]
  rw [Int.bmod_eq_of_le (by omega) (by omega)]
theorem fa_i2c {x : Int32} (h1 : 0 ≤ x.toInt) (h2 : x.toInt ≤ 65535) : x.toUInt32.toUInt16.toUInt32.toInt32 = x := by
  have hx : x.toUInt32.toNat = x.toInt.toNat := by
    have h3 : (x.toUInt32.toNat : Int) = x.toInt := by
      have h4 : x.toInt = (x.toUInt32.toNat : Int).bmod (2 ^ 32) := by
        rw [← Int32.toInt_toBitVec, BitVec.toInt_eq_toNat_bmod]
        rfl
      have h5 := x.toUInt32.toNat_lt
      rw [Int.bmod_def] at h4
      have h6 : ((x.toUInt32.toNat : Int) % ((2 ^ 32 : Nat) : Int)) = x.toUInt32.toNat := Int.emod_eq_of_lt (by omega) (by omega)
      rw [h6] at h4
      split at h4 <;> omega
    omega
  have e1 : x.toUInt32.toUInt16.toUInt32 = x.toUInt32 := by
    apply UInt32.toNat_inj.mp
    rw [UInt16.toNat_toUInt32, UInt32.toNat_toUInt16, hx]
    exact Nat.mod_eq_of_lt (by omega)
  rw [e1]
  rfl
theorem q32_add (x y : Int32) : (x + y).toInt = q32 (x.toInt + y.toInt) := by
  unfold q32
  rw [Int32.ofInt_add, fb_asI, fb_asI]
theorem q32_sub (x y : Int32) : (x - y).toInt = q32 (x.toInt - y.toInt) := by
  unfold q32
  rw [Int32.ofInt_sub, fb_asI, fb_asI]
theorem q32_mul (x y : Int32) : (x * y).toInt = q32 (x.toInt * y.toInt) := by
  unfold q32
  rw [Int32.ofInt_mul, fb_asI, fb_asI]
theorem q64_add (x y : Int64) : (x + y).toInt = q64 (x.toInt + y.toInt) := by
  unfold q64
  rw [Int64.ofInt_add, fb_asL, fb_asL]
theorem q64_sub (x y : Int64) : (x - y).toInt = q64 (x.toInt - y.toInt) := by
  unfold q64
  rw [Int64.ofInt_sub, fb_asL, fb_asL]
theorem q64_mul (x y : Int64) : (x * y).toInt = q64 (x.toInt * y.toInt) := by
  unfold q64
  rw [Int64.ofInt_mul, fb_asL, fb_asL]
theorem q32_l2i (x : Int64) : x.toInt32.toInt = q32 x.toInt := by
  unfold q32
  rw [Int64.toInt_toInt32, Int32.toInt_ofInt]
theorem qlcmp_ok (x y : Int64) : (lg_cmp x y).toInt = qlcmp x.toInt y.toInt := by
  unfold lg_cmp qlcmp
  by_cases h1 : y < x
  · have h3 := (fa_lt64 _ _).mp h1
    simp only [h1, h3, if_true]
    rfl
  · have h3 : ¬ y.toInt < x.toInt := fun q => h1 ((fa_lt64 _ _).mpr q)
    by_cases h2 : x = y
    · subst h2
      simp only [h1, h3, if_true, if_false]
      first | rfl | (simp; done)
    · have h4 : ¬ x.toInt = y.toInt := fun q => h2 ((fa_eq64 _ _).mpr q)
      simp only [h1, h3, h2, h4, if_false]
      first | rfl | (simp; done)
theorem qrel_ok (k : Jvm.ClassFile.Cond) (x y : Int32) : zrel k x y ↔ qrel k x.toInt y.toInt := by
  cases k with
  | eq => exact fa_eq x y
  | ne => exact not_congr (fa_eq x y)
  | lt => exact fa_lt x y
  | ge => exact fa_le y x
  | gt => exact fa_lt y x
  | le => exact fa_le x y
theorem qneg_ok (k : Jvm.ClassFile.Cond) (a b : Int) : ¬ qrel k a b → qneg k a b := by
  cases k <;> simp only [qrel, qneg] <;> omega
def qlen : List Nat := [4, 4, 4, 4, 1, 1]
def qsi : List Nat := [81, 82, 83, 84, 85, 87]
def qtx : List String := ["from", "base", "free", "take", "/", ";"]
/-- what is known of things outside -/
def qX (g : qG) (A : Nat → Prop) (U : State) (H : Heap) : Prop := (∀ w ∈ zNs, va_Nw w U) ∧
  (va_Z "LetterDebts" "ABOVE" "[I" (.ref (g.1 1)) A U H ∧ va_T .int (g.1 1) 8 (fun j => .int (Int32.ofInt ((ztb 0).getD j 0))) A U H) ∧
  (va_Z "LetterDebts" "MARKS" "[I" (.ref (g.1 2)) A U H ∧ va_T .int (g.1 2) 8 (fun j => .int (Int32.ofInt ((ztb 1).getD j 0))) A U H) ∧
  va_Z "java/lang/String" "COMPACT_STRINGS" "Z" (.int 1) A U H ∧
  (va_Z "jdk/internal/util/Preconditions" "SIOOBE_FORMATTER" "Ljava/util/function/BiFunction;" g.2 A U H ∧ g.2.category = 1) ∧
  vk_S 6 qlen qsl (fun i => g.1 (10 + i)) (fun i => g.1 (20 + i)) A U H ∧
  ∀ i, i < 6 → vk_R RX7 (qsi.getD i 0) (qtx.getD i "") (g.1 (10 + i)) U
def qCx (p : Program) (s : State) (m : MethodId) (args : Array Value) (meth : Method) (c : Code) (cc : ByteArray) (nL : Nat) (own : String) (D : va_G) (kk : Nat → ClassId) (A : Nat → Prop) (g : qG) (t : qT) : Prop :=
  p.tables.exec = Jvm.exec ∧ c.code = cc ∧ c.maxLocals = nL ∧ s.vm.findClass own = some m.cls ∧ (∀ w ∈ zW, w.before args s = true) ∧ va_K D vwCl (zKs kk) s ∧ (∀ q, s.heap.size ≤ q → A q) ∧ qX g A s s.heap ∧ (∀ x, t = some x → ∃ (L : Nat) (xs : Nat → Int32), x.1 = L ∧ L ≤ 100000 ∧ (∀ j : Nat, j < L → x.2 j = (xs j).toInt) ∧ va_X (g.1 0) L xs s s.heap ∧ g.1 0 < s.heap.size ∧ ¬ A (g.1 0))
def qSt (s : State) (D : va_G) (kk : Nat → ClassId) (A : Nat → Prop) (g : qG) (ad : List Nat) (nL : Nat) (ls : qL) (st : List qV) (μ : qM) (ar : Array Slot) (sv : List Value) (H : Heap) (locs : List Loc) : Prop :=
  ∃ (ws : va_W) (lv : List (Nat × Value)), qHr ad kk μ ws ∧ lv_has ar nL lv ∧ qLr g ad ls lv ∧ qVs g ad st sv ∧ va_P D vwCl ws H ∧ va_D A ws ∧ va_S A s.heap H locs
/-- from every state of the machine that the q-layer's state says the truth of, the machine comes to Q -/
def qWn (p : Program) (l : Launch) (e : Env) (R : Room) (s : State) (m : MethodId) (args : Array Value) (below : List Frame) (meth : Method) (c : Code) (Q : State → Prop) (D : va_G) (kk : Nat → ClassId) (A : Nat → Prop) (g : qG) (ad : List Nat) (nL nc ns : Nat) : qK := fun pc ls st μ =>
  ∀ (ar : Array Slot) (sv : List Value) (H : Heap) (locs : List Loc), qSt s D kk A g ad nL ls st μ ar sv H locs → W p l e R s m args below meth c H locs nc ns Q (F0 m pc ar sv)
theorem qCr_congr {ad : List Nat} {kk : Nat → ClassId} {μ μ' : qM} {i : Nat} (h : ∀ j : Int, μ' i j = μ i j) : ∀ {c : qS} {e : va_E}, qCr ad kk μ i c e → qCr ad kk μ' i c e
  | .inl (ci, fs), e, hc => by
    obtain ⟨vs, h1, h2, h3⟩ := hc
    refine ⟨vs, h1, h2, fun k o hk => ?_⟩
    obtain ⟨v, h4, h5⟩ := h3 k o hk
    refine ⟨v, h4, ?_⟩
    unfold qFr at h5 ⊢
    split at h5
    · obtain ⟨x, h6, h7⟩ := h5
      exact ⟨x, h6, by rw [h]; exact h7⟩
    · exact h5
    · obtain ⟨x, h6, h7⟩ := h5
      exact ⟨x, h6, by rw [h]; exact h7⟩
  | .inr (k, n, l), e, hc => by
    rcases hc with ⟨h1, f, h2, h3⟩ | ⟨h1, f, h2, h3⟩ | ⟨h1, h1b, f, h2, h3⟩
    · exact Or.inl ⟨h1, f, h2, fun j hj => by rw [h]; exact h3 j hj⟩
    · exact Or.inr (Or.inl ⟨h1, f, h2, fun j hj => by rw [h]; exact h3 j hj⟩)
    · exact Or.inr (Or.inr ⟨h1, h1b, f, h2, h3⟩)
theorem qHr_set {ad : List Nat} {kk : Nat → ClassId} {μ μ' : qM} {i q : Nat} {e0 e1 : va_E} {c1 : qS} {ws : va_W} (hh : qHr ad kk μ ws) (h1 : ws[i]? = some (q, e0)) (hc : qsh[i]? = some c1) (hμ : ∀ c : Int, c ≠ (i : Int) → ∀ j, μ' c j = μ c j) (h2 : qCr ad kk μ' i c1 e1) : qHr ad kk μ' (ws.set i (q, e1)) := by
  refine ⟨by rw [zmap_set h1]; exact hh.1, fun j c0 hj => ?_⟩
  by_cases e : j = i
  · subst e
    rw [hc] at hj
    cases hj
    exact ⟨q, e1, by rw [List.getElem?_set]; simp [(List.getElem?_eq_some_iff.mp h1).1], h2⟩
  · obtain ⟨q1, e2, h3, h4⟩ := hh.2 j c0 hj
    exact ⟨q1, e2, by rw [List.getElem?_set]; simp [Ne.symm e, h3], qCr_congr (fun k => hμ j (by omega) k) h4⟩
theorem qat_ad {ad : List Nat} {kk : Nat → ClassId} {μ : qM} {ws : va_W} {i q q' : Nat} {e : va_E} (hh : qHr ad kk μ ws) (h1 : ad[i]? = some q) (h2 : ws[i]? = some (q', e)) : q' = q := by
  rw [← hh.1] at h1
  exact zat h1 h2
theorem qu_same (μ : qM) (c i v : Int) : qu μ c i v c i = v := by
  unfold qu
  simp
theorem qu_ne {μ : qM} {c i v c' i' : Int} (h : ¬ (c' = c ∧ i' = i)) : qu μ c i v c' i' = μ c' i' := by
  unfold qu
  rw [if_neg h]
theorem qu_cell {μ : qM} {c i v c' : Int} (h : c' ≠ c) (j : Int) : qu μ c i v c' j = μ c' j := qu_ne (fun q => h q.1)
section QH
variable {p : Program} {l : Launch} {e : Env} {R : Room} {s : State} {m : MethodId} {args : Array Value} {below : List Frame} {meth : Method} {c : Code} {Q : State → Prop} {D : va_G} {kk : Nat → ClassId} {A : Nat → Prop} {g : qG} {ad : List Nat} {nL nc ns : Nat} {cc : ByteArray} {own : String} {t : qT} {pc : Nat} {ls : qL} {st : List qV} {μ : qM}
theorem qh_iload_n (hC : qCx p s m args meth c cc nL own D kk A g t) {n : Fin 4} (hd : decode cc pc = .ok (.iload_n n, 1)) (hs : qs_iload n (qWn p l e R s m args below meth c Q D kk A g ad nL nc ns (pc + 1)) ls st μ) : qWn p l e R s m args below meth c Q D kk A g ad nL nc ns pc ls st μ := by
  unfold qs_iload at hs
  split at hs
  · rename_i a ha
    intro ar sv H locs ⟨ws, lv, hh, hl, hL, hF, hP, hD, hS⟩
    obtain ⟨w, hw, x, rfl, rfl⟩ := hL _ _ ha
    exact lv_iload_n hC.1 hC.2.1 hd rfl (hl.2.2 _ hw) (hs ar _ H locs ⟨ws, lv, hh, hl, hL, ⟨⟨x, rfl, rfl⟩, hF⟩, hP, hD, hS⟩)
  · exact hs.elim
theorem qh_iload (hC : qCx p s m args meth c cc nL own D kk A g t) {n : Nat} (hd : decode cc pc = .ok (.iload n, 2)) (hs : qs_iload n (qWn p l e R s m args below meth c Q D kk A g ad nL nc ns (pc + 2)) ls st μ) : qWn p l e R s m args below meth c Q D kk A g ad nL nc ns pc ls st μ := by
  unfold qs_iload at hs
  split at hs
  · rename_i a ha
    intro ar sv H locs ⟨ws, lv, hh, hl, hL, hF, hP, hD, hS⟩
    obtain ⟨w, hw, x, rfl, rfl⟩ := hL _ _ ha
    exact lv_iload hC.1 hC.2.1 hd (hl.2.2 _ hw) (hs ar _ H locs ⟨ws, lv, hh, hl, hL, ⟨⟨x, rfl, rfl⟩, hF⟩, hP, hD, hS⟩)
  · exact hs.elim
theorem qh_lload_n (hC : qCx p s m args meth c cc nL own D kk A g t) {n : Fin 4} (hd : decode cc pc = .ok (.lload_n n, 1)) (hs : qs_lload n (qWn p l e R s m args below meth c Q D kk A g ad nL nc ns (pc + 1)) ls st μ) : qWn p l e R s m args below meth c Q D kk A g ad nL nc ns pc ls st μ := by
  unfold qs_lload at hs
  split at hs
  · rename_i a ha
    intro ar sv H locs ⟨ws, lv, hh, hl, hL, hF, hP, hD, hS⟩
    obtain ⟨w, hw, x, rfl, rfl⟩ := hL _ _ ha
    exact lv_lload_n hC.1 hC.2.1 hd rfl (hl.2.2 _ hw) (hs ar _ H locs ⟨ws, lv, hh, hl, hL, ⟨⟨x, rfl, rfl⟩, hF⟩, hP, hD, hS⟩)
  · exact hs.elim
theorem qh_lload (hC : qCx p s m args meth c cc nL own D kk A g t) {n : Nat} (hd : decode cc pc = .ok (.lload n, 2)) (hs : qs_lload n (qWn p l e R s m args below meth c Q D kk A g ad nL nc ns (pc + 2)) ls st μ) : qWn p l e R s m args below meth c Q D kk A g ad nL nc ns pc ls st μ := by
  unfold qs_lload at hs
  split at hs
  · rename_i a ha
    intro ar sv H locs ⟨ws, lv, hh, hl, hL, hF, hP, hD, hS⟩
    obtain ⟨w, hw, x, rfl, rfl⟩ := hL _ _ ha
    exact lv_lload hC.1 hC.2.1 hd (hl.2.2 _ hw) (hs ar _ H locs ⟨ws, lv, hh, hl, hL, ⟨⟨x, rfl, rfl⟩, hF⟩, hP, hD, hS⟩)
  · exact hs.elim
theorem qh_aload_n (hC : qCx p s m args meth c cc nL own D kk A g t) {n : Fin 4} (hd : decode cc pc = .ok (.aload_n n, 1)) (hs : qs_aload n (qWn p l e R s m args below meth c Q D kk A g ad nL nc ns (pc + 1)) ls st μ) : qWn p l e R s m args below meth c Q D kk A g ad nL nc ns pc ls st μ := by
  unfold qs_aload at hs
  split at hs
  · rename_i a ha
    intro ar sv H locs ⟨ws, lv, hh, hl, hL, hF, hP, hD, hS⟩
    obtain ⟨w, hw, q, h1, rfl, h2⟩ := hL _ _ ha
    exact lv_aload_n hC.1 hC.2.1 hd rfl (hl.2.2 _ hw) (hs ar _ H locs ⟨ws, lv, hh, hl, hL, ⟨⟨q, h1, rfl, h2⟩, hF⟩, hP, hD, hS⟩)
  · rename_i a ha
    intro ar sv H locs ⟨ws, lv, hh, hl, hL, hF, hP, hD, hS⟩
    obtain ⟨w, hw, hV⟩ := hL _ _ ha
    rcases id hV with ⟨h1, -⟩ | ⟨-, rfl⟩
    · exact absurd h1 hs.1
    · exact lv_aload_n hC.1 hC.2.1 hd rfl (hl.2.2 _ hw) (hs.2 ar _ H locs ⟨ws, lv, hh, hl, hL, ⟨hV, hF⟩, hP, hD, hS⟩)
  · exact hs.elim
theorem qh_aload (hC : qCx p s m args meth c cc nL own D kk A g t) {n : Nat} (hd : decode cc pc = .ok (.aload n, 2)) (hs : qs_aload n (qWn p l e R s m args below meth c Q D kk A g ad nL nc ns (pc + 2)) ls st μ) : qWn p l e R s m args below meth c Q D kk A g ad nL nc ns pc ls st μ := by
  unfold qs_aload at hs
  split at hs
  · rename_i a ha
    intro ar sv H locs ⟨ws, lv, hh, hl, hL, hF, hP, hD, hS⟩
    obtain ⟨w, hw, q, h1, rfl, h2⟩ := hL _ _ ha
    exact lv_aload hC.1 hC.2.1 hd (hl.2.2 _ hw) (hs ar _ H locs ⟨ws, lv, hh, hl, hL, ⟨⟨q, h1, rfl, h2⟩, hF⟩, hP, hD, hS⟩)
  · rename_i a ha
    intro ar sv H locs ⟨ws, lv, hh, hl, hL, hF, hP, hD, hS⟩
    obtain ⟨w, hw, hV⟩ := hL _ _ ha
    rcases id hV with ⟨h1, -⟩ | ⟨-, rfl⟩
    · exact absurd h1 hs.1
    · exact lv_aload hC.1 hC.2.1 hd (hl.2.2 _ hw) (hs.2 ar _ H locs ⟨ws, lv, hh, hl, hL, ⟨hV, hF⟩, hP, hD, hS⟩)
  · exact hs.elim
theorem qh_istore_n (hC : qCx p s m args meth c cc nL own D kk A g t) {n : Fin 4} (hn : (n : Nat) < nL) (hd : decode cc pc = .ok (.istore_n n, 1)) (hs : qs_istore n (qWn p l e R s m args below meth c Q D kk A g ad nL nc ns (pc + 1)) ls st μ) : qWn p l e R s m args below meth c Q D kk A g ad nL nc ns pc ls st μ := by
  unfold qs_istore at hs
  split at hs
  · rename_i a st0
    intro ar sv H locs ⟨ws, lv, hh, hl, hL, hF, hP, hD, hS⟩
    obtain ⟨v, vs, rfl, hV, hF1⟩ := qVs_cons hF
    obtain ⟨x, rfl, rfl⟩ := id hV
    exact lv_istore_n hC.1 hC.2.1 hd rfl hl hn rfl (fun ar' hl' => hs ar' _ H locs ⟨ws, _, hh, hl', qLr_set hL hV, hF1, hP, hD, hS⟩)
  · exact hs.elim
theorem qh_istore (hC : qCx p s m args meth c cc nL own D kk A g t) {n : Nat} (hn : n < nL) (hd : decode cc pc = .ok (.istore n, 2)) (hs : qs_istore n (qWn p l e R s m args below meth c Q D kk A g ad nL nc ns (pc + 2)) ls st μ) : qWn p l e R s m args below meth c Q D kk A g ad nL nc ns pc ls st μ := by
  unfold qs_istore at hs
  split at hs
  · rename_i a st0
    intro ar sv H locs ⟨ws, lv, hh, hl, hL, hF, hP, hD, hS⟩
    obtain ⟨v, vs, rfl, hV, hF1⟩ := qVs_cons hF
    obtain ⟨x, rfl, rfl⟩ := id hV
    exact lv_istore hC.1 hC.2.1 hd hl hn rfl (fun ar' hl' => hs ar' _ H locs ⟨ws, _, hh, hl', qLr_set hL hV, hF1, hP, hD, hS⟩)
  · exact hs.elim
theorem qh_astore_n (hC : qCx p s m args meth c cc nL own D kk A g t) {n : Fin 4} (hn : (n : Nat) < nL) (hd : decode cc pc = .ok (.astore_n n, 1)) (hs : qs_astore n (qWn p l e R s m args below meth c Q D kk A g ad nL nc ns (pc + 1)) ls st μ) : qWn p l e R s m args below meth c Q D kk A g ad nL nc ns pc ls st μ := by
  unfold qs_astore at hs
  split at hs
  · rename_i a st0
    intro ar sv H locs ⟨ws, lv, hh, hl, hL, hF, hP, hD, hS⟩
    obtain ⟨v, vs, rfl, hV, hF1⟩ := qVs_cons hF
    obtain ⟨q, h1, rfl, h2⟩ := id hV
    exact lv_astore_n hC.1 hC.2.1 hd rfl hl hn rfl (fun ar' hl' => hs ar' _ H locs ⟨ws, _, hh, hl', qLr_set hL hV, hF1, hP, hD, hS⟩)
  · exact hs.elim
theorem qh_astore (hC : qCx p s m args meth c cc nL own D kk A g t) {n : Nat} (hn : n < nL) (hd : decode cc pc = .ok (.astore n, 2)) (hs : qs_astore n (qWn p l e R s m args below meth c Q D kk A g ad nL nc ns (pc + 2)) ls st μ) : qWn p l e R s m args below meth c Q D kk A g ad nL nc ns pc ls st μ := by
  unfold qs_astore at hs
  split at hs
  · rename_i a st0
    intro ar sv H locs ⟨ws, lv, hh, hl, hL, hF, hP, hD, hS⟩
    obtain ⟨v, vs, rfl, hV, hF1⟩ := qVs_cons hF
    obtain ⟨q, h1, rfl, h2⟩ := id hV
    exact lv_astore hC.1 hC.2.1 hd hl hn rfl (fun ar' hl' => hs ar' _ H locs ⟨ws, _, hh, hl', qLr_set hL hV, hF1, hP, hD, hS⟩)
  · exact hs.elim
theorem qh_lstore_n (hC : qCx p s m args meth c cc nL own D kk A g t) {n : Fin 4} (hn : (n : Nat) + 1 < nL) (hd : decode cc pc = .ok (.lstore_n n, 1)) (hs : qs_lstore n (qWn p l e R s m args below meth c Q D kk A g ad nL nc ns (pc + 1)) ls st μ) : qWn p l e R s m args below meth c Q D kk A g ad nL nc ns pc ls st μ := by
  unfold qs_lstore at hs
  split at hs
  · rename_i a st0
    intro ar sv H locs ⟨ws, lv, hh, hl, hL, hF, hP, hD, hS⟩
    obtain ⟨v, vs, rfl, hV, hF1⟩ := qVs_cons hF
    obtain ⟨x, rfl, rfl⟩ := id hV
    exact lv_lstore_n hC.1 hC.2.1 hd rfl hl hn rfl (fun ar' hl' => hs ar' _ H locs ⟨ws, _, hh, hl', qLr_set2 hL hV, hF1, hP, hD, hS⟩)
  · exact hs.elim
theorem qh_lstore (hC : qCx p s m args meth c cc nL own D kk A g t) {n : Nat} (hn : n + 1 < nL) (hd : decode cc pc = .ok (.lstore n, 2)) (hs : qs_lstore n (qWn p l e R s m args below meth c Q D kk A g ad nL nc ns (pc + 2)) ls st μ) : qWn p l e R s m args below meth c Q D kk A g ad nL nc ns pc ls st μ := by
  unfold qs_lstore at hs
  split at hs
  · rename_i a st0
    intro ar sv H locs ⟨ws, lv, hh, hl, hL, hF, hP, hD, hS⟩
    obtain ⟨v, vs, rfl, hV, hF1⟩ := qVs_cons hF
    obtain ⟨x, rfl, rfl⟩ := id hV
    exact lv_lstore hC.1 hC.2.1 hd hl hn rfl (fun ar' hl' => hs ar' _ H locs ⟨ws, _, hh, hl', qLr_set2 hL hV, hF1, hP, hD, hS⟩)
  · exact hs.elim
theorem qh_iconst (hC : qCx p s m args meth c cc nL own D kk A g t) {n : Int} (hr : -2147483648 ≤ n ∧ n < 2147483648) (hd : decode cc pc = .ok (.iconst n, 1)) (hs : qs_push (.inl n) (qWn p l e R s m args below meth c Q D kk A g ad nL nc ns (pc + 1)) ls st μ) : qWn p l e R s m args below meth c Q D kk A g ad nL nc ns pc ls st μ := by
  intro ar sv H locs ⟨ws, lv, hh, hl, hL, hF, hP, hD, hS⟩
  exact lv_iconst (v := Int32.ofInt n) hC.1 hC.2.1 hd rfl (hs ar _ H locs ⟨ws, lv, hh, hl, hL, ⟨⟨_, rfl, fb_ofI hr.1 hr.2⟩, hF⟩, hP, hD, hS⟩)
theorem qh_bipush (hC : qCx p s m args meth c cc nL own D kk A g t) {n : Int} (hr : -2147483648 ≤ n ∧ n < 2147483648) (hb : (Int8.ofInt n).toInt32 = Int32.ofInt n) (hd : decode cc pc = .ok (.bipush n, 2)) (hs : qs_push (.inl n) (qWn p l e R s m args below meth c Q D kk A g ad nL nc ns (pc + 2)) ls st μ) : qWn p l e R s m args below meth c Q D kk A g ad nL nc ns pc ls st μ := by
  intro ar sv H locs ⟨ws, lv, hh, hl, hL, hF, hP, hD, hS⟩
  exact lv_bipush (v := Int32.ofInt n) hC.1 hC.2.1 hd hb (hs ar _ H locs ⟨ws, lv, hh, hl, hL, ⟨⟨_, rfl, fb_ofI hr.1 hr.2⟩, hF⟩, hP, hD, hS⟩)
theorem qh_sipush (hC : qCx p s m args meth c cc nL own D kk A g t) {n : Int} (hr : -2147483648 ≤ n ∧ n < 2147483648) (hb : (Int16.ofInt n).toInt32 = Int32.ofInt n) (hd : decode cc pc = .ok (.sipush n, 3)) (hs : qs_push (.inl n) (qWn p l e R s m args below meth c Q D kk A g ad nL nc ns (pc + 3)) ls st μ) : qWn p l e R s m args below meth c Q D kk A g ad nL nc ns pc ls st μ := by
  intro ar sv H locs ⟨ws, lv, hh, hl, hL, hF, hP, hD, hS⟩
  exact lv_sipush (v := Int32.ofInt n) hC.1 hC.2.1 hd hb (hs ar _ H locs ⟨ws, lv, hh, hl, hL, ⟨⟨_, rfl, fb_ofI hr.1 hr.2⟩, hF⟩, hP, hD, hS⟩)
theorem qh_lconst (hC : qCx p s m args meth c cc nL own D kk A g t) {n : Fin 2} (hd : decode cc pc = .ok (.lconst n, 1)) (hs : qs_push (.inr (.inl ((n : Nat) : Int))) (qWn p l e R s m args below meth c Q D kk A g ad nL nc ns (pc + 1)) ls st μ) : qWn p l e R s m args below meth c Q D kk A g ad nL nc ns pc ls st μ := by
  intro ar sv H locs ⟨ws, lv, hh, hl, hL, hF, hP, hD, hS⟩
  refine lv_lconst (v := Int64.ofNat (n : Nat)) hC.1 hC.2.1 hd rfl (hs ar _ H locs ⟨ws, lv, hh, hl, hL, ⟨⟨_, rfl, ?_⟩, hF⟩, hP, hD, hS⟩)
  rcases n with ⟨n, hn⟩
  rcases (show n = 0 ∨ n = 1 by omega) with rfl | rfl <;> rfl
theorem qh_ldc_w (hC : qCx p s m args meth c cc nL own D kk A g t) {i : Nat} {v : Int32} (hw : Jvm.Cond.constant own i v ∈ zW) (hd : decode cc pc = .ok (.ldc_w i, 3)) (hs : qs_push (.inl v.toInt) (qWn p l e R s m args below meth c Q D kk A g ad nL nc ns (pc + 3)) ls st μ) : qWn p l e R s m args below meth c Q D kk A g ad nL nc ns pc ls st μ := by
  intro ar sv H locs ⟨ws, lv, hh, hl, hL, hF, hP, hD, hS⟩
  exact lv_ldcw hC.1 hC.2.1 hC.2.2.2.1 (hC.2.2.2.2.1 _ hw) hd (hs ar _ H locs ⟨ws, lv, hh, hl, hL, ⟨⟨_, rfl, rfl⟩, hF⟩, hP, hD, hS⟩)
theorem qh_ldc2_w (hC : qCx p s m args meth c cc nL own D kk A g t) {i : Nat} {v : Int64} (hw : Jvm.Cond.constantLong own i v ∈ zW) (hd : decode cc pc = .ok (.ldc2_w i, 3)) (hs : qs_push (.inr (.inl v.toInt)) (qWn p l e R s m args below meth c Q D kk A g ad nL nc ns (pc + 3)) ls st μ) : qWn p l e R s m args below meth c Q D kk A g ad nL nc ns pc ls st μ := by
  intro ar sv H locs ⟨ws, lv, hh, hl, hL, hF, hP, hD, hS⟩
  exact lv_ldc2 hC.1 hC.2.1 hC.2.2.2.1 (hC.2.2.2.2.1 _ hw) hd (hs ar _ H locs ⟨ws, lv, hh, hl, hL, ⟨⟨_, rfl, rfl⟩, hF⟩, hP, hD, hS⟩)
theorem qh_ldc (hC : qCx p s m args meth c cc nL own D kk A g t) {i r1 : Nat} (ho : own = RX7) (hr1 : r1 < 6) (hi : qsi.getD r1 0 = i) (hd : decode cc pc = .ok (.ldc i, 2)) (hs : qs_push (.inr (.inr (.inr (10 + r1)))) (qWn p l e R s m args below meth c Q D kk A g ad nL nc ns (pc + 2)) ls st μ) : qWn p l e R s m args below meth c Q D kk A g ad nL nc ns pc ls st μ := by
  intro ar sv H locs ⟨ws, lv, hh, hl, hL, hF, hP, hD, hS⟩
  have h1 := hC.2.2.2.2.2.2.2.1.2.2.2.2.2.2 r1 hr1
  rw [hi, ← ho] at h1
  exact va_ldcS hC.1 hC.2.1 hC.2.2.2.1 h1 hd (hs ar _ H locs ⟨ws, lv, hh, hl, hL, ⟨Or.inr ⟨by omega, rfl⟩, hF⟩, hP, hD, hS⟩)
theorem qh_iadd (hC : qCx p s m args meth c cc nL own D kk A g t)  (hd : decode cc pc = .ok (.iadd, 1)) (hs : qs_b (fun a b => q32 (a + b)) (qWn p l e R s m args below meth c Q D kk A g ad nL nc ns (pc + 1)) ls st μ) : qWn p l e R s m args below meth c Q D kk A g ad nL nc ns pc ls st μ := by
  unfold qs_b at hs
  split at hs
  · rename_i b0 a0 st0
    intro ar sv H locs ⟨ws, lv, hh, hl, hL, hF, hP, hD, hS⟩
    obtain ⟨v2, vs, rfl, ⟨y, rfl, rfl⟩, hF1⟩ := qVs_cons hF
    obtain ⟨v1, vs, rfl, ⟨x, rfl, rfl⟩, hF2⟩ := qVs_cons hF1
    exact lv_iadd hC.1 hC.2.1 hd (hs ar _ H locs ⟨ws, lv, hh, hl, hL, ⟨⟨_, rfl, q32_add x y⟩, hF2⟩, hP, hD, hS⟩)
  · exact hs.elim
theorem qh_isub (hC : qCx p s m args meth c cc nL own D kk A g t)  (hd : decode cc pc = .ok (.isub, 1)) (hs : qs_b (fun a b => q32 (a - b)) (qWn p l e R s m args below meth c Q D kk A g ad nL nc ns (pc + 1)) ls st μ) : qWn p l e R s m args below meth c Q D kk A g ad nL nc ns pc ls st μ := by
  unfold qs_b at hs
  split at hs
  · rename_i b0 a0 st0
    intro ar sv H locs ⟨ws, lv, hh, hl, hL, hF, hP, hD, hS⟩
    obtain ⟨v2, vs, rfl, ⟨y, rfl, rfl⟩, hF1⟩ := qVs_cons hF
    obtain ⟨v1, vs, rfl, ⟨x, rfl, rfl⟩, hF2⟩ := qVs_cons hF1
    exact lv_isub hC.1 hC.2.1 hd (hs ar _ H locs ⟨ws, lv, hh, hl, hL, ⟨⟨_, rfl, q32_sub x y⟩, hF2⟩, hP, hD, hS⟩)
  · exact hs.elim
theorem qh_imul (hC : qCx p s m args meth c cc nL own D kk A g t)  (hd : decode cc pc = .ok (.imul, 1)) (hs : qs_b (fun a b => q32 (a * b)) (qWn p l e R s m args below meth c Q D kk A g ad nL nc ns (pc + 1)) ls st μ) : qWn p l e R s m args below meth c Q D kk A g ad nL nc ns pc ls st μ := by
  unfold qs_b at hs
  split at hs
  · rename_i b0 a0 st0
    intro ar sv H locs ⟨ws, lv, hh, hl, hL, hF, hP, hD, hS⟩
    obtain ⟨v2, vs, rfl, ⟨y, rfl, rfl⟩, hF1⟩ := qVs_cons hF
    obtain ⟨v1, vs, rfl, ⟨x, rfl, rfl⟩, hF2⟩ := qVs_cons hF1
    exact lv_imul hC.1 hC.2.1 hd (hs ar _ H locs ⟨ws, lv, hh, hl, hL, ⟨⟨_, rfl, q32_mul x y⟩, hF2⟩, hP, hD, hS⟩)
  · exact hs.elim
theorem qh_iand (hC : qCx p s m args meth c cc nL own D kk A g t)  (hd : decode cc pc = .ok (.iand, 1)) (hs : qs_b qand (qWn p l e R s m args below meth c Q D kk A g ad nL nc ns (pc + 1)) ls st μ) : qWn p l e R s m args below meth c Q D kk A g ad nL nc ns pc ls st μ := by
  unfold qs_b at hs
  split at hs
  · rename_i b0 a0 st0
    intro ar sv H locs ⟨ws, lv, hh, hl, hL, hF, hP, hD, hS⟩
    obtain ⟨v2, vs, rfl, ⟨y, rfl, rfl⟩, hF1⟩ := qVs_cons hF
    obtain ⟨v1, vs, rfl, ⟨x, rfl, rfl⟩, hF2⟩ := qVs_cons hF1
    exact lv_iand hC.1 hC.2.1 hd (hs ar _ H locs ⟨ws, lv, hh, hl, hL, ⟨⟨_, rfl, by unfold qand; rw [fb_asI, fb_asI]⟩, hF2⟩, hP, hD, hS⟩)
  · exact hs.elim
theorem qh_ior (hC : qCx p s m args meth c cc nL own D kk A g t)  (hd : decode cc pc = .ok (.ior, 1)) (hs : qs_b qior (qWn p l e R s m args below meth c Q D kk A g ad nL nc ns (pc + 1)) ls st μ) : qWn p l e R s m args below meth c Q D kk A g ad nL nc ns pc ls st μ := by
  unfold qs_b at hs
  split at hs
  · rename_i b0 a0 st0
    intro ar sv H locs ⟨ws, lv, hh, hl, hL, hF, hP, hD, hS⟩
    obtain ⟨v2, vs, rfl, ⟨y, rfl, rfl⟩, hF1⟩ := qVs_cons hF
    obtain ⟨v1, vs, rfl, ⟨x, rfl, rfl⟩, hF2⟩ := qVs_cons hF1
    exact lv_ior hC.1 hC.2.1 hd (hs ar _ H locs ⟨ws, lv, hh, hl, hL, ⟨⟨_, rfl, by unfold qior; rw [fb_asI, fb_asI]⟩, hF2⟩, hP, hD, hS⟩)
  · exact hs.elim
theorem qh_ixor (hC : qCx p s m args meth c cc nL own D kk A g t)  (hd : decode cc pc = .ok (.ixor, 1)) (hs : qs_b qxor (qWn p l e R s m args below meth c Q D kk A g ad nL nc ns (pc + 1)) ls st μ) : qWn p l e R s m args below meth c Q D kk A g ad nL nc ns pc ls st μ := by
  unfold qs_b at hs
  split at hs
  · rename_i b0 a0 st0
    intro ar sv H locs ⟨ws, lv, hh, hl, hL, hF, hP, hD, hS⟩
    obtain ⟨v2, vs, rfl, ⟨y, rfl, rfl⟩, hF1⟩ := qVs_cons hF
    obtain ⟨v1, vs, rfl, ⟨x, rfl, rfl⟩, hF2⟩ := qVs_cons hF1
    exact lv_ixor hC.1 hC.2.1 hd (hs ar _ H locs ⟨ws, lv, hh, hl, hL, ⟨⟨_, rfl, by unfold qxor; rw [fb_asI, fb_asI]⟩, hF2⟩, hP, hD, hS⟩)
  · exact hs.elim
theorem qh_ishl (hC : qCx p s m args meth c cc nL own D kk A g t)  (hd : decode cc pc = .ok (.ishl, 1)) (hs : qs_b qshl (qWn p l e R s m args below meth c Q D kk A g ad nL nc ns (pc + 1)) ls st μ) : qWn p l e R s m args below meth c Q D kk A g ad nL nc ns pc ls st μ := by
  unfold qs_b at hs
  split at hs
  · rename_i b0 a0 st0
    intro ar sv H locs ⟨ws, lv, hh, hl, hL, hF, hP, hD, hS⟩
    obtain ⟨v2, vs, rfl, ⟨y, rfl, rfl⟩, hF1⟩ := qVs_cons hF
    obtain ⟨v1, vs, rfl, ⟨x, rfl, rfl⟩, hF2⟩ := qVs_cons hF1
    exact lv_ishl hC.1 hC.2.1 hd (hs ar _ H locs ⟨ws, lv, hh, hl, hL, ⟨⟨_, rfl, by unfold qshl; rw [fb_asI, fb_asI]⟩, hF2⟩, hP, hD, hS⟩)
  · exact hs.elim
theorem qh_ishr (hC : qCx p s m args meth c cc nL own D kk A g t)  (hd : decode cc pc = .ok (.ishr, 1)) (hs : qs_b qshr (qWn p l e R s m args below meth c Q D kk A g ad nL nc ns (pc + 1)) ls st μ) : qWn p l e R s m args below meth c Q D kk A g ad nL nc ns pc ls st μ := by
  unfold qs_b at hs
  split at hs
  · rename_i b0 a0 st0
    intro ar sv H locs ⟨ws, lv, hh, hl, hL, hF, hP, hD, hS⟩
    obtain ⟨v2, vs, rfl, ⟨y, rfl, rfl⟩, hF1⟩ := qVs_cons hF
    obtain ⟨v1, vs, rfl, ⟨x, rfl, rfl⟩, hF2⟩ := qVs_cons hF1
    exact lv_ishr hC.1 hC.2.1 hd (hs ar _ H locs ⟨ws, lv, hh, hl, hL, ⟨⟨_, rfl, by unfold qshr; rw [fb_asI, fb_asI]⟩, hF2⟩, hP, hD, hS⟩)
  · exact hs.elim
theorem qh_iushr (hC : qCx p s m args meth c cc nL own D kk A g t)  (hd : decode cc pc = .ok (.iushr, 1)) (hs : qs_b qushr (qWn p l e R s m args below meth c Q D kk A g ad nL nc ns (pc + 1)) ls st μ) : qWn p l e R s m args below meth c Q D kk A g ad nL nc ns pc ls st μ := by
  unfold qs_b at hs
  split at hs
  · rename_i b0 a0 st0
    intro ar sv H locs ⟨ws, lv, hh, hl, hL, hF, hP, hD, hS⟩
    obtain ⟨v2, vs, rfl, ⟨y, rfl, rfl⟩, hF1⟩ := qVs_cons hF
    obtain ⟨v1, vs, rfl, ⟨x, rfl, rfl⟩, hF2⟩ := qVs_cons hF1
    exact lv_iushr hC.1 hC.2.1 hd rfl (hs ar _ H locs ⟨ws, lv, hh, hl, hL, ⟨⟨_, rfl, by unfold qushr; rw [fb_asI, fb_asI]⟩, hF2⟩, hP, hD, hS⟩)
  · exact hs.elim
theorem qh_idiv (hC : qCx p s m args meth c cc nL own D kk A g t)  (hd : decode cc pc = .ok (.idiv, 1)) (hs : qs_bd qidiv (qWn p l e R s m args below meth c Q D kk A g ad nL nc ns (pc + 1)) ls st μ) : qWn p l e R s m args below meth c Q D kk A g ad nL nc ns pc ls st μ := by
  unfold qs_bd at hs
  split at hs
  · rename_i b0 a0 st0
    intro ar sv H locs ⟨ws, lv, hh, hl, hL, hF, hP, hD, hS⟩
    obtain ⟨v2, vs, rfl, ⟨y, rfl, rfl⟩, hF1⟩ := qVs_cons hF
    obtain ⟨v1, vs, rfl, ⟨x, rfl, rfl⟩, hF2⟩ := qVs_cons hF1
    exact lv_idiv hC.1 hC.2.1 hd (fun q => hs.1 (by rw [q]; rfl)) (hs.2 ar _ H locs ⟨ws, lv, hh, hl, hL, ⟨⟨_, rfl, by unfold qidiv; rw [fb_asI, fb_asI]⟩, hF2⟩, hP, hD, hS⟩)
  · exact hs.elim
theorem qh_irem (hC : qCx p s m args meth c cc nL own D kk A g t)  (hd : decode cc pc = .ok (.irem, 1)) (hs : qs_bd qirem (qWn p l e R s m args below meth c Q D kk A g ad nL nc ns (pc + 1)) ls st μ) : qWn p l e R s m args below meth c Q D kk A g ad nL nc ns pc ls st μ := by
  unfold qs_bd at hs
  split at hs
  · rename_i b0 a0 st0
    intro ar sv H locs ⟨ws, lv, hh, hl, hL, hF, hP, hD, hS⟩
    obtain ⟨v2, vs, rfl, ⟨y, rfl, rfl⟩, hF1⟩ := qVs_cons hF
    obtain ⟨v1, vs, rfl, ⟨x, rfl, rfl⟩, hF2⟩ := qVs_cons hF1
    exact lv_irem hC.1 hC.2.1 hd (fun q => hs.1 (by rw [q]; rfl)) (hs.2 ar _ H locs ⟨ws, lv, hh, hl, hL, ⟨⟨_, rfl, by unfold qirem; rw [fb_asI, fb_asI]⟩, hF2⟩, hP, hD, hS⟩)
  · exact hs.elim
theorem qh_ladd (hC : qCx p s m args meth c cc nL own D kk A g t)  (hd : decode cc pc = .ok (.ladd, 1)) (hs : qs_l (fun a b => q64 (a + b)) (qWn p l e R s m args below meth c Q D kk A g ad nL nc ns (pc + 1)) ls st μ) : qWn p l e R s m args below meth c Q D kk A g ad nL nc ns pc ls st μ := by
  unfold qs_l at hs
  split at hs
  · rename_i b0 a0 st0
    intro ar sv H locs ⟨ws, lv, hh, hl, hL, hF, hP, hD, hS⟩
    obtain ⟨v2, vs, rfl, ⟨y, rfl, rfl⟩, hF1⟩ := qVs_cons hF
    obtain ⟨v1, vs, rfl, ⟨x, rfl, rfl⟩, hF2⟩ := qVs_cons hF1
    exact lv_ladd hC.1 hC.2.1 hd (hs ar _ H locs ⟨ws, lv, hh, hl, hL, ⟨⟨_, rfl, q64_add x y⟩, hF2⟩, hP, hD, hS⟩)
  · exact hs.elim
theorem qh_lsub (hC : qCx p s m args meth c cc nL own D kk A g t)  (hd : decode cc pc = .ok (.lsub, 1)) (hs : qs_l (fun a b => q64 (a - b)) (qWn p l e R s m args below meth c Q D kk A g ad nL nc ns (pc + 1)) ls st μ) : qWn p l e R s m args below meth c Q D kk A g ad nL nc ns pc ls st μ := by
  unfold qs_l at hs
  split at hs
  · rename_i b0 a0 st0
    intro ar sv H locs ⟨ws, lv, hh, hl, hL, hF, hP, hD, hS⟩
    obtain ⟨v2, vs, rfl, ⟨y, rfl, rfl⟩, hF1⟩ := qVs_cons hF
    obtain ⟨v1, vs, rfl, ⟨x, rfl, rfl⟩, hF2⟩ := qVs_cons hF1
    exact lv_lsub hC.1 hC.2.1 hd (hs ar _ H locs ⟨ws, lv, hh, hl, hL, ⟨⟨_, rfl, q64_sub x y⟩, hF2⟩, hP, hD, hS⟩)
  · exact hs.elim
theorem qh_lmul (hC : qCx p s m args meth c cc nL own D kk A g t)  (hd : decode cc pc = .ok (.lmul, 1)) (hs : qs_l (fun a b => q64 (a * b)) (qWn p l e R s m args below meth c Q D kk A g ad nL nc ns (pc + 1)) ls st μ) : qWn p l e R s m args below meth c Q D kk A g ad nL nc ns pc ls st μ := by
  unfold qs_l at hs
  split at hs
  · rename_i b0 a0 st0
    intro ar sv H locs ⟨ws, lv, hh, hl, hL, hF, hP, hD, hS⟩
    obtain ⟨v2, vs, rfl, ⟨y, rfl, rfl⟩, hF1⟩ := qVs_cons hF
    obtain ⟨v1, vs, rfl, ⟨x, rfl, rfl⟩, hF2⟩ := qVs_cons hF1
    exact lv_lmul hC.1 hC.2.1 hd (hs ar _ H locs ⟨ws, lv, hh, hl, hL, ⟨⟨_, rfl, q64_mul x y⟩, hF2⟩, hP, hD, hS⟩)
  · exact hs.elim
theorem qh_land (hC : qCx p s m args meth c cc nL own D kk A g t)  (hd : decode cc pc = .ok (.land, 1)) (hs : qs_l qland (qWn p l e R s m args below meth c Q D kk A g ad nL nc ns (pc + 1)) ls st μ) : qWn p l e R s m args below meth c Q D kk A g ad nL nc ns pc ls st μ := by
  unfold qs_l at hs
  split at hs
  · rename_i b0 a0 st0
    intro ar sv H locs ⟨ws, lv, hh, hl, hL, hF, hP, hD, hS⟩
    obtain ⟨v2, vs, rfl, ⟨y, rfl, rfl⟩, hF1⟩ := qVs_cons hF
    obtain ⟨v1, vs, rfl, ⟨x, rfl, rfl⟩, hF2⟩ := qVs_cons hF1
    exact lv_land hC.1 hC.2.1 hd (hs ar _ H locs ⟨ws, lv, hh, hl, hL, ⟨⟨_, rfl, by unfold qland; rw [fb_asL, fb_asL]⟩, hF2⟩, hP, hD, hS⟩)
  · exact hs.elim
theorem qh_lor (hC : qCx p s m args meth c cc nL own D kk A g t)  (hd : decode cc pc = .ok (.lor, 1)) (hs : qs_l qlor (qWn p l e R s m args below meth c Q D kk A g ad nL nc ns (pc + 1)) ls st μ) : qWn p l e R s m args below meth c Q D kk A g ad nL nc ns pc ls st μ := by
  unfold qs_l at hs
  split at hs
  · rename_i b0 a0 st0
    intro ar sv H locs ⟨ws, lv, hh, hl, hL, hF, hP, hD, hS⟩
    obtain ⟨v2, vs, rfl, ⟨y, rfl, rfl⟩, hF1⟩ := qVs_cons hF
    obtain ⟨v1, vs, rfl, ⟨x, rfl, rfl⟩, hF2⟩ := qVs_cons hF1
    exact lv_lor hC.1 hC.2.1 hd (hs ar _ H locs ⟨ws, lv, hh, hl, hL, ⟨⟨_, rfl, by unfold qlor; rw [fb_asL, fb_asL]⟩, hF2⟩, hP, hD, hS⟩)
  · exact hs.elim
theorem qh_lrem (hC : qCx p s m args meth c cc nL own D kk A g t)  (hd : decode cc pc = .ok (.lrem, 1)) (hs : qs_ld qlrem (qWn p l e R s m args below meth c Q D kk A g ad nL nc ns (pc + 1)) ls st μ) : qWn p l e R s m args below meth c Q D kk A g ad nL nc ns pc ls st μ := by
  unfold qs_ld at hs
  split at hs
  · rename_i b0 a0 st0
    intro ar sv H locs ⟨ws, lv, hh, hl, hL, hF, hP, hD, hS⟩
    obtain ⟨v2, vs, rfl, ⟨y, rfl, rfl⟩, hF1⟩ := qVs_cons hF
    obtain ⟨v1, vs, rfl, ⟨x, rfl, rfl⟩, hF2⟩ := qVs_cons hF1
    exact lv_lrem hC.1 hC.2.1 hd (fun q => hs.1 (by rw [q]; rfl)) (hs.2 ar _ H locs ⟨ws, lv, hh, hl, hL, ⟨⟨_, rfl, by unfold qlrem; rw [fb_asL, fb_asL]⟩, hF2⟩, hP, hD, hS⟩)
  · exact hs.elim
theorem qh_lshl (hC : qCx p s m args meth c cc nL own D kk A g t)  (hd : decode cc pc = .ok (.lshl, 1)) (hs : qs_lsh qlshl (qWn p l e R s m args below meth c Q D kk A g ad nL nc ns (pc + 1)) ls st μ) : qWn p l e R s m args below meth c Q D kk A g ad nL nc ns pc ls st μ := by
  unfold qs_lsh at hs
  split at hs
  · rename_i b0 a0 st0
    intro ar sv H locs ⟨ws, lv, hh, hl, hL, hF, hP, hD, hS⟩
    obtain ⟨v2, vs, rfl, ⟨y, rfl, rfl⟩, hF1⟩ := qVs_cons hF
    obtain ⟨v1, vs, rfl, ⟨x, rfl, rfl⟩, hF2⟩ := qVs_cons hF1
    exact lv_lshl hC.1 hC.2.1 hd rfl (hs ar _ H locs ⟨ws, lv, hh, hl, hL, ⟨⟨_, rfl, by unfold qlshl; rw [fb_asL, fb_asI]⟩, hF2⟩, hP, hD, hS⟩)
  · exact hs.elim
theorem qh_lshr (hC : qCx p s m args meth c cc nL own D kk A g t)  (hd : decode cc pc = .ok (.lshr, 1)) (hs : qs_lsh qlshr (qWn p l e R s m args below meth c Q D kk A g ad nL nc ns (pc + 1)) ls st μ) : qWn p l e R s m args below meth c Q D kk A g ad nL nc ns pc ls st μ := by
  unfold qs_lsh at hs
  split at hs
  · rename_i b0 a0 st0
    intro ar sv H locs ⟨ws, lv, hh, hl, hL, hF, hP, hD, hS⟩
    obtain ⟨v2, vs, rfl, ⟨y, rfl, rfl⟩, hF1⟩ := qVs_cons hF
    obtain ⟨v1, vs, rfl, ⟨x, rfl, rfl⟩, hF2⟩ := qVs_cons hF1
    exact lv_lshr hC.1 hC.2.1 hd rfl (hs ar _ H locs ⟨ws, lv, hh, hl, hL, ⟨⟨_, rfl, by unfold qlshr; rw [fb_asL, fb_asI]⟩, hF2⟩, hP, hD, hS⟩)
  · exact hs.elim
theorem qh_lushr (hC : qCx p s m args meth c cc nL own D kk A g t)  (hd : decode cc pc = .ok (.lushr, 1)) (hs : qs_lsh qlushr (qWn p l e R s m args below meth c Q D kk A g ad nL nc ns (pc + 1)) ls st μ) : qWn p l e R s m args below meth c Q D kk A g ad nL nc ns pc ls st μ := by
  unfold qs_lsh at hs
  split at hs
  · rename_i b0 a0 st0
    intro ar sv H locs ⟨ws, lv, hh, hl, hL, hF, hP, hD, hS⟩
    obtain ⟨v2, vs, rfl, ⟨y, rfl, rfl⟩, hF1⟩ := qVs_cons hF
    obtain ⟨v1, vs, rfl, ⟨x, rfl, rfl⟩, hF2⟩ := qVs_cons hF1
    exact lv_lushr hC.1 hC.2.1 hd rfl (hs ar _ H locs ⟨ws, lv, hh, hl, hL, ⟨⟨_, rfl, by unfold qlushr; rw [fb_asL, fb_asI]⟩, hF2⟩, hP, hD, hS⟩)
  · exact hs.elim
theorem qh_i2l (hC : qCx p s m args meth c cc nL own D kk A g t)  (hd : decode cc pc = .ok (.i2l, 1)) (hs : qs_i2l (qWn p l e R s m args below meth c Q D kk A g ad nL nc ns (pc + 1)) ls st μ) : qWn p l e R s m args below meth c Q D kk A g ad nL nc ns pc ls st μ := by
  unfold qs_i2l at hs
  split at hs
  · rename_i a0 st0
    intro ar sv H locs ⟨ws, lv, hh, hl, hL, hF, hP, hD, hS⟩
    obtain ⟨v1, vs, rfl, ⟨x, rfl, rfl⟩, hF1⟩ := qVs_cons hF
    exact lv_i2l hC.1 hC.2.1 hd rfl (hs ar _ H locs ⟨ws, lv, hh, hl, hL, ⟨⟨_, rfl, Int32.toInt_toInt64 x⟩, hF1⟩, hP, hD, hS⟩)
  · exact hs.elim
theorem qh_l2i (hC : qCx p s m args meth c cc nL own D kk A g t)  (hd : decode cc pc = .ok (.l2i, 1)) (hs : qs_l2i (qWn p l e R s m args below meth c Q D kk A g ad nL nc ns (pc + 1)) ls st μ) : qWn p l e R s m args below meth c Q D kk A g ad nL nc ns pc ls st μ := by
  unfold qs_l2i at hs
  split at hs
  · rename_i a0 st0
    intro ar sv H locs ⟨ws, lv, hh, hl, hL, hF, hP, hD, hS⟩
    obtain ⟨v1, vs, rfl, ⟨x, rfl, rfl⟩, hF1⟩ := qVs_cons hF
    exact lv_l2i hC.1 hC.2.1 hd rfl (hs ar _ H locs ⟨ws, lv, hh, hl, hL, ⟨⟨_, rfl, q32_l2i x⟩, hF1⟩, hP, hD, hS⟩)
  · exact hs.elim
theorem qh_i2b (hC : qCx p s m args meth c cc nL own D kk A g t)  (hd : decode cc pc = .ok (.i2b, 1)) (hs : qs_u qi2b (qWn p l e R s m args below meth c Q D kk A g ad nL nc ns (pc + 1)) ls st μ) : qWn p l e R s m args below meth c Q D kk A g ad nL nc ns pc ls st μ := by
  unfold qs_u at hs
  split at hs
  · rename_i a0 st0
    intro ar sv H locs ⟨ws, lv, hh, hl, hL, hF, hP, hD, hS⟩
    obtain ⟨v1, vs, rfl, ⟨x, rfl, rfl⟩, hF1⟩ := qVs_cons hF
    exact lv_i2b hC.1 hC.2.1 hd rfl (hs ar _ H locs ⟨ws, lv, hh, hl, hL, ⟨⟨_, rfl, by unfold qi2b; rw [fb_asI]⟩, hF1⟩, hP, hD, hS⟩)
  · exact hs.elim
theorem qh_i2c (hC : qCx p s m args meth c cc nL own D kk A g t)  (hd : decode cc pc = .ok (.i2c, 1)) (hs : qs_u qi2c (qWn p l e R s m args below meth c Q D kk A g ad nL nc ns (pc + 1)) ls st μ) : qWn p l e R s m args below meth c Q D kk A g ad nL nc ns pc ls st μ := by
  unfold qs_u at hs
  split at hs
  · rename_i a0 st0
    intro ar sv H locs ⟨ws, lv, hh, hl, hL, hF, hP, hD, hS⟩
    obtain ⟨v1, vs, rfl, ⟨x, rfl, rfl⟩, hF1⟩ := qVs_cons hF
    exact lv_i2c hC.1 hC.2.1 hd rfl (hs ar _ H locs ⟨ws, lv, hh, hl, hL, ⟨⟨_, rfl, by unfold qi2c; rw [fb_asI]⟩, hF1⟩, hP, hD, hS⟩)
  · exact hs.elim
theorem qh_lcmp (hC : qCx p s m args meth c cc nL own D kk A g t)  (hd : decode cc pc = .ok (.lcmp, 1)) (hs : qs_lcmp (qWn p l e R s m args below meth c Q D kk A g ad nL nc ns (pc + 1)) ls st μ) : qWn p l e R s m args below meth c Q D kk A g ad nL nc ns pc ls st μ := by
  unfold qs_lcmp at hs
  split at hs
  · rename_i b0 a0 st0
    intro ar sv H locs ⟨ws, lv, hh, hl, hL, hF, hP, hD, hS⟩
    obtain ⟨v2, vs, rfl, ⟨y, rfl, rfl⟩, hF1⟩ := qVs_cons hF
    obtain ⟨v1, vs, rfl, ⟨x, rfl, rfl⟩, hF2⟩ := qVs_cons hF1
    exact W.lcmp hC.1 hC.2.1 hd (hs ar _ H locs ⟨ws, lv, hh, hl, hL, ⟨⟨_, rfl, qlcmp_ok x y⟩, hF2⟩, hP, hD, hS⟩)
  · exact hs.elim
theorem qh_iinc (hC : qCx p s m args meth c cc nL own D kk A g t) {i : Nat} {n : Int} (hr : -2147483648 ≤ n ∧ n < 2147483648) (hn : i < nL) (hd : decode cc pc = .ok (.iinc i n, 3)) (hs : qs_iinc i n (qWn p l e R s m args below meth c Q D kk A g ad nL nc ns (pc + 3)) ls st μ) : qWn p l e R s m args below meth c Q D kk A g ad nL nc ns pc ls st μ := by
  unfold qs_iinc at hs
  split at hs
  · rename_i a ha
    intro ar sv H locs ⟨ws, lv, hh, hl, hL, hF, hP, hD, hS⟩
    obtain ⟨w, hw, x, rfl, rfl⟩ := hL _ _ ha
    obtain ⟨k0, hk0⟩ := List.getElem?_of_mem hw
    have e1 : (x + Int32.ofInt n).toInt = q32 (x.toInt + n) := by rw [q32_add, fb_ofI hr.1 hr.2]
    exact lv_iinc hC.1 hC.2.1 hd hl hk0 rfl hn rfl (fun ar' hl' => hs ar' _ H locs ⟨ws, _, hh, hl', qLr_set hL ⟨_, rfl, e1⟩, hF, hP, hD, hS⟩)
  · exact hs.elim
theorem qh_dup (hC : qCx p s m args meth c cc nL own D kk A g t)  (hd : decode cc pc = .ok (.dup, 1)) (hs : qs_dup (qWn p l e R s m args below meth c Q D kk A g ad nL nc ns (pc + 1)) ls st μ) : qWn p l e R s m args below meth c Q D kk A g ad nL nc ns pc ls st μ := by
  unfold qs_dup at hs
  split at hs
  · rename_i a st0
    intro ar sv H locs ⟨ws, lv, hh, hl, hL, hF, hP, hD, hS⟩
    obtain ⟨v, vs, rfl, hV, hF1⟩ := qVs_cons hF
    exact lv_dup hC.1 hC.2.1 hd (qVr_cat hV) (hs ar _ H locs ⟨ws, lv, hh, hl, hL, ⟨hV, hV, hF1⟩, hP, hD, hS⟩)
  · rename_i a st0
    intro ar sv H locs ⟨ws, lv, hh, hl, hL, hF, hP, hD, hS⟩
    obtain ⟨v, vs, rfl, hV, hF1⟩ := qVs_cons hF
    exact lv_dup hC.1 hC.2.1 hd (qVr_cat hV) (hs ar _ H locs ⟨ws, lv, hh, hl, hL, ⟨hV, hV, hF1⟩, hP, hD, hS⟩)
  · exact hs.elim
theorem qh_dup2 (hC : qCx p s m args meth c cc nL own D kk A g t)  (hd : decode cc pc = .ok (.dup2, 1)) (hs : qs_dup2 (qWn p l e R s m args below meth c Q D kk A g ad nL nc ns (pc + 1)) ls st μ) : qWn p l e R s m args below meth c Q D kk A g ad nL nc ns pc ls st μ := by
  unfold qs_dup2 at hs
  split at hs
  · rename_i a b st0
    intro ar sv H locs ⟨ws, lv, hh, hl, hL, hF, hP, hD, hS⟩
    obtain ⟨v, vs, rfl, hV, hF1⟩ := qVs_cons hF
    obtain ⟨w, vs, rfl, hV2, hF2⟩ := qVs_cons hF1
    exact lv_dup2_11 hC.1 hC.2.1 hd (qVr_cat hV) (qVr_cat hV2) (hs ar _ H locs ⟨ws, lv, hh, hl, hL, ⟨hV, hV2, hV, hV2, hF2⟩, hP, hD, hS⟩)
  · exact hs.elim
theorem qh_pop (hC : qCx p s m args meth c cc nL own D kk A g t)  (hd : decode cc pc = .ok (.pop, 1)) (hs : qs_pop (qWn p l e R s m args below meth c Q D kk A g ad nL nc ns (pc + 1)) ls st μ) : qWn p l e R s m args below meth c Q D kk A g ad nL nc ns pc ls st μ := by
  unfold qs_pop at hs
  split at hs
  · rename_i a st0
    intro ar sv H locs ⟨ws, lv, hh, hl, hL, hF, hP, hD, hS⟩
    obtain ⟨v, vs, rfl, hV, hF1⟩ := qVs_cons hF
    exact lv_pop hC.1 hC.2.1 hd (qVr_cat hV) (hs ar _ H locs ⟨ws, lv, hh, hl, hL, hF1, hP, hD, hS⟩)
  · exact hs.elim
theorem qh_goto (hC : qCx p s m args meth c cc nL own D kk A g t) {off : Int} {r1 : Nat} (ht : (pc : Int) + off = (r1 : Int)) (hd : decode cc pc = .ok (.goto off, 3)) (hs : qs_goto (qWn p l e R s m args below meth c Q D kk A g ad nL nc ns r1) ls st μ) : qWn p l e R s m args below meth c Q D kk A g ad nL nc ns pc ls st μ := by
  intro ar sv H locs ⟨ws, lv, hh, hl, hL, hF, hP, hD, hS⟩
  exact lv_goto hC.1 hC.2.1 hd ht (hs ar _ H locs ⟨ws, lv, hh, hl, hL, hF, hP, hD, hS⟩)
theorem qh_icmp (hC : qCx p s m args meth c cc nL own D kk A g t) {k : Jvm.ClassFile.Cond} {off : Int} {r1 : Nat} (ht : (pc : Int) + off = (r1 : Int)) (hd : decode cc pc = .ok (.if_icmp k off, 3)) (hs : qs_icmp k (qWn p l e R s m args below meth c Q D kk A g ad nL nc ns r1) (qWn p l e R s m args below meth c Q D kk A g ad nL nc ns (pc + 3)) ls st μ) : qWn p l e R s m args below meth c Q D kk A g ad nL nc ns pc ls st μ := by
  unfold qs_icmp at hs
  split at hs
  · rename_i b0 a0 st0
    intro ar sv H locs ⟨ws, lv, hh, hl, hL, hF, hP, hD, hS⟩
    obtain ⟨v2, vs, rfl, ⟨y, rfl, rfl⟩, hF1⟩ := qVs_cons hF
    obtain ⟨v1, vs, rfl, ⟨x, rfl, rfl⟩, hF2⟩ := qVs_cons hF1
    exact zi_icmp hC.1 hC.2.1 hd ht (fun q => hs.1 ((qrel_ok k x y).mp q) ar _ H locs ⟨ws, lv, hh, hl, hL, hF2, hP, hD, hS⟩) (fun q => hs.2 (qneg_ok _ _ _ (fun w => q ((qrel_ok k x y).mpr w))) ar _ H locs ⟨ws, lv, hh, hl, hL, hF2, hP, hD, hS⟩)
  · exact hs.elim
theorem qh_if (hC : qCx p s m args meth c cc nL own D kk A g t) {k : Jvm.ClassFile.Cond} {off : Int} {r1 : Nat} (ht : (pc : Int) + off = (r1 : Int)) (hd : decode cc pc = .ok (.ifCond k off, 3)) (hs : qs_if k (qWn p l e R s m args below meth c Q D kk A g ad nL nc ns r1) (qWn p l e R s m args below meth c Q D kk A g ad nL nc ns (pc + 3)) ls st μ) : qWn p l e R s m args below meth c Q D kk A g ad nL nc ns pc ls st μ := by
  unfold qs_if at hs
  split at hs
  · rename_i a0 st0
    intro ar sv H locs ⟨ws, lv, hh, hl, hL, hF, hP, hD, hS⟩
    obtain ⟨v1, vs, rfl, ⟨x, rfl, rfl⟩, hF1⟩ := qVs_cons hF
    exact zi_if hC.1 hC.2.1 hd ht (fun q => hs.1 ((qrel_ok k x 0).mp q) ar _ H locs ⟨ws, lv, hh, hl, hL, hF1, hP, hD, hS⟩) (fun q => hs.2 (qneg_ok _ _ _ (fun w => q ((qrel_ok k x 0).mpr w))) ar _ H locs ⟨ws, lv, hh, hl, hL, hF1, hP, hD, hS⟩)
  · exact hs.elim
theorem qtab_at {a : Int} {X : qK} {f : Int → Nat} : ∀ (l : List Int) (i : Int) (n : Nat) (o : Int), a = i + n → l[n]? = some o → qtab a i (l.map fun o => X (f o)) ls st μ → X (f o) ls st μ
  | [], _, _, _, _, h, _ => by cases h
  | b :: l, i, 0, o, h1, h2, h => by
    have h2 : some b = some o := h2
    cases h2
    exact h.1 (by omega)
  | _ :: l, i, n + 1, o, h1, h2, h => qtab_at l (i + 1) n o (by omega) h2 h.2
theorem qh_table (hC : qCx p s m args meth c cc nL own D kk A g t) {df lo hi : Int} {offs : Array Int} {len : Nat} (hz : 0 ≤ (pc : Int) + df ∧ (∀ o ∈ offs.toList, 0 ≤ (pc : Int) + o) ∧ (offs.size : Int) = hi - lo + 1) (hd : decode cc pc = .ok (.tableswitch df lo hi offs, len)) (hs : qs_table lo hi (qWn p l e R s m args below meth c Q D kk A g ad nL nc ns ((pc : Int) + df).toNat) (offs.toList.map fun o => qWn p l e R s m args below meth c Q D kk A g ad nL nc ns ((pc : Int) + o).toNat)   ls st μ) : qWn p l e R s m args below meth c Q D kk A g ad nL nc ns pc ls st μ := by
  unfold qs_table at hs
  split at hs
  · rename_i a0 st0
    intro ar sv H locs ⟨ws, lv, hh, hl, hL, hF, hP, hD, hS⟩
    obtain ⟨v1, vs, rfl, ⟨x, rfl, rfl⟩, hF1⟩ := qVs_cons hF
    by_cases hout : x.toInt < lo ∨ hi < x.toInt
    · exact lv_tableOut hC.1 hC.2.1 hd hout (by omega) (hs.1 hout ar _ H locs ⟨ws, lv, hh, hl, hL, hF1, hP, hD, hS⟩)
    · have hlt : (x.toInt - lo).toNat < offs.size := by omega
      have ho : offs[(x.toInt - lo).toNat]? = some offs[(x.toInt - lo).toNat] := Array.getElem?_eq_getElem hlt
      have ho2 : offs.toList[(x.toInt - lo).toNat]? = some offs[(x.toInt - lo).toNat] := by rw [Array.getElem?_toList]; exact ho
      have hm := hz.2.1 _ (List.mem_of_getElem? ho2)
      have hk := qtab_at (X := qWn p l e R s m args below meth c Q D kk A g ad nL nc ns) (f := fun o => ((pc : Int) + o).toNat) offs.toList lo _ _ (by omega) ho2 hs.2
      exact lv_tableIn hC.1 hC.2.1 hd (by omega) (by omega) ho (by omega) (hk ar _ H locs ⟨ws, lv, hh, hl, hL, hF1, hP, hD, hS⟩)
  · exact hs.elim
theorem qsh_len {n r : Nat} {fs : List (Option Nat)} (h : qsh[n]? = some (.inl (r, fs))) : fs.length = zN r := by
  have h1 : ∀ y ∈ qsh, (match y with
    | .inl x => decide (x.2.length = zN x.1)
    | .inr _ => true) = true := by decide +kernel
  exact of_decide_eq_true (h1 _ (List.mem_of_getElem? h))
theorem qh_gi (hC : qCx p s m args meth c cc nL own D kk A g t) {C : String} {T : u_T} {N i r1 r2 : Nat} (hr1 : r1 < 100) (hcl : zCl r1 C T N) (hk : r2 < N) (hw : Jvm.Cond.fieldLink own i (T r2).1 (T r2).2.1 (T r2).2.2.1 ∈ zW) (hfk : qfk (zty r1 r2) = 0) (hd : decode cc pc = .ok (.getfield i, 3)) (hs : qs_gi r1 r2 (qWn p l e R s m args below meth c Q D kk A g ad nL nc ns (pc + 3)) ls st μ) : qWn p l e R s m args below meth c Q D kk A g ad nL nc ns pc ls st μ := by
  unfold qs_gi at hs
  split at hs
  · rename_i o0 st0
    replace hs := qif_eq hs
    intro ar sv H locs ⟨ws, lv, hh, hl, hL, hF, hP, hD, hS⟩
    obtain ⟨v1, vs, rfl, hV, hF1⟩ := qVs_cons hF
    obtain ⟨q, hq, rfl, h0⟩ := hV
    obtain ⟨n, fs, rfl, hn, hrf⟩ := qty_obj hs.1 hr1
    obtain ⟨q1, e1, hw1, hc1⟩ := hh.2 _ _ hn
    have hq : ad[n]? = some q := hq
    cases qat_ad hh hq hw1
    obtain ⟨vs1, rfl, hlen, hfs⟩ := hc1
    have hfl : r2 < fs.length := by rw [qsh_len hn]; rw [← hcl.2.1]; exact hk
    obtain ⟨v, hv1, hv2⟩ := hfs r2 fs[r2] (List.getElem?_eq_getElem hfl)
    unfold qFr at hv2
    rw [hfk] at hv2
    have hv3 : qVr g ad (.inl (μ n r2)) v := hv2
    exact va_get (D := D) (ci := r1) (v := v) (C := C) (T := T) (N := N) hC.1 hC.2.1 hC.2.2.2.2.1 hcl.2.2.1 hC.2.2.2.1 hC.2.2.2.2.2.1 hP _ hw1 hcl.1 r2 hk (hC.2.2.2.2.1 _ hw) (fun _ h9 => h9) hv1 hd (hs.2 ar _ H locs ⟨ws, lv, hh, hl, hL, ⟨hv3, hF1⟩, hP, hD, hS⟩)
  · exact hs.elim
theorem qh_gb (hC : qCx p s m args meth c cc nL own D kk A g t) {C : String} {T : u_T} {N i r1 r2 : Nat} (hr1 : r1 < 100) (hcl : zCl r1 C T N) (hk : r2 < N) (hw : Jvm.Cond.fieldLink own i (T r2).1 (T r2).2.1 (T r2).2.2.1 ∈ zW) (hfk : qfk (zty r1 r2) = 1) (hd : decode cc pc = .ok (.getfield i, 3)) (hs : qs_gi r1 r2 (qWn p l e R s m args below meth c Q D kk A g ad nL nc ns (pc + 3)) ls st μ) : qWn p l e R s m args below meth c Q D kk A g ad nL nc ns pc ls st μ := by
  unfold qs_gi at hs
  split at hs
  · rename_i o0 st0
    replace hs := qif_eq hs
    intro ar sv H locs ⟨ws, lv, hh, hl, hL, hF, hP, hD, hS⟩
    obtain ⟨v1, vs, rfl, hV, hF1⟩ := qVs_cons hF
    obtain ⟨q, hq, rfl, h0⟩ := hV
    obtain ⟨n, fs, rfl, hn, hrf⟩ := qty_obj hs.1 hr1
    obtain ⟨q1, e1, hw1, hc1⟩ := hh.2 _ _ hn
    have hq : ad[n]? = some q := hq
    cases qat_ad hh hq hw1
    obtain ⟨vs1, rfl, hlen, hfs⟩ := hc1
    have hfl : r2 < fs.length := by rw [qsh_len hn]; rw [← hcl.2.1]; exact hk
    obtain ⟨v, hv1, hv2⟩ := hfs r2 fs[r2] (List.getElem?_eq_getElem hfl)
    unfold qFr at hv2
    rw [hfk] at hv2
    have hv3 : qVr g ad (.inl (μ n r2)) v := hv2
    exact va_get (D := D) (ci := r1) (v := v) (C := C) (T := T) (N := N) hC.1 hC.2.1 hC.2.2.2.2.1 hcl.2.2.1 hC.2.2.2.1 hC.2.2.2.2.2.1 hP _ hw1 hcl.1 r2 hk (hC.2.2.2.2.1 _ hw) (fun _ h9 => h9) hv1 hd (hs.2 ar _ H locs ⟨ws, lv, hh, hl, hL, ⟨hv3, hF1⟩, hP, hD, hS⟩)
  · exact hs.elim
theorem qh_gl (hC : qCx p s m args meth c cc nL own D kk A g t) {C : String} {T : u_T} {N i r1 r2 : Nat} (hr1 : r1 < 100) (hcl : zCl r1 C T N) (hk : r2 < N) (hw : Jvm.Cond.fieldLink own i (T r2).1 (T r2).2.1 (T r2).2.2.1 ∈ zW) (hfk : qfk (zty r1 r2) = 2) (hd : decode cc pc = .ok (.getfield i, 3)) (hs : qs_gl r1 r2 (qWn p l e R s m args below meth c Q D kk A g ad nL nc ns (pc + 3)) ls st μ) : qWn p l e R s m args below meth c Q D kk A g ad nL nc ns pc ls st μ := by
  unfold qs_gl at hs
  split at hs
  · rename_i o0 st0
    replace hs := qif_eq hs
    intro ar sv H locs ⟨ws, lv, hh, hl, hL, hF, hP, hD, hS⟩
    obtain ⟨v1, vs, rfl, hV, hF1⟩ := qVs_cons hF
    obtain ⟨q, hq, rfl, h0⟩ := hV
    obtain ⟨n, fs, rfl, hn, hrf⟩ := qty_obj hs.1 hr1
    obtain ⟨q1, e1, hw1, hc1⟩ := hh.2 _ _ hn
    have hq : ad[n]? = some q := hq
    cases qat_ad hh hq hw1
    obtain ⟨vs1, rfl, hlen, hfs⟩ := hc1
    have hfl : r2 < fs.length := by rw [qsh_len hn]; rw [← hcl.2.1]; exact hk
    obtain ⟨v, hv1, hv2⟩ := hfs r2 fs[r2] (List.getElem?_eq_getElem hfl)
    unfold qFr at hv2
    rw [hfk] at hv2
    have hv3 : qVr g ad (.inr (.inl (μ n r2))) v := hv2
    exact va_get (D := D) (ci := r1) (v := v) (C := C) (T := T) (N := N) hC.1 hC.2.1 hC.2.2.2.2.1 hcl.2.2.1 hC.2.2.2.1 hC.2.2.2.2.2.1 hP _ hw1 hcl.1 r2 hk (hC.2.2.2.2.1 _ hw) (fun _ h9 => h9) hv1 hd (hs.2 ar _ H locs ⟨ws, lv, hh, hl, hL, ⟨hv3, hF1⟩, hP, hD, hS⟩)
  · exact hs.elim
theorem qh_gr (hC : qCx p s m args meth c cc nL own D kk A g t) {C : String} {T : u_T} {N i r1 r2 : Nat} (hr1 : r1 < 100) (hcl : zCl r1 C T N) (hk : r2 < N) (hw : Jvm.Cond.fieldLink own i (T r2).1 (T r2).2.1 (T r2).2.2.1 ∈ zW) (hfk : qfk (zty r1 r2) = 3) (hd : decode cc pc = .ok (.getfield i, 3)) (hs : qs_gr r1 r2 (qWn p l e R s m args below meth c Q D kk A g ad nL nc ns (pc + 3)) ls st μ) : qWn p l e R s m args below meth c Q D kk A g ad nL nc ns pc ls st μ := by
  unfold qs_gr at hs
  split at hs
  · rename_i o0 st0
    replace hs := qif_eq hs
    intro ar sv H locs ⟨ws, lv, hh, hl, hL, hF, hP, hD, hS⟩
    obtain ⟨v1, vs, rfl, hV, hF1⟩ := qVs_cons hF
    obtain ⟨q, hq, rfl, h0⟩ := hV
    obtain ⟨n, fs, rfl, hn, hrf⟩ := qty_obj hs.1 hr1
    obtain ⟨q1, e1, hw1, hc1⟩ := hh.2 _ _ hn
    have hq : ad[n]? = some q := hq
    cases qat_ad hh hq hw1
    obtain ⟨vs1, rfl, hlen, hfs⟩ := hc1
    have hfl : r2 < fs.length := by rw [qsh_len hn]; rw [← hcl.2.1]; exact hk
    obtain ⟨v, hv1, hv2⟩ := hfs r2 fs[r2] (List.getElem?_eq_getElem hfl)
    unfold qFr at hv2
    rw [hfk] at hv2
    obtain ⟨j9, q9, hj9, hq9, rfl⟩ := hv2
    have ej : qrf (n : Int) r2 = (j9 : Int) := by
      rw [hrf, List.getD_eq_getElem?_getD, List.getElem?_eq_getElem hfl, hj9]
      rfl
    have hv3 : qVr g ad (.inr (.inr (.inl (qrf (n : Int) r2)))) (.ref q9) := ⟨q9, by rw [ej]; exact hq9, rfl, by rw [ej]; omega⟩
    exact va_get (D := D) (ci := r1) (v := .ref q9) (C := C) (T := T) (N := N) hC.1 hC.2.1 hC.2.2.2.2.1 hcl.2.2.1 hC.2.2.2.1 hC.2.2.2.2.2.1 hP _ hw1 hcl.1 r2 hk (hC.2.2.2.2.1 _ hw) (fun _ h9 => h9) hv1 hd (hs.2 ar _ H locs ⟨ws, lv, hh, hl, hL, ⟨hv3, hF1⟩, hP, hD, hS⟩)
  · exact hs.elim
theorem qh_pi (hC : qCx p s m args meth c cc nL own D kk A g t) {C : String} {T : u_T} {N i r1 r2 : Nat} (hr1 : r1 < 100) (hcl : zCl r1 C T N) (hk : r2 < N) (hw : Jvm.Cond.fieldLink own i (T r2).1 (T r2).2.1 (T r2).2.2.1 ∈ zW) (hfn : (T r2).2.2.2 = false) (hty : zty r1 r2 = .int) (hfk : qfk (zty r1 r2) = 0) (hd : decode cc pc = .ok (.putfield i, 3)) (hs : qs_pi r1 r2 (qWn p l e R s m args below meth c Q D kk A g ad nL nc ns (pc + 3)) ls st μ) : qWn p l e R s m args below meth c Q D kk A g ad nL nc ns pc ls st μ := by
  unfold qs_pi at hs
  split at hs
  · rename_i a0 o0 st0
    replace hs := qif_eq hs
    intro ar sv H locs ⟨ws, lv, hh, hl, hL, hF, hP, hD, hS⟩
    obtain ⟨v0, vs, rfl, hV2, hF1⟩ := qVs_cons hF
    obtain ⟨v1, vs, rfl, hV, hF2⟩ := qVs_cons hF1
    obtain ⟨q, hq, rfl, h0⟩ := hV
    obtain ⟨n, fs, rfl, hn, hrf⟩ := qty_obj hs.1 hr1
    obtain ⟨q1, e1, hw1, hc1⟩ := hh.2 _ _ hn
    have hq : ad[n]? = some q := hq
    cases qat_ad hh hq hw1
    obtain ⟨vs1, rfl, hlen, hfs⟩ := hc1
    obtain ⟨x, rfl, rfl⟩ := hV2
    have hl2 : r2 < vs1.length := by rw [hlen, ← hcl.2.1]; exact hk
    have hcr : qCr ad kk (qu μ n r2 x.toInt) n (.inl (r1, fs)) (.inr (r1, vs1.set r2 (.int x))) := ⟨vs1.set r2 (.int x), rfl, by rw [List.length_set]; exact hlen, fun k0 o9 hk0 => by
      by_cases e9 : k0 = r2
      · subst e9
        refine ⟨.int x, by rw [List.getElem?_set]; simp [hl2], ?_⟩
        unfold qFr
        rw [hfk]
        exact ⟨x, rfl, (qu_same _ _ _ _).symm⟩
      · obtain ⟨v9, h8, h9⟩ := hfs k0 o9 hk0
        refine ⟨v9, by rw [List.getElem?_set]; simp [Ne.symm e9, h8], ?_⟩
        unfold qFr at h9 ⊢
        rw [qu_ne (fun q => e9 (by omega))]
        exact h9⟩
    exact va_put (D := D) (ci := r1) (v := .int x) (ty := zty r1 r2) (C := C) (T := T) (N := N) hC.1 hC.2.1 hC.2.2.2.2.1 hcl.2.2.1 (zty r1) hcl.2.2.2.1 hcl.2.2.2.2.1 hC.2.2.2.1 hC.2.2.2.2.2.1 hP hD hS _ hw1 hcl.1 r2 hk (hC.2.2.2.2.1 _ hw) (fun _ h9 => h9) hfn (hcl.2.2.2.1 r2 hk) (by rw [hty]; rfl) (by rw [hty]; rfl) hl2 hd (fun H1 locs1 hP1 hD1 hS1 => hs.2 ar _ H1 locs1 ⟨_, lv, qHr_set hh hw1 hn (fun c hc j => qu_cell hc j) hcr, hl, hL, hF2, hP1, hD1, hS1⟩)
  · exact hs.elim
theorem qh_pl (hC : qCx p s m args meth c cc nL own D kk A g t) {C : String} {T : u_T} {N i r1 r2 : Nat} (hr1 : r1 < 100) (hcl : zCl r1 C T N) (hk : r2 < N) (hw : Jvm.Cond.fieldLink own i (T r2).1 (T r2).2.1 (T r2).2.2.1 ∈ zW) (hfn : (T r2).2.2.2 = false) (hty : zty r1 r2 = .long) (hfk : qfk (zty r1 r2) = 2) (hd : decode cc pc = .ok (.putfield i, 3)) (hs : qs_pl r1 r2 (qWn p l e R s m args below meth c Q D kk A g ad nL nc ns (pc + 3)) ls st μ) : qWn p l e R s m args below meth c Q D kk A g ad nL nc ns pc ls st μ := by
  unfold qs_pl at hs
  split at hs
  · rename_i a0 o0 st0
    replace hs := qif_eq hs
    intro ar sv H locs ⟨ws, lv, hh, hl, hL, hF, hP, hD, hS⟩
    obtain ⟨v0, vs, rfl, hV2, hF1⟩ := qVs_cons hF
    obtain ⟨v1, vs, rfl, hV, hF2⟩ := qVs_cons hF1
    obtain ⟨q, hq, rfl, h0⟩ := hV
    obtain ⟨n, fs, rfl, hn, hrf⟩ := qty_obj hs.1 hr1
    obtain ⟨q1, e1, hw1, hc1⟩ := hh.2 _ _ hn
    have hq : ad[n]? = some q := hq
    cases qat_ad hh hq hw1
    obtain ⟨vs1, rfl, hlen, hfs⟩ := hc1
    obtain ⟨x, rfl, rfl⟩ := hV2
    have hl2 : r2 < vs1.length := by rw [hlen, ← hcl.2.1]; exact hk
    have hcr : qCr ad kk (qu μ n r2 x.toInt) n (.inl (r1, fs)) (.inr (r1, vs1.set r2 (.long x))) := ⟨vs1.set r2 (.long x), rfl, by rw [List.length_set]; exact hlen, fun k0 o9 hk0 => by
      by_cases e9 : k0 = r2
      · subst e9
        refine ⟨.long x, by rw [List.getElem?_set]; simp [hl2], ?_⟩
        unfold qFr
        rw [hfk]
        exact ⟨x, rfl, (qu_same _ _ _ _).symm⟩
      · obtain ⟨v9, h8, h9⟩ := hfs k0 o9 hk0
        refine ⟨v9, by rw [List.getElem?_set]; simp [Ne.symm e9, h8], ?_⟩
        unfold qFr at h9 ⊢
        rw [qu_ne (fun q => e9 (by omega))]
        exact h9⟩
    exact va_put (D := D) (ci := r1) (v := .long x) (ty := zty r1 r2) (C := C) (T := T) (N := N) hC.1 hC.2.1 hC.2.2.2.2.1 hcl.2.2.1 (zty r1) hcl.2.2.2.1 hcl.2.2.2.2.1 hC.2.2.2.1 hC.2.2.2.2.2.1 hP hD hS _ hw1 hcl.1 r2 hk (hC.2.2.2.2.1 _ hw) (fun _ h9 => h9) hfn (hcl.2.2.2.1 r2 hk) (by rw [hty]; rfl) (by rw [hty]; rfl) hl2 hd (fun H1 locs1 hP1 hD1 hS1 => hs.2 ar _ H1 locs1 ⟨_, lv, qHr_set hh hw1 hn (fun c hc j => qu_cell hc j) hcr, hl, hL, hF2, hP1, hD1, hS1⟩)
  · exact hs.elim
theorem qbool {x : Int32} (h1 : 0 ≤ x.toInt) (h2 : x.toInt ≤ 1) : x = 0 ∨ x = 1 := by
  have e0 : (0 : Int32).toInt = 0 := rfl
  have e1 : (1 : Int32).toInt = 1 := rfl
  rcases (show x.toInt = 0 ∨ x.toInt = 1 by omega) with w | w
  · exact Or.inl ((fa_eq _ _).mpr (by rw [w, e0]))
  · exact Or.inr ((fa_eq _ _).mpr (by rw [w, e1]))
theorem qbool_n {x : Int32} (h1 : 0 ≤ x.toInt) (h2 : x.toInt ≤ 1) : narrow .boolean (.int x) = .int x ∧ fits .boolean (.int x) = true := by
  rcases qbool h1 h2 with rfl | rfl
  · exact ⟨by decide, by decide⟩
  · exact ⟨by decide, by decide⟩
theorem qh_pb (hC : qCx p s m args meth c cc nL own D kk A g t) {C : String} {T : u_T} {N i r1 r2 : Nat} (hr1 : r1 < 100) (hcl : zCl r1 C T N) (hk : r2 < N) (hw : Jvm.Cond.fieldLink own i (T r2).1 (T r2).2.1 (T r2).2.2.1 ∈ zW) (hfn : (T r2).2.2.2 = false) (hty : zty r1 r2 = .boolean) (hfk : qfk (zty r1 r2) = 1) (hd : decode cc pc = .ok (.putfield i, 3)) (hs : qs_pb r1 r2 (qWn p l e R s m args below meth c Q D kk A g ad nL nc ns (pc + 3)) ls st μ) : qWn p l e R s m args below meth c Q D kk A g ad nL nc ns pc ls st μ := by
  unfold qs_pb at hs
  split at hs
  · rename_i a0 o0 st0
    replace hs := qif_eq hs
    intro ar sv H locs ⟨ws, lv, hh, hl, hL, hF, hP, hD, hS⟩
    obtain ⟨v0, vs, rfl, hV2, hF1⟩ := qVs_cons hF
    obtain ⟨v1, vs, rfl, hV, hF2⟩ := qVs_cons hF1
    obtain ⟨q, hq, rfl, h0⟩ := hV
    obtain ⟨n, fs, rfl, hn, hrf⟩ := qty_obj hs.1 hr1
    obtain ⟨q1, e1, hw1, hc1⟩ := hh.2 _ _ hn
    have hq : ad[n]? = some q := hq
    cases qat_ad hh hq hw1
    obtain ⟨vs1, rfl, hlen, hfs⟩ := hc1
    obtain ⟨x, rfl, rfl⟩ := hV2
    have hl2 : r2 < vs1.length := by rw [hlen, ← hcl.2.1]; exact hk
    have hcr : qCr ad kk (qu μ n r2 x.toInt) n (.inl (r1, fs)) (.inr (r1, vs1.set r2 (.int x))) := ⟨vs1.set r2 (.int x), rfl, by rw [List.length_set]; exact hlen, fun k0 o9 hk0 => by
      by_cases e9 : k0 = r2
      · subst e9
        refine ⟨.int x, by rw [List.getElem?_set]; simp [hl2], ?_⟩
        unfold qFr
        rw [hfk]
        exact ⟨x, rfl, (qu_same _ _ _ _).symm⟩
      · obtain ⟨v9, h8, h9⟩ := hfs k0 o9 hk0
        refine ⟨v9, by rw [List.getElem?_set]; simp [Ne.symm e9, h8], ?_⟩
        unfold qFr at h9 ⊢
        rw [qu_ne (fun q => e9 (by omega))]
        exact h9⟩
    exact va_put (D := D) (ci := r1) (v := .int x) (ty := zty r1 r2) (C := C) (T := T) (N := N) hC.1 hC.2.1 hC.2.2.2.2.1 hcl.2.2.1 (zty r1) hcl.2.2.2.1 hcl.2.2.2.2.1 hC.2.2.2.1 hC.2.2.2.2.2.1 hP hD hS _ hw1 hcl.1 r2 hk (hC.2.2.2.2.1 _ hw) (fun _ h9 => h9) hfn (hcl.2.2.2.1 r2 hk) (by rw [hty]; exact (qbool_n hs.2.1.1 hs.2.1.2).1) (by rw [hty]; exact (qbool_n hs.2.1.1 hs.2.1.2).2) hl2 hd (fun H1 locs1 hP1 hD1 hS1 => hs.2.2 ar _ H1 locs1 ⟨_, lv, qHr_set hh hw1 hn (fun c hc j => qu_cell hc j) hcr, hl, hL, hF2, hP1, hD1, hS1⟩)
  · exact hs.elim
theorem qh_gsc (hC : qCx p s m args meth c cc nL own D kk A g t) {i : Nat} (hw : Jvm.Cond.fieldLink own i "java/lang/String" "coder" "B" ∈ zW) (hd : decode cc pc = .ok (.getfield i, 3)) (hs : qs_gsc (qWn p l e R s m args below meth c Q D kk A g ad nL nc ns (pc + 3)) ls st μ) : qWn p l e R s m args below meth c Q D kk A g ad nL nc ns pc ls st μ := by
  unfold qs_gsc at hs
  split at hs
  · rename_i k0 st0
    intro ar sv H locs ⟨ws, lv, hh, hl, hL, hF, hP, hD, hS⟩
    obtain ⟨v1, vs, rfl, hV, hF1⟩ := qVs_cons hF
    rcases hV with ⟨h1, -⟩ | ⟨-, rfl⟩
    · omega
    · obtain ⟨i9, rfl⟩ : ∃ i9, k0 = 10 + i9 := ⟨k0 - 10, by omega⟩
      have hSt := hC.2.2.2.2.2.2.2.1.2.2.2.2.2.1.1 i9 (by omega)
      exact vk_getf hC.1 hC.2.1 hSt.2.1 hS hC.2.2.2.1 (hC.2.2.2.2.1 _ hw) (fun _ h9 => h9) hd (hs.2 ar _ H locs ⟨ws, lv, hh, hl, hL, ⟨⟨0, rfl, rfl⟩, hF1⟩, hP, hD, hS⟩)
  · exact hs.elim
theorem qh_gsv (hC : qCx p s m args meth c cc nL own D kk A g t) {i : Nat} (hw : Jvm.Cond.fieldLink own i "java/lang/String" "value" "[B" ∈ zW) (hd : decode cc pc = .ok (.getfield i, 3)) (hs : qs_gsv (qWn p l e R s m args below meth c Q D kk A g ad nL nc ns (pc + 3)) ls st μ) : qWn p l e R s m args below meth c Q D kk A g ad nL nc ns pc ls st μ := by
  unfold qs_gsv at hs
  split at hs
  · rename_i k0 st0
    intro ar sv H locs ⟨ws, lv, hh, hl, hL, hF, hP, hD, hS⟩
    obtain ⟨v1, vs, rfl, hV, hF1⟩ := qVs_cons hF
    rcases hV with ⟨h1, -⟩ | ⟨-, rfl⟩
    · omega
    · obtain ⟨i9, rfl⟩ : ∃ i9, k0 = 10 + i9 := ⟨k0 - 10, by omega⟩
      have hSt := hC.2.2.2.2.2.2.2.1.2.2.2.2.2.1.1 i9 (by omega)
      exact vk_getf hC.1 hC.2.1 hSt.2.2.1 hS hC.2.2.2.1 (hC.2.2.2.2.1 _ hw) (fun _ h9 => h9) hd (hs.2 ar _ H locs ⟨ws, lv, hh, hl, hL, ⟨Or.inr ⟨by omega, by rw [show 10 + i9 + 10 = 20 + i9 by omega]⟩, hF1⟩, hP, hD, hS⟩)
  · exact hs.elim
theorem qh_gets (hC : qCx p s m args meth c cc nL own D kk A g t) {i r1 : Nat} (hw : (r1 = 0 ∧ Jvm.Cond.fieldLink own i "LetterDebts" "ABOVE" "[I" ∈ zW) ∨ (r1 = 1 ∧ Jvm.Cond.fieldLink own i "LetterDebts" "MARKS" "[I" ∈ zW) ∨ (r1 = 2 ∧ Jvm.Cond.fieldLink own i "java/lang/String" "COMPACT_STRINGS" "Z" ∈ zW) ∨ (r1 = 3 ∧ Jvm.Cond.fieldLink own i "jdk/internal/util/Preconditions" "SIOOBE_FORMATTER" "Ljava/util/function/BiFunction;" ∈ zW)) (hd : decode cc pc = .ok (.getstatic i, 3)) (hs : qs_push (qstat r1) (qWn p l e R s m args below meth c Q D kk A g ad nL nc ns (pc + 3)) ls st μ) : qWn p l e R s m args below meth c Q D kk A g ad nL nc ns pc ls st μ := by
  intro ar sv H locs ⟨ws, lv, hh, hl, hL, hF, hP, hD, hS⟩
  obtain ⟨-, hX1, hX2, hX3, hX4, -⟩ := hC.2.2.2.2.2.2.2.1
  rcases hw with ⟨rfl, hw⟩ | ⟨rfl, hw⟩ | ⟨rfl, hw⟩ | ⟨rfl, hw⟩
  · exact va_gets hC.1 hC.2.1 hX1.1 hS hC.2.2.2.1 (hC.2.2.2.2.1 _ hw) (fun _ h9 => h9) hd (hs ar _ H locs ⟨ws, lv, hh, hl, hL, ⟨Or.inr ⟨by decide, rfl⟩, hF⟩, hP, hD, hS⟩)
  · exact va_gets hC.1 hC.2.1 hX2.1 hS hC.2.2.2.1 (hC.2.2.2.2.1 _ hw) (fun _ h9 => h9) hd (hs ar _ H locs ⟨ws, lv, hh, hl, hL, ⟨Or.inr ⟨by decide, rfl⟩, hF⟩, hP, hD, hS⟩)
  · exact va_gets hC.1 hC.2.1 hX3 hS hC.2.2.2.1 (hC.2.2.2.2.1 _ hw) (fun _ h9 => h9) hd (hs ar _ H locs ⟨ws, lv, hh, hl, hL, ⟨⟨1, rfl, rfl⟩, hF⟩, hP, hD, hS⟩)
  · exact va_gets hC.1 hC.2.1 hX4.1 hS hC.2.2.2.1 (hC.2.2.2.2.1 _ hw) (fun _ h9 => h9) hd (hs ar _ H locs ⟨ws, lv, hh, hl, hL, ⟨Or.inl ⟨rfl, rfl, hX4.2⟩, hF⟩, hP, hD, hS⟩)
end QH
end
section
section QA
variable {p : Program} {l : Launch} {e : Env} {R : Room} {s : State} {m : MethodId} {args : Array Value} {below : List Frame} {meth : Method} {c : Code} {Q : State → Prop} {D : va_G} {kk : Nat → ClassId} {A : Nat → Prop} {g : qG} {ad : List Nat} {nL nc ns : Nat} {cc : ByteArray} {own : String} {t : qT} {pc : Nat} {ls : qL} {st : List qV} {μ : qM}
theorem qix {x : Int32} {n : Nat} (h1 : 0 ≤ x.toInt) (h2 : x.toInt < n) : x.toNatClampNeg < n ∧ ((x.toNatClampNeg : Nat) : Int) = x.toInt ∧ vp_in x n := by
  have e : x.toNatClampNeg = x.toInt.toNat := rfl
  exact ⟨by rw [e]; omega, by rw [e]; omega, zvin (j := x.toInt.toNat) (by omega) (by omega)⟩
theorem qh_caload (hC : qCx p s m args meth c cc nL own D kk A g t)  (hd : decode cc pc = .ok (.caload, 1)) (hs : qs_cald (qWn p l e R s m args below meth c Q D kk A g ad nL nc ns (pc + 1)) ls st μ) : qWn p l e R s m args below meth c Q D kk A g ad nL nc ns pc ls st μ := by
  unfold qs_cald at hs
  split at hs
  · rename_i i0 c0 st0
    replace hs := qif_eq hs
    intro ar sv H locs ⟨ws, lv, hh, hl, hL, hF, hP, hD, hS⟩
    obtain ⟨vi, vs, rfl, ⟨x, rfl, rfl⟩, hF1⟩ := qVs_cons hF
    obtain ⟨vr, vs, rfl, ⟨q, hq, rfl, h0⟩, hF2⟩ := qVs_cons hF1
    obtain ⟨n, len, l0, rfl, hn, hal, hra⟩ := qty_arr (r := 2) hs.1 (by omega)
    obtain ⟨q1, e1, hw1, hc1⟩ := hh.2 _ _ hn
    have hq : ad[n]? = some q := hq
    cases qat_ad hh hq hw1
    rw [hal] at hs
    obtain ⟨hj, ej, hin⟩ := qix hs.2.1.1 hs.2.1.2
    rcases hc1 with ⟨h1, f, rfl, hf⟩ | ⟨h1, f, rfl, hf⟩ | ⟨h1, h1b, f, rfl, hf⟩
    · exact va_cald hC.1 hC.2.1 hC.2.2.2.2.2.1 hP _ 2 hw1 rfl hin hd (hs.2.2 ar _ H locs ⟨ws, lv, hh, hl, hL, ⟨⟨_, rfl, by rw [hf _ hj, ej]⟩, hF2⟩, hP, hD, hS⟩)
    · omega
    · omega
  · exact hs.elim
theorem qh_laload (hC : qCx p s m args meth c cc nL own D kk A g t)  (hd : decode cc pc = .ok (.laload, 1)) (hs : qs_lald (qWn p l e R s m args below meth c Q D kk A g ad nL nc ns (pc + 1)) ls st μ) : qWn p l e R s m args below meth c Q D kk A g ad nL nc ns pc ls st μ := by
  unfold qs_lald at hs
  split at hs
  · rename_i i0 c0 st0
    replace hs := qif_eq hs
    intro ar sv H locs ⟨ws, lv, hh, hl, hL, hF, hP, hD, hS⟩
    obtain ⟨vi, vs, rfl, ⟨x, rfl, rfl⟩, hF1⟩ := qVs_cons hF
    obtain ⟨vr, vs, rfl, ⟨q, hq, rfl, h0⟩, hF2⟩ := qVs_cons hF1
    obtain ⟨n, len, l0, rfl, hn, hal, hra⟩ := qty_arr (r := 4) hs.1 (by omega)
    obtain ⟨q1, e1, hw1, hc1⟩ := hh.2 _ _ hn
    have hq : ad[n]? = some q := hq
    cases qat_ad hh hq hw1
    rw [hal] at hs
    obtain ⟨hj, ej, hin⟩ := qix hs.2.1.1 hs.2.1.2
    rcases hc1 with ⟨h1, f, rfl, hf⟩ | ⟨h1, f, rfl, hf⟩ | ⟨h1, h1b, f, rfl, hf⟩
    · omega
    · exact va_lald hC.1 hC.2.1 hC.2.2.2.2.2.1 hP _ 4 hw1 rfl hin hd (hs.2.2 ar _ H locs ⟨ws, lv, hh, hl, hL, ⟨⟨_, rfl, by rw [hf _ hj, ej]⟩, hF2⟩, hP, hD, hS⟩)
    · omega
  · exact hs.elim
theorem qh_iaload (hC : qCx p s m args meth c cc nL own D kk A g t)  (hd : decode cc pc = .ok (.iaload, 1)) (hs : qs_iald t (qWn p l e R s m args below meth c Q D kk A g ad nL nc ns (pc + 1)) ls st μ) : qWn p l e R s m args below meth c Q D kk A g ad nL nc ns pc ls st μ := by
  unfold qs_iald at hs
  split at hs
  · rename_i i0 c0 st0
    replace hs := qif_eq hs
    intro ar sv H locs ⟨ws, lv, hh, hl, hL, hF, hP, hD, hS⟩
    obtain ⟨vi, vs, rfl, ⟨x, rfl, rfl⟩, hF1⟩ := qVs_cons hF
    obtain ⟨vr, vs, rfl, ⟨q, hq, rfl, h0⟩, hF2⟩ := qVs_cons hF1
    obtain ⟨n, len, l0, rfl, hn, hal, hra⟩ := qty_arr (r := 0) hs.1 (by omega)
    obtain ⟨q1, e1, hw1, hc1⟩ := hh.2 _ _ hn
    have hq : ad[n]? = some q := hq
    cases qat_ad hh hq hw1
    rw [hal] at hs
    obtain ⟨hj, ej, hin⟩ := qix hs.2.1.1 hs.2.1.2
    rcases hc1 with ⟨h1, f, rfl, hf⟩ | ⟨h1, f, rfl, hf⟩ | ⟨h1, h1b, f, rfl, hf⟩
    · exact va_iald hC.1 hC.2.1 hC.2.2.2.2.2.1 hP _ 0 hw1 rfl hin hd (hs.2.2 ar _ H locs ⟨ws, lv, hh, hl, hL, ⟨⟨_, rfl, by rw [hf _ hj, ej]⟩, hF2⟩, hP, hD, hS⟩)
    · omega
    · omega
  · rename_i i0 st0
    split at hs
    · rename_i tt
      intro ar sv H locs ⟨ws, lv, hh, hl, hL, hF, hP, hD, hS⟩
      obtain ⟨vi, vs, rfl, ⟨x, rfl, rfl⟩, hF1⟩ := qVs_cons hF
      obtain ⟨vr, vs, rfl, hV, hF2⟩ := qVs_cons hF1
      rcases hV with ⟨h1, -⟩ | ⟨-, rfl⟩
      · cases h1
      · obtain ⟨L, xs, eL, hLb, hxs, hX, hbl, hbA⟩ := hC.2.2.2.2.2.2.2.2 tt rfl
        rw [eL] at hs
        obtain ⟨hj, ej, hin⟩ := qix hs.1.1 hs.1.2
        exact va_sld hC.1 hC.2.1 hX hbl hbA hS hin hd (hs.2 ar _ H locs ⟨ws, lv, hh, hl, hL, ⟨⟨_, rfl, by rw [← hxs _ hj, ej]⟩, hF2⟩, hP, hD, hS⟩)
    · exact hs.elim
  · rename_i i0 st0
    intro ar sv H locs ⟨ws, lv, hh, hl, hL, hF, hP, hD, hS⟩
    obtain ⟨vi, vs, rfl, ⟨x, rfl, rfl⟩, hF1⟩ := qVs_cons hF
    obtain ⟨vr, vs, rfl, hV, hF2⟩ := qVs_cons hF1
    rcases hV with ⟨h1, -⟩ | ⟨-, rfl⟩
    · cases h1
    · obtain ⟨hj, ej, hin⟩ := qix (n := 8) hs.1.1 hs.1.2
      obtain ⟨-, hX1, hX2, -⟩ := hC.2.2.2.2.2.2.2.1
      exact va_ti hC.1 hC.2.1 hX1.2 hS hin rfl hd (hs.2 ar _ H locs ⟨ws, lv, hh, hl, hL, ⟨⟨_, rfl, ztb_rng 0 (Or.inl rfl) hj⟩, hF2⟩, hP, hD, hS⟩)
  · rename_i i0 st0
    intro ar sv H locs ⟨ws, lv, hh, hl, hL, hF, hP, hD, hS⟩
    obtain ⟨vi, vs, rfl, ⟨x, rfl, rfl⟩, hF1⟩ := qVs_cons hF
    obtain ⟨vr, vs, rfl, hV, hF2⟩ := qVs_cons hF1
    rcases hV with ⟨h1, -⟩ | ⟨-, rfl⟩
    · cases h1
    · obtain ⟨hj, ej, hin⟩ := qix (n := 8) hs.1.1 hs.1.2
      obtain ⟨-, hX1, hX2, -⟩ := hC.2.2.2.2.2.2.2.1
      exact va_ti hC.1 hC.2.1 hX2.2 hS hin rfl hd (hs.2 ar _ H locs ⟨ws, lv, hh, hl, hL, ⟨⟨_, rfl, ztb_rng 1 (Or.inr rfl) hj⟩, hF2⟩, hP, hD, hS⟩)
  · exact hs.elim
theorem qlen_ok : ∀ i, i < 6 → qlen.getD i 0 = (qsl.getD i []).length := by decide
theorem qlen_le : ∀ i, i < 6 → (qsl.getD i []).length ≤ 4 := by decide
theorem qh_baload (hC : qCx p s m args meth c cc nL own D kk A g t)  (hd : decode cc pc = .ok (.baload, 1)) (hs : qs_bald (qWn p l e R s m args below meth c Q D kk A g ad nL nc ns (pc + 1)) ls st μ) : qWn p l e R s m args below meth c Q D kk A g ad nL nc ns pc ls st μ := by
  unfold qs_bald at hs
  split at hs
  · rename_i i0 c0 st0
    obtain ⟨hk, hs⟩ := qif_ok hs
    rw [Bool.or_eq_true] at hk
    intro ar sv H locs ⟨ws, lv, hh, hl, hL, hF, hP, hD, hS⟩
    obtain ⟨vi, vs, rfl, ⟨x, rfl, rfl⟩, hF1⟩ := qVs_cons hF
    obtain ⟨vr, vs, rfl, ⟨q, hq, rfl, h0⟩, hF2⟩ := qVs_cons hF1
    rcases hk with hk | hk
    · obtain ⟨n, len, l0, rfl, hn, hal, hra⟩ := qty_arr (r := 1) (Nat.eq_of_beq_eq_true hk) (by omega)
      obtain ⟨q1, e1, hw1, hc1⟩ := hh.2 _ _ hn
      have hq : ad[n]? = some q := hq
      cases qat_ad hh hq hw1
      rw [hal] at hs
      obtain ⟨hj, ej, hin⟩ := qix hs.1.1 hs.1.2
      rcases hc1 with ⟨h1, f, rfl, hf⟩ | ⟨h1, f, rfl, hf⟩ | ⟨h1, h1b, f, rfl, hf⟩
      · exact va_bald hC.1 hC.2.1 hC.2.2.2.2.2.1 hP _ 1 hw1 rfl hin hd (hs.2 ar _ H locs ⟨ws, lv, hh, hl, hL, ⟨⟨_, rfl, by rw [hf _ hj, ej]⟩, hF2⟩, hP, hD, hS⟩)
      · omega
      · omega
    · obtain ⟨n, len, l0, rfl, hn, hal, hra⟩ := qty_arr (r := 3) (Nat.eq_of_beq_eq_true hk) (by omega)
      obtain ⟨q1, e1, hw1, hc1⟩ := hh.2 _ _ hn
      have hq : ad[n]? = some q := hq
      cases qat_ad hh hq hw1
      rw [hal] at hs
      obtain ⟨hj, ej, hin⟩ := qix hs.1.1 hs.1.2
      rcases hc1 with ⟨h1, f, rfl, hf⟩ | ⟨h1, f, rfl, hf⟩ | ⟨h1, h1b, f, rfl, hf⟩
      · exact va_zald hC.1 hC.2.1 hC.2.2.2.2.2.1 hP _ 3 hw1 rfl hin hd (hs.2 ar _ H locs ⟨ws, lv, hh, hl, hL, ⟨⟨_, rfl, by rw [hf _ hj, ej]⟩, hF2⟩, hP, hD, hS⟩)
      · omega
      · omega
  · rename_i i0 k0 st0
    intro ar sv H locs ⟨ws, lv, hh, hl, hL, hF, hP, hD, hS⟩
    obtain ⟨vi, vs, rfl, ⟨x, rfl, rfl⟩, hF1⟩ := qVs_cons hF
    obtain ⟨vr, vs, rfl, hV, hF2⟩ := qVs_cons hF1
    rcases hV with ⟨h1, -⟩ | ⟨-, rfl⟩
    · omega
    · obtain ⟨i9, rfl⟩ : ∃ i9, k0 = 20 + i9 := ⟨k0 - 20, by omega⟩
      have hi9 : i9 < 6 := by omega
      rw [show 20 + i9 - 20 = i9 by omega] at hs
      have hSt := hC.2.2.2.2.2.2.2.1.2.2.2.2.2.1.1 i9 hi9
      obtain ⟨hj, ej, hin⟩ := qix hs.2.1.1 hs.2.1.2
      have hT := hSt.2.2.2
      rw [qlen_ok i9 hi9] at hT
      exact va_tb hC.1 hC.2.1 hT hS hin rfl hd (hs.2.2 ar _ H locs ⟨ws, lv, hh, hl, hL, ⟨⟨_, rfl, rfl⟩, hF2⟩, hP, hD, hS⟩)
  · exact hs.elim
theorem qh_aaload (hC : qCx p s m args meth c cc nL own D kk A g t)  (hd : decode cc pc = .ok (.aaload, 1)) (hs : qs_aald (qWn p l e R s m args below meth c Q D kk A g ad nL nc ns (pc + 1)) ls st μ) : qWn p l e R s m args below meth c Q D kk A g ad nL nc ns pc ls st μ := by
  unfold qs_aald at hs
  split at hs
  · rename_i i0 c0 st0
    obtain ⟨hk, hs⟩ := qif_ok hs
    rw [Bool.and_eq_true] at hk
    have hk1 : 105 ≤ qty c0 := Nat.le_of_ble_eq_true hk.1
    have hk2 : qty c0 ≤ 107 := Nat.le_of_ble_eq_true hk.2
    replace hs := And.intro hk1 hs
    intro ar sv H locs ⟨ws, lv, hh, hl, hL, hF, hP, hD, hS⟩
    obtain ⟨vi, vs, rfl, ⟨x, rfl, rfl⟩, hF1⟩ := qVs_cons hF
    obtain ⟨vr, vs, rfl, ⟨q, hq, rfl, h0⟩, hF2⟩ := qVs_cons hF1
    obtain ⟨k9, hk9⟩ : ∃ k9, qty c0 = 100 + k9 := ⟨qty c0 - 100, by omega⟩
    obtain ⟨n, len, l0, rfl, hn, hal, hra⟩ := qty_arr hk9 (by omega)
    obtain ⟨q1, e1, hw1, hc1⟩ := hh.2 _ _ hn
    have hq : ad[n]? = some q := hq
    cases qat_ad hh hq hw1
    rw [hal] at hs
    obtain ⟨hj, ej, hin⟩ := qix hs.2.1.1 hs.2.1.2
    rcases hc1 with ⟨h1, f, rfl, hf⟩ | ⟨h1, f, rfl, hf⟩ | ⟨h1, h1b, f, rfl, hf⟩
    · omega
    · omega
    · obtain ⟨ty, hAr, hrt⟩ : ∃ ty : FieldType, ArrOfT s (kk k9) ty ∧ ty.isReference = true := by
        rcases (show k9 = 5 ∨ k9 = 6 ∨ k9 = 7 by omega) with rfl | rfl | rfl
        · exact ⟨_, (hC.2.2.2.2.2.1.2 5 _ rfl).1, rfl⟩
        · exact ⟨_, (hC.2.2.2.2.2.1.2 6 _ rfl).1, rfl⟩
        · exact ⟨_, (hC.2.2.2.2.2.1.2 7 _ rfl).1, rfl⟩
      obtain ⟨q9, hq9, hf9⟩ := hf _ hj
      have eT : x.toInt.toNat = x.toNatClampNeg := rfl
      refine za_ald hC.1 hC.2.1 hAr hrt hP _ hw1 hin hd (hs.2.2 ar _ H locs ⟨ws, lv, hh, hl, hL, ⟨⟨q9, ?_, by rw [hf9]; rfl, ?_⟩, hF2⟩, hP, hD, hS⟩)
      · rw [hra, eT]
        exact hq9
      · rw [hra]
        omega
  · exact hs.elim
theorem qupd {f : Nat → Int32} {n i : Nat} {x : Int32} {z : Int32} (hf : ∀ j : Nat, j < n → (f j).toInt = μ i j) (hx : ((x.toNatClampNeg : Nat) : Int) = x.toInt) : ∀ j : Nat, j < n → (upd f x.toNatClampNeg z j).toInt = qu μ i x.toInt z.toInt i j := fun j hj => by
  rw [zupd]
  by_cases e9 : j = x.toNatClampNeg
  · rw [if_pos e9, e9, hx, qu_same]
  · rw [if_neg e9, qu_ne (fun q => e9 (by omega))]
    exact hf j hj
theorem qupdL {f : Nat → Int64} {n i : Nat} {x : Int32} {z : Int64} (hf : ∀ j : Nat, j < n → (f j).toInt = μ i j) (hx : ((x.toNatClampNeg : Nat) : Int) = x.toInt) : ∀ j : Nat, j < n → (vp_updL f x.toNatClampNeg z j).toInt = qu μ i x.toInt z.toInt i j := fun j hj => by
  unfold vp_updL
  by_cases e9 : j = x.toNatClampNeg
  · rw [if_pos e9, e9, hx, qu_same]
  · rw [if_neg e9, qu_ne (fun q => e9 (by omega))]
    exact hf j hj
theorem qnar_b {x : Int32} (h1 : -128 ≤ x.toInt) (h2 : x.toInt ≤ 127) : vp_nar .byte x = x := fa_i2b h1 h2
theorem qnar_c {x : Int32} (h1 : 0 ≤ x.toInt) (h2 : x.toInt ≤ 65535) : vp_nar .char x = x := fa_i2c h1 h2
theorem qnar_z {x : Int32} (h1 : 0 ≤ x.toInt) (h2 : x.toInt ≤ 1) : vp_nar .boolean x = x := by
  rcases qbool h1 h2 with rfl | rfl
  · rfl
  · rfl
theorem qh_iastore (hC : qCx p s m args meth c cc nL own D kk A g t)  (hd : decode cc pc = .ok (.iastore, 1)) (hs : qs_iast (qWn p l e R s m args below meth c Q D kk A g ad nL nc ns (pc + 1)) ls st μ) : qWn p l e R s m args below meth c Q D kk A g ad nL nc ns pc ls st μ := by
  unfold qs_iast at hs
  split at hs
  · rename_i v0 i0 c0 st0
    replace hs := qif_eq hs
    intro ar sv H locs ⟨ws, lv, hh, hl, hL, hF, hP, hD, hS⟩
    obtain ⟨vv, vs, rfl, ⟨y, rfl, rfl⟩, hF0⟩ := qVs_cons hF
    obtain ⟨vi, vs, rfl, ⟨x, rfl, rfl⟩, hF1⟩ := qVs_cons hF0
    obtain ⟨vr, vs, rfl, ⟨q, hq, rfl, h0⟩, hF2⟩ := qVs_cons hF1
    obtain ⟨n, len, l0, rfl, hn, hal, hra⟩ := qty_arr (r := 0) hs.1 (by omega)
    obtain ⟨q1, e1, hw1, hc1⟩ := hh.2 _ _ hn
    have hq : ad[n]? = some q := hq
    cases qat_ad hh hq hw1
    rw [hal] at hs
    obtain ⟨hj, ej, hin⟩ := qix hs.2.1.1 hs.2.1.2
    rcases hc1 with ⟨h1, f, rfl, hf⟩ | ⟨h1, f, rfl, hf⟩ | ⟨h1, h1b, f, rfl, hf⟩
    · exact va_iast hC.1 hC.2.1 hC.2.2.2.2.2.1 hP hD hS _ 0 hw1 rfl hin hd (fun H1 locs1 hP1 hD1 hS1 => hs.2.2 ar _ H1 locs1 ⟨_, lv, qHr_set hh hw1 hn (fun c hc j => qu_cell hc j) (Or.inl ⟨h1, _, rfl, qupd hf ej⟩), hl, hL, hF2, hP1, hD1, hS1⟩)
    · omega
    · omega
  · exact hs.elim
theorem qh_lastore (hC : qCx p s m args meth c cc nL own D kk A g t)  (hd : decode cc pc = .ok (.lastore, 1)) (hs : qs_last (qWn p l e R s m args below meth c Q D kk A g ad nL nc ns (pc + 1)) ls st μ) : qWn p l e R s m args below meth c Q D kk A g ad nL nc ns pc ls st μ := by
  unfold qs_last at hs
  split at hs
  · rename_i v0 i0 c0 st0
    replace hs := qif_eq hs
    intro ar sv H locs ⟨ws, lv, hh, hl, hL, hF, hP, hD, hS⟩
    obtain ⟨vv, vs, rfl, ⟨y, rfl, rfl⟩, hF0⟩ := qVs_cons hF
    obtain ⟨vi, vs, rfl, ⟨x, rfl, rfl⟩, hF1⟩ := qVs_cons hF0
    obtain ⟨vr, vs, rfl, ⟨q, hq, rfl, h0⟩, hF2⟩ := qVs_cons hF1
    obtain ⟨n, len, l0, rfl, hn, hal, hra⟩ := qty_arr (r := 4) hs.1 (by omega)
    obtain ⟨q1, e1, hw1, hc1⟩ := hh.2 _ _ hn
    have hq : ad[n]? = some q := hq
    cases qat_ad hh hq hw1
    rw [hal] at hs
    obtain ⟨hj, ej, hin⟩ := qix hs.2.1.1 hs.2.1.2
    rcases hc1 with ⟨h1, f, rfl, hf⟩ | ⟨h1, f, rfl, hf⟩ | ⟨h1, h1b, f, rfl, hf⟩
    · omega
    · exact va_last hC.1 hC.2.1 hC.2.2.2.2.2.1 hP hD hS _ 4 hw1 rfl hin hd (fun H1 locs1 hP1 hD1 hS1 => hs.2.2 ar _ H1 locs1 ⟨_, lv, qHr_set hh hw1 hn (fun c hc j => qu_cell hc j) (Or.inr (Or.inl ⟨h1, _, rfl, qupdL hf ej⟩)), hl, hL, hF2, hP1, hD1, hS1⟩)
    · omega
  · exact hs.elim
theorem qh_castore (hC : qCx p s m args meth c cc nL own D kk A g t)  (hd : decode cc pc = .ok (.castore, 1)) (hs : qs_cast (qWn p l e R s m args below meth c Q D kk A g ad nL nc ns (pc + 1)) ls st μ) : qWn p l e R s m args below meth c Q D kk A g ad nL nc ns pc ls st μ := by
  unfold qs_cast at hs
  split at hs
  · rename_i v0 i0 c0 st0
    replace hs := qif_eq hs
    replace hs := And.intro (And.intro hs.1 hs.2.1) hs.2.2
    intro ar sv H locs ⟨ws, lv, hh, hl, hL, hF, hP, hD, hS⟩
    obtain ⟨vv, vs, rfl, ⟨y, rfl, rfl⟩, hF0⟩ := qVs_cons hF
    obtain ⟨vi, vs, rfl, ⟨x, rfl, rfl⟩, hF1⟩ := qVs_cons hF0
    obtain ⟨vr, vs, rfl, ⟨q, hq, rfl, h0⟩, hF2⟩ := qVs_cons hF1
    obtain ⟨n, len, l0, rfl, hn, hal, hra⟩ := qty_arr (r := 2) hs.1.1 (by omega)
    obtain ⟨q1, e1, hw1, hc1⟩ := hh.2 _ _ hn
    have hq : ad[n]? = some q := hq
    cases qat_ad hh hq hw1
    rw [hal] at hs
    obtain ⟨hj, ej, hin⟩ := qix hs.2.1.1 hs.2.1.2
    rcases hc1 with ⟨h1, f, rfl, hf⟩ | ⟨h1, f, rfl, hf⟩ | ⟨h1, h1b, f, rfl, hf⟩
    · exact va_cast hC.1 hC.2.1 hC.2.2.2.2.2.1 hP hD hS _ 2 hw1 rfl hin hd (fun H1 locs1 hP1 hD1 hS1 => hs.2.2 ar _ H1 locs1 ⟨_, lv, qHr_set hh hw1 hn (fun c hc j => qu_cell hc j) (Or.inl ⟨h1, _, rfl, by rw [qnar_c hs.1.2.1 hs.1.2.2]; exact qupd hf ej⟩), hl, hL, hF2, hP1, hD1, hS1⟩)
    · omega
    · omega
  · exact hs.elim
theorem qh_bastore (hC : qCx p s m args meth c cc nL own D kk A g t)  (hd : decode cc pc = .ok (.bastore, 1)) (hs : qs_bast (qWn p l e R s m args below meth c Q D kk A g ad nL nc ns (pc + 1)) ls st μ) : qWn p l e R s m args below meth c Q D kk A g ad nL nc ns pc ls st μ := by
  unfold qs_bast at hs
  split at hs
  · rename_i v0 i0 c0 st0
    obtain ⟨hk0, hs⟩ := qif_ok hs
    rw [Bool.or_eq_true] at hk0
    have hk : (qty c0 = 101 ∧ -128 ≤ v0 ∧ v0 ≤ 127) ∨ (qty c0 = 103 ∧ 0 ≤ v0 ∧ v0 ≤ 1) := by
      have hr := hs.1
      cases hz : Nat.beq (qty c0) 101 with
      | true =>
        rw [hz] at hr
        exact Or.inl ⟨Nat.eq_of_beq_eq_true hz, hr⟩
      | false =>
        rw [hz] at hr hk0
        rcases hk0 with w | w
        · cases w
        · exact Or.inr ⟨Nat.eq_of_beq_eq_true w, hr⟩
    replace hs := hs.2
    intro ar sv H locs ⟨ws, lv, hh, hl, hL, hF, hP, hD, hS⟩
    obtain ⟨vv, vs, rfl, ⟨y, rfl, rfl⟩, hF0⟩ := qVs_cons hF
    obtain ⟨vi, vs, rfl, ⟨x, rfl, rfl⟩, hF1⟩ := qVs_cons hF0
    obtain ⟨vr, vs, rfl, ⟨q, hq, rfl, h0⟩, hF2⟩ := qVs_cons hF1
    rcases hk with hk | hk
    · obtain ⟨n, len, l0, rfl, hn, hal, hra⟩ := qty_arr (r := 1) hk.1 (by omega)
      obtain ⟨q1, e1, hw1, hc1⟩ := hh.2 _ _ hn
      have hq : ad[n]? = some q := hq
      cases qat_ad hh hq hw1
      rw [hal] at hs
      obtain ⟨hj, ej, hin⟩ := qix hs.1.1 hs.1.2
      rcases hc1 with ⟨h1, f, rfl, hf⟩ | ⟨h1, f, rfl, hf⟩ | ⟨h1, h1b, f, rfl, hf⟩
      · exact va_bast hC.1 hC.2.1 hC.2.2.2.2.2.1 hP hD hS _ 1 hw1 rfl hin hd (fun H1 locs1 hP1 hD1 hS1 => hs.2 ar _ H1 locs1 ⟨_, lv, qHr_set hh hw1 hn (fun c hc j => qu_cell hc j) (Or.inl ⟨h1, _, rfl, by rw [qnar_b hk.2.1 hk.2.2]; exact qupd hf ej⟩), hl, hL, hF2, hP1, hD1, hS1⟩)
      · omega
      · omega
    · obtain ⟨n, len, l0, rfl, hn, hal, hra⟩ := qty_arr (r := 3) hk.1 (by omega)
      obtain ⟨q1, e1, hw1, hc1⟩ := hh.2 _ _ hn
      have hq : ad[n]? = some q := hq
      cases qat_ad hh hq hw1
      rw [hal] at hs
      obtain ⟨hj, ej, hin⟩ := qix hs.1.1 hs.1.2
      rcases hc1 with ⟨h1, f, rfl, hf⟩ | ⟨h1, f, rfl, hf⟩ | ⟨h1, h1b, f, rfl, hf⟩
      · exact va_zast hC.1 hC.2.1 hC.2.2.2.2.2.1 hP hD hS _ 3 hw1 rfl hin hd (fun H1 locs1 hP1 hD1 hS1 => hs.2 ar _ H1 locs1 ⟨_, lv, qHr_set hh hw1 hn (fun c hc j => qu_cell hc j) (Or.inl ⟨h1, _, rfl, by rw [qnar_z hk.2.1 hk.2.2]; exact qupd hf ej⟩), hl, hL, hF2, hP1, hD1, hS1⟩)
      · omega
      · omega
  · exact hs.elim
theorem qsh_alen {n r len : Nat} {l0 : List Nat} (h : qsh[n]? = some (.inr (r, len, l0))) : len ≤ 1000000 := by
  have h1 : ∀ y ∈ qsh, (match y with
    | .inl _ => true
    | .inr x => decide (x.2.1 ≤ 1000000)) = true := by decide +kernel
  exact of_decide_eq_true (h1 _ (List.mem_of_getElem? h))
theorem qh_alen (hC : qCx p s m args meth c cc nL own D kk A g t)  (hd : decode cc pc = .ok (.arraylength, 1)) (hs : qs_alen t (qWn p l e R s m args below meth c Q D kk A g ad nL nc ns (pc + 1)) ls st μ) : qWn p l e R s m args below meth c Q D kk A g ad nL nc ns pc ls st μ := by
  unfold qs_alen at hs
  split at hs
  · rename_i c0 st0
    obtain ⟨hk, hs⟩ := qif_ok hs
    rw [Bool.and_eq_true] at hk
    have hk1 : 100 ≤ qty c0 := Nat.le_of_ble_eq_true hk.1
    have hk2 : qty c0 ≤ 107 := Nat.le_of_ble_eq_true hk.2
    replace hs := And.intro hk1 hs
    intro ar sv H locs ⟨ws, lv, hh, hl, hL, hF, hP, hD, hS⟩
    obtain ⟨vr, vs, rfl, ⟨q, hq, rfl, h0⟩, hF1⟩ := qVs_cons hF
    obtain ⟨k9, hk9⟩ : ∃ k9, qty c0 = 100 + k9 := ⟨qty c0 - 100, by omega⟩
    obtain ⟨n, len, l0, rfl, hn, hal, hra⟩ := qty_arr hk9 (by omega)
    obtain ⟨q1, e1, hw1, hc1⟩ := hh.2 _ _ hn
    have hq : ad[n]? = some q := hq
    cases qat_ad hh hq hw1
    have hlen : len ≤ 1000000 := qsh_alen hn
    have hv9 : (Int32.ofNat len).toInt = len := nI_toInt (by omega)
    have hty : ∀ k, k ≤ 7 → ∃ ty, (zKs kk)[k]? = some (kk k, ty) := fun k hk => by
      rcases (show k = 0 ∨ k = 1 ∨ k = 2 ∨ k = 3 ∨ k = 4 ∨ k = 5 ∨ k = 6 ∨ k = 7 by omega) with rfl | rfl | rfl | rfl | rfl | rfl | rfl | rfl <;> exact ⟨_, rfl⟩
    obtain ⟨ty, hty⟩ := hty k9 (by omega)
    rcases hc1 with ⟨h1, f, rfl, hf⟩ | ⟨h1, f, rfl, hf⟩ | ⟨h1, h1b, f, rfl, hf⟩
    · exact va_alen hC.1 hC.2.1 hC.2.2.2.2.2.1 hP _ k9 hw1 hty rfl hd (hs.2 ar _ H locs ⟨ws, lv, hh, hl, hL, ⟨⟨_, rfl, by rw [hal]; exact hv9⟩, hF1⟩, hP, hD, hS⟩)
    · exact va_alen hC.1 hC.2.1 hC.2.2.2.2.2.1 hP _ k9 hw1 hty rfl hd (hs.2 ar _ H locs ⟨ws, lv, hh, hl, hL, ⟨⟨_, rfl, by rw [hal]; exact hv9⟩, hF1⟩, hP, hD, hS⟩)
    · exact va_alen hC.1 hC.2.1 hC.2.2.2.2.2.1 hP _ k9 hw1 hty rfl hd (hs.2 ar _ H locs ⟨ws, lv, hh, hl, hL, ⟨⟨_, rfl, by rw [hal]; exact hv9⟩, hF1⟩, hP, hD, hS⟩)
  · rename_i k0 st0
    rcases hs with ⟨rfl, hs⟩ | ⟨hk, hs⟩
    · split at hs
      · rename_i tt
        intro ar sv H locs ⟨ws, lv, hh, hl, hL, hF, hP, hD, hS⟩
        obtain ⟨vr, vs, rfl, hV, hF1⟩ := qVs_cons hF
        rcases hV with ⟨h1, -⟩ | ⟨-, rfl⟩
        · cases h1
        · obtain ⟨L, xs, eL, hLb, hxs, hX, hbl, hbA⟩ := hC.2.2.2.2.2.2.2.2 tt rfl
          exact va_slen hC.1 hC.2.1 hX hbl hbA hS hd (hs ar _ H locs ⟨ws, lv, hh, hl, hL, ⟨⟨_, rfl, by rw [eL]; exact nI_toInt (by omega)⟩, hF1⟩, hP, hD, hS⟩)
      · exact hs.elim
    · intro ar sv H locs ⟨ws, lv, hh, hl, hL, hF, hP, hD, hS⟩
      obtain ⟨vr, vs, rfl, hV, hF1⟩ := qVs_cons hF
      rcases hV with ⟨h1, -⟩ | ⟨-, rfl⟩
      · omega
      · obtain ⟨i9, rfl⟩ : ∃ i9, k0 = 20 + i9 := ⟨k0 - 20, by omega⟩
        have hi9 : i9 < 6 := by omega
        rw [show 20 + i9 - 20 = i9 by omega] at hs
        have hSt := hC.2.2.2.2.2.2.2.1.2.2.2.2.2.1.1 i9 hi9
        have hT := hSt.2.2.2
        rw [qlen_ok i9 hi9] at hT
        have := qlen_le i9 hi9
        exact va_tlen hC.1 hC.2.1 hT hS rfl hd (hs ar _ H locs ⟨ws, lv, hh, hl, hL, ⟨⟨_, rfl, nI_toInt (by omega)⟩, hF1⟩, hP, hD, hS⟩)
  · exact hs.elim
theorem qh_copy (hC : qCx p s m args meth c cc nL own D kk A g t) {i : Nat} (hw1 : Jvm.Cond.methodLink own i arraycopyName ∈ zW) (hw2 : Jvm.Cond.native arraycopyName ∈ zW) (hw3 : Jvm.Cond.static arraycopyName ∈ zW) (hw4 : Jvm.Cond.initialized "java/lang/System" ∈ zW) (hRf : 1 ≤ R.frames) (hRl : 60 ≤ R.locals) (hd : decode cc pc = .ok (.invokestatic i, 3)) (hs : qs_copy (qWn p l e R s m args below meth c Q D kk A g ad nL nc ns (pc + 3)) ls st μ) : qWn p l e R s m args below meth c Q D kk A g ad nL nc ns pc ls st μ := by
  unfold qs_copy at hs
  split at hs
  · rename_i n0 dp r0 sp q0
    obtain ⟨hk0, hs8⟩ := qif_ok hs
    rw [Bool.and_eq_true] at hk0
    have hk1 := Nat.eq_of_beq_eq_true hk0.1
    have hk2 := Nat.eq_of_beq_eq_true hk0.2
    obtain ⟨⟨⟨hn1, hn2⟩, hdp, hsp⟩, hs9⟩ := hs8
    intro ar sv H locs ⟨ws, lv, hh, hl, hL, hF, hP, hD, hS⟩
    obtain ⟨v1, vs, rfl, ⟨x, rfl, rfl⟩, hF1⟩ := qVs_cons hF
    obtain ⟨v2, vs, rfl, ⟨y, rfl, rfl⟩, hF2⟩ := qVs_cons hF1
    obtain ⟨v3, vs, rfl, ⟨q3, hq3, rfl, h03⟩, hF3⟩ := qVs_cons hF2
    obtain ⟨v4, vs, rfl, ⟨w, rfl, rfl⟩, hF4⟩ := qVs_cons hF3
    obtain ⟨v5, vs, rfl, ⟨q5, hq5, rfl, h05⟩, hF5⟩ := qVs_cons hF4
    have e7 := qVs_nil hF5
    subst e7
    obtain ⟨na, la, l1, rfl, hna, hala, -⟩ := qty_arr (r := 0) hk1 (by omega)
    obtain ⟨nb, lb, l2, rfl, hnb, halb, -⟩ := qty_arr (r := 0) hk2 (by omega)
    obtain ⟨a1, ee1, hwa, hca⟩ := hh.2 _ _ hna
    obtain ⟨a2, ee2, hwb, hcb⟩ := hh.2 _ _ hnb
    have hq5 : ad[na]? = some q5 := hq5
    have hq3 : ad[nb]? = some q3 := hq3
    cases qat_ad hh hq5 hwa
    cases qat_ad hh hq3 hwb
    have hla : la ≤ 1000000 := qsh_alen hna
    rw [hala] at hn1 hn2
    rw [halb] at hn2
    have eLab : lb = la := by omega
    subst eLab
    have z0 : (0 : Int32).toInt = 0 := rfl
    rcases hca with ⟨h3, f, rfl, hf⟩ | ⟨h3, f, rfl, hf⟩ | ⟨h3, h3b, f, rfl, hf⟩
    · rcases hcb with ⟨h4, f2, rfl, hf2⟩ | ⟨h4, f2, rfl, hf2⟩ | ⟨h4, h4b, f2, rfl, hf2⟩
      · have cx : x.toNatClampNeg = lb := zclamp hn1
        have cy : y.toNatClampNeg = 0 := zclamp (j := 0) hdp
        have cw : w.toNatClampNeg = 0 := zclamp (j := 0) hsp
        refine va_copyi hC.1 hC.2.1 (by rw [hC.2.2.1]; exact hl.1.symm) hC.2.2.2.1 (hC.2.2.2.2.1 _ hw1) (hC.2.2.2.2.1 _ hw2) (hC.2.2.2.2.1 _ hw3) (hC.2.2.2.2.1 _ hw4) hC.2.2.2.2.2.1 hP hD hS _ _ 0 0 hwa hwb rfl rfl rfl (fun h9 => by have := (fa_lt _ _).mp h9; omega) (fun h9 => by have := (fa_lt _ _).mp h9; omega) (fun h9 => by have := (fa_lt _ _).mp h9; omega) (by rw [cx, cw]; omega) (by rw [cx, cy]; omega) (fun _ _ => rfl) hRf (Nat.le_trans (by decide) hRl) hd (fun H1 locs1 hP1 hD1 hS1 => hs9 ar [] H1 locs1 ⟨_, lv, qHr_set (μ' := qcp μ na nb) hh hwb hnb (fun c hc j => ?_) (Or.inl ⟨h4, _, rfl, fun j hj => ?_⟩), hl, hL, trivial, hP1, hD1, hS1⟩)
        · unfold qcp
          rw [if_neg hc]
        · rw [cx, cy, cw, pk_cpy_in (by omega) (by omega)]
          unfold qcp
          rw [if_pos rfl, show 0 + (j - 0) = j by omega]
          exact hf j hj
      · omega
      · omega
    · omega
    · omega
  · exact hs.elim
theorem qh_mmax (hC : qCx p s m args meth c cc nL own D kk A g t) {i : Nat} (hw1 : Jvm.Cond.methodLink own i Lib.Math.max.name ∈ zW) (hw2 : Jvm.Cond.static Lib.Math.max.name ∈ zW) (hw3 : Jvm.Cond.initialized "java/lang/Math" ∈ zW) (hw4 : Jvm.Cond.code Lib.Math.max.name Lib.Math.max.code 2 (some .int) ∈ zW) (hRf : 1 ≤ R.frames) (hRl : 60 ≤ R.locals) (hr1 : nc ≤ R.cells) (hr2 : ns ≤ R.slots) (hd : decode cc pc = .ok (.invokestatic i, 3)) (hs : qs_mm qmax (qWn p l e R s m args below meth c Q D kk A g ad nL nc ns (pc + 3)) ls st μ) : qWn p l e R s m args below meth c Q D kk A g ad nL nc ns pc ls st μ := by
  unfold qs_mm at hs
  split at hs
  · rename_i b0 a0 st0
    replace hs := qif_ok hs
    intro ar sv H locs ⟨ws, lv, hh, hl, hL, hF, hP, hD, hS⟩
    obtain ⟨v2, vs, rfl, ⟨y, rfl, rfl⟩, hF1⟩ := qVs_cons hF
    obtain ⟨v1, vs, rfl, ⟨x, rfl, rfl⟩, hF2⟩ := qVs_cons hF1
    have hsum := qle4_sum hs.1 hF2
    have hv : (if x < y then y else x : Int32).toInt = qmax x.toInt y.toInt := by
      unfold qmax
      by_cases hc : x < y
      · have := (fa_lt _ _).mp hc
        rw [if_pos hc, if_pos this]
      · have : ¬ x.toInt < y.toInt := fun q => hc ((fa_lt _ _).mpr q)
        rw [if_neg hc, if_neg this]
    exact va_mmax hC.1 hC.2.1 (by rw [hC.2.2.1]; exact hl.1.symm) hC.2.2.2.1 (hC.2.2.2.2.1 _ hw1) (hC.2.2.2.2.1 _ hw2) (hC.2.2.2.2.1 _ hw3) (hC.2.2.2.2.1 _ hw4) hRf (by omega) hr1 hr2 hd (hs.2 ar _ H locs ⟨ws, lv, hh, hl, hL, ⟨⟨_, rfl, hv⟩, hF2⟩, hP, hD, hS⟩)
  · exact hs.elim
theorem qh_mmin (hC : qCx p s m args meth c cc nL own D kk A g t) {i : Nat} (hw1 : Jvm.Cond.methodLink own i Lib.Math.min.name ∈ zW) (hw2 : Jvm.Cond.static Lib.Math.min.name ∈ zW) (hw3 : Jvm.Cond.initialized "java/lang/Math" ∈ zW) (hw4 : Jvm.Cond.code Lib.Math.min.name Lib.Math.min.code 2 (some .int) ∈ zW) (hRf : 1 ≤ R.frames) (hRl : 60 ≤ R.locals) (hr1 : nc ≤ R.cells) (hr2 : ns ≤ R.slots) (hd : decode cc pc = .ok (.invokestatic i, 3)) (hs : qs_mm qmin (qWn p l e R s m args below meth c Q D kk A g ad nL nc ns (pc + 3)) ls st μ) : qWn p l e R s m args below meth c Q D kk A g ad nL nc ns pc ls st μ := by
  unfold qs_mm at hs
  split at hs
  · rename_i b0 a0 st0
    replace hs := qif_ok hs
    intro ar sv H locs ⟨ws, lv, hh, hl, hL, hF, hP, hD, hS⟩
    obtain ⟨v2, vs, rfl, ⟨y, rfl, rfl⟩, hF1⟩ := qVs_cons hF
    obtain ⟨v1, vs, rfl, ⟨x, rfl, rfl⟩, hF2⟩ := qVs_cons hF1
    have hsum := qle4_sum hs.1 hF2
    have hv : (if y < x then y else x : Int32).toInt = qmin x.toInt y.toInt := by
      unfold qmin
      by_cases hc : y < x
      · have := (fa_lt _ _).mp hc
        rw [if_pos hc, if_pos this]
      · have : ¬ y.toInt < x.toInt := fun q => hc ((fa_lt _ _).mpr q)
        rw [if_neg hc, if_neg this]
    exact va_mmin hC.1 hC.2.1 (by rw [hC.2.2.1]; exact hl.1.symm) hC.2.2.2.1 (hC.2.2.2.2.1 _ hw1) (hC.2.2.2.2.1 _ hw2) (hC.2.2.2.2.1 _ hw3) (hC.2.2.2.2.1 _ hw4) hRf (by omega) hr1 hr2 hd (hs.2 ar _ H locs ⟨ws, lv, hh, hl, hL, ⟨⟨_, rfl, hv⟩, hF2⟩, hP, hD, hS⟩)
  · exact hs.elim
end QA
end
section
/-! EACH INSTRUCTION OF THE q-LAYER IS CHECKED AGAINST ITS METHOD'S BYTES AND THE TABLES' WORDS -/
def qpt (t : FieldType) : Bool := match t with
  | .int => true
  | .boolean => true
  | .long => true
  | _ => false
noncomputable def qfG (zi : Jvm.Cond → Bool) (own : String) (nL : Nat) (len r1 r2 : Nat) (c : Int) (pc : Nat) (ins : Instr) : Bool := match ins with
  | .iload_n _ => Nat.beq len 1
  | .iload _ => Nat.beq len 2
  | .aload_n _ => Nat.beq len 1
  | .aload _ => Nat.beq len 2
  | .lload_n _ => Nat.beq len 1
  | .lload _ => Nat.beq len 2
  | .istore_n k => Nat.beq len 1 && Nat.blt k nL
  | .istore k => Nat.beq len 2 && Nat.blt k nL
  | .astore_n k => Nat.beq len 1 && Nat.blt k nL
  | .astore k => Nat.beq len 2 && Nat.blt k nL
  | .lstore_n k => Nat.beq len 1 && Nat.blt (k + 1) nL
  | .lstore k => Nat.beq len 2 && Nat.blt (k + 1) nL
  | .iconst n => Nat.beq len 1 && zi32 n
  | .bipush n => Nat.beq len 2 && (zi32 n && decide ((Int8.ofInt n).toInt32 = Int32.ofInt n))
  | .sipush n => Nat.beq len 3 && (zi32 n && decide ((Int16.ofInt n).toInt32 = Int32.ofInt n))
  | .lconst _ => Nat.beq len 1
  | .ldc i => Nat.beq len 2 && (decide (own = RX7) && (Nat.blt r1 6 && Nat.beq (qsi.getD r1 0) i))
  | .ldc_w i => Nat.beq len 3 && (zi32 c && zi (.constant own i (Int32.ofInt c)))
  | .ldc2_w i => Nat.beq len 3 && (zeq (Int64.ofInt c).toInt c && zi (.constantLong own i (Int64.ofInt c)))
  | .iinc k n => Nat.beq len 3 && (Nat.blt k nL && zi32 n)
  | .goto off => Nat.beq len 3 && zeq ((pc : Int) + off) r1
  | .if_icmp _ off => Nat.beq len 3 && zeq ((pc : Int) + off) r1
  | .ifCond _ off => Nat.beq len 3 && zeq ((pc : Int) + off) r1
  | .tableswitch df lo hi offs => zle 0 ((pc : Int) + df) && (offs.toList.all (fun o => zle 0 ((pc : Int) + o)) && zeq (offs.size : Int) (hi - lo + 1))
  | .getfield i => Nat.beq len 3 && (bif Nat.beq r1 20 then zi (.fieldLink own i "java/lang/String" "coder" "B") else bif Nat.beq r1 21 then zi (.fieldLink own i "java/lang/String" "value" "[B") else (Nat.blt r1 11 && (Nat.blt r2 (zN r1) && zi (.fieldLink own i (zTn r1 r2).1 (zTn r1 r2).2.1 (zTn r1 r2).2.2.1))))
  | .putfield i => Nat.beq len 3 && (Nat.blt r1 11 && (Nat.blt r2 (zN r1) && (zi (.fieldLink own i (zTn r1 r2).1 (zTn r1 r2).2.1 (zTn r1 r2).2.2.1) && (!(zTn r1 r2).2.2.2 && qpt (zty r1 r2)))))
  | .getstatic i => Nat.beq len 3 && (bif Nat.beq r1 0 then zi (.fieldLink own i "LetterDebts" "ABOVE" "[I") else bif Nat.beq r1 1 then zi (.fieldLink own i "LetterDebts" "MARKS" "[I") else bif Nat.beq r1 2 then zi (.fieldLink own i "java/lang/String" "COMPACT_STRINGS" "Z") else (Nat.beq r1 3 && zi (.fieldLink own i "jdk/internal/util/Preconditions" "SIOOBE_FORMATTER" "Ljava/util/function/BiFunction;")))
  | .invokevirtual i => Nat.beq len 3 && (match qmt r1 with
    | some M => !(Nat.beq M.2.2.2.2.1 0) && (decide (¬ M.1.name = "<init>") && (zi (.methodLink own i M.1) && ((bif Nat.ble 100 r2 then decide (zpar M.1 = some (r2 - 101)) && (Nat.beq (qrk M.2.2.2.1) 0 && Nat.ble 101 r2) else decide (zpar M.1 = some (r2 - 1)) && (!(Nat.beq (qrk M.2.2.2.1) 0) && Nat.ble 1 r2)))))
    | none => false)
  | .invokestatic i => Nat.beq len 3 && (bif Nat.beq r1 1001 then zi (.methodLink own i arraycopyName) else bif Nat.beq r1 1002 then zi (.methodLink own i Lib.Math.max.name) else bif Nat.beq r1 1003 then zi (.methodLink own i Lib.Math.min.name) else match qmt r1 with
    | some M => Nat.beq M.2.2.2.2.1 0 && (zlk2 zi own i M.1 && ((bif Nat.ble 100 r2 then decide (zpar M.1 = some (r2 - 100)) && Nat.beq (qrk M.2.2.2.1) 0 else decide (zpar M.1 = some r2) && !(Nat.beq (qrk M.2.2.2.1) 0))))
    | none => false)
  | _ => Nat.beq len 1
noncomputable def qfB (own : String) (nL : Nat) (len r1 r2 : Nat) (c : Int) (pc : Nat) (ins : Instr) : Bool := qfG zin own nL len r1 r2 c pc ins
theorem qfG_mono {zi : Jvm.Cond → Bool} (h1 : ∀ w, zi w = true → zin w = true) {own : String} {nL : Nat} {len r1 r2 : Nat} {c : Int} {pc : Nat} {ins : Instr} (h : qfG zi own nL len r1 r2 c pc ins = true) : qfB own nL len r1 r2 c pc ins = true := by
  cases ins
  case ldc_w i => exact zand_mono id (zand_mono id (h1 _)) h
  case ldc2_w i => exact zand_mono id (zand_mono id (h1 _)) h
  case getfield i => exact zand_mono id (zbif_mono (h1 _) (zbif_mono (h1 _) (zand_mono id (zand_mono id (h1 _))))) h
  case putfield i => exact zand_mono id (zand_mono id (zand_mono id (zand_mono (h1 _) id))) h
  case getstatic i => exact zand_mono id (zbif_mono (h1 _) (zbif_mono (h1 _) (zbif_mono (h1 _) (zand_mono id (h1 _))))) h
  case invokevirtual i =>
    refine zand_mono id (fun h => ?_) h
    split at h
    · exact zand_mono id (zand_mono id (zand_mono (h1 _) id)) h
    · cases h
  case invokestatic i =>
    refine zand_mono id (zbif_mono (h1 _) (zbif_mono (h1 _) (zbif_mono (h1 _) (fun h => ?_)))) h
    split at h
    · exact zand_mono id (zand_mono (zlk2_mono h1) id) h
    · cases h
  all_goals exact h
/-- what is asked of a method, once -/
noncomputable def qmG (z1 z2 z3 z4 : Jvm.Cond → Bool) (M : qMt) : Bool := z1 (.code M.1 M.2.1 M.2.2.1 M.2.2.2.1) && (z2 (.initialized M.1.cls) && ((bif Nat.beq M.2.2.2.2.1 0 then z3 (.static M.1) else z3 (.instanceMethod M.1)) && (Nat.ble M.2.2.1 40 && (decide (plainName M.1.cls = true) && (decide (M.1.cls ≠ "java/lang/invoke/MethodHandle" ∧ M.1.cls ≠ "java/lang/invoke/VarHandle") && (match M.2.2.2.2.1 with
  | 0 => true
  | ci + 1 => (bif Nat.beq ci 20 then decide (M.1.cls = "java/lang/String") else Nat.blt ci 11 && decide (zRn ci = M.1.cls)) && z4 (.selects M.1.cls M.1 M.1)))))))
noncomputable def qmB (M : qMt) : Bool := qmG zin zin zin zin M
theorem qmG_mono {z1 z2 z3 z4 : Jvm.Cond → Bool} (h1 : ∀ w, z1 w = true → zin w = true) (h2 : ∀ w, z2 w = true → zin w = true) (h3 : ∀ w, z3 w = true → zin w = true) (h4 : ∀ w, z4 w = true → zin w = true) {M : qMt} (h : qmG z1 z2 z3 z4 M = true) : qmB M = true := by
  unfold qmB
  unfold qmG at h ⊢
  refine zand_mono (h1 _) (zand_mono (h2 _) (zand_mono (zbif_mono (h3 _) (h3 _)) (zand_mono id (zand_mono id (zand_mono id (fun h => ?_)))))) h
  split at h
  · rfl
  · exact zand_mono id (h4 _) h
/-- all of a method -/
def qall (b : List (List qI)) : List qI := b.flatten
noncomputable def qfM (own : String) (nL : Nat) (cc : ByteArray) (b : List (List qI)) : Bool := (qall b).all fun x => decide (decode cc x.1 = .ok (x.2.1, x.2.2.1)) && qfB own nL x.2.2.1 x.2.2.2.1 x.2.2.2.2.1 x.2.2.2.2.2 x.1 x.2.1
theorem qfd_mem {l : List qI} {pc : Nat} {x : qI} : qfd l pc = some x → x ∈ l ∧ x.1 = pc := by
  induction l with
  | nil => intro h; cases h
  | cons q l ih =>
    intro h
    have h : (bif Nat.beq q.1 pc then some q else qfd l pc) = some x := h
    cases hz : Nat.beq q.1 pc with
    | true =>
      rw [hz] at h
      cases h
      exact ⟨List.mem_cons_self, Nat.eq_of_beq_eq_true hz⟩
    | false =>
      rw [hz] at h
      obtain ⟨h1, h2⟩ := ih h
      exact ⟨List.mem_cons_of_mem _ h1, h2⟩
theorem znt_memq {α : Type} {a : α} : ∀ {l : List α} {n : Nat}, znt l n = some a → a ∈ l
  | [], _, h => by cases h
  | b :: l, 0, h => by
    have h : some b = some a := h
    cases h
    exact List.mem_cons_self
  | b :: l, n + 1, h => List.mem_cons_of_mem _ (znt_memq (l := l) (n := n) h)
theorem qlk_mem {b : List (List qI)} {pc : Nat} {x : qI} (h : qlk b pc = some x) : x ∈ qall b ∧ x.1 = pc := by
  unfold qlk at h
  split at h
  · rename_i l hl
    obtain ⟨h1, h2⟩ := qfd_mem h
    exact ⟨List.mem_flatten.mpr ⟨l, znt_memq hl, h1⟩, h2⟩
  · cases h
end
section
section QC
variable {p : Program} {l : Launch} {e : Env} {R : Room} {s : State} {m : MethodId} {args : Array Value} {below : List Frame} {meth : Method} {c : Code} {Q : State → Prop} {D : va_G} {kk : Nat → ClassId} {A : Nat → Prop} {g : qG} {ad : List Nat} {nL nc ns : Nat} {cc : ByteArray} {own : String} {t : qT} {pc : Nat} {ls : qL} {st : List qV} {μ : qM}
/-! CALLS -/
def qB (D : va_G) (kk : Nat → ClassId) (ws : va_W) (sz : Nat) (w : va_W) (t : State) : Prop := va_P D vwCl w t.heap ∧ va_K D vwCl (zKs kk) t ∧ va_D (va_A ws sz) w
def qPo (ad : List Nat) (kk : Nat → ClassId) (Q : qV → qM → Prop) (v : qV) (w : va_W) : Prop := ∃ μ, qHr ad kk μ w ∧ Q v μ
def qQc (ret : Option FieldType) (g : qG) (D : va_G) (kk : Nat → ClassId) (ad : List Nat) (Q : qV → qM → Prop) (ws : va_W) (sz : Nat) : Array Value → State → Outcome → State → Prop := match qrk ret with
  | 0 => va_Qv (fun w : va_W => qPo ad kk Q (.inl 0) w) (qB D kk ws sz) (va_A ws sz)
  | 3 => va_Ql (fun (x : Int64) (w : va_W) => qPo ad kk Q (.inr (.inl x.toInt)) w) (qB D kk ws sz) (va_A ws sz)
  | 6 => va_Qr (fun u : Nat × va_W => (10 ≤ u.1 ∧ u.1 < 16) ∧ qPo ad kk Q (.inr (.inr (.inr u.1))) u.2) (fun u a t => a = g.1 u.1 ∧ qB D kk ws sz u.2 t) (va_A ws sz)
  | _ => va_Qi (fun (x : Int32) (w : va_W) => qPo ad kk Q (.inl x.toInt) w) (qB D kk ws sz) (va_A ws sz)
def qPc (g : qG) (D : va_G) (kk : Nat → ClassId) (ws : va_W) (As : List Value) (sz : Nat) : Array Value → State → Prop := va_Pc As (fun U => U.heap.size = sz ∧ va_P D vwCl ws U.heap ∧ va_K D vwCl (zKs kk) U ∧ va_D (fun _ => True) ws ∧ qX g (va_A ws sz) U U.heap)
abbrev qRm (d : Nat) : Room := { frames := d, cells := 0, slots := 0, locals := 60 * d }
def qCo (l : Launch) (g : qG) (D : va_G) (kk : Nat → ClassId) (ad : List Nat) (d j : Nat) (as : List qV) (μ : qM) (Q : qV → qM → Prop) : Prop := ∃ M, qmt j = some M ∧ qrc M.2.2.2.2.1 as ∧ ∀ (ws : va_W) (As : List Value) (sz : Nat), qHr ad kk μ ws → qVs g ad as As →
  Met l M.1 (.code M.1 M.2.1 M.2.2.1 M.2.2.2.1 :: zW) (qRm d) (qPc g D kk ws As sz) (qQc M.2.2.2.1 g D kk ad Q ws sz) 0 0 (va_A ws sz)
theorem qX_moved {u U : State} {H : Heap} (hvm : u.vm.Alike U.vm) (hN : (∀ w ∈ zNs, va_Nw w u) → ∀ w ∈ zNs, va_Nw w U) (hR : ∀ own k tx a, vk_R own k tx a u → vk_R own k tx a U) (h : qX g A u H) : qX g A U H :=
  ⟨hN h.1, ⟨h.2.1.1.moved hvm, h.2.1.2.moved hvm⟩, ⟨h.2.2.1.1.moved hvm, h.2.2.1.2.moved hvm⟩, h.2.2.2.1.moved hvm, ⟨h.2.2.2.2.1.1.moved hvm, h.2.2.2.2.1.2⟩, h.2.2.2.2.2.1.moved hvm, fun i hi => hR _ _ _ _ (h.2.2.2.2.2.2 i hi)⟩
theorem qX_call {u : State} {H : Heap} {B : Nat → Prop} {locs : List Loc} (h : qX g A u u.heap) (hS : va_S A u.heap H locs) (hB : ∀ q, B q → A q) : qX g B u H :=
  ⟨h.1, ⟨(h.2.1.1.kept hS.2.1).narrow hB, (h.2.1.2.kept hS.2.1).narrow hB⟩, ⟨(h.2.2.1.1.kept hS.2.1).narrow hB, (h.2.2.1.2.kept hS.2.1).narrow hB⟩, (h.2.2.2.1.kept hS.2.1).narrow hB, ⟨(h.2.2.2.2.1.1.kept hS.2.1).narrow hB, h.2.2.2.2.1.2⟩, (h.2.2.2.2.2.1.kept hS.2.1).narrow hB, h.2.2.2.2.2.2⟩
theorem qPc_blind {ws : va_W} {As : List Value} {sz : Nat} : FrameBlind (qPc g D kk ws As sz) := fun a U f mk q => by
  obtain ⟨q0, q1, qP, qK, qD, qX⟩ := q
  exact ⟨q0, q1, qP, va_K.moved (u := U) (U := U.calling f mk a) (Vm.Alike.refl U.vm) qK, qD, qX_moved (u := U) (U := U.calling f mk a) (Vm.Alike.refl U.vm) (zN_same rfl) (fun _ _ _ _ h9 => vk_R.same rfl h9) qX⟩
theorem qPc_at {ws : va_W} {As : List Value} {H : Heap} {locs : List Loc} (hK : va_K D vwCl (zKs kk) s) (hX : qX g A s s.heap) (hP : va_P D vwCl ws H) (hD : va_D A ws) (hS : va_S A s.heap H locs) (hF : ∀ q, va_A ws H.size q → A q) : ∀ U : State, U.heap = H → s.WarmedH U.vm → qPc g D kk ws As H.size As.toArray U := fun U hU hW => by
  refine ⟨rfl, by rw [hU], by rw [hU]; exact hP, va_K.moved hW.alike hK, hD.weaken (fun _ _ _ _ => trivial), ?_⟩
  rw [hU]
  exact qX_moved hW.alike (zN_warm hW) (fun _ _ _ _ h9 => vk_R.warm hW h9) (qX_call hX hS hF)
/-- what stands on the stack behind a call -/
def qRes (g : qG) (ad : List Nat) (rk : Nat) (v : qV) (vs : List Value) : Prop := match rk with
  | 0 => vs = []
  | _ => ∃ x, vs = [x] ∧ qVr g ad v x
theorem qcall_core {ret : Option FieldType} {Q0 : qV → qM → Prop} {ws : va_W} {H : Heap} {locs : List Loc} {cells slots : Nat} {ar : Array Slot} {sv rest : List Value} {a9 : Array Value}
    (hr : va_Run p l e R s m args below meth c H locs cells slots 0 0 (F0 m pc ar sv) rest (qQc ret g D kk ad Q0 ws H.size a9) (va_A ws H.size)) (hS : va_S A s.heap H locs) (hF : ∀ q, va_A ws H.size q → A q)
    (kw : ∀ (w : va_W) (H1 : Heap) (locs1 : List Loc) (vs : List Value) (v : qV) (μ1 : qM), qHr ad kk μ1 w → Q0 v μ1 → va_P D vwCl w H1 → va_D A w → va_S A s.heap H1 locs1 → qRes g ad (qrk ret) v vs → W p l e R s m args below meth c H1 locs1 (cells + 0) (slots + 0) Q (F0 m (pc + 3) ar (vs ++ rest))) : W p l e R s m args below meth c H locs cells slots Q (F0 m pc ar sv) := by
  unfold qQc at hr
  generalize qrk ret = n at hr kw
  rcases n with _ | _ | _ | _ | _ | _ | _ | n
  · refine va_callv (a := a9) hr hS (fun q _ h => hF q h) hF (fun u t H1 locs1 ht hvm hw hB hz1 hk1 hS1 => ?_)
    obtain ⟨hP1, hK1, hD1⟩ := hB
    rw [ht] at hP1
    obtain ⟨μ1, h1, h2⟩ := hw
    exact kw u H1 locs1 [] _ μ1 h1 h2 hP1 (hD1.weaken (fun _ _ _ h => hF _ h)) hS1 rfl
  · refine va_calli (a := a9) hr hS (fun q _ h => hF q h) hF (fun x u t H1 locs1 ht hvm hw hB hz1 hk1 hS1 => ?_)
    obtain ⟨hP1, hK1, hD1⟩ := hB
    rw [ht] at hP1
    obtain ⟨μ1, h1, h2⟩ := hw
    exact kw u H1 locs1 [.int x] _ μ1 h1 h2 hP1 (hD1.weaken (fun _ _ _ h => hF _ h)) hS1 ⟨_, rfl, x, rfl, rfl⟩
  · refine va_calli (a := a9) hr hS (fun q _ h => hF q h) hF (fun x u t H1 locs1 ht hvm hw hB hz1 hk1 hS1 => ?_)
    obtain ⟨hP1, hK1, hD1⟩ := hB
    rw [ht] at hP1
    obtain ⟨μ1, h1, h2⟩ := hw
    exact kw u H1 locs1 [.int x] _ μ1 h1 h2 hP1 (hD1.weaken (fun _ _ _ h => hF _ h)) hS1 ⟨_, rfl, x, rfl, rfl⟩
  · refine va_calll (a := a9) hr hS (fun q _ h => hF q h) hF (fun x u t H1 locs1 ht hvm hw hB hz1 hk1 hS1 => ?_)
    obtain ⟨hP1, hK1, hD1⟩ := hB
    rw [ht] at hP1
    obtain ⟨μ1, h1, h2⟩ := hw
    exact kw u H1 locs1 [.long x] _ μ1 h1 h2 hP1 (hD1.weaken (fun _ _ _ h => hF _ h)) hS1 ⟨_, rfl, x, rfl, rfl⟩
  · refine va_calli (a := a9) hr hS (fun q _ h => hF q h) hF (fun x u t H1 locs1 ht hvm hw hB hz1 hk1 hS1 => ?_)
    obtain ⟨hP1, hK1, hD1⟩ := hB
    rw [ht] at hP1
    obtain ⟨μ1, h1, h2⟩ := hw
    exact kw u H1 locs1 [.int x] _ μ1 h1 h2 hP1 (hD1.weaken (fun _ _ _ h => hF _ h)) hS1 ⟨_, rfl, x, rfl, rfl⟩
  · refine va_calli (a := a9) hr hS (fun q _ h => hF q h) hF (fun x u t H1 locs1 ht hvm hw hB hz1 hk1 hS1 => ?_)
    obtain ⟨hP1, hK1, hD1⟩ := hB
    rw [ht] at hP1
    obtain ⟨μ1, h1, h2⟩ := hw
    exact kw u H1 locs1 [.int x] _ μ1 h1 h2 hP1 (hD1.weaken (fun _ _ _ h => hF _ h)) hS1 ⟨_, rfl, x, rfl, rfl⟩
  · refine va_callr (a := a9) hr hS (fun q _ h => hF q h) hF (fun u b t H1 locs1 ht hvm hw hB hz1 hk1 hS1 => ?_)
    obtain ⟨rfl, hP1, hK1, hD1⟩ := hB
    rw [ht] at hP1
    obtain ⟨hu, μ1, h1, h2⟩ := hw
    exact kw u.2 H1 locs1 [.ref (g.1 u.1)] _ μ1 h1 h2 hP1 (hD1.weaken (fun _ _ _ h => hF _ h)) hS1 ⟨_, rfl, Or.inr ⟨by omega, rfl⟩⟩
  · refine va_calli (a := a9) hr hS (fun q _ h => hF q h) hF (fun x u t H1 locs1 ht hvm hw hB hz1 hk1 hS1 => ?_)
    obtain ⟨hP1, hK1, hD1⟩ := hB
    rw [ht] at hP1
    obtain ⟨μ1, h1, h2⟩ := hw
    exact kw u H1 locs1 [.int x] _ μ1 h1 h2 hP1 (hD1.weaken (fun _ _ _ h => hF _ h)) hS1 ⟨_, rfl, x, rfl, rfl⟩
theorem qrc_inv {ci : Nat} : ∀ {as : List qV}, qrc (ci + 1) as → (∃ c t, as = .inr (.inr (.inl c)) :: t ∧ qty c = ci) ∨ (∃ k t, as = .inr (.inr (.inr k)) :: t ∧ ci = 20 ∧ 10 ≤ k ∧ k < 16)
  | [], h => h.elim
  | .inl _ :: _, h => h.elim
  | .inr (.inl _) :: _, h => h.elim
  | .inr (.inr (.inl c)) :: t, h => Or.inl ⟨c, t, rfl, h⟩
  | .inr (.inr (.inr k)) :: t, h => Or.inr ⟨k, t, rfl, h⟩
theorem qtk_ok {ad : List Nat} : ∀ (n : Nat) {st acc : List qV} {sv av : List Value} {as st' : List qV}, qVs g ad st sv → qVs g ad acc av → qtk n st acc = some (as, st') → ∃ As rest, sv = As.reverse ++ (rest : List Value) ∧ qVs g ad as (As ++ av) ∧ qVs g ad st' rest ∧ As.length = n
  | 0, st, acc, sv, av, as, st', h1, h2, e9 => by
    have e9 : some (acc, st) = some (as, st') := e9
    cases e9
    exact ⟨[], sv, rfl, h2, h1, rfl⟩
  | n + 1, [], acc, sv, av, as, st', h1, h2, e9 => by
    have e9 : (none : Option (List qV × List qV)) = some (as, st') := e9
    cases e9
  | n + 1, a :: st, acc, sv, av, as, st', h1, h2, e9 => by
    obtain ⟨v, vs, rfl, hV, hF⟩ := qVs_cons h1
    have e9 : qtk n st (a :: acc) = some (as, st') := e9
    obtain ⟨As, rest, e1, h3, h4, h5⟩ := qtk_ok n hF (show qVs g ad (a :: acc) (v :: av) from ⟨hV, h2⟩) e9
    refine ⟨As ++ [v], rest, ?_, by rw [List.append_assoc]; exact h3, h4, by rw [List.length_append, h5]; rfl⟩
    rw [List.reverse_append, e1]
    rfl
theorem qmem {M : qMt} (hB : qmB M = true) : Jvm.Cond.code M.1 M.2.1 M.2.2.1 M.2.2.2.1 ∈ zW ∧ Jvm.Cond.initialized M.1.cls ∈ zW ∧ (bif Nat.beq M.2.2.2.2.1 0 then zin (.static M.1) else zin (.instanceMethod M.1)) = true ∧ M.2.2.1 ≤ 40 ∧ plainName M.1.cls = true ∧ (M.1.cls ≠ "java/lang/invoke/MethodHandle" ∧ M.1.cls ≠ "java/lang/invoke/VarHandle") ∧ (match M.2.2.2.2.1 with
  | 0 => true
  | ci + 1 => (bif Nat.beq ci 20 then decide (M.1.cls = "java/lang/String") else Nat.blt ci 11 && decide (zRn ci = M.1.cls)) && zin (.selects M.1.cls M.1 M.1)) = true := by
  unfold qmB qmG at hB
  simp only [Bool.and_eq_true] at hB
  exact ⟨zin_ok hB.1, zin_ok hB.2.1, hB.2.2.1, Nat.le_of_ble_eq_true hB.2.2.2.1, of_decide_eq_true hB.2.2.2.2.1, of_decide_eq_true hB.2.2.2.2.2.1, hB.2.2.2.2.2.2⟩
/-- a call, once its words are known: virtual -/
theorem qcallV {M : qMt} {i n d : Nat} {as st' : List qV} {Q0 : qV → qM → Prop} (hC : qCx p s m args meth c cc nL own D kk A g t) (hB : qmB M = true) (hkn : (!(Nat.beq M.2.2.2.2.1 0)) = true) (hlk : zin (.methodLink own i M.1) = true) (hpar : zpar M.1 = some (n - 1)) (hn : 1 ≤ n) (hd : decode cc pc = .ok (.invokevirtual i, 3)) (htk : qtk n st [] = some (as, st')) (h4 : qle4 st' = true) (hrc : qrc M.2.2.2.2.1 as)
    (hMet : ∀ (ws : va_W) (As : List Value) (sz : Nat), qHr ad kk μ ws → qVs g ad as As → Met l M.1 (.code M.1 M.2.1 M.2.2.1 M.2.2.2.1 :: zW) (qRm d) (qPc g D kk ws As sz) (qQc M.2.2.2.1 g D kk ad Q0 ws sz) 0 0 (va_A ws sz))
    (hRf : d + 1 ≤ R.frames) (hRl : 60 * d + 60 ≤ R.locals) (hr1 : nc ≤ R.cells) (hr2 : ns ≤ R.slots)
    (kw : ∀ v μ1, Q0 v μ1 → qWn p l e R s m args below meth c Q D kk A g ad nL nc ns (pc + 3) ls (bif Nat.beq (qrk M.2.2.2.1) 0 then st' else v :: st') μ1) : qWn p l e R s m args below meth c Q D kk A g ad nL nc ns pc ls st μ := by
  obtain ⟨wc, wi, wk, wm, wp, wn, ws4⟩ := qmem hB
  have hts := hC.2.2.2.2.1
  have hroom : (qRm d).frames + 1 ≤ R.frames ∧ 8 + (M.2.2.1 + 11) + (qRm d).locals ≤ R.locals := ⟨hRf, by show 8 + (M.2.2.1 + 11) + 60 * d ≤ _; omega⟩
  intro ar sv H locs ⟨ws, lv, hh, hl, hL, hF, hP, hD, hS⟩
  obtain ⟨As, rest, rfl, hAs, hrest, hAl⟩ := qtk_ok n hF (show qVs g ad [] [] from trivial) htk
  rw [List.append_nil] at hAs
  have hFr := zfree hC.2.2.2.2.2.2.1 hD hS
  obtain ⟨ci, hci⟩ : ∃ ci, M.2.2.2.2.1 = ci + 1 := by
    cases hz : M.2.2.2.2.1 with
    | zero => rw [hz] at hkn; cases hkn
    | succ ci => exact ⟨ci, rfl⟩
  rw [hci] at hrc wk ws4
  have ws4 : ((bif Nat.beq ci 20 then decide (M.1.cls = "java/lang/String") else Nat.blt ci 11 && decide (zRn ci = M.1.cls)) && zin (.selects M.1.cls M.1 M.1)) = true := ws4
  rw [Bool.and_eq_true] at ws4
  have hrecv : ∃ q Ps, As = .ref q :: Ps ∧ ∃ cell : Cell, H[q]? = some cell ∧ cell.vm.isStatics = false ∧ s.vm.findClass M.1.cls = some cell.cls := by
    rcases qrc_inv hrc with ⟨c0, as0, rfl, hrc⟩ | ⟨k0, as0, rfl, hrc⟩
    · obtain ⟨vo, Ps, rfl, ⟨q, hq, rfl, h0⟩, hPs⟩ := qVs_cons hAs
      refine ⟨q, Ps, rfl, ?_⟩
      have hne : Nat.beq ci 20 = false := by
        cases hz : Nat.beq ci 20 with
        | false => rfl
        | true =>
          have e9 := Nat.eq_of_beq_eq_true hz
          subst e9
          obtain ⟨n9, fs9, -, hn9, -⟩ := qty_obj hrc (by decide)
          have h9 : ∀ y ∈ qsh, (match y with
            | .inl x => decide (x.1 < 11)
            | .inr _ => true) = true := by decide +kernel
          have h7 : (20 : Nat) < 11 := of_decide_eq_true (h9 _ (List.mem_of_getElem? hn9))
          omega
      rw [hne] at ws4
      have w5 := ws4.1
      replace w5 : (Nat.blt ci 11 && decide (zRn ci = M.1.cls)) = true := w5
      rw [Bool.and_eq_true] at w5
      have hlt : ci < 11 := Nat.le_of_ble_eq_true w5.1
      have hcl := zcl_ok ci hlt
      obtain ⟨n9, fs9, rfl, hn9, -⟩ := qty_obj hrc (by omega)
      obtain ⟨q1, e1, hw1, hc1⟩ := hh.2 _ _ hn9
      have hq : ad[n9]? = some q := hq
      cases qat_ad hh hq hw1
      obtain ⟨vs1, rfl, -, -⟩ := hc1
      rw [← of_decide_eq_true w5.2]
      exact va_recv hC.2.2.2.2.2.1 hP (ci := ci) (q := (zRn ci, zTn ci, zN ci)) hcl.1 hw1
    · obtain ⟨vo, Ps, rfl, hV, hPs⟩ := qVs_cons hAs
      obtain ⟨rfl, hk1, hk2⟩ := hrc
      rcases hV with ⟨h1, -⟩ | ⟨-, rfl⟩
      · omega
      · refine ⟨_, Ps, rfl, ?_⟩
        have w5 : M.1.cls = "java/lang/String" := of_decide_eq_true ws4.1
        obtain ⟨i9, rfl⟩ : ∃ i9, k0 = 10 + i9 := ⟨k0 - 10, by omega⟩
        rw [w5]
        have h7 := vk_recv (i := i9) hC.2.2.2.2.2.2.2.1.2.2.2.2.2.1 (by omega) hS
        exact h7
  obtain ⟨q, Ps, rfl, hcell⟩ := hrecv
  have hmet := hMet ws (.ref q :: Ps) H.size hh hAs
  have hPl : Ps.length = n - 1 := by
    rw [List.length_cons] at hAl
    omega
  have hsv : (Value.ref q :: Ps).reverse ++ rest = Ps.reverse ++ .ref q :: rest := by
    rw [List.reverse_cons, List.append_assoc]
    rfl
  rw [hsv]
  refine qcall_core (a9 := (Value.ref q :: Ps).toArray) (va_runV (C := M.1.cls) (As := Ps) (rest := rest) (n := n - 1) (maxL := M.2.2.1) (ret := M.2.2.2.1) (bytes := M.2.1) ⟨hC.1, hC.2.1, hC.2.2.1, hC.2.2.2.1, hts⟩ hmet ⟨callB_of (n - 1) hts (zgood wc) rfl rfl rfl (hts _ wi) (hts _ (zin_ok hlk)) ⟨wn.1, wn.2, hpar⟩ hroom, hts _ (zin_ok wk), hts _ (zin_ok ws4.2)⟩ ⟨qPc_blind, hcell, qPc_at hC.2.2.2.2.2.1 hC.2.2.2.2.2.2.2.1 hP hD hS hFr⟩ rfl hPl hl.1 rfl (lv_room (qle4_sum h4 hrest)) hd ⟨by omega, by omega⟩) hS hFr (fun w H1 locs1 vs v μ1 hh1 hQ hP1 hD1 hS1 hres => ?_)
  have hk := kw v μ1 hQ
  cases hz : Nat.beq (qrk M.2.2.2.1) 0 with
  | true =>
    rw [hz] at hk
    have e9 := Nat.eq_of_beq_eq_true hz
    rw [e9] at hres
    have hres : vs = [] := hres
    subst hres
    exact hk ar _ H1 locs1 ⟨w, lv, hh1, hl, hL, hrest, hP1, hD1, hS1⟩
  | false =>
    rw [hz] at hk
    obtain ⟨x, rfl, hx⟩ : ∃ x, vs = [x] ∧ qVr g ad v x := by
      unfold qRes at hres
      split at hres
      · rename_i h9
        rw [h9] at hz
        cases hz
      · exact hres
    exact hk ar _ H1 locs1 ⟨w, lv, hh1, hl, hL, ⟨hx, hrest⟩, hP1, hD1, hS1⟩
/-- and static -/
theorem qcallS {M : qMt} {i n d : Nat} {as st' : List qV} {Q0 : qV → qM → Prop} (hC : qCx p s m args meth c cc nL own D kk A g t) (hB : qmB M = true) (hkn : Nat.beq M.2.2.2.2.1 0 = true) (hlk : zlk2 zin own i M.1 = true) (hpar : zpar M.1 = some n) (hd : decode cc pc = .ok (.invokestatic i, 3)) (htk : qtk n st [] = some (as, st')) (h4 : qle4 st' = true)
    (hMet : ∀ (ws : va_W) (As : List Value) (sz : Nat), qHr ad kk μ ws → qVs g ad as As → Met l M.1 (.code M.1 M.2.1 M.2.2.1 M.2.2.2.1 :: zW) (qRm d) (qPc g D kk ws As sz) (qQc M.2.2.2.1 g D kk ad Q0 ws sz) 0 0 (va_A ws sz))
    (hRf : d + 1 ≤ R.frames) (hRl : 60 * d + 60 ≤ R.locals) (hr1 : nc ≤ R.cells) (hr2 : ns ≤ R.slots)
    (kw : ∀ v μ1, Q0 v μ1 → qWn p l e R s m args below meth c Q D kk A g ad nL nc ns (pc + 3) ls (bif Nat.beq (qrk M.2.2.2.1) 0 then st' else v :: st') μ1) : qWn p l e R s m args below meth c Q D kk A g ad nL nc ns pc ls st μ := by
  obtain ⟨wc, wi, wk, wm, wp, wn, ws4⟩ := qmem hB
  have hts := hC.2.2.2.2.1
  have hroom : (qRm d).frames + 1 ≤ R.frames ∧ 8 + (M.2.2.1 + 11) + (qRm d).locals ≤ R.locals := ⟨hRf, by show 8 + (M.2.2.1 + 11) + 60 * d ≤ _; omega⟩
  rw [hkn] at wk
  intro ar sv H locs ⟨ws, lv, hh, hl, hL, hF, hP, hD, hS⟩
  obtain ⟨As, rest, rfl, hAs, hrest, hAl⟩ := qtk_ok n hF (show qVs g ad [] [] from trivial) htk
  rw [List.append_nil] at hAs
  have hFr := zfree hC.2.2.2.2.2.2.1 hD hS
  have hmet := hMet ws As H.size hh hAs
  have hpre : PreS s H (qPc g D kk ws As H.size) As := ⟨qPc_blind, qPc_at hC.2.2.2.2.2.1 hC.2.2.2.2.2.2.2.1 hP hD hS hFr⟩
  have fin : ∀ (w : va_W) (H1 : Heap) (locs1 : List Loc) (vs : List Value) (v : qV) (μ1 : qM), qHr ad kk μ1 w → Q0 v μ1 → va_P D vwCl w H1 → va_D A w → va_S A s.heap H1 locs1 → qRes g ad (qrk M.2.2.2.1) v vs → W p l e R s m args below meth c H1 locs1 (nc + 0) (ns + 0) Q (F0 m (pc + 3) ar (vs ++ rest)) := fun w H1 locs1 vs v μ1 hh1 hQ hP1 hD1 hS1 hres => by
    have hk := kw v μ1 hQ
    cases hz : Nat.beq (qrk M.2.2.2.1) 0 with
    | true =>
      rw [hz] at hk
      have e9 := Nat.eq_of_beq_eq_true hz
      rw [e9] at hres
      have hres : vs = [] := hres
      subst hres
      exact hk ar _ H1 locs1 ⟨w, lv, hh1, hl, hL, hrest, hP1, hD1, hS1⟩
    | false =>
      rw [hz] at hk
      obtain ⟨x, rfl, hx⟩ : ∃ x, vs = [x] ∧ qVr g ad v x := by
        unfold qRes at hres
        split at hres
        · rename_i h9
          rw [h9] at hz
          cases hz
        · exact hres
      exact hk ar _ H1 locs1 ⟨w, lv, hh1, hl, hL, ⟨hx, hrest⟩, hP1, hD1, hS1⟩
  unfold zlk2 at hlk
  rw [Bool.or_eq_true] at hlk
  rcases hlk with hlk | hlk
  · exact qcall_core (a9 := As.toArray) (va_runS (As := As) (rest := rest) (n := n) (maxL := M.2.2.1) (ret := M.2.2.2.1) (bytes := M.2.1) ⟨hC.1, hC.2.1, hC.2.2.1, hC.2.2.2.1, hts⟩ hmet ⟨callB_of n hts (zgood wc) rfl rfl rfl (hts _ wi) (hts _ (zin_ok hlk)) ⟨wn.1, wn.2, hpar⟩ hroom, hts _ (zin_ok wk)⟩ hpre rfl hAl hl.1 rfl (lv_room (qle4_sum h4 hrest)) hd ⟨by omega, by omega⟩) hS hFr fin
  · exact qcall_core (a9 := As.toArray) (va_runSN (As := As) (rest := rest) (n := n) (maxL := M.2.2.1) (ret := M.2.2.2.1) (bytes := M.2.1) ⟨hC.1, hC.2.1, hC.2.2.1, hC.2.2.2.1, hts⟩ hmet ⟨va_cnB n hts (zgood wc) rfl rfl rfl (hC.2.2.2.2.2.2.2.1.1 _ (zin_nest hlk)) (hts _ wi) ⟨wn.1, wn.2, hpar⟩ hroom, hts _ (zin_ok wk), trivial⟩ hpre rfl hAl hl.1 rfl (lv_room (qle4_sum h4 hrest)) hd ⟨by omega, by omega⟩) hS hFr fin
end QC
end
section
section QR
variable {p : Program} {l : Launch} {e : Env} {R : Room} {s : State} {m : MethodId} {args : Array Value} {below : List Frame} {meth : Method} {c : Code} {Q : State → Prop} {D : va_G} {kk : Nat → ClassId} {A : Nat → Prop} {g : qG} {ad : List Nat} {nL nc ns : Nat} {cc : ByteArray} {own : String} {t : qT} {pc : Nat} {ls : qL} {st : List qV} {μ : qM}
theorem qfk_all (t : FieldType) : qfk t = 0 ∨ qfk t = 1 ∨ qfk t = 2 ∨ qfk t = 3 := by
  unfold qfk
  split
  · exact Or.inr (Or.inl rfl)
  · exact Or.inr (Or.inr (Or.inl rfl))
  · exact Or.inr (Or.inr (Or.inr rfl))
  · exact Or.inr (Or.inr (Or.inr rfl))
  · exact Or.inl rfl
theorem zx_w1 : zin (.native arraycopyName) = true := by decide +kernel
theorem zx_w2 : zin (.static arraycopyName) = true := by decide +kernel
theorem zx_w3 : zin (.initialized "java/lang/System") = true := by decide +kernel
theorem zx_w4 : zin (.static Lib.Math.max.name) = true := by decide +kernel
theorem zx_w5 : zin (.static Lib.Math.min.name) = true := by decide +kernel
theorem zx_w6 : zin (.initialized "java/lang/Math") = true := by decide +kernel
theorem zx_w7 : zin (.code Lib.Math.max.name Lib.Math.max.code 2 (some .int)) = true := by decide +kernel
theorem zx_w8 : zin (.code Lib.Math.min.name Lib.Math.min.code 2 (some .int)) = true := by decide +kernel
set_option maxHeartbeats 4000000 in
/-- every step of the q-layer but a return is a step of the machine -/
theorem qh_all {ins : Instr} {len r1 r2 d rk : Nat} {k9 : Int} {Rt : qV → qM → Prop} (hC : qCx p s m args meth c cc nL own D kk A g t) (hM : ∀ j M, qmt j = some M → qmB M = true) (hb : qfB own nL len r1 r2 k9 pc ins = true) (hd : decode cc pc = .ok (ins, len)) (hco : ∀ j as μ Q, qmw d j as μ Q → qCo l g D kk ad d j as μ Q) (hRf : d + 1 ≤ R.frames) (hRl : 60 * d + 60 ≤ R.locals) (hr1 : nc ≤ R.cells) (hr2 : ns ≤ R.slots)
    (hret : ∀ ls st μ, (ins = .ireturn ∧ qs_iret rk Rt ls st μ) ∨ (ins = .lreturn ∧ qs_lret rk Rt ls st μ) ∨ (ins = .areturn ∧ qs_aret rk Rt ls st μ) ∨ (ins = .return_ ∧ qs_vret rk Rt ls st μ) → qWn p l e R s m args below meth c Q D kk A g ad nL nc ns pc ls st μ)
    (hs : qsel (qmw d) t rk Rt (qWn p l e R s m args below meth c Q D kk A g ad nL nc ns) pc ins len r1 r2 k9 ls st μ) : qWn p l e R s m args below meth c Q D kk A g ad nL nc ns pc ls st μ := by
  cases ins
  case iload_n k =>
    have hlen : len = 1 := Nat.eq_of_beq_eq_true hb
    subst hlen
    exact qh_iload_n hC hd hs
  case iload k =>
    have hlen : len = 2 := Nat.eq_of_beq_eq_true hb
    subst hlen
    exact qh_iload hC hd hs
  case aload_n k =>
    have hlen : len = 1 := Nat.eq_of_beq_eq_true hb
    subst hlen
    exact qh_aload_n hC hd hs
  case aload k =>
    have hlen : len = 2 := Nat.eq_of_beq_eq_true hb
    subst hlen
    exact qh_aload hC hd hs
  case lload_n k =>
    have hlen : len = 1 := Nat.eq_of_beq_eq_true hb
    subst hlen
    exact qh_lload_n hC hd hs
  case lload k =>
    have hlen : len = 2 := Nat.eq_of_beq_eq_true hb
    subst hlen
    exact qh_lload hC hd hs
  case istore_n k =>
    have hb := (Bool.and_eq_true _ _).mp hb
    have hlen : len = 1 := Nat.eq_of_beq_eq_true hb.1
    subst hlen
    exact qh_istore_n hC (Nat.le_of_ble_eq_true hb.2) hd hs
  case istore k =>
    have hb := (Bool.and_eq_true _ _).mp hb
    have hlen : len = 2 := Nat.eq_of_beq_eq_true hb.1
    subst hlen
    exact qh_istore hC (Nat.le_of_ble_eq_true hb.2) hd hs
  case astore_n k =>
    have hb := (Bool.and_eq_true _ _).mp hb
    have hlen : len = 1 := Nat.eq_of_beq_eq_true hb.1
    subst hlen
    exact qh_astore_n hC (Nat.le_of_ble_eq_true hb.2) hd hs
  case astore k =>
    have hb := (Bool.and_eq_true _ _).mp hb
    have hlen : len = 2 := Nat.eq_of_beq_eq_true hb.1
    subst hlen
    exact qh_astore hC (Nat.le_of_ble_eq_true hb.2) hd hs
  case lstore_n k =>
    have hb := (Bool.and_eq_true _ _).mp hb
    have hlen : len = 1 := Nat.eq_of_beq_eq_true hb.1
    subst hlen
    exact qh_lstore_n hC (Nat.le_of_ble_eq_true hb.2) hd hs
  case lstore k =>
    have hb := (Bool.and_eq_true _ _).mp hb
    have hlen : len = 2 := Nat.eq_of_beq_eq_true hb.1
    subst hlen
    exact qh_lstore hC (Nat.le_of_ble_eq_true hb.2) hd hs
  case iconst n =>
    have hb := (Bool.and_eq_true _ _).mp hb
    have hlen : len = 1 := Nat.eq_of_beq_eq_true hb.1
    subst hlen
    exact qh_iconst hC (zi32_ok hb.2) hd hs
  case bipush n =>
    have hb := (Bool.and_eq_true _ _).mp hb
    have hlen : len = 2 := Nat.eq_of_beq_eq_true hb.1
    subst hlen
    have hb2 := (Bool.and_eq_true _ _).mp hb.2
    exact qh_bipush hC (zi32_ok hb2.1) (of_decide_eq_true hb2.2) hd hs
  case sipush n =>
    have hb := (Bool.and_eq_true _ _).mp hb
    have hlen : len = 3 := Nat.eq_of_beq_eq_true hb.1
    subst hlen
    have hb2 := (Bool.and_eq_true _ _).mp hb.2
    exact qh_sipush hC (zi32_ok hb2.1) (of_decide_eq_true hb2.2) hd hs
  case lconst n =>
    have hlen : len = 1 := Nat.eq_of_beq_eq_true hb
    subst hlen
    exact qh_lconst hC hd hs
  case ldc i =>
    simp only [qfB, qfG, Bool.and_eq_true] at hb
    have hlen : len = 2 := Nat.eq_of_beq_eq_true hb.1
    subst hlen
    exact qh_ldc hC (of_decide_eq_true hb.2.1) (Nat.le_of_ble_eq_true hb.2.2.1) (Nat.eq_of_beq_eq_true hb.2.2.2) hd hs
  case ldc_w i =>
    simp only [qfB, qfG, Bool.and_eq_true] at hb
    have hlen : len = 3 := Nat.eq_of_beq_eq_true hb.1
    subst hlen
    have hr := zi32_ok hb.2.1
    have hs : qs_push (.inl k9) (qWn p l e R s m args below meth c Q D kk A g ad nL nc ns (pc + 3)) ls st μ := hs
    rw [← fb_ofI hr.1 hr.2] at hs
    exact qh_ldc_w hC (zin_ok hb.2.2) hd hs
  case ldc2_w i =>
    simp only [qfB, qfG, Bool.and_eq_true] at hb
    have hlen : len = 3 := Nat.eq_of_beq_eq_true hb.1
    subst hlen
    have hr := zeq_iff.mp hb.2.1
    have hs : qs_push (.inr (.inl k9)) (qWn p l e R s m args below meth c Q D kk A g ad nL nc ns (pc + 3)) ls st μ := hs
    rw [← hr] at hs
    exact qh_ldc2_w hC (zin_ok hb.2.2) hd hs
  case iadd =>
    have hlen : len = 1 := Nat.eq_of_beq_eq_true hb
    subst hlen
    exact qh_iadd hC hd hs
  case isub =>
    have hlen : len = 1 := Nat.eq_of_beq_eq_true hb
    subst hlen
    exact qh_isub hC hd hs
  case imul =>
    have hlen : len = 1 := Nat.eq_of_beq_eq_true hb
    subst hlen
    exact qh_imul hC hd hs
  case idiv =>
    have hlen : len = 1 := Nat.eq_of_beq_eq_true hb
    subst hlen
    exact qh_idiv hC hd hs
  case irem =>
    have hlen : len = 1 := Nat.eq_of_beq_eq_true hb
    subst hlen
    exact qh_irem hC hd hs
  case iand =>
    have hlen : len = 1 := Nat.eq_of_beq_eq_true hb
    subst hlen
    exact qh_iand hC hd hs
  case ior =>
    have hlen : len = 1 := Nat.eq_of_beq_eq_true hb
    subst hlen
    exact qh_ior hC hd hs
  case ixor =>
    have hlen : len = 1 := Nat.eq_of_beq_eq_true hb
    subst hlen
    exact qh_ixor hC hd hs
  case ishl =>
    have hlen : len = 1 := Nat.eq_of_beq_eq_true hb
    subst hlen
    exact qh_ishl hC hd hs
  case ishr =>
    have hlen : len = 1 := Nat.eq_of_beq_eq_true hb
    subst hlen
    exact qh_ishr hC hd hs
  case iushr =>
    have hlen : len = 1 := Nat.eq_of_beq_eq_true hb
    subst hlen
    exact qh_iushr hC hd hs
  case ladd =>
    have hlen : len = 1 := Nat.eq_of_beq_eq_true hb
    subst hlen
    exact qh_ladd hC hd hs
  case lsub =>
    have hlen : len = 1 := Nat.eq_of_beq_eq_true hb
    subst hlen
    exact qh_lsub hC hd hs
  case lmul =>
    have hlen : len = 1 := Nat.eq_of_beq_eq_true hb
    subst hlen
    exact qh_lmul hC hd hs
  case lrem =>
    have hlen : len = 1 := Nat.eq_of_beq_eq_true hb
    subst hlen
    exact qh_lrem hC hd hs
  case land =>
    have hlen : len = 1 := Nat.eq_of_beq_eq_true hb
    subst hlen
    exact qh_land hC hd hs
  case lor =>
    have hlen : len = 1 := Nat.eq_of_beq_eq_true hb
    subst hlen
    exact qh_lor hC hd hs
  case lshl =>
    have hlen : len = 1 := Nat.eq_of_beq_eq_true hb
    subst hlen
    exact qh_lshl hC hd hs
  case lshr =>
    have hlen : len = 1 := Nat.eq_of_beq_eq_true hb
    subst hlen
    exact qh_lshr hC hd hs
  case lushr =>
    have hlen : len = 1 := Nat.eq_of_beq_eq_true hb
    subst hlen
    exact qh_lushr hC hd hs
  case i2l =>
    have hlen : len = 1 := Nat.eq_of_beq_eq_true hb
    subst hlen
    exact qh_i2l hC hd hs
  case l2i =>
    have hlen : len = 1 := Nat.eq_of_beq_eq_true hb
    subst hlen
    exact qh_l2i hC hd hs
  case i2b =>
    have hlen : len = 1 := Nat.eq_of_beq_eq_true hb
    subst hlen
    exact qh_i2b hC hd hs
  case i2c =>
    have hlen : len = 1 := Nat.eq_of_beq_eq_true hb
    subst hlen
    exact qh_i2c hC hd hs
  case lcmp =>
    have hlen : len = 1 := Nat.eq_of_beq_eq_true hb
    subst hlen
    exact qh_lcmp hC hd hs
  case dup =>
    have hlen : len = 1 := Nat.eq_of_beq_eq_true hb
    subst hlen
    exact qh_dup hC hd hs
  case dup2 =>
    have hlen : len = 1 := Nat.eq_of_beq_eq_true hb
    subst hlen
    exact qh_dup2 hC hd hs
  case pop =>
    have hlen : len = 1 := Nat.eq_of_beq_eq_true hb
    subst hlen
    exact qh_pop hC hd hs
  case iaload =>
    have hlen : len = 1 := Nat.eq_of_beq_eq_true hb
    subst hlen
    exact qh_iaload hC hd hs
  case baload =>
    have hlen : len = 1 := Nat.eq_of_beq_eq_true hb
    subst hlen
    exact qh_baload hC hd hs
  case caload =>
    have hlen : len = 1 := Nat.eq_of_beq_eq_true hb
    subst hlen
    exact qh_caload hC hd hs
  case laload =>
    have hlen : len = 1 := Nat.eq_of_beq_eq_true hb
    subst hlen
    exact qh_laload hC hd hs
  case aaload =>
    have hlen : len = 1 := Nat.eq_of_beq_eq_true hb
    subst hlen
    exact qh_aaload hC hd hs
  case iastore =>
    have hlen : len = 1 := Nat.eq_of_beq_eq_true hb
    subst hlen
    exact qh_iastore hC hd hs
  case bastore =>
    have hlen : len = 1 := Nat.eq_of_beq_eq_true hb
    subst hlen
    exact qh_bastore hC hd hs
  case castore =>
    have hlen : len = 1 := Nat.eq_of_beq_eq_true hb
    subst hlen
    exact qh_castore hC hd hs
  case lastore =>
    have hlen : len = 1 := Nat.eq_of_beq_eq_true hb
    subst hlen
    exact qh_lastore hC hd hs
  case arraylength =>
    have hlen : len = 1 := Nat.eq_of_beq_eq_true hb
    subst hlen
    exact qh_alen hC hd hs
  case iinc k n =>
    simp only [qfB, qfG, Bool.and_eq_true] at hb
    have hlen : len = 3 := Nat.eq_of_beq_eq_true hb.1
    subst hlen
    exact qh_iinc hC (zi32_ok hb.2.2) (Nat.le_of_ble_eq_true hb.2.1) hd hs
  case goto off =>
    have hb := (Bool.and_eq_true _ _).mp hb
    have hlen : len = 3 := Nat.eq_of_beq_eq_true hb.1
    subst hlen
    exact qh_goto hC (zeq_iff.mp hb.2) hd hs
  case if_icmp k off =>
    have hb := (Bool.and_eq_true _ _).mp hb
    have hlen : len = 3 := Nat.eq_of_beq_eq_true hb.1
    subst hlen
    exact qh_icmp hC (zeq_iff.mp hb.2) hd hs
  case ifCond k off =>
    have hb := (Bool.and_eq_true _ _).mp hb
    have hlen : len = 3 := Nat.eq_of_beq_eq_true hb.1
    subst hlen
    exact qh_if hC (zeq_iff.mp hb.2) hd hs
  case tableswitch df lo hi offs =>
    simp only [qfB, qfG, Bool.and_eq_true] at hb
    exact qh_table hC ⟨zle_iff.mp hb.1, fun o ho => zle_iff.mp (List.all_eq_true.mp hb.2.1 o ho), zeq_iff.mp hb.2.2⟩ hd hs
  case getfield i =>
    have hb := (Bool.and_eq_true _ _).mp hb
    have hlen : len = 3 := Nat.eq_of_beq_eq_true hb.1
    subst hlen
    have hb2 := hb.2
    have hs : qgf r1 r2 (qWn p l e R s m args below meth c Q D kk A g ad nL nc ns (pc + 3)) ls st μ := hs
    unfold qgf at hs
    cases hz : Nat.beq r1 20 with
    | true =>
      rw [hz] at hs hb2
      exact qh_gsc hC (zin_ok hb2) hd hs
    | false =>
      rw [hz] at hs hb2
      cases hz2 : Nat.beq r1 21 with
      | true =>
        rw [hz2] at hs hb2
        exact qh_gsv hC (zin_ok hb2) hd hs
      | false =>
        rw [hz2] at hs hb2
        replace hb2 : (Nat.blt r1 11 && (Nat.blt r2 (zN r1) && zin (.fieldLink own i (zTn r1 r2).1 (zTn r1 r2).2.1 (zTn r1 r2).2.2.1))) = true := hb2
        simp only [Bool.and_eq_true] at hb2
        have hlt : r1 < 11 := Nat.le_of_ble_eq_true hb2.1
        have hcl := zcl_ok r1 hlt
        have hk : r2 < zN r1 := Nat.le_of_ble_eq_true hb2.2.1
        replace hs : (match qfk (zty r1 r2) with
          | 2 => qs_gl r1 r2 (qWn p l e R s m args below meth c Q D kk A g ad nL nc ns (pc + 3))
          | 3 => qs_gr r1 r2 (qWn p l e R s m args below meth c Q D kk A g ad nL nc ns (pc + 3))
          | _ => qs_gi r1 r2 (qWn p l e R s m args below meth c Q D kk A g ad nL nc ns (pc + 3))) ls st μ := hs
        rcases qfk_all (zty r1 r2) with h9 | h9 | h9 | h9
        · rw [h9] at hs
          exact qh_gi hC (by omega) hcl hk (zin_ok hb2.2.2) h9 hd hs
        · rw [h9] at hs
          exact qh_gb hC (by omega) hcl hk (zin_ok hb2.2.2) h9 hd hs
        · rw [h9] at hs
          exact qh_gl hC (by omega) hcl hk (zin_ok hb2.2.2) h9 hd hs
        · rw [h9] at hs
          exact qh_gr hC (by omega) hcl hk (zin_ok hb2.2.2) h9 hd hs
  case putfield i =>
    have hb := (Bool.and_eq_true _ _).mp hb
    have hlen : len = 3 := Nat.eq_of_beq_eq_true hb.1
    subst hlen
    have hb2 := hb.2
    simp only [Bool.and_eq_true] at hb2
    have hlt : r1 < 11 := Nat.le_of_ble_eq_true hb2.1
    have hcl := zcl_ok r1 hlt
    have hk : r2 < zN r1 := Nat.le_of_ble_eq_true hb2.2.1
    have hfn : (zTn r1 r2).2.2.2 = false := by
      have := hb2.2.2.2.1
      cases hz : (zTn r1 r2).2.2.2 with
      | false => rfl
      | true => rw [hz] at this; cases this
    have hpt := hb2.2.2.2.2
    have hs : qpf r1 r2 (qWn p l e R s m args below meth c Q D kk A g ad nL nc ns (pc + 3)) ls st μ := hs
    unfold qpf at hs
    unfold qpt at hpt
    split at hpt
    · rename_i h9
      have h8 : qfk (zty r1 r2) = 0 := by rw [h9]; rfl
      rw [h8] at hs
      exact qh_pi hC (by omega) hcl hk (zin_ok hb2.2.2.1) hfn h9 h8 hd hs
    · rename_i h9
      have h8 : qfk (zty r1 r2) = 1 := by rw [h9]; rfl
      rw [h8] at hs
      exact qh_pb hC (by omega) hcl hk (zin_ok hb2.2.2.1) hfn h9 h8 hd hs
    · rename_i h9
      have h8 : qfk (zty r1 r2) = 2 := by rw [h9]; rfl
      rw [h8] at hs
      exact qh_pl hC (by omega) hcl hk (zin_ok hb2.2.2.1) hfn h9 h8 hd hs
    · cases hpt
  case getstatic i =>
    have hb := (Bool.and_eq_true _ _).mp hb
    have hlen : len = 3 := Nat.eq_of_beq_eq_true hb.1
    subst hlen
    have hb2 := hb.2
    refine qh_gets hC ?_ hd hs
    cases hz : Nat.beq r1 0 with
    | true =>
      rw [hz] at hb2
      exact Or.inl ⟨Nat.eq_of_beq_eq_true hz, zin_ok hb2⟩
    | false =>
      rw [hz] at hb2
      cases hz1 : Nat.beq r1 1 with
      | true =>
        rw [hz1] at hb2
        exact Or.inr (Or.inl ⟨Nat.eq_of_beq_eq_true hz1, zin_ok hb2⟩)
      | false =>
        rw [hz1] at hb2
        cases hz2 : Nat.beq r1 2 with
        | true =>
          rw [hz2] at hb2
          exact Or.inr (Or.inr (Or.inl ⟨Nat.eq_of_beq_eq_true hz2, zin_ok hb2⟩))
        | false =>
          rw [hz2] at hb2
          have hb3 := (Bool.and_eq_true _ _).mp hb2
          exact Or.inr (Or.inr (Or.inr ⟨Nat.eq_of_beq_eq_true hb3.1, zin_ok hb3.2⟩))
  case invokevirtual i =>
    have hb := (Bool.and_eq_true _ _).mp hb
    have hlen : len = 3 := Nat.eq_of_beq_eq_true hb.1
    subst hlen
    have hb2 := hb.2
    split at hb2
    · rename_i M hMj
      simp only [Bool.and_eq_true] at hb2
      obtain ⟨hkn, hnin, hlk, hpar⟩ := hb2
      have hs : qinv (qmw d) r1 r2 (qWn p l e R s m args below meth c Q D kk A g ad nL nc ns (pc + 3)) ls st μ := hs
      unfold qinv at hs
      cases hz9 : Nat.ble 100 r2 with
      | true =>
        rw [hz9] at hs hpar
        replace hs : qs_cv (qmw d) r1 (r2 - 100) (qWn p l e R s m args below meth c Q D kk A g ad nL nc ns (pc + 3)) ls st μ := hs
        unfold qs_cv at hs
        split at hs
        · rename_i as st' htk
          replace hs := qif_ok hs
          obtain ⟨M1, hM1, hrc, hMet⟩ := hco _ _ _ _ hs.2
          rw [hMj] at hM1
          cases hM1
          replace hpar : (decide (zpar M.1 = some (r2 - 101)) && (Nat.beq (qrk M.2.2.2.1) 0 && Nat.ble 101 r2)) = true := hpar
          simp only [Bool.and_eq_true] at hpar
          have h101 : 101 ≤ r2 := Nat.le_of_ble_eq_true hpar.2.2
          exact qcallV hC (hM _ _ hMj) hkn hlk (by rw [of_decide_eq_true hpar.1]; congr 1) (by omega) hd htk hs.1 hrc hMet hRf hRl hr1 hr2 (fun v μ1 h9 => by rw [hpar.2.1]; exact h9)
        · exact hs.elim
      | false =>
        rw [hz9] at hs hpar
        replace hs : qs_cr (qmw d) r1 r2 (qWn p l e R s m args below meth c Q D kk A g ad nL nc ns (pc + 3)) ls st μ := hs
        unfold qs_cr at hs
        split at hs
        · rename_i as st' htk
          replace hs := qif_ok hs
          obtain ⟨M1, hM1, hrc, hMet⟩ := hco _ _ _ _ hs.2
          rw [hMj] at hM1
          cases hM1
          replace hpar : (decide (zpar M.1 = some (r2 - 1)) && (!(Nat.beq (qrk M.2.2.2.1) 0) && Nat.ble 1 r2)) = true := hpar
          simp only [Bool.and_eq_true] at hpar
          have h101 : 1 ≤ r2 := Nat.le_of_ble_eq_true hpar.2.2
          have hnz : Nat.beq (qrk M.2.2.2.1) 0 = false := by
            cases hz : Nat.beq (qrk M.2.2.2.1) 0 with
            | false => rfl
            | true => rw [hz] at hpar; cases hpar.2.1
          exact qcallV hC (hM _ _ hMj) hkn hlk (of_decide_eq_true hpar.1) h101 hd htk hs.1 hrc hMet hRf hRl hr1 hr2 (fun v μ1 h9 => by rw [hnz]; exact h9)
        · exact hs.elim
    · cases hb2
  case invokestatic i =>
    have hb := (Bool.and_eq_true _ _).mp hb
    have hlen : len = 3 := Nat.eq_of_beq_eq_true hb.1
    subst hlen
    have hb2 := hb.2
    replace hs : (bif Nat.beq r1 1001 then qs_copy (qWn p l e R s m args below meth c Q D kk A g ad nL nc ns (pc + 3)) else bif Nat.beq r1 1002 then qs_mm qmax (qWn p l e R s m args below meth c Q D kk A g ad nL nc ns (pc + 3)) else bif Nat.beq r1 1003 then qs_mm qmin (qWn p l e R s m args below meth c Q D kk A g ad nL nc ns (pc + 3)) else qinv (qmw d) r1 r2 (qWn p l e R s m args below meth c Q D kk A g ad nL nc ns (pc + 3))) ls st μ := hs
    cases hz1 : Nat.beq r1 1001 with
    | true =>
      rw [hz1] at hs hb2
      exact qh_copy hC (zin_ok hb2) (zin_ok zx_w1) (zin_ok zx_w2) (zin_ok zx_w3) (by omega) (by omega) hd hs
    | false =>
     rw [hz1] at hs hb2
     cases hz2 : Nat.beq r1 1002 with
     | true =>
       rw [hz2] at hs hb2
       exact qh_mmax hC (zin_ok hb2) (zin_ok zx_w4) (zin_ok zx_w6) (zin_ok zx_w7) (by omega) (by omega) hr1 hr2 hd hs
     | false =>
      rw [hz2] at hs hb2
      cases hz3 : Nat.beq r1 1003 with
      | true =>
        rw [hz3] at hs hb2
        exact qh_mmin hC (zin_ok hb2) (zin_ok zx_w5) (zin_ok zx_w6) (zin_ok zx_w8) (by omega) (by omega) hr1 hr2 hd hs
      | false =>
       rw [hz3] at hs hb2
       replace hb2 : (match qmt r1 with
         | some M => Nat.beq M.2.2.2.2.1 0 && (zlk2 zin own i M.1 && ((bif Nat.ble 100 r2 then decide (zpar M.1 = some (r2 - 100)) && Nat.beq (qrk M.2.2.2.1) 0 else decide (zpar M.1 = some r2) && !(Nat.beq (qrk M.2.2.2.1) 0))))
         | none => false) = true := hb2
       split at hb2
       · rename_i M hMj
         simp only [Bool.and_eq_true] at hb2
         obtain ⟨hkn, hlk, hpar⟩ := hb2
         have hs : qinv (qmw d) r1 r2 (qWn p l e R s m args below meth c Q D kk A g ad nL nc ns (pc + 3)) ls st μ := hs
         unfold qinv at hs
         cases hz9 : Nat.ble 100 r2 with
         | true =>
           rw [hz9] at hs hpar
           replace hs : qs_cv (qmw d) r1 (r2 - 100) (qWn p l e R s m args below meth c Q D kk A g ad nL nc ns (pc + 3)) ls st μ := hs
           unfold qs_cv at hs
           split at hs
           · rename_i as st' htk
             replace hs := qif_ok hs
             obtain ⟨M1, hM1, hrc, hMet⟩ := hco _ _ _ _ hs.2
             rw [hMj] at hM1
             cases hM1
             replace hpar : (decide (zpar M.1 = some (r2 - 100)) && Nat.beq (qrk M.2.2.2.1) 0) = true := hpar
             simp only [Bool.and_eq_true] at hpar
             exact qcallS hC (hM _ _ hMj) hkn hlk (of_decide_eq_true hpar.1) hd htk hs.1 hMet hRf hRl hr1 hr2 (fun v μ1 h9 => by rw [hpar.2]; exact h9)
           · exact hs.elim
         | false =>
           rw [hz9] at hs hpar
           replace hs : qs_cr (qmw d) r1 r2 (qWn p l e R s m args below meth c Q D kk A g ad nL nc ns (pc + 3)) ls st μ := hs
           unfold qs_cr at hs
           split at hs
           · rename_i as st' htk
             replace hs := qif_ok hs
             obtain ⟨M1, hM1, hrc, hMet⟩ := hco _ _ _ _ hs.2
             rw [hMj] at hM1
             cases hM1
             replace hpar : (decide (zpar M.1 = some r2) && !(Nat.beq (qrk M.2.2.2.1) 0)) = true := hpar
             simp only [Bool.and_eq_true] at hpar
             have hnz : Nat.beq (qrk M.2.2.2.1) 0 = false := by
               cases hz : Nat.beq (qrk M.2.2.2.1) 0 with
               | false => rfl
               | true => rw [hz] at hpar; cases hpar.2
             exact qcallS hC (hM _ _ hMj) hkn hlk (of_decide_eq_true hpar.1) hd htk hs.1 hMet hRf hRl hr1 hr2 (fun v μ1 h9 => by rw [hnz]; exact h9)
           · exact hs.elim
       · cases hb2
  case ireturn => exact hret _ _ _ (Or.inl ⟨rfl, hs⟩)
  case lreturn => exact hret _ _ _ (Or.inr (Or.inl ⟨rfl, hs⟩))
  case areturn => exact hret _ _ _ (Or.inr (Or.inr (Or.inl ⟨rfl, hs⟩)))
  case return_ => exact hret _ _ _ (Or.inr (Or.inr (Or.inr ⟨rfl, hs⟩)))
  all_goals exact hs.elim
theorem qrk_0 {r : Option FieldType} (h : qrk r = 0) : r = none := by
  unfold qrk at h
  split at h <;> first | rfl | cases h
theorem qrk_1 {r : Option FieldType} (h : qrk r = 1) : r = some .int := by
  unfold qrk at h
  split at h <;> first | rfl | cases h
theorem qrk_2 {r : Option FieldType} (h : qrk r = 2) : r = some .boolean := by
  unfold qrk at h
  split at h <;> first | rfl | cases h
theorem qrk_3 {r : Option FieldType} (h : qrk r = 3) : r = some .long := by
  unfold qrk at h
  split at h <;> first | rfl | cases h
theorem qrk_4 {r : Option FieldType} (h : qrk r = 4) : r = some .char := by
  unfold qrk at h
  split at h <;> first | rfl | cases h
theorem qrk_6 {r : Option FieldType} (h : qrk r = 6) : ∃ n, r = some (.object n) := by
  unfold qrk at h
  split at h <;> first | exact ⟨_, rfl⟩ | cases h
theorem qrk_5 {r : Option FieldType} (h : qrk r = 5) : r = some .byte := by
  unfold qrk at h
  split at h <;> first | rfl | cases h
theorem qent_ok {g : qG} {ad : List Nat} : ∀ {as : List qV} {As : List Value} (n i : Nat), qVs g ad as As → ∀ k v, qg (qent as n) k = some v → ∃ w, (i + k, w) ∈ lv_args i As ∧ qVr g ad v w
  | [], [], n, i, _, k, v, hk => by
    exfalso
    have h0 : ∀ (n k : Nat), qg (qrep n) k = none := by
      intro n
      induction n with
      | zero => intro k; rfl
      | succ n ih =>
        intro k
        cases k with
        | zero => rfl
        | succ k => exact ih k
    have hk : qg (qrep n) k = some v := hk
    rw [h0] at hk
    cases hk
  | [], _ :: _, _, _, h, _, _, _ => h.elim
  | _ :: _, [], _, _, h, _, _, _ => h.elim
  | a :: as, w :: ws, n, i, h, k, v, hk => by
    have hcat := qVr_cat h.1
    have e9 : lv_args i (w :: ws) = (i, w) :: lv_args (if w.category = 2 then i + 2 else i + 1) ws := rfl
    rw [e9]
    by_cases h2 : qca a = 2
    · obtain ⟨z, rfl⟩ : ∃ z, a = .inr (.inl z) := by
        unfold qca at h2
        split at h2
        · exact ⟨_, rfl⟩
        · cases h2
      rw [if_pos (hcat.trans h2)]
      match k, hk with
      | 0, hk =>
        have hk : some (Sum.inr (Sum.inl z)) = some v := hk
        cases hk
        exact ⟨w, List.mem_cons_self, h.1⟩
      | 1, hk =>
        have hk : (none : Option qV) = some v := hk
        cases hk
      | k + 2, hk =>
        have hk : qg (qent as (n - 2)) k = some v := hk
        obtain ⟨w2, h3, h4⟩ := qent_ok (n - 2) (i + 2) h.2 k v hk
        exact ⟨w2, List.mem_cons_of_mem _ (by rw [show i + (k + 2) = i + 2 + k by omega]; exact h3), h4⟩
    · rw [if_neg (fun q => h2 (by rw [← hcat]; exact q))]
      have e8 : qent (a :: as) n = some a :: qent as (n - 1) := by
        match a, h2 with
        | .inl _, _ => rfl
        | .inr (.inl _), h2 => exact absurd rfl h2
        | .inr (.inr _), _ => rfl
      rw [e8] at hk
      match k, hk with
      | 0, hk =>
        have hk : some a = some v := hk
        cases hk
        exact ⟨w, List.mem_cons_self, h.1⟩
      | k + 1, hk =>
        have hk : qg (qent as (n - 1)) k = some v := hk
        obtain ⟨w2, h3, h4⟩ := qent_ok (n - 1) (i + 1) h.2 k v hk
        exact ⟨w2, List.mem_cons_of_mem _ (by rw [show i + (k + 1) = i + 1 + k by omega]; exact h3), h4⟩
theorem qsl_len {g : qG} {ad : List Nat} : ∀ {as : List qV} {As : List Value}, qVs g ad as As → (lg_sl As).length = qars as
  | [], [], _ => rfl
  | [], _ :: _, h => h.elim
  | _ :: _, [], h => h.elim
  | a :: as, v :: vs, h => by
    have e9 : lg_sl (v :: vs) = (if v.category = 2 then [.val v, .second] else [.val v]) ++ lg_sl vs := rfl
    rw [e9, List.length_append, qsl_len h.2]
    show _ = qca a + qars as
    rw [qVr_cat h.1]
    unfold qca
    split
    · rfl
    · rfl
/-- a method's own end -/
theorem qret_ok {ws : va_W} {M : qMt} {ins : Instr} {len r1 r2 : Nat} {k9 : Int} {Rt : qV → qM → Prop} (hC : qCx p s m args meth c cc nL own D kk (va_A ws s.heap.size) g t) (hlk : meth.locks = false) (hsig : meth.sig.returnType = M.2.2.2.1) (hb : qfB own nL len r1 r2 k9 pc ins = true) (hd : decode cc pc = .ok (ins, len))
    (hj : (ins = .ireturn ∧ qs_iret (qrk M.2.2.2.1) Rt ls st μ) ∨ (ins = .lreturn ∧ qs_lret (qrk M.2.2.2.1) Rt ls st μ) ∨ (ins = .areturn ∧ qs_aret (qrk M.2.2.2.1) Rt ls st μ) ∨ (ins = .return_ ∧ qs_vret (qrk M.2.2.2.1) Rt ls st μ)) :
    qWn p l e R s m args below meth c (MQ below (qQc M.2.2.2.1 g D kk ad Rt ws s.heap.size) args s 0 0 (va_A ws s.heap.size)) D kk (va_A ws s.heap.size) g ad nL 0 0 pc ls st μ := by
  have hK := hC.2.2.2.2.2.1
  rcases hj with ⟨rfl, hs⟩ | ⟨rfl, hs⟩ | ⟨rfl, hs⟩ | ⟨rfl, hs⟩
  · have hlen : len = 1 := Nat.eq_of_beq_eq_true hb
    subst hlen
    unfold qs_iret at hs
    split at hs
    · rename_i a0
      intro ar sv H locs ⟨w, lv, hh, hl, hL, hF, hP, hD, hS⟩
      obtain ⟨v, vs, rfl, ⟨y, rfl, rfl⟩, hF1⟩ := qVs_cons hF
      have e1 := qVs_nil hF1
      subst e1
      split at hs
      · rename_i h9
        have hr : M.2.2.2.1 = some .int := qrk_1 h9
        have hq : qQc M.2.2.2.1 g D kk ad Rt ws s.heap.size = va_Qi (fun (x : Int32) (w : va_W) => qPo ad kk Rt (.inl x.toInt) w) (qB D kk ws s.heap.size) (va_A ws s.heap.size) := by
          unfold qQc
          rw [h9]
          rfl
        rw [hq]
        exact W.iret (v := y) hC.1 hC.2.1 (hsig.trans hr) (fun t ht hW => ⟨⟨y, w, rfl, ⟨μ, hh, hs⟩, by rw [ht]; exact hP, va_K.moved hW.alike hK, hD⟩, hS.F ht⟩) hS.2.2 hd hlk
      · rename_i h9
        have hr : M.2.2.2.1 = some .boolean := qrk_2 h9
        have hq : qQc M.2.2.2.1 g D kk ad Rt ws s.heap.size = va_Qi (fun (x : Int32) (w : va_W) => qPo ad kk Rt (.inl x.toInt) w) (qB D kk ws s.heap.size) (va_A ws s.heap.size) := by
          unfold qQc
          rw [h9]
          rfl
        rw [hq]
        exact W.zret (v := y) (ty := .boolean) hC.1 hC.2.1 (hsig.trans hr) ((qbool_n hs.1.1 hs.1.2).1) (fun t ht hW => ⟨⟨y, w, rfl, ⟨μ, hh, hs.2⟩, by rw [ht]; exact hP, va_K.moved hW.alike hK, hD⟩, hS.F ht⟩) hS.2.2 hd hlk
      · rename_i h9
        have hr : M.2.2.2.1 = some .char := qrk_4 h9
        have hq : qQc M.2.2.2.1 g D kk ad Rt ws s.heap.size = va_Qi (fun (x : Int32) (w : va_W) => qPo ad kk Rt (.inl x.toInt) w) (qB D kk ws s.heap.size) (va_A ws s.heap.size) := by
          unfold qQc
          rw [h9]
          rfl
        rw [hq]
        exact W.zret (v := y) (ty := .char) hC.1 hC.2.1 (hsig.trans hr) (by show Value.int _ = _; rw [fa_i2c hs.1.1 hs.1.2]) (fun t ht hW => ⟨⟨y, w, rfl, ⟨μ, hh, hs.2⟩, by rw [ht]; exact hP, va_K.moved hW.alike hK, hD⟩, hS.F ht⟩) hS.2.2 hd hlk
      · rename_i h9
        have hr : M.2.2.2.1 = some .byte := qrk_5 h9
        have hq : qQc M.2.2.2.1 g D kk ad Rt ws s.heap.size = va_Qi (fun (x : Int32) (w : va_W) => qPo ad kk Rt (.inl x.toInt) w) (qB D kk ws s.heap.size) (va_A ws s.heap.size) := by
          unfold qQc
          rw [h9]
          rfl
        rw [hq]
        exact W.zret (v := y) (ty := .byte) hC.1 hC.2.1 (hsig.trans hr) (by show Value.int _ = _; rw [fa_i2b hs.1.1 hs.1.2]) (fun t ht hW => ⟨⟨y, w, rfl, ⟨μ, hh, hs.2⟩, by rw [ht]; exact hP, va_K.moved hW.alike hK, hD⟩, hS.F ht⟩) hS.2.2 hd hlk
      · exact hs.elim
    · exact hs.elim
  · have hlen : len = 1 := Nat.eq_of_beq_eq_true hb
    subst hlen
    unfold qs_lret at hs
    split at hs
    · rename_i a0
      intro ar sv H locs ⟨w, lv, hh, hl, hL, hF, hP, hD, hS⟩
      obtain ⟨v, vs, rfl, ⟨y, rfl, rfl⟩, hF1⟩ := qVs_cons hF
      have e1 := qVs_nil hF1
      subst e1
      split at hs
      · rename_i h9
        have hr : M.2.2.2.1 = some .long := qrk_3 h9
        have hq : qQc M.2.2.2.1 g D kk ad Rt ws s.heap.size = va_Ql (fun (x : Int64) (w : va_W) => qPo ad kk Rt (.inr (.inl x.toInt)) w) (qB D kk ws s.heap.size) (va_A ws s.heap.size) := by
          unfold qQc
          rw [h9]
          rfl
        rw [hq]
        exact W.lret (v := y) hC.1 hC.2.1 (hsig.trans hr) (fun t ht hW => ⟨⟨y, w, rfl, ⟨μ, hh, hs⟩, by rw [ht]; exact hP, va_K.moved hW.alike hK, hD⟩, hS.F ht⟩) hS.2.2 hd hlk
      · exact hs.elim
    · exact hs.elim
  · have hlen : len = 1 := Nat.eq_of_beq_eq_true hb
    subst hlen
    unfold qs_aret at hs
    split at hs
    · rename_i k0
      intro ar sv H locs ⟨w, lv, hh, hl, hL, hF, hP, hD, hS⟩
      obtain ⟨v, vs, rfl, hV, hF1⟩ := qVs_cons hF
      have e1 := qVs_nil hF1
      subst e1
      split at hs
      · rename_i h9
        rcases hV with ⟨h1, -⟩ | ⟨-, rfl⟩
        · omega
        · have hq : qQc M.2.2.2.1 g D kk ad Rt ws s.heap.size = va_Qr (fun u : Nat × va_W => (10 ≤ u.1 ∧ u.1 < 16) ∧ qPo ad kk Rt (.inr (.inr (.inr u.1))) u.2) (fun u a t => a = g.1 u.1 ∧ qB D kk ws s.heap.size u.2 t) (va_A ws s.heap.size) := by
            unfold qQc
            rw [h9]
            rfl
          rw [hq]
          obtain ⟨rt, hr⟩ := qrk_6 h9
          exact W.aret (v := .ref (g.1 k0)) hC.1 hC.2.1 (hsig.trans hr) (Or.inl ⟨rt, rfl⟩) (Or.inr ⟨_, rfl⟩) (fun t ht hW => ⟨⟨(k0, w), g.1 k0, rfl, ⟨hs.1, μ, hh, hs.2⟩, rfl, by rw [ht]; exact hP, va_K.moved hW.alike hK, hD⟩, hS.F ht⟩) hS.2.2 hd hlk
      · exact hs.elim
    · exact hs.elim
  · have hlen : len = 1 := Nat.eq_of_beq_eq_true hb
    subst hlen
    unfold qs_vret at hs
    split at hs
    · intro ar sv H locs ⟨w, lv, hh, hl, hL, hF, hP, hD, hS⟩
      have e1 := qVs_nil hF
      subst e1
      split at hs
      · rename_i h9
        have hr : M.2.2.2.1 = none := qrk_0 h9
        have hq : qQc M.2.2.2.1 g D kk ad Rt ws s.heap.size = va_Qv (fun w : va_W => qPo ad kk Rt (.inl 0) w) (qB D kk ws s.heap.size) (va_A ws s.heap.size) := by
          unfold qQc
          rw [h9]
          rfl
        rw [hq]
        exact W.vret hC.1 hC.2.1 (hsig.trans hr) (fun t ht hW => ⟨⟨w, rfl, ⟨μ, hh, hs⟩, by rw [ht]; exact hP, va_K.moved hW.alike hK, hD⟩, hS.F ht⟩) hS.2.2 hd hlk
      · exact hs.elim
    · exact hs.elim
/-- every method does on the machine what the q-layer says -/
theorem qmw_ok {g : qG} {D : va_G} {kk : Nat → ClassId} {ad : List Nat} (hM : ∀ j M, qmt j = some M → qmB M = true) (hF : ∀ j M, qmt j = some M → qfM M.1.cls M.2.2.1 M.2.1 M.2.2.2.2.2 = true) : ∀ (d j : Nat) (as : List qV) (μ : qM) (Q : qV → qM → Prop), qmw d j as μ Q → qCo l g D kk ad d j as μ Q := by
  intro d
  induction d with
  | zero => intro j as μ Q h; exact h.elim
  | succ d ih =>
    intro j as μ Q h
    have h : (match qmt j with
      | some M => (qrc M.2.2.2.2.1 as ∧ qars as ≤ M.2.2.1) ∧ qw (qmw d) none (qrk M.2.2.2.1) (qlk M.2.2.2.2.2) Q 0 (qent as M.2.2.1) [] μ
      | none => False) := h
    split at h
    · rename_i M hMj
      have hB := hM j M hMj
      obtain ⟨wc, wi, wk, wm, wp, wn, ws4⟩ := qmem hB
      have hfit := List.all_eq_true.mp (hF j M hMj)
      refine ⟨M, hMj, h.1.1, fun ws As sz hh hAs => ?_⟩
      refine Met.ofW (cc := M.2.1) (maxL := M.2.2.1) (ret := M.2.2.2.1) wp rfl ?_
      intro p e s m args below meth c s₁ B hml hv
      obtain ⟨rfl, hsz, hP, hK, hD0, hX⟩ := hv
      subst hsz
      have hts := atoms_spec (ws := Jvm.Cond.code M.1 M.2.1 M.2.2.1 M.2.2.2.1 :: zW) B.pre
      have hown : s.vm.findClass M.1.cls = some m.cls := findClass_of_methodNamed B.named
      have hC : qCx p s m As.toArray meth c M.2.1 M.2.2.1 M.1.cls D kk (va_A ws s.heap.size) g none := ⟨B.exec, B.bytes, hml, hown, fun w hw => hts w (List.mem_cons_of_mem _ hw), hK, fun q h9 => Or.inr h9, hX, fun x h9 => by cases h9⟩
      have hl := lv_entry As (n := M.2.2.1) (by rw [qsl_len hAs]; exact h.1.2)
      rw [lg_entry_eq]
      have hW := h.2 (qWn p l e (qRm (d + 1)) s m As.toArray below meth c (MQ below (qQc M.2.2.2.1 g D kk ad Q ws s.heap.size) As.toArray s 0 0 (va_A ws s.heap.size)) D kk (va_A ws s.heap.size) g ad M.2.2.1 0 0) (fun pc ls st μ hst => by
        unfold qstep at hst
        split at hst
        · rename_i x hx
          obtain ⟨hmem, hpc⟩ := qlk_mem hx
          have h9 := hfit x hmem
          rw [Bool.and_eq_true] at h9
          have hdec := of_decide_eq_true h9.1
          have hfb := h9.2
          rw [hpc] at hdec hfb
          exact qh_all hC hM hfb hdec ih (Nat.le_refl _) (by show 60 * d + 60 ≤ 60 * (d + 1); omega) (Nat.le_refl _) (Nat.le_refl _) (fun ls st μ hj => qret_ok hC B.notSynchronized B.returns hfb hdec hj) hst
        · exact hst.elim)
      exact hW _ [] s.heap [] ⟨ws, lv_args 0 As, hh, hl, fun k v hk => by
        obtain ⟨w, h3, h4⟩ := qent_ok M.2.2.1 0 hAs k v hk
        rw [Nat.zero_add] at h3
        exact ⟨w, h3, h4⟩, trivial, hP, hD0.self, va_S.rf⟩
    · exact h.elim
end QR
end
section
/-! RUNS BETWEEN CUT POINTS, by computation -/
noncomputable def qmemb (l : List Nat) (n : Nat) : Bool := List.rec (motive := fun _ => Bool) false (fun a _ ih => bif Nat.beq a n then true else ih) l
noncomputable def qex (d j : Nat) (Q : qV → qM → Prop) (ss : List Nat) (n : Nat) : qK := Nat.rec (motive := fun _ => qK) (qW d j Q) (fun _ ih pc ls st μ => qstep (qmw d) none (qmk j) (qft j) Q (fun pc ls st μ => bif qmemb ss pc then qW d j Q pc ls st μ else ih pc ls st μ) pc ls st μ) n
theorem qex_eq {d j : Nat} {Q : qV → qM → Prop} (ss : List Nat) : ∀ (n : Nat) {pc : Nat} {ls : qL} {st : List qV} {μ : qM}, qW d j Q pc ls st μ = qex d j Q ss n pc ls st μ
  | 0, _, _, _, _ => rfl
  | n + 1, pc, ls, st, μ => by
    have e : (fun pc ls st μ => bif qmemb ss pc then qW d j Q pc ls st μ else qex d j Q ss n pc ls st μ) = qW d j Q := by
      funext pc ls st μ
      cases qmemb ss pc with
      | true => rfl
      | false => exact (qex_eq ss n).symm
    show qw (qmw d) none (qmk j) (qft j) Q pc ls st μ = qstep (qmw d) none (qmk j) (qft j) Q (fun pc ls st μ => bif qmemb ss pc then qW d j Q pc ls st μ else qex d j Q ss n pc ls st μ) pc ls st μ
    rw [e]
    exact qw_eq (qmw_cm d)
theorem qEt {n m : Nat} {P : Prop} (h : Nat.ble n m = true := by rfl) : ((True ∧ n ≤ m) ∧ P) = P := by
  have := Nat.le_of_ble_eq_true h
  simp [this]
theorem qEc {a b n m : Nat} {P : Prop} (h : a = b) (h2 : Nat.ble n m = true := by rfl) : ((a = b ∧ n ≤ m) ∧ P) = P := by
  have := Nat.le_of_ble_eq_true h2
  simp [this, h]
theorem qEs {k n m : Nat} {P : Prop} (h : 10 ≤ k ∧ k < 16) (h2 : Nat.ble n m = true := by rfl) : (((20 = 20 ∧ 10 ≤ k ∧ k < 16) ∧ n ≤ m) ∧ P) = P := by
  have := Nat.le_of_ble_eq_true h2
  simp [this, h.1, h.2]
theorem e1 {d : Nat} {Q : qV → qM → Prop} {μ : qM} {c1 : Int} {a2 : Int} : qmw (d + 1) 1 [(.inr (.inr (.inl 15))), (.inr (.inr (.inl c1))), (.inl a2)] μ Q = qW d 1 Q 0 [some (.inr (.inr (.inl 15))), some (.inr (.inr (.inl c1))), some (.inl a2), none, none] [] μ := (qE (M := (yX0_look, cX0_look, 5, none, 1, qc1)) rfl).trans (qEc (a := qty 15) (b := 0) (n := 3) (m := 5) (P := qW d 1 Q 0 [some (.inr (.inr (.inl 15))), some (.inr (.inr (.inl c1))), some (.inl a2), none, none] [] μ) (by decide +kernel))
set_option maxRecDepth 20000 in
theorem g1_0 {d : Nat} {Q : qV → qM → Prop} {μ : qM} {c1 : Int} {a2 : Int} : qW d 1 Q 0 [some (.inr (.inr (.inl 15))), some (.inr (.inr (.inl c1))), some (.inl a2), none, none] [] μ = (qW d 1 Q 17 [some (.inr (.inr (.inl 15))), some (.inr (.inr (.inl c1))), some (.inl a2), some (.inl 0), none] [] (qu (qu (qu μ 15 4 0) 15 5 0) 15 6 0)) := (qex_eq [17, 106, 123, 151, 173, 187] 12).trans rfl
set_option maxRecDepth 20000 in
theorem g1_17 {d : Nat} {Q : qV → qM → Prop} {μ : qM} {c1 : Int} {a2 : Int} {a3 : Int} {o4 : Option qV} : qW d 1 Q 17 [some (.inr (.inr (.inl 15))), some (.inr (.inr (.inl c1))), some (.inl a2), some (.inl a3), o4] [] μ = (((3 : Int) ≤ a3 → (qW d 1 Q 106 [some (.inr (.inr (.inl 15))), some (.inr (.inr (.inl c1))), some (.inl a2), some (.inl 0), o4] [] μ)) ∧ (a3 < (3 : Int) → (qif (Nat.beq (qty c1) 5) ((μ c1 10 ≤ a3 → (((0 : Int) = 0 → ((0 ≤ a3 ∧ a3 < 3) ∧ (((0 : Int) = 0 → ((0 ≤ a3 ∧ a3 < 3) ∧ (qW d 1 Q 17 [some (.inr (.inr (.inl 15))), some (.inr (.inr (.inl c1))), some (.inl a2), some (.inl (q32 (a3 + 1))), some (.inl 0)] [] (qu (qu μ 55 a3 0) 56 a3 0)))) ∧ (¬ (0 : Int) = 0 → (qif (Nat.beq (qty c1) 5) (qif (Nat.beq (qty (qrf c1 5)) 100) ((0 ≤ a3 ∧ a3 < qal (qrf c1 5)) ∧ (qif (Nat.beq (qty c1) 5) (qif (Nat.beq (qty (qrf c1 4)) 100) ((0 ≤ a3 ∧ a3 < qal (qrf c1 4)) ∧ ((0 ≤ a3 ∧ a3 < 3) ∧ (qW d 1 Q 17 [some (.inr (.inr (.inl 15))), some (.inr (.inr (.inl c1))), some (.inl a2), some (.inl (q32 (a3 + 1))), some (.inl 0)] [] (qu (qu μ 55 a3 0) 56 a3 (q32 ((q32 (((qu μ 55 a3 0) (qrf c1 5) a3) - ((qu μ 55 a3 0) (qrf c1 4) a3))) + 1))))))))))))))) ∧ (¬ (0 : Int) = 0 → (qif (Nat.beq (qty c1) 5) (qif (Nat.beq (qty (qrf c1 6)) 100) ((0 ≤ a3 ∧ a3 < qal (qrf c1 6)) ∧ ((0 ≤ a3 ∧ a3 < 3) ∧ (((0 : Int) = 0 → ((0 ≤ a3 ∧ a3 < 3) ∧ (qW d 1 Q 17 [some (.inr (.inr (.inl 15))), some (.inr (.inr (.inl c1))), some (.inl a2), some (.inl (q32 (a3 + 1))), some (.inl 0)] [] (qu (qu μ 55 a3 (μ (qrf c1 6) a3)) 56 a3 0)))) ∧ (¬ (0 : Int) = 0 → (qif (Nat.beq (qty c1) 5) (qif (Nat.beq (qty (qrf c1 5)) 100) ((0 ≤ a3 ∧ a3 < qal (qrf c1 5)) ∧ (qif (Nat.beq (qty c1) 5) (qif (Nat.beq (qty (qrf c1 4)) 100) ((0 ≤ a3 ∧ a3 < qal (qrf c1 4)) ∧ ((0 ≤ a3 ∧ a3 < 3) ∧ (qW d 1 Q 17 [some (.inr (.inr (.inl 15))), some (.inr (.inr (.inl c1))), some (.inl a2), some (.inl (q32 (a3 + 1))), some (.inl 0)] [] (qu (qu μ 55 a3 (μ (qrf c1 6) a3)) 56 a3 (q32 ((q32 (((qu μ 55 a3 (μ (qrf c1 6) a3)) (qrf c1 5) a3) - ((qu μ 55 a3 (μ (qrf c1 6) a3)) (qrf c1 4) a3))) + 1)))))))))))))))))))) ∧ (a3 < μ c1 10 → (qif (Nat.beq (qty c1) 5) (qif (Nat.beq (qty (qrf c1 7)) 100) ((0 ≤ a3 ∧ a3 < qal (qrf c1 7)) ∧ ((a2 < μ (qrf c1 7) a3 → (((0 : Int) = 0 → ((0 ≤ a3 ∧ a3 < 3) ∧ (((0 : Int) = 0 → ((0 ≤ a3 ∧ a3 < 3) ∧ (qW d 1 Q 17 [some (.inr (.inr (.inl 15))), some (.inr (.inr (.inl c1))), some (.inl a2), some (.inl (q32 (a3 + 1))), some (.inl 0)] [] (qu (qu μ 55 a3 0) 56 a3 0)))) ∧ (¬ (0 : Int) = 0 → (qif (Nat.beq (qty c1) 5) (qif (Nat.beq (qty (qrf c1 5)) 100) ((0 ≤ a3 ∧ a3 < qal (qrf c1 5)) ∧ (qif (Nat.beq (qty c1) 5) (qif (Nat.beq (qty (qrf c1 4)) 100) ((0 ≤ a3 ∧ a3 < qal (qrf c1 4)) ∧ ((0 ≤ a3 ∧ a3 < 3) ∧ (qW d 1 Q 17 [some (.inr (.inr (.inl 15))), some (.inr (.inr (.inl c1))), some (.inl a2), some (.inl (q32 (a3 + 1))), some (.inl 0)] [] (qu (qu μ 55 a3 0) 56 a3 (q32 ((q32 (((qu μ 55 a3 0) (qrf c1 5) a3) - ((qu μ 55 a3 0) (qrf c1 4) a3))) + 1))))))))))))))) ∧ (¬ (0 : Int) = 0 → (qif (Nat.beq (qty c1) 5) (qif (Nat.beq (qty (qrf c1 6)) 100) ((0 ≤ a3 ∧ a3 < qal (qrf c1 6)) ∧ ((0 ≤ a3 ∧ a3 < 3) ∧ (((0 : Int) = 0 → ((0 ≤ a3 ∧ a3 < 3) ∧ (qW d 1 Q 17 [some (.inr (.inr (.inl 15))), some (.inr (.inr (.inl c1))), some (.inl a2), some (.inl (q32 (a3 + 1))), some (.inl 0)] [] (qu (qu μ 55 a3 (μ (qrf c1 6) a3)) 56 a3 0)))) ∧ (¬ (0 : Int) = 0 → (qif (Nat.beq (qty c1) 5) (qif (Nat.beq (qty (qrf c1 5)) 100) ((0 ≤ a3 ∧ a3 < qal (qrf c1 5)) ∧ (qif (Nat.beq (qty c1) 5) (qif (Nat.beq (qty (qrf c1 4)) 100) ((0 ≤ a3 ∧ a3 < qal (qrf c1 4)) ∧ ((0 ≤ a3 ∧ a3 < 3) ∧ (qW d 1 Q 17 [some (.inr (.inr (.inl 15))), some (.inr (.inr (.inl c1))), some (.inl a2), some (.inl (q32 (a3 + 1))), some (.inl 0)] [] (qu (qu μ 55 a3 (μ (qrf c1 6) a3)) 56 a3 (q32 ((q32 (((qu μ 55 a3 (μ (qrf c1 6) a3)) (qrf c1 5) a3) - ((qu μ 55 a3 (μ (qrf c1 6) a3)) (qrf c1 4) a3))) + 1)))))))))))))))))))) ∧ (μ (qrf c1 7) a3 ≤ a2 → (((1 : Int) = 0 → ((0 ≤ a3 ∧ a3 < 3) ∧ (((1 : Int) = 0 → ((0 ≤ a3 ∧ a3 < 3) ∧ (qW d 1 Q 17 [some (.inr (.inr (.inl 15))), some (.inr (.inr (.inl c1))), some (.inl a2), some (.inl (q32 (a3 + 1))), some (.inl 1)] [] (qu (qu μ 55 a3 0) 56 a3 0)))) ∧ (¬ (1 : Int) = 0 → (qif (Nat.beq (qty c1) 5) (qif (Nat.beq (qty (qrf c1 5)) 100) ((0 ≤ a3 ∧ a3 < qal (qrf c1 5)) ∧ (qif (Nat.beq (qty c1) 5) (qif (Nat.beq (qty (qrf c1 4)) 100) ((0 ≤ a3 ∧ a3 < qal (qrf c1 4)) ∧ ((0 ≤ a3 ∧ a3 < 3) ∧ (qW d 1 Q 17 [some (.inr (.inr (.inl 15))), some (.inr (.inr (.inl c1))), some (.inl a2), some (.inl (q32 (a3 + 1))), some (.inl 1)] [] (qu (qu μ 55 a3 0) 56 a3 (q32 ((q32 (((qu μ 55 a3 0) (qrf c1 5) a3) - ((qu μ 55 a3 0) (qrf c1 4) a3))) + 1))))))))))))))) ∧ (¬ (1 : Int) = 0 → (qif (Nat.beq (qty c1) 5) (qif (Nat.beq (qty (qrf c1 6)) 100) ((0 ≤ a3 ∧ a3 < qal (qrf c1 6)) ∧ ((0 ≤ a3 ∧ a3 < 3) ∧ (((1 : Int) = 0 → ((0 ≤ a3 ∧ a3 < 3) ∧ (qW d 1 Q 17 [some (.inr (.inr (.inl 15))), some (.inr (.inr (.inl c1))), some (.inl a2), some (.inl (q32 (a3 + 1))), some (.inl 1)] [] (qu (qu μ 55 a3 (μ (qrf c1 6) a3)) 56 a3 0)))) ∧ (¬ (1 : Int) = 0 → (qif (Nat.beq (qty c1) 5) (qif (Nat.beq (qty (qrf c1 5)) 100) ((0 ≤ a3 ∧ a3 < qal (qrf c1 5)) ∧ (qif (Nat.beq (qty c1) 5) (qif (Nat.beq (qty (qrf c1 4)) 100) ((0 ≤ a3 ∧ a3 < qal (qrf c1 4)) ∧ ((0 ≤ a3 ∧ a3 < 3) ∧ (qW d 1 Q 17 [some (.inr (.inr (.inl 15))), some (.inr (.inr (.inl c1))), some (.inl a2), some (.inl (q32 (a3 + 1))), some (.inl 1)] [] (qu (qu μ 55 a3 (μ (qrf c1 6) a3)) 56 a3 (q32 ((q32 (((qu μ 55 a3 (μ (qrf c1 6) a3)) (qrf c1 5) a3) - ((qu μ 55 a3 (μ (qrf c1 6) a3)) (qrf c1 4) a3))) + 1))))))))))))))))))))))))))))) := (qex_eq [17, 106, 123, 151, 173, 187] 48).trans rfl
set_option maxRecDepth 20000 in
theorem g1_106 {d : Nat} {Q : qV → qM → Prop} {μ : qM} {c1 : Int} {a2 : Int} {a3 : Int} {o4 : Option qV} : qW d 1 Q 106 [some (.inr (.inr (.inl 15))), some (.inr (.inr (.inl c1))), some (.inl a2), some (.inl a3), o4] [] μ = (((10 : Int) ≤ a3 → (Q (.inl 0) μ)) ∧ (a3 < (10 : Int) → (qmw d 44 [(.inr (.inr (.inl c1))), (.inl a3), (.inl a2)] μ (fun v ν => qW d 1 Q 123 [some (.inr (.inr (.inl 15))), some (.inr (.inr (.inl c1))), some (.inl a2), some (.inl a3), o4] (v :: [(.inl a3), (.inr (.inr (.inl 54)))]) ν)))) := (qex_eq [17, 106, 123, 151, 173, 187] 10).trans rfl
set_option maxRecDepth 20000 in
theorem g1_123 {d : Nat} {Q : qV → qM → Prop} {μ : qM} {c1 : Int} {a2 : Int} {a3 : Int} {o4 : Option qV} {as1 : Int} {as2 : Int} : qW d 1 Q 123 [some (.inr (.inr (.inl 15))), some (.inr (.inr (.inl c1))), some (.inl a2), some (.inl a3), o4] [(.inl as2), (.inl as1), (.inr (.inr (.inl 54)))] μ = ((0 ≤ as1 ∧ as1 < 10) ∧ ((0 ≤ a3 ∧ a3 < 10) ∧ (((qu μ 54 as1 as2) 54 a3 < 0 → (qW d 1 Q 187 [some (.inr (.inr (.inl 15))), some (.inr (.inr (.inl c1))), some (.inl a2), some (.inl a3), o4] [] (qu μ 54 as1 as2))) ∧ (0 ≤ (qu μ 54 as1 as2) 54 a3 → (qif (Nat.beq (qty c1) 5) (qif (Nat.beq (qty (qrf c1 0)) 100) ((0 ≤ a3 ∧ a3 < qal (qrf c1 0)) ∧ (qmw d 65 [(.inr (.inr (.inl 16))), (.inl ((qu μ 54 as1 as2) (qrf c1 0) a3))] (qu μ 54 as1 as2) (fun v ν => qW d 1 Q 151 [some (.inr (.inr (.inl 15))), some (.inr (.inr (.inl c1))), some (.inl a2), some (.inl a3), o4] (v :: [(.inl (μ 15 5)), (.inr (.inr (.inl 15)))]) ν))))))))) := (qex_eq [17, 106, 123, 151, 173, 187] 16).trans rfl
set_option maxRecDepth 20000 in
theorem g1_151 {d : Nat} {Q : qV → qM → Prop} {μ : qM} {c1 : Int} {a2 : Int} {a3 : Int} {o4 : Option qV} {as1 : Int} {as2 : Int} : qW d 1 Q 151 [some (.inr (.inr (.inl 15))), some (.inr (.inr (.inl c1))), some (.inl a2), some (.inl a3), o4] [(.inl as2), (.inl as1), (.inr (.inr (.inl 15)))] μ = (qmw d 45 [(.inr (.inr (.inl c1))), (.inl a3), (.inl a2)] (qu (qu μ 15 5 (q32 (as1 + as2))) 15 4 (qior (μ 15 4) (qshl 1 a3))) (fun v ν => qW d 1 Q 173 [some (.inr (.inr (.inl 15))), some (.inr (.inr (.inl c1))), some (.inl a2), some (.inl a3), o4] (v :: []) ν)) := (qex_eq [17, 106, 123, 151, 173, 187] 14).trans rfl
set_option maxRecDepth 20000 in
theorem g1_173 {d : Nat} {Q : qV → qM → Prop} {μ : qM} {c1 : Int} {a2 : Int} {a3 : Int} {o4 : Option qV} {as0 : Int} : qW d 1 Q 173 [some (.inr (.inr (.inl 15))), some (.inr (.inr (.inl c1))), some (.inl a2), some (.inl a3), o4] [(.inl as0)] μ = ((as0 = 0 → (qW d 1 Q 187 [some (.inr (.inr (.inl 15))), some (.inr (.inr (.inl c1))), some (.inl a2), some (.inl a3), o4] [] μ)) ∧ (¬ as0 = 0 → (qif (Nat.beq (qty c1) 5) (qif (Nat.beq (qty (qrf c1 2)) 100) ((0 ≤ a3 ∧ a3 < qal (qrf c1 2)) ∧ (qmw d 4 [(.inr (.inr (.inl 15))), (.inl a3), (.inl (μ (qrf c1 2) a3))] μ (fun _ ν => qW d 1 Q 187 [some (.inr (.inr (.inl 15))), some (.inr (.inr (.inl c1))), some (.inl a2), some (.inl a3), o4] [] ν))))))) := (qex_eq [17, 106, 123, 151, 173, 187] 8).trans rfl
set_option maxRecDepth 20000 in
theorem g1_187 {d : Nat} {Q : qV → qM → Prop} {μ : qM} {c1 : Int} {a2 : Int} {a3 : Int} {o4 : Option qV} : qW d 1 Q 187 [some (.inr (.inr (.inl 15))), some (.inr (.inr (.inl c1))), some (.inl a2), some (.inl a3), o4] [] μ = (qW d 1 Q 106 [some (.inr (.inr (.inl 15))), some (.inr (.inr (.inl c1))), some (.inl a2), some (.inl (q32 (a3 + 1))), o4] [] μ) := (qex_eq [17, 106, 123, 151, 173, 187] 3).trans rfl
theorem e2 {d : Nat} {Q : qV → qM → Prop} {μ : qM} {a1 : Int} : qmw (d + 1) 2 [(.inr (.inr (.inl 15))), (.inl a1)] μ Q = qW d 2 Q 0 [some (.inr (.inr (.inl 15))), some (.inl a1)] [] μ := (qE (M := (yX0_isInSpan, cX0_isInSpan, 2, some .boolean, 1, qc2)) rfl).trans (qEc (a := qty 15) (b := 0) (n := 2) (m := 2) (P := qW d 2 Q 0 [some (.inr (.inr (.inl 15))), some (.inl a1)] [] μ) (by decide +kernel))
set_option maxRecDepth 20000 in
theorem g2_0 {d : Nat} {Q : qV → qM → Prop} {μ : qM} {a1 : Int} : qW d 2 Q 0 [some (.inr (.inr (.inl 15))), some (.inl a1)] [] μ = ((0 ≤ a1 ∧ a1 < 10) ∧ ((μ 54 a1 < 0 → ((0 ≤ (0 : Int) ∧ (0 : Int) ≤ 1) ∧ Q (.inl 0) μ)) ∧ (0 ≤ μ 54 a1 → ((0 ≤ (1 : Int) ∧ (1 : Int) ≤ 1) ∧ Q (.inl 1) μ)))) := (qex_eq [] 8).trans rfl
theorem e3 {d : Nat} {Q : qV → qM → Prop} {μ : qM} {a1 : Int} : qmw (d + 1) 3 [(.inr (.inr (.inl 15))), (.inl a1)] μ Q = qW d 3 Q 0 [some (.inr (.inr (.inl 15))), some (.inl a1)] [] μ := (qE (M := (yX0_isLoose, cX0_isLoose, 2, some .boolean, 1, qc3)) rfl).trans (qEc (a := qty 15) (b := 0) (n := 2) (m := 2) (P := qW d 3 Q 0 [some (.inr (.inr (.inl 15))), some (.inl a1)] [] μ) (by decide +kernel))
set_option maxRecDepth 20000 in
theorem g3_0 {d : Nat} {Q : qV → qM → Prop} {μ : qM} {a1 : Int} : qW d 3 Q 0 [some (.inr (.inr (.inl 15))), some (.inl a1)] [] μ = ((¬ qand (qshr (μ 15 4) a1) 1 = (1 : Int) → ((0 ≤ (0 : Int) ∧ (0 : Int) ≤ 1) ∧ Q (.inl 0) μ)) ∧ (qand (qshr (μ 15 4) a1) 1 = (1 : Int) → ((0 ≤ (1 : Int) ∧ (1 : Int) ≤ 1) ∧ Q (.inl 1) μ))) := (qex_eq [] 11).trans rfl
theorem e4 {d : Nat} {Q : qV → qM → Prop} {μ : qM} {a1 : Int} {a2 : Int} : qmw (d + 1) 4 [(.inr (.inr (.inl 15))), (.inl a1), (.inl a2)] μ Q = qW d 4 Q 0 [some (.inr (.inr (.inl 15))), some (.inl a1), some (.inl a2), none] [] μ := (qE (M := (yX0_show, cX0_show, 4, none, 1, qc4)) rfl).trans (qEc (a := qty 15) (b := 0) (n := 3) (m := 4) (P := qW d 4 Q 0 [some (.inr (.inr (.inl 15))), some (.inl a1), some (.inl a2), none] [] μ) (by decide +kernel))
set_option maxRecDepth 20000 in
theorem g4_0 {d : Nat} {Q : qV → qM → Prop} {μ : qM} {a1 : Int} {a2 : Int} : qW d 4 Q 0 [some (.inr (.inr (.inl 15))), some (.inl a1), some (.inl a2), none] [] μ = ((0 ≤ a1 ∧ a1 < 10) ∧ ((μ 54 a1 < 0 → (Q (.inl 0) μ)) ∧ (0 ≤ μ 54 a1 → ((0 ≤ μ 54 a1 ∧ μ 54 a1 < 3) ∧ ((0 ≤ μ 54 a1 ∧ μ 54 a1 < 3) ∧ ((0 ≤ μ 54 a1 ∧ μ 54 a1 < 3) ∧ ((0 ≤ μ 54 a1 ∧ μ 54 a1 < 3) ∧ (qmw d 65 [(.inr (.inr (.inl 16))), (.inl a2)] (qu (qu μ 55 (μ 54 a1) (q32 ((μ 55 (μ 54 a1)) - a2))) 56 (μ 54 a1) (q32 ((μ 56 (μ 54 a1)) - 1))) (fun v ν => qW d 4 Q 44 [some (.inr (.inr (.inl 15))), some (.inl a1), some (.inl a2), some (.inl (μ 54 a1))] (v :: [(.inl (μ 15 6)), (.inr (.inr (.inl 15)))]) ν))))))))) := (qex_eq [44] 30).trans rfl
set_option maxRecDepth 20000 in
theorem g4_44 {d : Nat} {Q : qV → qM → Prop} {μ : qM} {a1 : Int} {a2 : Int} {a3 : Int} {as1 : Int} {as2 : Int} : qW d 4 Q 44 [some (.inr (.inr (.inl 15))), some (.inl a1), some (.inl a2), some (.inl a3)] [(.inl as2), (.inl as1), (.inr (.inr (.inl 15)))] μ = (Q (.inl 0) (qu (qu μ 15 6 (q32 (as1 + as2))) 15 4 (qand (μ 15 4) (qxor (qshl 1 a1) (-1))))) := (qex_eq [44] 13).trans rfl
theorem e5 {d : Nat} {Q : qV → qM → Prop} {μ : qM} {a1 : Int} {a2 : Int} : qmw (d + 1) 5 [(.inr (.inr (.inl 15))), (.inl a1), (.inl a2)] μ Q = qW d 5 Q 0 [some (.inr (.inr (.inl 15))), some (.inl a1), some (.inl a2), none] [] μ := (qE (M := (yX0_unshow, cX0_unshow, 4, none, 1, qc5)) rfl).trans (qEc (a := qty 15) (b := 0) (n := 3) (m := 4) (P := qW d 5 Q 0 [some (.inr (.inr (.inl 15))), some (.inl a1), some (.inl a2), none] [] μ) (by decide +kernel))
set_option maxRecDepth 20000 in
theorem g5_0 {d : Nat} {Q : qV → qM → Prop} {μ : qM} {a1 : Int} {a2 : Int} : qW d 5 Q 0 [some (.inr (.inr (.inl 15))), some (.inl a1), some (.inl a2), none] [] μ = ((0 ≤ a1 ∧ a1 < 10) ∧ ((μ 54 a1 < 0 → (Q (.inl 0) μ)) ∧ (0 ≤ μ 54 a1 → ((0 ≤ μ 54 a1 ∧ μ 54 a1 < 3) ∧ ((0 ≤ μ 54 a1 ∧ μ 54 a1 < 3) ∧ ((0 ≤ μ 54 a1 ∧ μ 54 a1 < 3) ∧ ((0 ≤ μ 54 a1 ∧ μ 54 a1 < 3) ∧ (qmw d 65 [(.inr (.inr (.inl 16))), (.inl a2)] (qu (qu μ 55 (μ 54 a1) (q32 ((μ 55 (μ 54 a1)) + a2))) 56 (μ 54 a1) (q32 ((μ 56 (μ 54 a1)) + 1))) (fun v ν => qW d 5 Q 44 [some (.inr (.inr (.inl 15))), some (.inl a1), some (.inl a2), some (.inl (μ 54 a1))] (v :: [(.inl (μ 15 6)), (.inr (.inr (.inl 15)))]) ν))))))))) := (qex_eq [44] 30).trans rfl
set_option maxRecDepth 20000 in
theorem g5_44 {d : Nat} {Q : qV → qM → Prop} {μ : qM} {a1 : Int} {a2 : Int} {a3 : Int} {as1 : Int} {as2 : Int} : qW d 5 Q 44 [some (.inr (.inr (.inl 15))), some (.inl a1), some (.inl a2), some (.inl a3)] [(.inl as2), (.inl as1), (.inr (.inr (.inl 15)))] μ = (Q (.inl 0) (qu (qu μ 15 6 (q32 (as1 - as2))) 15 4 (qior (μ 15 4) (qshl 1 a1)))) := (qex_eq [44] 11).trans rfl
theorem e6 {d : Nat} {Q : qV → qM → Prop} {μ : qM} {c1 : Int} {a2 : Int} : qmw (d + 1) 6 [(.inr (.inr (.inl 15))), (.inr (.inr (.inl c1))), (.inl a2)] μ Q = qW d 6 Q 0 [some (.inr (.inr (.inl 15))), some (.inr (.inr (.inl c1))), some (.inl a2), none] [] μ := (qE (M := (yX0_leastPay, cX0_leastPay, 4, some .int, 1, qc6)) rfl).trans (qEc (a := qty 15) (b := 0) (n := 3) (m := 4) (P := qW d 6 Q 0 [some (.inr (.inr (.inl 15))), some (.inr (.inr (.inl c1))), some (.inl a2), none] [] μ) (by decide +kernel))
set_option maxRecDepth 20000 in
theorem g6_0 {d : Nat} {Q : qV → qM → Prop} {μ : qM} {c1 : Int} {a2 : Int} : qW d 6 Q 0 [some (.inr (.inr (.inl 15))), some (.inr (.inr (.inl c1))), some (.inl a2), none] [] μ = (qmw d 3 [(.inr (.inr (.inl 15))), (.inl a2)] μ (fun v ν => qW d 6 Q 5 [some (.inr (.inr (.inl 15))), some (.inr (.inr (.inl c1))), some (.inl a2), none] (v :: []) ν)) := (qex_eq [5] 3).trans rfl
set_option maxRecDepth 20000 in
theorem g6_5 {d : Nat} {Q : qV → qM → Prop} {μ : qM} {c1 : Int} {a2 : Int} {as0 : Int} : qW d 6 Q 5 [some (.inr (.inr (.inl 15))), some (.inr (.inr (.inl c1))), some (.inl a2), none] [(.inl as0)] μ = ((¬ as0 = 0 → ((0 ≤ a2 ∧ a2 < 10) ∧ ((0 ≤ μ 54 a2 → ((0 ≤ μ 54 a2 ∧ μ 54 a2 < 3) ∧ ((0 ≤ μ 54 a2 ∧ μ 54 a2 < 3) ∧ (Q (.inl (qmax 0 (q32 ((μ 55 (μ 54 a2)) - (q32 (20 * (q32 ((μ 56 (μ 54 a2)) - 1)))))))) μ)))) ∧ (μ 54 a2 < 0 → (Q (.inl 0) μ))))) ∧ (as0 = 0 → (qif (Nat.beq (qty c1) 5) (qif (Nat.beq (qty (qrf c1 2)) 100) ((0 ≤ a2 ∧ a2 < qal (qrf c1 2)) ∧ (Q (.inl (μ (qrf c1 2) a2)) μ)))))) := (qex_eq [5] 24).trans rfl
theorem e7 {d : Nat} {Q : qV → qM → Prop} {μ : qM} {c1 : Int} {a2 : Int} : qmw (d + 1) 7 [(.inr (.inr (.inl 15))), (.inr (.inr (.inl c1))), (.inl a2)] μ Q = qW d 7 Q 0 [some (.inr (.inr (.inl 15))), some (.inr (.inr (.inl c1))), some (.inl a2), none] [] μ := (qE (M := (yX0_mostPay, cX0_mostPay, 4, some .int, 1, qc7)) rfl).trans (qEc (a := qty 15) (b := 0) (n := 3) (m := 4) (P := qW d 7 Q 0 [some (.inr (.inr (.inl 15))), some (.inr (.inr (.inl c1))), some (.inl a2), none] [] μ) (by decide +kernel))
set_option maxRecDepth 20000 in
theorem g7_0 {d : Nat} {Q : qV → qM → Prop} {μ : qM} {c1 : Int} {a2 : Int} : qW d 7 Q 0 [some (.inr (.inr (.inl 15))), some (.inr (.inr (.inl c1))), some (.inl a2), none] [] μ = (qmw d 3 [(.inr (.inr (.inl 15))), (.inl a2)] μ (fun v ν => qW d 7 Q 5 [some (.inr (.inr (.inl 15))), some (.inr (.inr (.inl c1))), some (.inl a2), none] (v :: []) ν)) := (qex_eq [5] 3).trans rfl
set_option maxRecDepth 20000 in
theorem g7_5 {d : Nat} {Q : qV → qM → Prop} {μ : qM} {c1 : Int} {a2 : Int} {as0 : Int} : qW d 7 Q 5 [some (.inr (.inr (.inl 15))), some (.inr (.inr (.inl c1))), some (.inl a2), none] [(.inl as0)] μ = ((¬ as0 = 0 → ((0 ≤ a2 ∧ a2 < 10) ∧ ((0 ≤ μ 54 a2 → ((0 ≤ μ 54 a2 ∧ μ 54 a2 < 3) ∧ (Q (.inl (qmin 20 (μ 55 (μ 54 a2)))) μ))) ∧ (μ 54 a2 < 0 → (Q (.inl 0) μ))))) ∧ (as0 = 0 → (qif (Nat.beq (qty c1) 5) (qif (Nat.beq (qty (qrf c1 2)) 100) ((0 ≤ a2 ∧ a2 < qal (qrf c1 2)) ∧ (Q (.inl (μ (qrf c1 2) a2)) μ)))))) := (qex_eq [5] 15).trans rfl
theorem e8 {d : Nat} {Q : qV → qM → Prop} {μ : qM}  : qmw (d + 1) 8 [(.inr (.inr (.inl 15)))] μ Q = qW d 8 Q 0 [some (.inr (.inr (.inl 15))), none, none] [] μ := (qE (M := (yX0_mostLoose, cX0_mostLoose, 3, some .int, 1, qc8)) rfl).trans (qEc (a := qty 15) (b := 0) (n := 1) (m := 3) (P := qW d 8 Q 0 [some (.inr (.inr (.inl 15))), none, none] [] μ) (by decide +kernel))
set_option maxRecDepth 20000 in
theorem g8_0 {d : Nat} {Q : qV → qM → Prop} {μ : qM}  : qW d 8 Q 0 [some (.inr (.inr (.inl 15))), none, none] [] μ = (qW d 8 Q 4 [some (.inr (.inr (.inl 15))), some (.inl 0), some (.inl 0)] [] μ) := (qex_eq [4] 5).trans rfl
set_option maxRecDepth 20000 in
theorem g8_4 {d : Nat} {Q : qV → qM → Prop} {μ : qM} {a1 : Int} {a2 : Int} : qW d 8 Q 4 [some (.inr (.inr (.inl 15))), some (.inl a1), some (.inl a2)] [] μ = (((3 : Int) ≤ a2 → (Q (.inl a1) μ)) ∧ (a2 < (3 : Int) → ((0 ≤ a2 ∧ a2 < 3) ∧ (qW d 8 Q 4 [some (.inr (.inr (.inl 15))), some (.inl (qmax a1 (μ 56 a2))), some (.inl (q32 (a2 + 1)))] [] μ)))) := (qex_eq [4] 13).trans rfl
theorem e9 {d : Nat} {Q : qV → qM → Prop} {μ : qM}  : qmw (d + 1) 9 [(.inr (.inr (.inl 15)))] μ Q = qW d 9 Q 0 [some (.inr (.inr (.inl 15))), none, none, none] [] μ := (qE (M := (yX0_ways, cX0_ways, 4, some .int, 1, qc9)) rfl).trans (qEc (a := qty 15) (b := 0) (n := 1) (m := 4) (P := qW d 9 Q 0 [some (.inr (.inr (.inl 15))), none, none, none] [] μ) (by decide +kernel))
set_option maxRecDepth 20000 in
theorem g9_0 {d : Nat} {Q : qV → qM → Prop} {μ : qM}  : qW d 9 Q 0 [some (.inr (.inr (.inl 15))), none, none, none] [] μ = (qmw d 8 [(.inr (.inr (.inl 15)))] μ (fun v ν => qW d 9 Q 8 [some (.inr (.inr (.inl 15))), none, none, none] (v :: [(.inr (.inr (.inl 16)))]) ν)) := (qex_eq [8, 11, 15, 40] 4).trans rfl
set_option maxRecDepth 20000 in
theorem g9_8 {d : Nat} {Q : qV → qM → Prop} {μ : qM} {as1 : Int} : qW d 9 Q 8 [some (.inr (.inr (.inl 15))), none, none, none] [(.inl as1), (.inr (.inr (.inl 16)))] μ = (qmw d 67 [(.inr (.inr (.inl 16))), (.inl as1)] μ (fun _ ν => qW d 9 Q 11 [some (.inr (.inr (.inl 15))), none, none, none] [] ν)) := (qex_eq [8, 11, 15, 40] 1).trans rfl
set_option maxRecDepth 20000 in
theorem g9_11 {d : Nat} {Q : qV → qM → Prop} {μ : qM}  : qW d 9 Q 11 [some (.inr (.inr (.inl 15))), none, none, none] [] μ = (qW d 9 Q 15 [some (.inr (.inr (.inl 15))), some (.inr (.inl 1)), none, some (.inl 0)] [] μ) := (qex_eq [8, 11, 15, 40] 5).trans rfl
set_option maxRecDepth 20000 in
theorem g9_15 {d : Nat} {Q : qV → qM → Prop} {μ : qM} {w1 : Int} {a3 : Int} : qW d 9 Q 15 [some (.inr (.inr (.inl 15))), some (.inr (.inl w1)), none, some (.inl a3)] [] μ = (((3 : Int) ≤ a3 → (Q (.inl (q32 w1)) μ)) ∧ (a3 < (3 : Int) → ((0 ≤ a3 ∧ a3 < 3) ∧ ((0 ≤ a3 ∧ a3 < 3) ∧ (qmw d 70 [(.inr (.inr (.inl 16))), (.inl (μ 56 a3)), (.inl (μ 55 a3))] μ (fun v ν => qW d 9 Q 40 [some (.inr (.inr (.inl 15))), some (.inr (.inl w1)), none, some (.inl a3)] (v :: [(.inr (.inl w1))]) ν)))))) := (qex_eq [8, 11, 15, 40] 15).trans rfl
set_option maxRecDepth 20000 in
theorem g9_40 {d : Nat} {Q : qV → qM → Prop} {μ : qM} {w1 : Int} {a3 : Int} {ws0 : Int} {as1 : Int} : qW d 9 Q 40 [some (.inr (.inr (.inl 15))), some (.inr (.inl w1)), none, some (.inl a3)] [(.inl as1), (.inr (.inl ws0))] μ = (¬ (1000000007 : Int) = 0 ∧ (qW d 9 Q 15 [some (.inr (.inr (.inl 15))), some (.inr (.inl (qlrem (q64 (ws0 * as1)) 1000000007))), none, some (.inl (q32 (a3 + 1)))] [] μ)) := (qex_eq [8, 11, 15, 40] 8).trans rfl
theorem e10 {d : Nat} {Q : qV → qM → Prop} {μ : qM}  : qmw (d + 1) 10 [(.inr (.inr (.inl 15)))] μ Q = qW d 10 Q 0 [some (.inr (.inr (.inl 15))), none, none] [] μ := (qE (M := (yX0_leastOwed, cX0_leastOwed, 3, some .int, 1, qc10)) rfl).trans (qEc (a := qty 15) (b := 0) (n := 1) (m := 3) (P := qW d 10 Q 0 [some (.inr (.inr (.inl 15))), none, none] [] μ) (by decide +kernel))
set_option maxRecDepth 20000 in
theorem g10_0 {d : Nat} {Q : qV → qM → Prop} {μ : qM}  : qW d 10 Q 0 [some (.inr (.inr (.inl 15))), none, none] [] μ = (qW d 10 Q 7 [some (.inr (.inr (.inl 15))), some (.inl (μ 15 6)), some (.inl 0)] [] μ) := (qex_eq [7, 32] 6).trans rfl
set_option maxRecDepth 20000 in
theorem g10_7 {d : Nat} {Q : qV → qM → Prop} {μ : qM} {a1 : Int} {a2 : Int} : qW d 10 Q 7 [some (.inr (.inr (.inl 15))), some (.inl a1), some (.inl a2)] [] μ = (((3 : Int) ≤ a2 → (Q (.inl (qmax 0 (q32 ((μ 15 5) - a1)))) μ)) ∧ (a2 < (3 : Int) → ((0 ≤ a2 ∧ a2 < 3) ∧ ((0 ≤ a2 ∧ a2 < 3) ∧ (qmw d 69 [(.inr (.inr (.inl 16))), (.inl (μ 56 a2)), (.inl (μ 55 a2))] μ (fun v ν => qW d 10 Q 32 [some (.inr (.inr (.inl 15))), some (.inl a1), some (.inl a2)] (v :: [(.inl a1)]) ν)))))) := (qex_eq [7, 32] 15).trans rfl
set_option maxRecDepth 20000 in
theorem g10_32 {d : Nat} {Q : qV → qM → Prop} {μ : qM} {a1 : Int} {a2 : Int} {as0 : Int} {as1 : Int} : qW d 10 Q 32 [some (.inr (.inr (.inl 15))), some (.inl a1), some (.inl a2)] [(.inl as1), (.inl as0)] μ = (qW d 10 Q 7 [some (.inr (.inr (.inl 15))), some (.inl (q32 (as0 + as1))), some (.inl (q32 (a2 + 1)))] [] μ) := (qex_eq [7, 32] 5).trans rfl
theorem e11 {d : Nat} {Q : qV → qM → Prop} {μ : qM}  : qmw (d + 1) 11 [(.inr (.inr (.inl 15)))] μ Q = qW d 11 Q 0 [some (.inr (.inr (.inl 15))), none, none] [] μ := (qE (M := (yX0_mostOwed, cX0_mostOwed, 3, some .int, 1, qc11)) rfl).trans (qEc (a := qty 15) (b := 0) (n := 1) (m := 3) (P := qW d 11 Q 0 [some (.inr (.inr (.inl 15))), none, none] [] μ) (by decide +kernel))
set_option maxRecDepth 20000 in
theorem g11_0 {d : Nat} {Q : qV → qM → Prop} {μ : qM}  : qW d 11 Q 0 [some (.inr (.inr (.inl 15))), none, none] [] μ = (qW d 11 Q 7 [some (.inr (.inr (.inl 15))), some (.inl (μ 15 6)), some (.inl 0)] [] μ) := (qex_eq [7, 32] 6).trans rfl
set_option maxRecDepth 20000 in
theorem g11_7 {d : Nat} {Q : qV → qM → Prop} {μ : qM} {a1 : Int} {a2 : Int} : qW d 11 Q 7 [some (.inr (.inr (.inl 15))), some (.inl a1), some (.inl a2)] [] μ = (((3 : Int) ≤ a2 → (Q (.inl (qmax 0 (q32 ((μ 15 5) - a1)))) μ)) ∧ (a2 < (3 : Int) → ((0 ≤ a2 ∧ a2 < 3) ∧ ((0 ≤ a2 ∧ a2 < 3) ∧ (qmw d 68 [(.inr (.inr (.inl 16))), (.inl (μ 56 a2)), (.inl (μ 55 a2))] μ (fun v ν => qW d 11 Q 32 [some (.inr (.inr (.inl 15))), some (.inl a1), some (.inl a2)] (v :: [(.inl a1)]) ν)))))) := (qex_eq [7, 32] 15).trans rfl
set_option maxRecDepth 20000 in
theorem g11_32 {d : Nat} {Q : qV → qM → Prop} {μ : qM} {a1 : Int} {a2 : Int} {as0 : Int} {as1 : Int} : qW d 11 Q 32 [some (.inr (.inr (.inl 15))), some (.inl a1), some (.inl a2)] [(.inl as1), (.inl as0)] μ = (qW d 11 Q 7 [some (.inr (.inr (.inl 15))), some (.inl (q32 (as0 + as1))), some (.inl (q32 (a2 + 1)))] [] μ) := (qex_eq [7, 32] 5).trans rfl
theorem e12 {d : Nat} {Q : qV → qM → Prop} {μ : qM}  : qmw (d + 1) 12 [(.inr (.inr (.inl 15)))] μ Q = qW d 12 Q 0 [some (.inr (.inr (.inl 15)))] [] μ := (qE (M := (yX0_spread, cX0_spread, 1, some .int, 1, qc12)) rfl).trans (qEc (a := qty 15) (b := 0) (n := 1) (m := 1) (P := qW d 12 Q 0 [some (.inr (.inr (.inl 15)))] [] μ) (by decide +kernel))
set_option maxRecDepth 20000 in
theorem g12_0 {d : Nat} {Q : qV → qM → Prop} {μ : qM}  : qW d 12 Q 0 [some (.inr (.inr (.inl 15)))] [] μ = (qmw d 11 [(.inr (.inr (.inl 15)))] μ (fun v ν => qW d 12 Q 4 [some (.inr (.inr (.inl 15)))] (v :: []) ν)) := (qex_eq [4, 8] 2).trans rfl
set_option maxRecDepth 20000 in
theorem g12_4 {d : Nat} {Q : qV → qM → Prop} {μ : qM} {as0 : Int} : qW d 12 Q 4 [some (.inr (.inr (.inl 15)))] [(.inl as0)] μ = (qmw d 10 [(.inr (.inr (.inl 15)))] μ (fun v ν => qW d 12 Q 8 [some (.inr (.inr (.inl 15)))] (v :: [(.inl as0)]) ν)) := (qex_eq [4, 8] 2).trans rfl
set_option maxRecDepth 20000 in
theorem g12_8 {d : Nat} {Q : qV → qM → Prop} {μ : qM} {as0 : Int} {as1 : Int} : qW d 12 Q 8 [some (.inr (.inr (.inl 15)))] [(.inl as1), (.inl as0)] μ = (Q (.inl (q32 (as0 - as1))) μ) := (qex_eq [4, 8] 2).trans rfl
theorem e13 {d : Nat} {Q : qV → qM → Prop} {μ : qM} {c1 : Int} {a2 : Int} : qmw (d + 1) 13 [(.inr (.inr (.inl 15))), (.inr (.inr (.inl c1))), (.inl a2)] μ Q = qW d 13 Q 0 [some (.inr (.inr (.inl 15))), some (.inr (.inr (.inl c1))), some (.inl a2), none, none, none] [] μ := (qE (M := (yX0_owedBy, cX0_owedBy, 6, some .int, 1, qc13)) rfl).trans (qEc (a := qty 15) (b := 0) (n := 3) (m := 6) (P := qW d 13 Q 0 [some (.inr (.inr (.inl 15))), some (.inr (.inr (.inl c1))), some (.inl a2), none, none, none] [] μ) (by decide +kernel))
set_option maxRecDepth 20000 in
theorem g13_0 {d : Nat} {Q : qV → qM → Prop} {μ : qM} {c1 : Int} {a2 : Int} : qW d 13 Q 0 [some (.inr (.inr (.inl 15))), some (.inr (.inr (.inl c1))), some (.inl a2), none, none, none] [] μ = ((¬ a2 = (1 : Int) → ((¬ a2 = (2 : Int) → (qW d 13 Q 25 [some (.inr (.inr (.inl 15))), some (.inr (.inr (.inl c1))), some (.inl a2), some (.inl 0), some (.inl 0), none] [] μ)) ∧ (a2 = (2 : Int) → (qmw d 11 [(.inr (.inr (.inl 15)))] μ (fun v ν => qW d 13 Q 19 [some (.inr (.inr (.inl 15))), some (.inr (.inr (.inl c1))), some (.inl a2), none, none, none] (v :: []) ν))))) ∧ (a2 = (1 : Int) → (qmw d 10 [(.inr (.inr (.inl 15)))] μ (fun v ν => qW d 13 Q 9 [some (.inr (.inr (.inl 15))), some (.inr (.inr (.inl c1))), some (.inl a2), none, none, none] (v :: []) ν)))) := (qex_eq [9, 19, 25, 59, 81] 11).trans rfl
set_option maxRecDepth 20000 in
theorem g13_9 {d : Nat} {Q : qV → qM → Prop} {μ : qM} {c1 : Int} {a2 : Int} {as0 : Int} : qW d 13 Q 9 [some (.inr (.inr (.inl 15))), some (.inr (.inr (.inl c1))), some (.inl a2), none, none, none] [(.inl as0)] μ = (Q (.inl as0) μ) := (qex_eq [9, 19, 25, 59, 81] 1).trans rfl
set_option maxRecDepth 20000 in
theorem g13_19 {d : Nat} {Q : qV → qM → Prop} {μ : qM} {c1 : Int} {a2 : Int} {as0 : Int} : qW d 13 Q 19 [some (.inr (.inr (.inl 15))), some (.inr (.inr (.inl c1))), some (.inl a2), none, none, none] [(.inl as0)] μ = (Q (.inl as0) μ) := (qex_eq [9, 19, 25, 59, 81] 1).trans rfl
set_option maxRecDepth 20000 in
theorem g13_25 {d : Nat} {Q : qV → qM → Prop} {μ : qM} {c1 : Int} {a2 : Int} {a3 : Int} {a4 : Int} {o5 : Option qV} : qW d 13 Q 25 [some (.inr (.inr (.inl 15))), some (.inr (.inr (.inl c1))), some (.inl a2), some (.inl a3), some (.inl a4), o5] [] μ = (((10 : Int) ≤ a4 → (Q (.inl (qmax 0 (q32 ((μ 15 5) - a3)))) μ)) ∧ (a4 < (10 : Int) → ((0 ≤ a4 ∧ a4 < 10) ∧ ((μ 54 a4 < 0 → (qW d 13 Q 25 [some (.inr (.inr (.inl 15))), some (.inr (.inr (.inl c1))), some (.inl a2), some (.inl a3), some (.inl (q32 (a4 + 1))), o5] [] μ)) ∧ (0 ≤ μ 54 a4 → ((¬ a2 = 0 → (qif (Nat.beq (qty c1) 5) (qif (Nat.beq (qty (qrf c1 1)) 100) ((0 ≤ a4 ∧ a4 < qal (qrf c1 1)) ∧ (qmw d 65 [(.inr (.inr (.inl 16))), (.inl (μ (qrf c1 1) a4))] μ (fun v ν => qW d 13 Q 81 [some (.inr (.inr (.inl 15))), some (.inr (.inr (.inl c1))), some (.inl a2), some (.inl a3), some (.inl a4), some (.inl (μ (qrf c1 1) a4))] (v :: [(.inl a3)]) ν)))))) ∧ (a2 = 0 → ((0 ≤ a4 ∧ a4 < 10) ∧ (qmw d 46 [(.inr (.inr (.inl c1))), (.inl (μ 54 a4)), (.inl a4)] μ (fun v ν => qW d 13 Q 59 [some (.inr (.inr (.inl 15))), some (.inr (.inr (.inl c1))), some (.inl a2), some (.inl a3), some (.inl a4), o5] (v :: []) ν)))))))))) := (qex_eq [9, 19, 25, 59, 81] 20).trans rfl
set_option maxRecDepth 20000 in
theorem g13_59 {d : Nat} {Q : qV → qM → Prop} {μ : qM} {c1 : Int} {a2 : Int} {a3 : Int} {a4 : Int} {o5 : Option qV} {as0 : Int} : qW d 13 Q 59 [some (.inr (.inr (.inl 15))), some (.inr (.inr (.inl c1))), some (.inl a2), some (.inl a3), some (.inl a4), o5] [(.inl as0)] μ = (qmw d 65 [(.inr (.inr (.inl 16))), (.inl as0)] μ (fun v ν => qW d 13 Q 81 [some (.inr (.inr (.inl 15))), some (.inr (.inr (.inl c1))), some (.inl a2), some (.inl a3), some (.inl a4), some (.inl as0)] (v :: [(.inl a3)]) ν)) := (qex_eq [9, 19, 25, 59, 81] 7).trans rfl
set_option maxRecDepth 20000 in
theorem g13_81 {d : Nat} {Q : qV → qM → Prop} {μ : qM} {c1 : Int} {a2 : Int} {a3 : Int} {a4 : Int} {a5 : Int} {as0 : Int} {as1 : Int} : qW d 13 Q 81 [some (.inr (.inr (.inl 15))), some (.inr (.inr (.inl c1))), some (.inl a2), some (.inl a3), some (.inl a4), some (.inl a5)] [(.inl as1), (.inl as0)] μ = (qW d 13 Q 25 [some (.inr (.inr (.inl 15))), some (.inr (.inr (.inl c1))), some (.inl a2), some (.inl (q32 (as0 + as1))), some (.inl (q32 (a4 + 1))), some (.inl a5)] [] μ) := (qex_eq [9, 19, 25, 59, 81] 5).trans rfl
theorem e14 {d : Nat} {Q : qV → qM → Prop} {μ : qM} {c1 : Int} {c2 : Int} : qmw (d + 1) 14 [(.inr (.inr (.inl 15))), (.inr (.inr (.inl c1))), (.inr (.inr (.inl c2)))] μ Q = qW d 14 Q 0 [some (.inr (.inr (.inl 15))), some (.inr (.inr (.inl c1))), some (.inr (.inr (.inl c2))), none] [] μ := (qE (M := (yX0_couldBe, cX0_couldBe, 4, some .boolean, 1, qc14)) rfl).trans (qEc (a := qty 15) (b := 0) (n := 3) (m := 4) (P := qW d 14 Q 0 [some (.inr (.inr (.inl 15))), some (.inr (.inr (.inl c1))), some (.inr (.inr (.inl c2))), none] [] μ) (by decide +kernel))
set_option maxRecDepth 20000 in
theorem g14_0 {d : Nat} {Q : qV → qM → Prop} {μ : qM} {c1 : Int} {c2 : Int} : qW d 14 Q 0 [some (.inr (.inr (.inl 15))), some (.inr (.inr (.inl c1))), some (.inr (.inr (.inl c2))), none] [] μ = (qW d 14 Q 2 [some (.inr (.inr (.inl 15))), some (.inr (.inr (.inl c1))), some (.inr (.inr (.inl c2))), some (.inl 0)] [] μ) := (qex_eq [2, 13, 21, 46, 57] 3).trans rfl
set_option maxRecDepth 20000 in
theorem g14_2 {d : Nat} {Q : qV → qM → Prop} {μ : qM} {c1 : Int} {c2 : Int} {a3 : Int} : qW d 14 Q 2 [some (.inr (.inr (.inl 15))), some (.inr (.inr (.inl c1))), some (.inr (.inr (.inl c2))), some (.inl a3)] [] μ = (((10 : Int) ≤ a3 → (qW d 14 Q 46 [some (.inr (.inr (.inl 15))), some (.inr (.inr (.inl c1))), some (.inr (.inr (.inl c2))), some (.inl 0)] [] μ)) ∧ (a3 < (10 : Int) → (qmw d 2 [(.inr (.inr (.inl 15))), (.inl a3)] μ (fun v ν => qW d 14 Q 13 [some (.inr (.inr (.inl 15))), some (.inr (.inr (.inl c1))), some (.inr (.inr (.inl c2))), some (.inl a3)] (v :: []) ν)))) := (qex_eq [2, 13, 21, 46, 57] 6).trans rfl
set_option maxRecDepth 20000 in
theorem g14_13 {d : Nat} {Q : qV → qM → Prop} {μ : qM} {c1 : Int} {c2 : Int} {a3 : Int} {as0 : Int} : qW d 14 Q 13 [some (.inr (.inr (.inl 15))), some (.inr (.inr (.inl c1))), some (.inr (.inr (.inl c2))), some (.inl a3)] [(.inl as0)] μ = ((as0 = 0 → (qW d 14 Q 2 [some (.inr (.inr (.inl 15))), some (.inr (.inr (.inl c1))), some (.inr (.inr (.inl c2))), some (.inl (q32 (a3 + 1)))] [] μ)) ∧ (¬ as0 = 0 → (qmw d 3 [(.inr (.inr (.inl 15))), (.inl a3)] μ (fun v ν => qW d 14 Q 21 [some (.inr (.inr (.inl 15))), some (.inr (.inr (.inl c1))), some (.inr (.inr (.inl c2))), some (.inl a3)] (v :: []) ν)))) := (qex_eq [2, 13, 21, 46, 57] 4).trans rfl
set_option maxRecDepth 20000 in
theorem g14_21 {d : Nat} {Q : qV → qM → Prop} {μ : qM} {c1 : Int} {c2 : Int} {a3 : Int} {as0 : Int} : qW d 14 Q 21 [some (.inr (.inr (.inl 15))), some (.inr (.inr (.inl c1))), some (.inr (.inr (.inl c2))), some (.inl a3)] [(.inl as0)] μ = ((¬ as0 = 0 → (qW d 14 Q 2 [some (.inr (.inr (.inl 15))), some (.inr (.inr (.inl c1))), some (.inr (.inr (.inl c2))), some (.inl (q32 (a3 + 1)))] [] μ)) ∧ (as0 = 0 → (qif (Nat.beq (qty c2) 100) ((0 ≤ a3 ∧ a3 < qal c2) ∧ (qif (Nat.beq (qty c1) 5) (qif (Nat.beq (qty (qrf c1 2)) 100) ((0 ≤ a3 ∧ a3 < qal (qrf c1 2)) ∧ ((μ c2 a3 = μ (qrf c1 2) a3 → (qW d 14 Q 2 [some (.inr (.inr (.inl 15))), some (.inr (.inr (.inl c1))), some (.inr (.inr (.inl c2))), some (.inl (q32 (a3 + 1)))] [] μ)) ∧ (¬ μ c2 a3 = μ (qrf c1 2) a3 → ((0 ≤ (0 : Int) ∧ (0 : Int) ≤ 1) ∧ Q (.inl 0) μ)))))))))) := (qex_eq [2, 13, 21, 46, 57] 12).trans rfl
set_option maxRecDepth 20000 in
theorem g14_46 {d : Nat} {Q : qV → qM → Prop} {μ : qM} {c1 : Int} {c2 : Int} {a3 : Int} : qW d 14 Q 46 [some (.inr (.inr (.inl 15))), some (.inr (.inr (.inl c1))), some (.inr (.inr (.inl c2))), some (.inl a3)] [] μ = (((3 : Int) ≤ a3 → ((0 ≤ (1 : Int) ∧ (1 : Int) ≤ 1) ∧ Q (.inl 1) μ)) ∧ (a3 < (3 : Int) → (qmw d 15 [(.inr (.inr (.inl 15))), (.inl a3), (.inr (.inr (.inl c2)))] μ (fun v ν => qW d 14 Q 57 [some (.inr (.inr (.inl 15))), some (.inr (.inr (.inl c1))), some (.inr (.inr (.inl c2))), some (.inl a3)] (v :: []) ν)))) := (qex_eq [2, 13, 21, 46, 57] 7).trans rfl
set_option maxRecDepth 20000 in
theorem g14_57 {d : Nat} {Q : qV → qM → Prop} {μ : qM} {c1 : Int} {c2 : Int} {a3 : Int} {as0 : Int} : qW d 14 Q 57 [some (.inr (.inr (.inl 15))), some (.inr (.inr (.inl c1))), some (.inr (.inr (.inl c2))), some (.inl a3)] [(.inl as0)] μ = ((0 ≤ a3 ∧ a3 < 3) ∧ ((as0 = μ 55 a3 → (qW d 14 Q 46 [some (.inr (.inr (.inl 15))), some (.inr (.inr (.inl c1))), some (.inr (.inr (.inl c2))), some (.inl (q32 (a3 + 1)))] [] μ)) ∧ (¬ as0 = μ 55 a3 → ((0 ≤ (0 : Int) ∧ (0 : Int) ≤ 1) ∧ Q (.inl 0) μ)))) := (qex_eq [2, 13, 21, 46, 57] 8).trans rfl
theorem e15 {d : Nat} {Q : qV → qM → Prop} {μ : qM} {a1 : Int} {c2 : Int} : qmw (d + 1) 15 [(.inr (.inr (.inl 15))), (.inl a1), (.inr (.inr (.inl c2)))] μ Q = qW d 15 Q 0 [some (.inr (.inr (.inl 15))), some (.inl a1), some (.inr (.inr (.inl c2))), none, none] [] μ := (qE (M := (yX0_looseSum, cX0_looseSum, 5, some .int, 1, qc15)) rfl).trans (qEc (a := qty 15) (b := 0) (n := 3) (m := 5) (P := qW d 15 Q 0 [some (.inr (.inr (.inl 15))), some (.inl a1), some (.inr (.inr (.inl c2))), none, none] [] μ) (by decide +kernel))
set_option maxRecDepth 20000 in
theorem g15_0 {d : Nat} {Q : qV → qM → Prop} {μ : qM} {a1 : Int} {c2 : Int} : qW d 15 Q 0 [some (.inr (.inr (.inl 15))), some (.inl a1), some (.inr (.inr (.inl c2))), none, none] [] μ = (qW d 15 Q 5 [some (.inr (.inr (.inl 15))), some (.inl a1), some (.inr (.inr (.inl c2))), some (.inl 0), some (.inl 0)] [] μ) := (qex_eq [5, 29] 5).trans rfl
set_option maxRecDepth 20000 in
theorem g15_5 {d : Nat} {Q : qV → qM → Prop} {μ : qM} {a1 : Int} {c2 : Int} {a3 : Int} {a4 : Int} : qW d 15 Q 5 [some (.inr (.inr (.inl 15))), some (.inl a1), some (.inr (.inr (.inl c2))), some (.inl a3), some (.inl a4)] [] μ = (((10 : Int) ≤ a4 → (Q (.inl a3) μ)) ∧ (a4 < (10 : Int) → ((0 ≤ a4 ∧ a4 < 10) ∧ ((¬ μ 54 a4 = a1 → (qW d 15 Q 5 [some (.inr (.inr (.inl 15))), some (.inl a1), some (.inr (.inr (.inl c2))), some (.inl a3), some (.inl (q32 (a4 + 1)))] [] μ)) ∧ (μ 54 a4 = a1 → (qmw d 3 [(.inr (.inr (.inl 15))), (.inl a4)] μ (fun v ν => qW d 15 Q 29 [some (.inr (.inr (.inl 15))), some (.inl a1), some (.inr (.inr (.inl c2))), some (.inl a3), some (.inl a4)] (v :: []) ν))))))) := (qex_eq [5, 29] 12).trans rfl
set_option maxRecDepth 20000 in
theorem g15_29 {d : Nat} {Q : qV → qM → Prop} {μ : qM} {a1 : Int} {c2 : Int} {a3 : Int} {a4 : Int} {as0 : Int} : qW d 15 Q 29 [some (.inr (.inr (.inl 15))), some (.inl a1), some (.inr (.inr (.inl c2))), some (.inl a3), some (.inl a4)] [(.inl as0)] μ = ((as0 = 0 → (qW d 15 Q 5 [some (.inr (.inr (.inl 15))), some (.inl a1), some (.inr (.inr (.inl c2))), some (.inl a3), some (.inl (q32 (a4 + 1)))] [] μ)) ∧ (¬ as0 = 0 → (qif (Nat.beq (qty c2) 100) ((0 ≤ a4 ∧ a4 < qal c2) ∧ (qW d 15 Q 5 [some (.inr (.inr (.inl 15))), some (.inl a1), some (.inr (.inr (.inl c2))), some (.inl (q32 (a3 + (μ c2 a4)))), some (.inl (q32 (a4 + 1)))] [] μ))))) := (qex_eq [5, 29] 10).trans rfl
theorem e16 {d : Nat} {Q : qV → qM → Prop} {μ : qM} {c1 : Int} : qmw (d + 1) 16 [(.inr (.inr (.inl 15))), (.inr (.inr (.inl c1)))] μ Q = qW d 16 Q 0 [some (.inr (.inr (.inl 15))), some (.inr (.inr (.inl c1))), none, none, none] [] μ := (qE (M := (yX0_settlingSet, cX0_settlingSet, 5, some .int, 1, qc16)) rfl).trans (qEc (a := qty 15) (b := 0) (n := 2) (m := 5) (P := qW d 16 Q 0 [some (.inr (.inr (.inl 15))), some (.inr (.inr (.inl c1))), none, none, none] [] μ) (by decide +kernel))
set_option maxRecDepth 20000 in
theorem g16_0 {d : Nat} {Q : qV → qM → Prop} {μ : qM} {c1 : Int} : qW d 16 Q 0 [some (.inr (.inr (.inl 15))), some (.inr (.inr (.inl c1))), none, none, none] [] μ = (qW d 16 Q 7 [some (.inr (.inr (.inl 15))), some (.inr (.inr (.inl c1))), some (.inl (μ 15 4)), some (.inl 0), none] [] μ) := (qex_eq [7, 16, 36, 47] 6).trans rfl
set_option maxRecDepth 20000 in
theorem g16_7 {d : Nat} {Q : qV → qM → Prop} {μ : qM} {c1 : Int} {a2 : Int} {a3 : Int} {o4 : Option qV} : qW d 16 Q 7 [some (.inr (.inr (.inl 15))), some (.inr (.inr (.inl c1))), some (.inl a2), some (.inl a3), o4] [] μ = (((10 : Int) ≤ a3 → (Q (.inl a2) μ)) ∧ (a3 < (10 : Int) → (qW d 16 Q 16 [some (.inr (.inr (.inl 15))), some (.inr (.inr (.inl c1))), some (.inl a2), some (.inl a3), some (.inl 0)] [] μ))) := (qex_eq [7, 16, 36, 47] 6).trans rfl
set_option maxRecDepth 20000 in
theorem g16_16 {d : Nat} {Q : qV → qM → Prop} {μ : qM} {c1 : Int} {a2 : Int} {a3 : Int} {a4 : Int} : qW d 16 Q 16 [some (.inr (.inr (.inl 15))), some (.inr (.inr (.inl c1))), some (.inl a2), some (.inl a3), some (.inl a4)] [] μ = ((a2 < a4 → (qW d 16 Q 7 [some (.inr (.inr (.inl 15))), some (.inr (.inr (.inl c1))), some (.inl a2), some (.inl (q32 (a3 + 1))), some (.inl a4)] [] μ)) ∧ (a4 ≤ a2 → ((¬ qand a4 (qxor a2 (-1)) = 0 → (qW d 16 Q 16 [some (.inr (.inr (.inl 15))), some (.inr (.inr (.inl c1))), some (.inl a2), some (.inl a3), some (.inl (q32 (a4 + 1)))] [] μ)) ∧ (qand a4 (qxor a2 (-1)) = 0 → (qmw d 182 [(.inl a4)] μ (fun v ν => qW d 16 Q 36 [some (.inr (.inr (.inl 15))), some (.inr (.inr (.inl c1))), some (.inl a2), some (.inl a3), some (.inl a4)] (v :: []) ν)))))) := (qex_eq [7, 16, 36, 47] 12).trans rfl
set_option maxRecDepth 20000 in
theorem g16_36 {d : Nat} {Q : qV → qM → Prop} {μ : qM} {c1 : Int} {a2 : Int} {a3 : Int} {a4 : Int} {as0 : Int} : qW d 16 Q 36 [some (.inr (.inr (.inl 15))), some (.inr (.inr (.inl c1))), some (.inl a2), some (.inl a3), some (.inl a4)] [(.inl as0)] μ = ((¬ as0 = a3 → (qW d 16 Q 16 [some (.inr (.inr (.inl 15))), some (.inr (.inr (.inl c1))), some (.inl a2), some (.inl a3), some (.inl (q32 (a4 + 1)))] [] μ)) ∧ (as0 = a3 → (qmw d 17 [(.inr (.inr (.inl 15))), (.inl a4), (.inr (.inr (.inl c1)))] μ (fun v ν => qW d 16 Q 47 [some (.inr (.inr (.inl 15))), some (.inr (.inr (.inl c1))), some (.inl a2), some (.inl a3), some (.inl a4)] (v :: []) ν)))) := (qex_eq [7, 16, 36, 47] 6).trans rfl
set_option maxRecDepth 20000 in
theorem g16_47 {d : Nat} {Q : qV → qM → Prop} {μ : qM} {c1 : Int} {a2 : Int} {a3 : Int} {a4 : Int} {as0 : Int} : qW d 16 Q 47 [some (.inr (.inr (.inl 15))), some (.inr (.inr (.inl c1))), some (.inl a2), some (.inl a3), some (.inl a4)] [(.inl as0)] μ = ((as0 = 0 → (qW d 16 Q 16 [some (.inr (.inr (.inl 15))), some (.inr (.inr (.inl c1))), some (.inl a2), some (.inl a3), some (.inl (q32 (a4 + 1)))] [] μ)) ∧ (¬ as0 = 0 → (Q (.inl a4) μ))) := (qex_eq [7, 16, 36, 47] 4).trans rfl
theorem e17 {d : Nat} {Q : qV → qM → Prop} {μ : qM} {a1 : Int} {c2 : Int} : qmw (d + 1) 17 [(.inr (.inr (.inl 15))), (.inl a1), (.inr (.inr (.inl c2)))] μ Q = qW d 17 Q 0 [some (.inr (.inr (.inl 15))), some (.inl a1), some (.inr (.inr (.inl c2))), none, none] [] μ := (qE (M := (yX0_settlesBy, cX0_settlesBy, 5, some .boolean, 1, qc17)) rfl).trans (qEc (a := qty 15) (b := 0) (n := 3) (m := 5) (P := qW d 17 Q 0 [some (.inr (.inr (.inl 15))), some (.inl a1), some (.inr (.inr (.inl c2))), none, none] [] μ) (by decide +kernel))
set_option maxRecDepth 20000 in
theorem g17_0 {d : Nat} {Q : qV → qM → Prop} {μ : qM} {a1 : Int} {c2 : Int} : qW d 17 Q 0 [some (.inr (.inr (.inl 15))), some (.inl a1), some (.inr (.inr (.inl c2))), none, none] [] μ = (qW d 17 Q 2 [some (.inr (.inr (.inl 15))), some (.inl a1), some (.inr (.inr (.inl c2))), some (.inl 0), none] [] μ) := (qex_eq [2, 25, 35, 47, 74] 3).trans rfl
set_option maxRecDepth 20000 in
theorem g17_2 {d : Nat} {Q : qV → qM → Prop} {μ : qM} {a1 : Int} {c2 : Int} {a3 : Int} : qW d 17 Q 2 [some (.inr (.inr (.inl 15))), some (.inl a1), some (.inr (.inr (.inl c2))), some (.inl a3), none] [] μ = (((10 : Int) ≤ a3 → (qmw d 12 [(.inr (.inr (.inl 15)))] μ (fun v ν => qW d 17 Q 35 [some (.inr (.inr (.inl 15))), some (.inl a1), some (.inr (.inr (.inl c2))), some (.inl a3), none] (v :: []) ν))) ∧ (a3 < (10 : Int) → ((¬ qand (qshr a1 a3) 1 = (1 : Int) → (qW d 17 Q 25 [some (.inr (.inr (.inl 15))), some (.inl a1), some (.inr (.inr (.inl c2))), some (.inl a3), none] [] μ)) ∧ (qand (qshr a1 a3) 1 = (1 : Int) → (qif (Nat.beq (qty c2) 100) ((0 ≤ a3 ∧ a3 < qal c2) ∧ (qmw d 4 [(.inr (.inr (.inl 15))), (.inl a3), (.inl (μ c2 a3))] μ (fun _ ν => qW d 17 Q 25 [some (.inr (.inr (.inl 15))), some (.inl a1), some (.inr (.inr (.inl c2))), some (.inl a3), none] [] ν)))))))) := (qex_eq [2, 25, 35, 47, 74] 16).trans rfl
set_option maxRecDepth 20000 in
theorem g17_25 {d : Nat} {Q : qV → qM → Prop} {μ : qM} {a1 : Int} {c2 : Int} {a3 : Int} : qW d 17 Q 25 [some (.inr (.inr (.inl 15))), some (.inl a1), some (.inr (.inr (.inl c2))), some (.inl a3), none] [] μ = (qW d 17 Q 2 [some (.inr (.inr (.inl 15))), some (.inl a1), some (.inr (.inr (.inl c2))), some (.inl (q32 (a3 + 1))), none] [] μ) := (qex_eq [2, 25, 35, 47, 74] 3).trans rfl
set_option maxRecDepth 20000 in
theorem g17_35 {d : Nat} {Q : qV → qM → Prop} {μ : qM} {a1 : Int} {c2 : Int} {a3 : Int} {as0 : Int} : qW d 17 Q 35 [some (.inr (.inr (.inl 15))), some (.inl a1), some (.inr (.inr (.inl c2))), some (.inl a3), none] [(.inl as0)] μ = ((¬ as0 = 0 → (qW d 17 Q 47 [some (.inr (.inr (.inl 15))), some (.inl a1), some (.inr (.inr (.inl c2))), some (.inl 0), some (.inl 0)] [] μ)) ∧ (as0 = 0 → (qW d 17 Q 47 [some (.inr (.inr (.inl 15))), some (.inl a1), some (.inr (.inr (.inl c2))), some (.inl 1), some (.inl 0)] [] μ))) := (qex_eq [2, 25, 35, 47, 74] 7).trans rfl
set_option maxRecDepth 20000 in
theorem g17_47 {d : Nat} {Q : qV → qM → Prop} {μ : qM} {a1 : Int} {c2 : Int} {a3 : Int} {a4 : Int} : qW d 17 Q 47 [some (.inr (.inr (.inl 15))), some (.inl a1), some (.inr (.inr (.inl c2))), some (.inl a3), some (.inl a4)] [] μ = (((10 : Int) ≤ a4 → ((0 ≤ a3 ∧ a3 ≤ 1) ∧ Q (.inl a3) μ)) ∧ (a4 < (10 : Int) → ((¬ qand (qshr a1 a4) 1 = (1 : Int) → (qW d 17 Q 74 [some (.inr (.inr (.inl 15))), some (.inl a1), some (.inr (.inr (.inl c2))), some (.inl a3), some (.inl a4)] [] μ)) ∧ (qand (qshr a1 a4) 1 = (1 : Int) → (qif (Nat.beq (qty c2) 100) ((0 ≤ a4 ∧ a4 < qal c2) ∧ (qmw d 5 [(.inr (.inr (.inl 15))), (.inl a4), (.inl (μ c2 a4))] μ (fun _ ν => qW d 17 Q 74 [some (.inr (.inr (.inl 15))), some (.inl a1), some (.inr (.inr (.inl c2))), some (.inl a3), some (.inl a4)] [] ν)))))))) := (qex_eq [2, 25, 35, 47, 74] 16).trans rfl
set_option maxRecDepth 20000 in
theorem g17_74 {d : Nat} {Q : qV → qM → Prop} {μ : qM} {a1 : Int} {c2 : Int} {a3 : Int} {a4 : Int} : qW d 17 Q 74 [some (.inr (.inr (.inl 15))), some (.inl a1), some (.inr (.inr (.inl c2))), some (.inl a3), some (.inl a4)] [] μ = (qW d 17 Q 47 [some (.inr (.inr (.inl 15))), some (.inl a1), some (.inr (.inr (.inl c2))), some (.inl a3), some (.inl (q32 (a4 + 1)))] [] μ) := (qex_eq [2, 25, 35, 47, 74] 3).trans rfl
theorem e18 {d : Nat} {Q : qV → qM → Prop} {μ : qM} {c1 : Int} : qmw (d + 1) 18 [(.inr (.inr (.inl 15))), (.inr (.inr (.inl c1)))] μ Q = qW d 18 Q 0 [some (.inr (.inr (.inl 15))), some (.inr (.inr (.inl c1))), none, none, none, none] [] μ := (qE (M := (yX0_tellingMost, cX0_tellingMost, 6, some .int, 1, qc18)) rfl).trans (qEc (a := qty 15) (b := 0) (n := 2) (m := 6) (P := qW d 18 Q 0 [some (.inr (.inr (.inl 15))), some (.inr (.inr (.inl c1))), none, none, none, none] [] μ) (by decide +kernel))
set_option maxRecDepth 20000 in
theorem g18_0 {d : Nat} {Q : qV → qM → Prop} {μ : qM} {c1 : Int} : qW d 18 Q 0 [some (.inr (.inr (.inl 15))), some (.inr (.inr (.inl c1))), none, none, none, none] [] μ = (qW d 18 Q 8 [some (.inr (.inr (.inl 15))), some (.inr (.inr (.inl c1))), some (.inl (-9)), some (.inl 0), some (.inl 0), none] [] μ) := (qex_eq [8, 21, 31] 7).trans rfl
set_option maxRecDepth 20000 in
theorem g18_8 {d : Nat} {Q : qV → qM → Prop} {μ : qM} {c1 : Int} {a2 : Int} {a3 : Int} {a4 : Int} {o5 : Option qV} : qW d 18 Q 8 [some (.inr (.inr (.inl 15))), some (.inr (.inr (.inl c1))), some (.inl a2), some (.inl a3), some (.inl a4), o5] [] μ = (((10 : Int) ≤ a4 → (Q (.inl a2) μ)) ∧ (a4 < (10 : Int) → (qmw d 3 [(.inr (.inr (.inl 15))), (.inl a4)] μ (fun v ν => qW d 18 Q 21 [some (.inr (.inr (.inl 15))), some (.inr (.inr (.inl c1))), some (.inl a2), some (.inl a3), some (.inl a4), o5] (v :: []) ν)))) := (qex_eq [8, 21, 31] 6).trans rfl
set_option maxRecDepth 20000 in
theorem g18_21 {d : Nat} {Q : qV → qM → Prop} {μ : qM} {c1 : Int} {a2 : Int} {a3 : Int} {a4 : Int} {o5 : Option qV} {as0 : Int} : qW d 18 Q 21 [some (.inr (.inr (.inl 15))), some (.inr (.inr (.inl c1))), some (.inl a2), some (.inl a3), some (.inl a4), o5] [(.inl as0)] μ = ((as0 = 0 → (qW d 18 Q 8 [some (.inr (.inr (.inl 15))), some (.inr (.inr (.inl c1))), some (.inl a2), some (.inl a3), some (.inl (q32 (a4 + 1))), o5] [] μ)) ∧ (¬ as0 = 0 → (qmw d 19 [(.inr (.inr (.inl 15))), (.inr (.inr (.inl c1))), (.inl a4)] μ (fun v ν => qW d 18 Q 31 [some (.inr (.inr (.inl 15))), some (.inr (.inr (.inl c1))), some (.inl a2), some (.inl a3), some (.inl a4), o5] (v :: []) ν)))) := (qex_eq [8, 21, 31] 5).trans rfl
set_option maxRecDepth 20000 in
theorem g18_31 {d : Nat} {Q : qV → qM → Prop} {μ : qM} {c1 : Int} {a2 : Int} {a3 : Int} {a4 : Int} {o5 : Option qV} {as0 : Int} : qW d 18 Q 31 [some (.inr (.inr (.inl 15))), some (.inr (.inr (.inl c1))), some (.inl a2), some (.inl a3), some (.inl a4), o5] [(.inl as0)] μ = ((a2 = (-9) → (qW d 18 Q 8 [some (.inr (.inr (.inl 15))), some (.inr (.inr (.inl c1))), some (.inl a4), some (.inl as0), some (.inl (q32 (a4 + 1))), some (.inl as0)] [] μ)) ∧ (¬ a2 = (-9) → ((a3 ≤ as0 → (qW d 18 Q 8 [some (.inr (.inr (.inl 15))), some (.inr (.inr (.inl c1))), some (.inl a2), some (.inl a3), some (.inl (q32 (a4 + 1))), some (.inl as0)] [] μ)) ∧ (as0 < a3 → (qW d 18 Q 8 [some (.inr (.inr (.inl 15))), some (.inr (.inr (.inl c1))), some (.inl a4), some (.inl as0), some (.inl (q32 (a4 + 1))), some (.inl as0)] [] μ))))) := (qex_eq [8, 21, 31] 14).trans rfl
theorem e19 {d : Nat} {Q : qV → qM → Prop} {μ : qM} {c1 : Int} {a2 : Int} : qmw (d + 1) 19 [(.inr (.inr (.inl 15))), (.inr (.inr (.inl c1))), (.inl a2)] μ Q = qW d 19 Q 0 [some (.inr (.inr (.inl 15))), some (.inr (.inr (.inl c1))), some (.inl a2), none, none, none] [] μ := (qE (M := (yX0_worstSpread, cX0_worstSpread, 6, some .int, 1, qc19)) rfl).trans (qEc (a := qty 15) (b := 0) (n := 3) (m := 6) (P := qW d 19 Q 0 [some (.inr (.inr (.inl 15))), some (.inr (.inr (.inl c1))), some (.inl a2), none, none, none] [] μ) (by decide +kernel))
set_option maxRecDepth 20000 in
theorem g19_0 {d : Nat} {Q : qV → qM → Prop} {μ : qM} {c1 : Int} {a2 : Int} : qW d 19 Q 0 [some (.inr (.inr (.inl 15))), some (.inr (.inr (.inl c1))), some (.inl a2), none, none, none] [] μ = (qmw d 7 [(.inr (.inr (.inl 15))), (.inr (.inr (.inl c1))), (.inl a2)] μ (fun v ν => qW d 19 Q 8 [some (.inr (.inr (.inl 15))), some (.inr (.inr (.inl c1))), some (.inl a2), some (.inl 0), none, none] (v :: []) ν)) := (qex_eq [8, 16, 18, 32, 37, 48] 6).trans rfl
set_option maxRecDepth 20000 in
theorem g19_8 {d : Nat} {Q : qV → qM → Prop} {μ : qM} {c1 : Int} {a2 : Int} {a3 : Int} {as0 : Int} : qW d 19 Q 8 [some (.inr (.inr (.inl 15))), some (.inr (.inr (.inl c1))), some (.inl a2), some (.inl a3), none, none] [(.inl as0)] μ = (qmw d 6 [(.inr (.inr (.inl 15))), (.inr (.inr (.inl c1))), (.inl a2)] μ (fun v ν => qW d 19 Q 16 [some (.inr (.inr (.inl 15))), some (.inr (.inr (.inl c1))), some (.inl a2), some (.inl a3), some (.inl as0), none] (v :: []) ν)) := (qex_eq [8, 16, 18, 32, 37, 48] 5).trans rfl
set_option maxRecDepth 20000 in
theorem g19_16 {d : Nat} {Q : qV → qM → Prop} {μ : qM} {c1 : Int} {a2 : Int} {a3 : Int} {a4 : Int} {as0 : Int} : qW d 19 Q 16 [some (.inr (.inr (.inl 15))), some (.inr (.inr (.inl c1))), some (.inl a2), some (.inl a3), some (.inl a4), none] [(.inl as0)] μ = (qW d 19 Q 18 [some (.inr (.inr (.inl 15))), some (.inr (.inr (.inl c1))), some (.inl a2), some (.inl a3), some (.inl a4), some (.inl as0)] [] μ) := (qex_eq [8, 16, 18, 32, 37, 48] 2).trans rfl
set_option maxRecDepth 20000 in
theorem g19_18 {d : Nat} {Q : qV → qM → Prop} {μ : qM} {c1 : Int} {a2 : Int} {a3 : Int} {a4 : Int} {a5 : Int} : qW d 19 Q 18 [some (.inr (.inr (.inl 15))), some (.inr (.inr (.inl c1))), some (.inl a2), some (.inl a3), some (.inl a4), some (.inl a5)] [] μ = ((a4 < a5 → (Q (.inl a3) μ)) ∧ (a5 ≤ a4 → (qmw d 4 [(.inr (.inr (.inl 15))), (.inl a2), (.inl a5)] μ (fun _ ν => qW d 19 Q 32 [some (.inr (.inr (.inl 15))), some (.inr (.inr (.inl c1))), some (.inl a2), some (.inl a3), some (.inl a4), some (.inl a5)] [] ν)))) := (qex_eq [8, 16, 18, 32, 37, 48] 7).trans rfl
set_option maxRecDepth 20000 in
theorem g19_32 {d : Nat} {Q : qV → qM → Prop} {μ : qM} {c1 : Int} {a2 : Int} {a3 : Int} {a4 : Int} {a5 : Int} : qW d 19 Q 32 [some (.inr (.inr (.inl 15))), some (.inr (.inr (.inl c1))), some (.inl a2), some (.inl a3), some (.inl a4), some (.inl a5)] [] μ = (qmw d 12 [(.inr (.inr (.inl 15)))] μ (fun v ν => qW d 19 Q 37 [some (.inr (.inr (.inl 15))), some (.inr (.inr (.inl c1))), some (.inl a2), some (.inl a3), some (.inl a4), some (.inl a5)] (v :: [(.inl a3)]) ν)) := (qex_eq [8, 16, 18, 32, 37, 48] 3).trans rfl
set_option maxRecDepth 20000 in
theorem g19_37 {d : Nat} {Q : qV → qM → Prop} {μ : qM} {c1 : Int} {a2 : Int} {a3 : Int} {a4 : Int} {a5 : Int} {as0 : Int} {as1 : Int} : qW d 19 Q 37 [some (.inr (.inr (.inl 15))), some (.inr (.inr (.inl c1))), some (.inl a2), some (.inl a3), some (.inl a4), some (.inl a5)] [(.inl as1), (.inl as0)] μ = (qmw d 5 [(.inr (.inr (.inl 15))), (.inl a2), (.inl a5)] μ (fun _ ν => qW d 19 Q 48 [some (.inr (.inr (.inl 15))), some (.inr (.inr (.inl c1))), some (.inl a2), some (.inl (qmax as0 as1)), some (.inl a4), some (.inl a5)] [] ν)) := (qex_eq [8, 16, 18, 32, 37, 48] 6).trans rfl
set_option maxRecDepth 20000 in
theorem g19_48 {d : Nat} {Q : qV → qM → Prop} {μ : qM} {c1 : Int} {a2 : Int} {a3 : Int} {a4 : Int} {a5 : Int} : qW d 19 Q 48 [some (.inr (.inr (.inl 15))), some (.inr (.inr (.inl c1))), some (.inl a2), some (.inl a3), some (.inl a4), some (.inl a5)] [] μ = (qW d 19 Q 18 [some (.inr (.inr (.inl 15))), some (.inr (.inr (.inl c1))), some (.inl a2), some (.inl a3), some (.inl a4), some (.inl (q32 (a5 + 1)))] [] μ) := (qex_eq [8, 16, 18, 32, 37, 48] 3).trans rfl
theorem e20 {d : Nat} {Q : qV → qM → Prop} {μ : qM} {c1 : Int} {a2 : Int} : qmw (d + 1) 20 [(.inr (.inr (.inl 15))), (.inr (.inr (.inl c1))), (.inl a2)] μ Q = qW d 20 Q 0 [some (.inr (.inr (.inl 15))), some (.inr (.inr (.inl c1))), some (.inl a2), none] [] μ := (qE (M := (yX0_sumOfSpan, cX0_sumOfSpan, 4, some .int, 1, qc20)) rfl).trans (qEc (a := qty 15) (b := 0) (n := 3) (m := 4) (P := qW d 20 Q 0 [some (.inr (.inr (.inl 15))), some (.inr (.inr (.inl c1))), some (.inl a2), none] [] μ) (by decide +kernel))
set_option maxRecDepth 20000 in
theorem g20_0 {d : Nat} {Q : qV → qM → Prop} {μ : qM} {c1 : Int} {a2 : Int} : qW d 20 Q 0 [some (.inr (.inr (.inl 15))), some (.inr (.inr (.inl c1))), some (.inl a2), none] [] μ = ((0 ≤ a2 ∧ a2 < 10) ∧ ((0 ≤ μ 54 a2 → (qif (Nat.beq (qty c1) 5) (qif (Nat.beq (qty (qrf c1 6)) 100) ((0 ≤ μ 54 a2 ∧ μ 54 a2 < qal (qrf c1 6)) ∧ (Q (.inl (μ (qrf c1 6) (μ 54 a2))) μ))))) ∧ (μ 54 a2 < 0 → (Q (.inl 0) μ)))) := (qex_eq [] 12).trans rfl
theorem e21 {d : Nat} {Q : qV → qM → Prop} {μ : qM} {c1 : Int} {a2 : Int} : qmw (d + 1) 21 [(.inr (.inr (.inl 15))), (.inr (.inr (.inl c1))), (.inl a2)] μ Q = qW d 21 Q 0 [some (.inr (.inr (.inl 15))), some (.inr (.inr (.inl c1))), some (.inl a2), none, none] [] μ := (qE (M := (yX0_tooMuch, cX0_tooMuch, 5, some .int, 1, qc21)) rfl).trans (qEc (a := qty 15) (b := 0) (n := 3) (m := 5) (P := qW d 21 Q 0 [some (.inr (.inr (.inl 15))), some (.inr (.inr (.inl c1))), some (.inl a2), none, none] [] μ) (by decide +kernel))
set_option maxRecDepth 20000 in
theorem g21_0 {d : Nat} {Q : qV → qM → Prop} {μ : qM} {c1 : Int} {a2 : Int} : qW d 21 Q 0 [some (.inr (.inr (.inl 15))), some (.inr (.inr (.inl c1))), some (.inl a2), none, none] [] μ = ((0 ≤ a2 ∧ a2 < 10) ∧ ((0 ≤ μ 54 a2 → (qif (Nat.beq (qty c1) 5) (qif (Nat.beq (qty (qrf c1 0)) 100) ((0 ≤ a2 ∧ a2 < qal (qrf c1 0)) ∧ (qmw d 65 [(.inr (.inr (.inl 16))), (.inl (μ (qrf c1 0) a2))] μ (fun v ν => qW d 21 Q 26 [some (.inr (.inr (.inl 15))), some (.inr (.inr (.inl c1))), some (.inl a2), some (.inl (μ 54 a2)), none] (v :: []) ν)))))) ∧ (μ 54 a2 < 0 → (Q (.inl 0) μ)))) := (qex_eq [26, 41, 44] 14).trans rfl
set_option maxRecDepth 20000 in
theorem g21_26 {d : Nat} {Q : qV → qM → Prop} {μ : qM} {c1 : Int} {a2 : Int} {a3 : Int} {as0 : Int} : qW d 21 Q 26 [some (.inr (.inr (.inl 15))), some (.inr (.inr (.inl c1))), some (.inl a2), some (.inl a3), none] [(.inl as0)] μ = (qmw d 46 [(.inr (.inr (.inl c1))), (.inl a3), (.inl a2)] μ (fun v ν => qW d 21 Q 41 [some (.inr (.inr (.inl 15))), some (.inr (.inr (.inl c1))), some (.inl a2), some (.inl a3), some (.inl as0)] (v :: [(.inr (.inr (.inl 16))), (.inl as0), (.inl 0)]) ν)) := (qex_eq [26, 41, 44] 9).trans rfl
set_option maxRecDepth 20000 in
theorem g21_41 {d : Nat} {Q : qV → qM → Prop} {μ : qM} {c1 : Int} {a2 : Int} {a3 : Int} {a4 : Int} {as0 : Int} {as1 : Int} {as3 : Int} : qW d 21 Q 41 [some (.inr (.inr (.inl 15))), some (.inr (.inr (.inl c1))), some (.inl a2), some (.inl a3), some (.inl a4)] [(.inl as3), (.inr (.inr (.inl 16))), (.inl as1), (.inl as0)] μ = (qmw d 65 [(.inr (.inr (.inl 16))), (.inl as3)] μ (fun v ν => qW d 21 Q 44 [some (.inr (.inr (.inl 15))), some (.inr (.inr (.inl c1))), some (.inl a2), some (.inl a3), some (.inl a4)] (v :: [(.inl as1), (.inl as0)]) ν)) := (qex_eq [26, 41, 44] 1).trans rfl
set_option maxRecDepth 20000 in
theorem g21_44 {d : Nat} {Q : qV → qM → Prop} {μ : qM} {c1 : Int} {a2 : Int} {a3 : Int} {a4 : Int} {as0 : Int} {as1 : Int} {as2 : Int} : qW d 21 Q 44 [some (.inr (.inr (.inl 15))), some (.inr (.inr (.inl c1))), some (.inl a2), some (.inl a3), some (.inl a4)] [(.inl as2), (.inl as1), (.inl as0)] μ = (Q (.inl (qmax as0 (q32 (as1 - as2)))) μ) := (qex_eq [26, 41, 44] 3).trans rfl
theorem e23 {d : Nat} {Q : qV → qM → Prop} {μ : qM} {c0 : Int} {c1 : Int} (hc : qty c0 = 1) : qmw (d + 1) 23 [(.inr (.inr (.inl c0))), (.inr (.inr (.inl c1)))] μ Q = qW d 23 Q 0 [some (.inr (.inr (.inl c0))), some (.inr (.inr (.inl c1)))] [] μ := (qE (M := (yX1_takeOver, cX1_takeOver, 2, none, 2, qc23)) rfl).trans (qEc (a := qty c0) (b := 1) (n := 2) (m := 2) (P := qW d 23 Q 0 [some (.inr (.inr (.inl c0))), some (.inr (.inr (.inl c1)))] [] μ) hc)
set_option maxRecDepth 20000 in
theorem g23_0 {d : Nat} {Q : qV → qM → Prop} {μ : qM} {c0 : Int} {c1 : Int} : qW d 23 Q 0 [some (.inr (.inr (.inl c0))), some (.inr (.inr (.inl c1)))] [] μ = (qif (Nat.beq (qty c0) 1) (qif (Nat.beq (qty c1) 1) (qmw d 33 [(.inr (.inr (.inl (qrf c0 0)))), (.inr (.inr (.inl (qrf c1 0))))] μ (fun _ ν => qW d 23 Q 11 [some (.inr (.inr (.inl c0))), some (.inr (.inr (.inl c1)))] [] ν)))) := (qex_eq [11, 22, 33] 5).trans rfl
set_option maxRecDepth 20000 in
theorem g23_11 {d : Nat} {Q : qV → qM → Prop} {μ : qM} {c0 : Int} {c1 : Int} : qW d 23 Q 11 [some (.inr (.inr (.inl c0))), some (.inr (.inr (.inl c1)))] [] μ = (qif (Nat.beq (qty c0) 1) (qif (Nat.beq (qty c1) 1) (qmw d 36 [(.inr (.inr (.inl (qrf c0 1)))), (.inr (.inr (.inl (qrf c1 1))))] μ (fun _ ν => qW d 23 Q 22 [some (.inr (.inr (.inl c0))), some (.inr (.inr (.inl c1)))] [] ν)))) := (qex_eq [11, 22, 33] 5).trans rfl
set_option maxRecDepth 20000 in
theorem g23_22 {d : Nat} {Q : qV → qM → Prop} {μ : qM} {c0 : Int} {c1 : Int} : qW d 23 Q 22 [some (.inr (.inr (.inl c0))), some (.inr (.inr (.inl c1)))] [] μ = (qif (Nat.beq (qty c0) 1) (qif (Nat.beq (qty c1) 1) (qmw d 41 [(.inr (.inr (.inl (qrf c0 2)))), (.inr (.inr (.inl (qrf c1 2))))] μ (fun _ ν => qW d 23 Q 33 [some (.inr (.inr (.inl c0))), some (.inr (.inr (.inl c1)))] [] ν)))) := (qex_eq [11, 22, 33] 5).trans rfl
set_option maxRecDepth 20000 in
theorem g23_33 {d : Nat} {Q : qV → qM → Prop} {μ : qM} {c0 : Int} {c1 : Int} : qW d 23 Q 33 [some (.inr (.inr (.inl c0))), some (.inr (.inr (.inl c1)))] [] μ = (qif (Nat.beq (qty c1) 1) (qif (Nat.beq (qty c0) 1) (Q (.inl 0) (qu μ c0 3 (μ c1 3))))) := (qex_eq [11, 22, 33] 5).trans rfl
theorem e25 {d : Nat} {Q : qV → qM → Prop} {μ : qM} {a1 : Int} {a2 : Int} {a3 : Int} : qmw (d + 1) 25 [(.inr (.inr (.inl 59))), (.inl a1), (.inl a2), (.inl a3)] μ Q = qW d 25 Q 0 [some (.inr (.inr (.inl 59))), some (.inl a1), some (.inl a2), some (.inl a3)] [] μ := (qE (M := (yX2_add, cX2_add, 4, some .int, 3, qc25)) rfl).trans (qEc (a := qty 59) (b := 2) (n := 4) (m := 4) (P := qW d 25 Q 0 [some (.inr (.inr (.inl 59))), some (.inl a1), some (.inl a2), some (.inl a3)] [] μ) (by decide +kernel))
set_option maxRecDepth 20000 in
theorem g25_0 {d : Nat} {Q : qV → qM → Prop} {μ : qM} {a1 : Int} {a2 : Int} {a3 : Int} : qW d 25 Q 0 [some (.inr (.inr (.inl 59))), some (.inl a1), some (.inl a2), some (.inl a3)] [] μ = ((μ 59 7 < (20 : Int) → ((0 ≤ μ 59 7 ∧ μ 59 7 < 20) ∧ ((0 ≤ μ 59 7 ∧ μ 59 7 < 20) ∧ ((0 ≤ μ 59 7 ∧ μ 59 7 < 20) ∧ ((0 ≤ μ 59 7 ∧ μ 59 7 < 20) ∧ ((0 ≤ μ 59 7 ∧ μ 59 7 < 20) ∧ ((0 ≤ μ 59 7 ∧ μ 59 7 < 20) ∧ ((0 ≤ μ 59 7 ∧ μ 59 7 < 20) ∧ (Q (.inl (q32 ((q32 ((μ 59 7) + 1)) - 1))) (qu (qu (qu (qu (qu (qu (qu (qu μ 60 (μ 59 7) a1) 61 (μ 59 7) a2) 62 (μ 59 7) a2) 63 (μ 59 7) 0) 64 (μ 59 7) 0) 65 (μ 59 7) a3) 66 (μ 59 7) 0) 59 7 (q32 ((μ 59 7) + 1)))))))))))) ∧ ((20 : Int) ≤ μ 59 7 → (Q (.inl (-3)) μ))) := (qex_eq [] 57).trans rfl
theorem e26 {d : Nat} {Q : qV → qM → Prop} {μ : qM} {a1 : Int} {a2 : Int} : qmw (d + 1) 26 [(.inr (.inr (.inl 59))), (.inl a1), (.inl a2)] μ Q = qW d 26 Q 0 [some (.inr (.inr (.inl 59))), some (.inl a1), some (.inl a2), none] [] μ := (qE (M := (yX2_holdOf, cX2_holdOf, 4, some .int, 3, qc26)) rfl).trans (qEc (a := qty 59) (b := 2) (n := 3) (m := 4) (P := qW d 26 Q 0 [some (.inr (.inr (.inl 59))), some (.inl a1), some (.inl a2), none] [] μ) (by decide +kernel))
set_option maxRecDepth 20000 in
theorem g26_0 {d : Nat} {Q : qV → qM → Prop} {μ : qM} {a1 : Int} {a2 : Int} : qW d 26 Q 0 [some (.inr (.inr (.inl 59))), some (.inl a1), some (.inl a2), none] [] μ = ((0 ≤ a1 ∧ a1 < 20) ∧ ((0 ≤ a1 ∧ a1 < 20) ∧ ((0 ≤ a1 ∧ a1 < 20) ∧ ((0 ≤ a1 ∧ a1 < 20) ∧ ((0 ≤ a1 ∧ a1 < 20) ∧ ((0 ≤ a1 ∧ a1 < 20) ∧ (¬ (10 : Int) = 0 ∧ ((0 ≤ a1 ∧ a1 < 20) ∧ (Q (.inl (qmax 0 (qmin (μ 62 a1) a2))) (qu (qu (qu μ 62 a1 (q32 ((μ 62 a1) - (qmax 0 (qmin (μ 62 a1) a2))))) 63 a1 (q32 ((μ 63 a1) + (qmax 0 (qmin (μ 62 a1) a2))))) 66 a1 (q32 ((μ 66 a1) + (qidiv (q32 ((qmax 0 (qmin (μ 62 a1) a2)) + 9)) 10))))))))))))) := (qex_eq [] 39).trans rfl
end
