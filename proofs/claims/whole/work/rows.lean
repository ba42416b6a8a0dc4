section
-- ===== PART A: goes FIRST, ahead of the names: the tables' words, and 'selects' of the private methods out of them =====
/-- a private method of a class that the tables say can be made, by its rows of tables_1 -/
def lw_okq (q : MethodName × Nat) : Prop := (q.1.cls ≠ "java/lang/invoke/MethodHandle" ∧ q.1.cls ≠ "java/lang/invoke/VarHandle") ∧ Cond.instantiable q.1.cls q.2 ∈ tables_1 ∧ Cond.privateMethod q.1 ∈ tables_1 ∧ Cond.instanceMethod q.1 ∈ tables_1
theorem lw_p0 : lw_okq (⟨"HotThrough$Kitchen", "readLine", "(LHotThrough$Text;LHotThrough$State;)V"⟩, 11) := ⟨⟨by decide +kernel, by decide +kernel⟩, List.mem_of_getElem? (i := 88) (by decide +kernel), List.mem_of_getElem? (i := 634) (by decide +kernel), List.mem_of_getElem? (i := 635) (by decide +kernel)⟩
theorem lw_p1 : lw_okq (⟨"HotThrough$Kitchen", "hasRoom", "(I)Z"⟩, 11) := ⟨⟨by decide +kernel, by decide +kernel⟩, List.mem_of_getElem? (i := 88) (by decide +kernel), List.mem_of_getElem? (i := 642) (by decide +kernel), List.mem_of_getElem? (i := 643) (by decide +kernel)⟩
theorem lw_p2 : lw_okq (⟨"HotThrough$Kitchen", "readWay", "(LHotThrough$Text;LHotThrough$State;)V"⟩, 11) := ⟨⟨by decide +kernel, by decide +kernel⟩, List.mem_of_getElem? (i := 88) (by decide +kernel), List.mem_of_getElem? (i := 654) (by decide +kernel), List.mem_of_getElem? (i := 655) (by decide +kernel)⟩
theorem lw_p3 : lw_okq (⟨"HotThrough$Kitchen", "readPot", "(LHotThrough$Text;LHotThrough$State;)V"⟩, 11) := ⟨⟨by decide +kernel, by decide +kernel⟩, List.mem_of_getElem? (i := 88) (by decide +kernel), List.mem_of_getElem? (i := 671) (by decide +kernel), List.mem_of_getElem? (i := 672) (by decide +kernel)⟩
theorem lw_p4 : lw_okq (⟨"HotThrough$Kitchen", "readPerson", "(LHotThrough$Text;LHotThrough$State;)V"⟩, 11) := ⟨⟨by decide +kernel, by decide +kernel⟩, List.mem_of_getElem? (i := 88) (by decide +kernel), List.mem_of_getElem? (i := 701) (by decide +kernel), List.mem_of_getElem? (i := 702) (by decide +kernel)⟩
theorem lw_p5 : lw_okq (⟨"HotThrough$Kitchen", "addPlace", "(I)V"⟩, 11) := ⟨⟨by decide +kernel, by decide +kernel⟩, List.mem_of_getElem? (i := 88) (by decide +kernel), List.mem_of_getElem? (i := 709) (by decide +kernel), List.mem_of_getElem? (i := 710) (by decide +kernel)⟩
theorem lw_p6 : lw_okq (⟨"HotThrough$Rule", "expression", "(LHotThrough$Text;I)V"⟩, 5) := ⟨⟨by decide +kernel, by decide +kernel⟩, List.mem_of_getElem? (i := 65) (by decide +kernel), List.mem_of_getElem? (i := 734) (by decide +kernel), List.mem_of_getElem? (i := 735) (by decide +kernel)⟩
theorem lw_p7 : lw_okq (⟨"HotThrough$Rule", "sum", "(LHotThrough$Text;I)V"⟩, 5) := ⟨⟨by decide +kernel, by decide +kernel⟩, List.mem_of_getElem? (i := 65) (by decide +kernel), List.mem_of_getElem? (i := 738) (by decide +kernel), List.mem_of_getElem? (i := 739) (by decide +kernel)⟩
theorem lw_p8 : lw_okq (⟨"HotThrough$Rule", "product", "(LHotThrough$Text;I)V"⟩, 5) := ⟨⟨by decide +kernel, by decide +kernel⟩, List.mem_of_getElem? (i := 65) (by decide +kernel), List.mem_of_getElem? (i := 742) (by decide +kernel), List.mem_of_getElem? (i := 743) (by decide +kernel)⟩
theorem lw_p9 : lw_okq (⟨"HotThrough$Rule", "factor", "(LHotThrough$Text;I)V"⟩, 5) := ⟨⟨by decide +kernel, by decide +kernel⟩, List.mem_of_getElem? (i := 65) (by decide +kernel), List.mem_of_getElem? (i := 746) (by decide +kernel), List.mem_of_getElem? (i := 747) (by decide +kernel)⟩
theorem lw_p10 : lw_okq (⟨"HotThrough$Rule", "thing", "(LHotThrough$Text;I)V"⟩, 5) := ⟨⟨by decide +kernel, by decide +kernel⟩, List.mem_of_getElem? (i := 65) (by decide +kernel), List.mem_of_getElem? (i := 751) (by decide +kernel), List.mem_of_getElem? (i := 752) (by decide +kernel)⟩
theorem lw_p11 : lw_okq (⟨"HotThrough$Rule", "emit", "(I)V"⟩, 5) := ⟨⟨by decide +kernel, by decide +kernel⟩, List.mem_of_getElem? (i := 65) (by decide +kernel), List.mem_of_getElem? (i := 760) (by decide +kernel), List.mem_of_getElem? (i := 761) (by decide +kernel)⟩
theorem lw_p12 : lw_okq (⟨"HotThrough$Acts", "slot", "(I)I"⟩, 13) := ⟨⟨by decide +kernel, by decide +kernel⟩, List.mem_of_getElem? (i := 297) (by decide +kernel), List.mem_of_getElem? (i := 803) (by decide +kernel), List.mem_of_getElem? (i := 804) (by decide +kernel)⟩
theorem lw_p13 : lw_okq (⟨"HotThrough$Acts", "second", "()V"⟩, 13) := ⟨⟨by decide +kernel, by decide +kernel⟩, List.mem_of_getElem? (i := 297) (by decide +kernel), List.mem_of_getElem? (i := 861) (by decide +kernel), List.mem_of_getElem? (i := 862) (by decide +kernel)⟩
theorem lw_p14 : lw_okq (⟨"HotThrough$Acts", "hold", "(I)V"⟩, 13) := ⟨⟨by decide +kernel, by decide +kernel⟩, List.mem_of_getElem? (i := 297) (by decide +kernel), List.mem_of_getElem? (i := 865) (by decide +kernel), List.mem_of_getElem? (i := 866) (by decide +kernel)⟩
theorem lw_p15 : lw_okq (⟨"HotThrough$Acts", "coolHand", "(I)V"⟩, 13) := ⟨⟨by decide +kernel, by decide +kernel⟩, List.mem_of_getElem? (i := 297) (by decide +kernel), List.mem_of_getElem? (i := 901) (by decide +kernel), List.mem_of_getElem? (i := 902) (by decide +kernel)⟩
def lw_privs_1 : List (MethodName × Nat) := [(⟨"HotThrough$Kitchen", "readLine", "(LHotThrough$Text;LHotThrough$State;)V"⟩, 11), (⟨"HotThrough$Kitchen", "hasRoom", "(I)Z"⟩, 11), (⟨"HotThrough$Kitchen", "readWay", "(LHotThrough$Text;LHotThrough$State;)V"⟩, 11), (⟨"HotThrough$Kitchen", "readPot", "(LHotThrough$Text;LHotThrough$State;)V"⟩, 11), (⟨"HotThrough$Kitchen", "readPerson", "(LHotThrough$Text;LHotThrough$State;)V"⟩, 11), (⟨"HotThrough$Kitchen", "addPlace", "(I)V"⟩, 11), (⟨"HotThrough$Rule", "expression", "(LHotThrough$Text;I)V"⟩, 5), (⟨"HotThrough$Rule", "sum", "(LHotThrough$Text;I)V"⟩, 5), (⟨"HotThrough$Rule", "product", "(LHotThrough$Text;I)V"⟩, 5), (⟨"HotThrough$Rule", "factor", "(LHotThrough$Text;I)V"⟩, 5), (⟨"HotThrough$Rule", "thing", "(LHotThrough$Text;I)V"⟩, 5), (⟨"HotThrough$Rule", "emit", "(I)V"⟩, 5), (⟨"HotThrough$Acts", "slot", "(I)I"⟩, 13), (⟨"HotThrough$Acts", "second", "()V"⟩, 13), (⟨"HotThrough$Acts", "hold", "(I)V"⟩, 13), (⟨"HotThrough$Acts", "coolHand", "(I)V"⟩, 13)]
theorem lw_r1 : ∀ q ∈ lw_privs_1, lw_okq q := List.forall_mem_cons.mpr ⟨lw_p0, List.forall_mem_cons.mpr ⟨lw_p1, List.forall_mem_cons.mpr ⟨lw_p2, List.forall_mem_cons.mpr ⟨lw_p3, List.forall_mem_cons.mpr ⟨lw_p4, List.forall_mem_cons.mpr ⟨lw_p5, List.forall_mem_cons.mpr ⟨lw_p6, List.forall_mem_cons.mpr ⟨lw_p7, List.forall_mem_cons.mpr ⟨lw_p8, List.forall_mem_cons.mpr ⟨lw_p9, List.forall_mem_cons.mpr ⟨lw_p10, List.forall_mem_cons.mpr ⟨lw_p11, List.forall_mem_cons.mpr ⟨lw_p12, List.forall_mem_cons.mpr ⟨lw_p13, List.forall_mem_cons.mpr ⟨lw_p14, List.forall_mem_cons.mpr ⟨lw_p15, fun _ h => absurd h List.not_mem_nil⟩⟩⟩⟩⟩⟩⟩⟩⟩⟩⟩⟩⟩⟩⟩⟩
theorem lw_p16 : lw_okq (⟨"HotThrough", "startRow", "()V"⟩, 15) := ⟨⟨by decide +kernel, by decide +kernel⟩, List.mem_of_getElem? (i := 26) (by decide +kernel), List.mem_of_getElem? (i := 907) (by decide +kernel), List.mem_of_getElem? (i := 908) (by decide +kernel)⟩
theorem lw_p17 : lw_okq (⟨"HotThrough", "tell", "(J)V"⟩, 15) := ⟨⟨by decide +kernel, by decide +kernel⟩, List.mem_of_getElem? (i := 26) (by decide +kernel), List.mem_of_getElem? (i := 911) (by decide +kernel), List.mem_of_getElem? (i := 912) (by decide +kernel)⟩
theorem lw_p18 : lw_okq (⟨"HotThrough$Acts", "readAct", "(LHotThrough$Text;I)V"⟩, 13) := ⟨⟨by decide +kernel, by decide +kernel⟩, List.mem_of_getElem? (i := 297) (by decide +kernel), List.mem_of_getElem? (i := 973) (by decide +kernel), List.mem_of_getElem? (i := 974) (by decide +kernel)⟩
theorem lw_p19 : lw_okq (⟨"HotThrough", "holds", "(I)Z"⟩, 15) := ⟨⟨by decide +kernel, by decide +kernel⟩, List.mem_of_getElem? (i := 26) (by decide +kernel), List.mem_of_getElem? (i := 1010) (by decide +kernel), List.mem_of_getElem? (i := 1011) (by decide +kernel)⟩
theorem lw_p20 : lw_okq (⟨"HotThrough$Carrier", "changeHands", "()V"⟩, 13) := ⟨⟨by decide +kernel, by decide +kernel⟩, List.mem_of_getElem? (i := 238) (by decide +kernel), List.mem_of_getElem? (i := 1019) (by decide +kernel), List.mem_of_getElem? (i := 1020) (by decide +kernel)⟩
theorem lw_p21 : lw_okq (⟨"HotThrough", "mayHold", "(III)Z"⟩, 15) := ⟨⟨by decide +kernel, by decide +kernel⟩, List.mem_of_getElem? (i := 26) (by decide +kernel), List.mem_of_getElem? (i := 1041) (by decide +kernel), List.mem_of_getElem? (i := 1042) (by decide +kernel)⟩
theorem lw_p22 : lw_okq (⟨"HotThrough$Paths", "spread", "(II)Z"⟩, 9) := ⟨⟨by decide +kernel, by decide +kernel⟩, List.mem_of_getElem? (i := 350) (by decide +kernel), List.mem_of_getElem? (i := 1063) (by decide +kernel), List.mem_of_getElem? (i := 1064) (by decide +kernel)⟩
theorem lw_p23 : lw_okq (⟨"HotThrough$Paths", "relax", "(III)V"⟩, 9) := ⟨⟨by decide +kernel, by decide +kernel⟩, List.mem_of_getElem? (i := 350) (by decide +kernel), List.mem_of_getElem? (i := 1069) (by decide +kernel), List.mem_of_getElem? (i := 1070) (by decide +kernel)⟩
theorem lw_p24 : lw_okq (⟨"HotThrough$Paths", "trace", "(II)V"⟩, 9) := ⟨⟨by decide +kernel, by decide +kernel⟩, List.mem_of_getElem? (i := 350) (by decide +kernel), List.mem_of_getElem? (i := 1073) (by decide +kernel), List.mem_of_getElem? (i := 1074) (by decide +kernel)⟩
theorem lw_p25 : lw_okq (⟨"HotThrough$Paths", "nextFrom", "(I)I"⟩, 9) := ⟨⟨by decide +kernel, by decide +kernel⟩, List.mem_of_getElem? (i := 350) (by decide +kernel), List.mem_of_getElem? (i := 1077) (by decide +kernel), List.mem_of_getElem? (i := 1078) (by decide +kernel)⟩
theorem lw_p26 : lw_okq (⟨"HotThrough$Rester", "stop", "(II)V"⟩, 11) := ⟨⟨by decide +kernel, by decide +kernel⟩, List.mem_of_getElem? (i := 395) (by decide +kernel), List.mem_of_getElem? (i := 1105) (by decide +kernel), List.mem_of_getElem? (i := 1106) (by decide +kernel)⟩
theorem lw_p27 : lw_okq (⟨"HotThrough$Rester", "arrived", "(I)V"⟩, 11) := ⟨⟨by decide +kernel, by decide +kernel⟩, List.mem_of_getElem? (i := 395) (by decide +kernel), List.mem_of_getElem? (i := 1109) (by decide +kernel), List.mem_of_getElem? (i := 1110) (by decide +kernel)⟩
theorem lw_p28 : lw_okq (⟨"HotThrough$Rester", "isLess", "(I)Z"⟩, 11) := ⟨⟨by decide +kernel, by decide +kernel⟩, List.mem_of_getElem? (i := 395) (by decide +kernel), List.mem_of_getElem? (i := 1113) (by decide +kernel), List.mem_of_getElem? (i := 1114) (by decide +kernel)⟩
theorem lw_p29 : lw_okq (⟨"HotThrough$Rester", "goOn", "(II)V"⟩, 11) := ⟨⟨by decide +kernel, by decide +kernel⟩, List.mem_of_getElem? (i := 395) (by decide +kernel), List.mem_of_getElem? (i := 1118) (by decide +kernel), List.mem_of_getElem? (i := 1119) (by decide +kernel)⟩
theorem lw_p30 : lw_okq (⟨"HotThrough", "areFree", "(I)Z"⟩, 15) := ⟨⟨by decide +kernel, by decide +kernel⟩, List.mem_of_getElem? (i := 26) (by decide +kernel), List.mem_of_getElem? (i := 1135) (by decide +kernel), List.mem_of_getElem? (i := 1136) (by decide +kernel)⟩
theorem lw_p31 : lw_okq (⟨"HotThrough$Line", "measure", "(II)V"⟩, 7) := ⟨⟨by decide +kernel, by decide +kernel⟩, List.mem_of_getElem? (i := 436) (by decide +kernel), List.mem_of_getElem? (i := 1143) (by decide +kernel), List.mem_of_getElem? (i := 1144) (by decide +kernel)⟩
def lw_privs_2 : List (MethodName × Nat) := [(⟨"HotThrough", "startRow", "()V"⟩, 15), (⟨"HotThrough", "tell", "(J)V"⟩, 15), (⟨"HotThrough$Acts", "readAct", "(LHotThrough$Text;I)V"⟩, 13), (⟨"HotThrough", "holds", "(I)Z"⟩, 15), (⟨"HotThrough$Carrier", "changeHands", "()V"⟩, 13), (⟨"HotThrough", "mayHold", "(III)Z"⟩, 15), (⟨"HotThrough$Paths", "spread", "(II)Z"⟩, 9), (⟨"HotThrough$Paths", "relax", "(III)V"⟩, 9), (⟨"HotThrough$Paths", "trace", "(II)V"⟩, 9), (⟨"HotThrough$Paths", "nextFrom", "(I)I"⟩, 9), (⟨"HotThrough$Rester", "stop", "(II)V"⟩, 11), (⟨"HotThrough$Rester", "arrived", "(I)V"⟩, 11), (⟨"HotThrough$Rester", "isLess", "(I)Z"⟩, 11), (⟨"HotThrough$Rester", "goOn", "(II)V"⟩, 11), (⟨"HotThrough", "areFree", "(I)Z"⟩, 15), (⟨"HotThrough$Line", "measure", "(II)V"⟩, 7)]
theorem lw_r2 : ∀ q ∈ lw_privs_2, lw_okq q := List.forall_mem_cons.mpr ⟨lw_p16, List.forall_mem_cons.mpr ⟨lw_p17, List.forall_mem_cons.mpr ⟨lw_p18, List.forall_mem_cons.mpr ⟨lw_p19, List.forall_mem_cons.mpr ⟨lw_p20, List.forall_mem_cons.mpr ⟨lw_p21, List.forall_mem_cons.mpr ⟨lw_p22, List.forall_mem_cons.mpr ⟨lw_p23, List.forall_mem_cons.mpr ⟨lw_p24, List.forall_mem_cons.mpr ⟨lw_p25, List.forall_mem_cons.mpr ⟨lw_p26, List.forall_mem_cons.mpr ⟨lw_p27, List.forall_mem_cons.mpr ⟨lw_p28, List.forall_mem_cons.mpr ⟨lw_p29, List.forall_mem_cons.mpr ⟨lw_p30, List.forall_mem_cons.mpr ⟨lw_p31, fun _ h => absurd h List.not_mem_nil⟩⟩⟩⟩⟩⟩⟩⟩⟩⟩⟩⟩⟩⟩⟩⟩
theorem lw_p32 : lw_okq (⟨"HotThrough$Line", "covers", "(IIIII)Z"⟩, 7) := ⟨⟨by decide +kernel, by decide +kernel⟩, List.mem_of_getElem? (i := 436) (by decide +kernel), List.mem_of_getElem? (i := 1150) (by decide +kernel), List.mem_of_getElem? (i := 1151) (by decide +kernel)⟩
theorem lw_p33 : lw_okq (⟨"HotThrough", "areOnPlaces", "(I)Z"⟩, 15) := ⟨⟨by decide +kernel, by decide +kernel⟩, List.mem_of_getElem? (i := 26) (by decide +kernel), List.mem_of_getElem? (i := 1158) (by decide +kernel), List.mem_of_getElem? (i := 1159) (by decide +kernel)⟩
theorem lw_p34 : lw_okq (⟨"HotThrough$Dishes", "measure", "(II)Z"⟩, 13) := ⟨⟨by decide +kernel, by decide +kernel⟩, List.mem_of_getElem? (i := 465) (by decide +kernel), List.mem_of_getElem? (i := 1167) (by decide +kernel), List.mem_of_getElem? (i := 1168) (by decide +kernel)⟩
theorem lw_p35 : lw_okq (⟨"HotThrough$Dishes", "bring", "(III)V"⟩, 13) := ⟨⟨by decide +kernel, by decide +kernel⟩, List.mem_of_getElem? (i := 465) (by decide +kernel), List.mem_of_getElem? (i := 1173) (by decide +kernel), List.mem_of_getElem? (i := 1174) (by decide +kernel)⟩
theorem lw_p36 : lw_okq (⟨"HotThrough$Dishes", "arrived", "(I)V"⟩, 13) := ⟨⟨by decide +kernel, by decide +kernel⟩, List.mem_of_getElem? (i := 465) (by decide +kernel), List.mem_of_getElem? (i := 1177) (by decide +kernel), List.mem_of_getElem? (i := 1178) (by decide +kernel)⟩
theorem lw_p37 : lw_okq (⟨"HotThrough$Marks", "visit", "(III)V"⟩, 11) := ⟨⟨by decide +kernel, by decide +kernel⟩, List.mem_of_getElem? (i := 513) (by decide +kernel), List.mem_of_getElem? (i := 1212) (by decide +kernel), List.mem_of_getElem? (i := 1213) (by decide +kernel)⟩
theorem lw_p38 : lw_okq (⟨"HotThrough$Marks", "arrived", "(I)V"⟩, 11) := ⟨⟨by decide +kernel, by decide +kernel⟩, List.mem_of_getElem? (i := 513) (by decide +kernel), List.mem_of_getElem? (i := 1217) (by decide +kernel), List.mem_of_getElem? (i := 1218) (by decide +kernel)⟩
theorem lw_p39 : lw_okq (⟨"HotThrough$Marks", "visitBy", "(III)V"⟩, 11) := ⟨⟨by decide +kernel, by decide +kernel⟩, List.mem_of_getElem? (i := 513) (by decide +kernel), List.mem_of_getElem? (i := 1222) (by decide +kernel), List.mem_of_getElem? (i := 1223) (by decide +kernel)⟩
theorem lw_p40 : lw_okq (⟨"java/lang/Throwable", "fillInStackTrace", "(I)Ljava/lang/Throwable;"⟩, 6) := ⟨⟨by decide +kernel, by decide +kernel⟩, List.mem_of_getElem? (i := 1294) (by decide +kernel), List.mem_of_getElem? (i := 1292) (by decide +kernel), List.mem_of_getElem? (i := 1293) (by decide +kernel)⟩
theorem lw_p41 : lw_okq (⟨"HotThrough", "throughNext", "(I)I"⟩, 15) := ⟨⟨by decide +kernel, by decide +kernel⟩, List.mem_of_getElem? (i := 26) (by decide +kernel), List.mem_of_getElem? (i := 1354) (by decide +kernel), List.mem_of_getElem? (i := 1355) (by decide +kernel)⟩
theorem lw_p42 : lw_okq (⟨"HotThroughModel", "begins", "(I)I"⟩, 72) := ⟨⟨by decide +kernel, by decide +kernel⟩, List.mem_of_getElem? (i := 1366) (by decide +kernel), List.mem_of_getElem? (i := 1609) (by decide +kernel), List.mem_of_getElem? (i := 1610) (by decide +kernel)⟩
theorem lw_p43 : lw_okq (⟨"HotThroughModel", "readsLine", "()Z"⟩, 72) := ⟨⟨by decide +kernel, by decide +kernel⟩, List.mem_of_getElem? (i := 1366) (by decide +kernel), List.mem_of_getElem? (i := 1614) (by decide +kernel), List.mem_of_getElem? (i := 1615) (by decide +kernel)⟩
theorem lw_p44 : lw_okq (⟨"HotThroughModel", "among", "(Ljava/lang/String;)I"⟩, 72) := ⟨⟨by decide +kernel, by decide +kernel⟩, List.mem_of_getElem? (i := 1366) (by decide +kernel), List.mem_of_getElem? (i := 1619) (by decide +kernel), List.mem_of_getElem? (i := 1620) (by decide +kernel)⟩
theorem lw_p45 : lw_okq (⟨"HotThroughModel", "readsPlace", "()Z"⟩, 72) := ⟨⟨by decide +kernel, by decide +kernel⟩, List.mem_of_getElem? (i := 1366) (by decide +kernel), List.mem_of_getElem? (i := 1671) (by decide +kernel), List.mem_of_getElem? (i := 1672) (by decide +kernel)⟩
theorem lw_p46 : lw_okq (⟨"HotThroughModel", "takesOf", "(Ljava/lang/String;)I"⟩, 72) := ⟨⟨by decide +kernel, by decide +kernel⟩, List.mem_of_getElem? (i := 1366) (by decide +kernel), List.mem_of_getElem? (i := 1676) (by decide +kernel), List.mem_of_getElem? (i := 1677) (by decide +kernel)⟩
theorem lw_p47 : lw_okq (⟨"HotThroughModel", "readsWay", "()Z"⟩, 72) := ⟨⟨by decide +kernel, by decide +kernel⟩, List.mem_of_getElem? (i := 1366) (by decide +kernel), List.mem_of_getElem? (i := 1683) (by decide +kernel), List.mem_of_getElem? (i := 1684) (by decide +kernel)⟩
def lw_privs_3 : List (MethodName × Nat) := [(⟨"HotThrough$Line", "covers", "(IIIII)Z"⟩, 7), (⟨"HotThrough", "areOnPlaces", "(I)Z"⟩, 15), (⟨"HotThrough$Dishes", "measure", "(II)Z"⟩, 13), (⟨"HotThrough$Dishes", "bring", "(III)V"⟩, 13), (⟨"HotThrough$Dishes", "arrived", "(I)V"⟩, 13), (⟨"HotThrough$Marks", "visit", "(III)V"⟩, 11), (⟨"HotThrough$Marks", "arrived", "(I)V"⟩, 11), (⟨"HotThrough$Marks", "visitBy", "(III)V"⟩, 11), (⟨"java/lang/Throwable", "fillInStackTrace", "(I)Ljava/lang/Throwable;"⟩, 6), (⟨"HotThrough", "throughNext", "(I)I"⟩, 15), (⟨"HotThroughModel", "begins", "(I)I"⟩, 72), (⟨"HotThroughModel", "readsLine", "()Z"⟩, 72), (⟨"HotThroughModel", "among", "(Ljava/lang/String;)I"⟩, 72), (⟨"HotThroughModel", "readsPlace", "()Z"⟩, 72), (⟨"HotThroughModel", "takesOf", "(Ljava/lang/String;)I"⟩, 72), (⟨"HotThroughModel", "readsWay", "()Z"⟩, 72)]
theorem lw_r3 : ∀ q ∈ lw_privs_3, lw_okq q := List.forall_mem_cons.mpr ⟨lw_p32, List.forall_mem_cons.mpr ⟨lw_p33, List.forall_mem_cons.mpr ⟨lw_p34, List.forall_mem_cons.mpr ⟨lw_p35, List.forall_mem_cons.mpr ⟨lw_p36, List.forall_mem_cons.mpr ⟨lw_p37, List.forall_mem_cons.mpr ⟨lw_p38, List.forall_mem_cons.mpr ⟨lw_p39, List.forall_mem_cons.mpr ⟨lw_p40, List.forall_mem_cons.mpr ⟨lw_p41, List.forall_mem_cons.mpr ⟨lw_p42, List.forall_mem_cons.mpr ⟨lw_p43, List.forall_mem_cons.mpr ⟨lw_p44, List.forall_mem_cons.mpr ⟨lw_p45, List.forall_mem_cons.mpr ⟨lw_p46, List.forall_mem_cons.mpr ⟨lw_p47, fun _ h => absurd h List.not_mem_nil⟩⟩⟩⟩⟩⟩⟩⟩⟩⟩⟩⟩⟩⟩⟩⟩
theorem lw_p48 : lw_okq (⟨"HotThroughModel", "letter", "()I"⟩, 72) := ⟨⟨by decide +kernel, by decide +kernel⟩, List.mem_of_getElem? (i := 1366) (by decide +kernel), List.mem_of_getElem? (i := 1687) (by decide +kernel), List.mem_of_getElem? (i := 1688) (by decide +kernel)⟩
theorem lw_p49 : lw_okq (⟨"HotThroughModel", "takes", "(I)Z"⟩, 72) := ⟨⟨by decide +kernel, by decide +kernel⟩, List.mem_of_getElem? (i := 1366) (by decide +kernel), List.mem_of_getElem? (i := 1692) (by decide +kernel), List.mem_of_getElem? (i := 1693) (by decide +kernel)⟩
theorem lw_p50 : lw_okq (⟨"HotThroughModel", "readsPot", "()Z"⟩, 72) := ⟨⟨by decide +kernel, by decide +kernel⟩, List.mem_of_getElem? (i := 1366) (by decide +kernel), List.mem_of_getElem? (i := 1696) (by decide +kernel), List.mem_of_getElem? (i := 1697) (by decide +kernel)⟩
theorem lw_p51 : lw_okq (⟨"HotThroughModel", "number", "(I)I"⟩, 72) := ⟨⟨by decide +kernel, by decide +kernel⟩, List.mem_of_getElem? (i := 1366) (by decide +kernel), List.mem_of_getElem? (i := 1700) (by decide +kernel), List.mem_of_getElem? (i := 1701) (by decide +kernel)⟩
theorem lw_p52 : lw_okq (⟨"HotThroughModel", "isDigit", "()Z"⟩, 72) := ⟨⟨by decide +kernel, by decide +kernel⟩, List.mem_of_getElem? (i := 1366) (by decide +kernel), List.mem_of_getElem? (i := 1704) (by decide +kernel), List.mem_of_getElem? (i := 1705) (by decide +kernel)⟩
theorem lw_p53 : lw_okq (⟨"HotThroughModel", "kindOf", "(I)I"⟩, 72) := ⟨⟨by decide +kernel, by decide +kernel⟩, List.mem_of_getElem? (i := 1366) (by decide +kernel), List.mem_of_getElem? (i := 1710) (by decide +kernel), List.mem_of_getElem? (i := 1711) (by decide +kernel)⟩
theorem lw_p54 : lw_okq (⟨"HotThroughModel", "readsOne", "()Z"⟩, 72) := ⟨⟨by decide +kernel, by decide +kernel⟩, List.mem_of_getElem? (i := 1366) (by decide +kernel), List.mem_of_getElem? (i := 1714) (by decide +kernel), List.mem_of_getElem? (i := 1715) (by decide +kernel)⟩
theorem lw_p55 : lw_okq (⟨"HotThroughModel", "faultOf", "(IIZ)I"⟩, 72) := ⟨⟨by decide +kernel, by decide +kernel⟩, List.mem_of_getElem? (i := 1366) (by decide +kernel), List.mem_of_getElem? (i := 1718) (by decide +kernel), List.mem_of_getElem? (i := 1719) (by decide +kernel)⟩
theorem lw_p56 : lw_okq (⟨"HotThroughModel", "readsRank", "(I)Z"⟩, 72) := ⟨⟨by decide +kernel, by decide +kernel⟩, List.mem_of_getElem? (i := 1366) (by decide +kernel), List.mem_of_getElem? (i := 1730) (by decide +kernel), List.mem_of_getElem? (i := 1731) (by decide +kernel)⟩
theorem lw_p57 : lw_okq (⟨"HotThroughModel", "readsThing", "()Z"⟩, 72) := ⟨⟨by decide +kernel, by decide +kernel⟩, List.mem_of_getElem? (i := 1366) (by decide +kernel), List.mem_of_getElem? (i := 1734) (by decide +kernel), List.mem_of_getElem? (i := 1735) (by decide +kernel)⟩
theorem lw_p58 : lw_okq (⟨"HotThroughModel", "codes", "(I)V"⟩, 72) := ⟨⟨by decide +kernel, by decide +kernel⟩, List.mem_of_getElem? (i := 1366) (by decide +kernel), List.mem_of_getElem? (i := 1738) (by decide +kernel), List.mem_of_getElem? (i := 1739) (by decide +kernel)⟩
theorem lw_p59 : lw_okq (⟨"HotThroughModel", "isPlace", "(I)Z"⟩, 72) := ⟨⟨by decide +kernel, by decide +kernel⟩, List.mem_of_getElem? (i := 1366) (by decide +kernel), List.mem_of_getElem? (i := 1750) (by decide +kernel), List.mem_of_getElem? (i := 1751) (by decide +kernel)⟩
theorem lw_p60 : lw_okq (⟨"HotThroughModel", "refuse", "()I"⟩, 72) := ⟨⟨by decide +kernel, by decide +kernel⟩, List.mem_of_getElem? (i := 1366) (by decide +kernel), List.mem_of_getElem? (i := 1755) (by decide +kernel), List.mem_of_getElem? (i := 1756) (by decide +kernel)⟩
theorem lw_p61 : lw_okq (⟨"HotThroughModel", "isWay", "(I)Z"⟩, 72) := ⟨⟨by decide +kernel, by decide +kernel⟩, List.mem_of_getElem? (i := 1366) (by decide +kernel), List.mem_of_getElem? (i := 1763) (by decide +kernel), List.mem_of_getElem? (i := 1764) (by decide +kernel)⟩
theorem lw_p62 : lw_okq (⟨"HotThroughModel", "isOpen", "(I)Z"⟩, 72) := ⟨⟨by decide +kernel, by decide +kernel⟩, List.mem_of_getElem? (i := 1366) (by decide +kernel), List.mem_of_getElem? (i := 1767) (by decide +kernel), List.mem_of_getElem? (i := 1768) (by decide +kernel)⟩
theorem lw_p63 : lw_okq (⟨"HotThroughModel", "isPot", "(I)Z"⟩, 72) := ⟨⟨by decide +kernel, by decide +kernel⟩, List.mem_of_getElem? (i := 1366) (by decide +kernel), List.mem_of_getElem? (i := 1778) (by decide +kernel), List.mem_of_getElem? (i := 1779) (by decide +kernel)⟩
def lw_privs_4 : List (MethodName × Nat) := [(⟨"HotThroughModel", "letter", "()I"⟩, 72), (⟨"HotThroughModel", "takes", "(I)Z"⟩, 72), (⟨"HotThroughModel", "readsPot", "()Z"⟩, 72), (⟨"HotThroughModel", "number", "(I)I"⟩, 72), (⟨"HotThroughModel", "isDigit", "()Z"⟩, 72), (⟨"HotThroughModel", "kindOf", "(I)I"⟩, 72), (⟨"HotThroughModel", "readsOne", "()Z"⟩, 72), (⟨"HotThroughModel", "faultOf", "(IIZ)I"⟩, 72), (⟨"HotThroughModel", "readsRank", "(I)Z"⟩, 72), (⟨"HotThroughModel", "readsThing", "()Z"⟩, 72), (⟨"HotThroughModel", "codes", "(I)V"⟩, 72), (⟨"HotThroughModel", "isPlace", "(I)Z"⟩, 72), (⟨"HotThroughModel", "refuse", "()I"⟩, 72), (⟨"HotThroughModel", "isWay", "(I)Z"⟩, 72), (⟨"HotThroughModel", "isOpen", "(I)Z"⟩, 72), (⟨"HotThroughModel", "isPot", "(I)Z"⟩, 72)]
theorem lw_r4 : ∀ q ∈ lw_privs_4, lw_okq q := List.forall_mem_cons.mpr ⟨lw_p48, List.forall_mem_cons.mpr ⟨lw_p49, List.forall_mem_cons.mpr ⟨lw_p50, List.forall_mem_cons.mpr ⟨lw_p51, List.forall_mem_cons.mpr ⟨lw_p52, List.forall_mem_cons.mpr ⟨lw_p53, List.forall_mem_cons.mpr ⟨lw_p54, List.forall_mem_cons.mpr ⟨lw_p55, List.forall_mem_cons.mpr ⟨lw_p56, List.forall_mem_cons.mpr ⟨lw_p57, List.forall_mem_cons.mpr ⟨lw_p58, List.forall_mem_cons.mpr ⟨lw_p59, List.forall_mem_cons.mpr ⟨lw_p60, List.forall_mem_cons.mpr ⟨lw_p61, List.forall_mem_cons.mpr ⟨lw_p62, List.forall_mem_cons.mpr ⟨lw_p63, fun _ h => absurd h List.not_mem_nil⟩⟩⟩⟩⟩⟩⟩⟩⟩⟩⟩⟩⟩⟩⟩⟩
theorem lw_p64 : lw_okq (⟨"HotThroughModel", "holder", "(I)I"⟩, 72) := ⟨⟨by decide +kernel, by decide +kernel⟩, List.mem_of_getElem? (i := 1366) (by decide +kernel), List.mem_of_getElem? (i := 1783) (by decide +kernel), List.mem_of_getElem? (i := 1784) (by decide +kernel)⟩
theorem lw_p65 : lw_okq (⟨"HotThroughModel", "holds", "(I)I"⟩, 72) := ⟨⟨by decide +kernel, by decide +kernel⟩, List.mem_of_getElem? (i := 1366) (by decide +kernel), List.mem_of_getElem? (i := 1787) (by decide +kernel), List.mem_of_getElem? (i := 1788) (by decide +kernel)⟩
theorem lw_p66 : lw_okq (⟨"HotThroughModel", "isPerson", "(I)Z"⟩, 72) := ⟨⟨by decide +kernel, by decide +kernel⟩, List.mem_of_getElem? (i := 1366) (by decide +kernel), List.mem_of_getElem? (i := 1795) (by decide +kernel), List.mem_of_getElem? (i := 1796) (by decide +kernel)⟩
theorem lw_p67 : lw_okq (⟨"HotThroughModel", "throughOf", "([II)I"⟩, 72) := ⟨⟨by decide +kernel, by decide +kernel⟩, List.mem_of_getElem? (i := 1366) (by decide +kernel), List.mem_of_getElem? (i := 1800) (by decide +kernel), List.mem_of_getElem? (i := 1801) (by decide +kernel)⟩
theorem lw_p68 : lw_okq (⟨"HotThroughModel", "throughBy", "(IIIIIII)I"⟩, 72) := ⟨⟨by decide +kernel, by decide +kernel⟩, List.mem_of_getElem? (i := 1366) (by decide +kernel), List.mem_of_getElem? (i := 1804) (by decide +kernel), List.mem_of_getElem? (i := 1805) (by decide +kernel)⟩
theorem lw_p69 : lw_okq (⟨"HotThroughModel", "through", "()I"⟩, 72) := ⟨⟨by decide +kernel, by decide +kernel⟩, List.mem_of_getElem? (i := 1366) (by decide +kernel), List.mem_of_getElem? (i := 1808) (by decide +kernel), List.mem_of_getElem? (i := 1809) (by decide +kernel)⟩
theorem lw_p70 : lw_okq (⟨"HotThroughModel", "isThere", "(I)Z"⟩, 72) := ⟨⟨by decide +kernel, by decide +kernel⟩, List.mem_of_getElem? (i := 1366) (by decide +kernel), List.mem_of_getElem? (i := 1820) (by decide +kernel), List.mem_of_getElem? (i := 1821) (by decide +kernel)⟩
theorem lw_p71 : lw_okq (⟨"HotThroughModel", "putsBy", "()V"⟩, 72) := ⟨⟨by decide +kernel, by decide +kernel⟩, List.mem_of_getElem? (i := 1366) (by decide +kernel), List.mem_of_getElem? (i := 1837) (by decide +kernel), List.mem_of_getElem? (i := 1838) (by decide +kernel)⟩
theorem lw_p72 : lw_okq (⟨"HotThroughModel", "takesPot", "(II)I"⟩, 72) := ⟨⟨by decide +kernel, by decide +kernel⟩, List.mem_of_getElem? (i := 1366) (by decide +kernel), List.mem_of_getElem? (i := 1841) (by decide +kernel), List.mem_of_getElem? (i := 1842) (by decide +kernel)⟩
theorem lw_p73 : lw_okq (⟨"HotThroughModel", "counts", "(I)I"⟩, 72) := ⟨⟨by decide +kernel, by decide +kernel⟩, List.mem_of_getElem? (i := 1366) (by decide +kernel), List.mem_of_getElem? (i := 1845) (by decide +kernel), List.mem_of_getElem? (i := 1846) (by decide +kernel)⟩
theorem lw_p74 : lw_okq (⟨"HotThroughModel", "adds", "(I)I"⟩, 72) := ⟨⟨by decide +kernel, by decide +kernel⟩, List.mem_of_getElem? (i := 1366) (by decide +kernel), List.mem_of_getElem? (i := 1849) (by decide +kernel), List.mem_of_getElem? (i := 1850) (by decide +kernel)⟩
theorem lw_p75 : lw_okq (⟨"HotThroughModel", "setsDown", "(I)I"⟩, 72) := ⟨⟨by decide +kernel, by decide +kernel⟩, List.mem_of_getElem? (i := 1366) (by decide +kernel), List.mem_of_getElem? (i := 1857) (by decide +kernel), List.mem_of_getElem? (i := 1858) (by decide +kernel)⟩
theorem lw_p76 : lw_okq (⟨"HotThroughModel", "startsCounting", "()V"⟩, 72) := ⟨⟨by decide +kernel, by decide +kernel⟩, List.mem_of_getElem? (i := 1366) (by decide +kernel), List.mem_of_getElem? (i := 1865) (by decide +kernel), List.mem_of_getElem? (i := 1866) (by decide +kernel)⟩
theorem lw_p77 : lw_okq (⟨"HotThroughModel", "walks", "(II)I"⟩, 72) := ⟨⟨by decide +kernel, by decide +kernel⟩, List.mem_of_getElem? (i := 1366) (by decide +kernel), List.mem_of_getElem? (i := 1869) (by decide +kernel), List.mem_of_getElem? (i := 1870) (by decide +kernel)⟩
theorem lw_p78 : lw_okq (⟨"HotThroughModel", "secondGoes", "([I)V"⟩, 72) := ⟨⟨by decide +kernel, by decide +kernel⟩, List.mem_of_getElem? (i := 1366) (by decide +kernel), List.mem_of_getElem? (i := 1873) (by decide +kernel), List.mem_of_getElem? (i := 1874) (by decide +kernel)⟩
theorem lw_p79 : lw_okq (⟨"HotThroughModel", "enters", "(J)V"⟩, 72) := ⟨⟨by decide +kernel, by decide +kernel⟩, List.mem_of_getElem? (i := 1366) (by decide +kernel), List.mem_of_getElem? (i := 1877) (by decide +kernel), List.mem_of_getElem? (i := 1878) (by decide +kernel)⟩
def lw_privs_5 : List (MethodName × Nat) := [(⟨"HotThroughModel", "holder", "(I)I"⟩, 72), (⟨"HotThroughModel", "holds", "(I)I"⟩, 72), (⟨"HotThroughModel", "isPerson", "(I)Z"⟩, 72), (⟨"HotThroughModel", "throughOf", "([II)I"⟩, 72), (⟨"HotThroughModel", "throughBy", "(IIIIIII)I"⟩, 72), (⟨"HotThroughModel", "through", "()I"⟩, 72), (⟨"HotThroughModel", "isThere", "(I)Z"⟩, 72), (⟨"HotThroughModel", "putsBy", "()V"⟩, 72), (⟨"HotThroughModel", "takesPot", "(II)I"⟩, 72), (⟨"HotThroughModel", "counts", "(I)I"⟩, 72), (⟨"HotThroughModel", "adds", "(I)I"⟩, 72), (⟨"HotThroughModel", "setsDown", "(I)I"⟩, 72), (⟨"HotThroughModel", "startsCounting", "()V"⟩, 72), (⟨"HotThroughModel", "walks", "(II)I"⟩, 72), (⟨"HotThroughModel", "secondGoes", "([I)V"⟩, 72), (⟨"HotThroughModel", "enters", "(J)V"⟩, 72)]
theorem lw_r5 : ∀ q ∈ lw_privs_5, lw_okq q := List.forall_mem_cons.mpr ⟨lw_p64, List.forall_mem_cons.mpr ⟨lw_p65, List.forall_mem_cons.mpr ⟨lw_p66, List.forall_mem_cons.mpr ⟨lw_p67, List.forall_mem_cons.mpr ⟨lw_p68, List.forall_mem_cons.mpr ⟨lw_p69, List.forall_mem_cons.mpr ⟨lw_p70, List.forall_mem_cons.mpr ⟨lw_p71, List.forall_mem_cons.mpr ⟨lw_p72, List.forall_mem_cons.mpr ⟨lw_p73, List.forall_mem_cons.mpr ⟨lw_p74, List.forall_mem_cons.mpr ⟨lw_p75, List.forall_mem_cons.mpr ⟨lw_p76, List.forall_mem_cons.mpr ⟨lw_p77, List.forall_mem_cons.mpr ⟨lw_p78, List.forall_mem_cons.mpr ⟨lw_p79, fun _ h => absurd h List.not_mem_nil⟩⟩⟩⟩⟩⟩⟩⟩⟩⟩⟩⟩⟩⟩⟩⟩
theorem lw_p80 : lw_okq (⟨"HotThroughModel", "passes", "(I)I"⟩, 72) := ⟨⟨by decide +kernel, by decide +kernel⟩, List.mem_of_getElem? (i := 1366) (by decide +kernel), List.mem_of_getElem? (i := 1885) (by decide +kernel), List.mem_of_getElem? (i := 1886) (by decide +kernel)⟩
theorem lw_p81 : lw_okq (⟨"HotThroughModel", "changesHand", "(I)I"⟩, 72) := ⟨⟨by decide +kernel, by decide +kernel⟩, List.mem_of_getElem? (i := 1366) (by decide +kernel), List.mem_of_getElem? (i := 1894) (by decide +kernel), List.mem_of_getElem? (i := 1895) (by decide +kernel)⟩
theorem lw_p82 : lw_okq (⟨"HotThroughModel", "gives", "(II)I"⟩, 72) := ⟨⟨by decide +kernel, by decide +kernel⟩, List.mem_of_getElem? (i := 1366) (by decide +kernel), List.mem_of_getElem? (i := 1902) (by decide +kernel), List.mem_of_getElem? (i := 1903) (by decide +kernel)⟩
theorem lw_p83 : lw_okq (⟨"HotThroughModel", "opens", "(II)I"⟩, 72) := ⟨⟨by decide +kernel, by decide +kernel⟩, List.mem_of_getElem? (i := 1366) (by decide +kernel), List.mem_of_getElem? (i := 1915) (by decide +kernel), List.mem_of_getElem? (i := 1916) (by decide +kernel)⟩
theorem lw_p84 : lw_okq (⟨"HotThroughModel", "readsAct", "()Z"⟩, 72) := ⟨⟨by decide +kernel, by decide +kernel⟩, List.mem_of_getElem? (i := 1366) (by decide +kernel), List.mem_of_getElem? (i := 1924) (by decide +kernel), List.mem_of_getElem? (i := 1925) (by decide +kernel)⟩
theorem lw_p85 : lw_okq (⟨"HotThroughModel", "does", "(I)Z"⟩, 72) := ⟨⟨by decide +kernel, by decide +kernel⟩, List.mem_of_getElem? (i := 1366) (by decide +kernel), List.mem_of_getElem? (i := 1929) (by decide +kernel), List.mem_of_getElem? (i := 1930) (by decide +kernel)⟩
theorem lw_p86 : lw_okq (⟨"HotThroughModel", "canHold", "(I)Z"⟩, 72) := ⟨⟨by decide +kernel, by decide +kernel⟩, List.mem_of_getElem? (i := 1366) (by decide +kernel), List.mem_of_getElem? (i := 1937) (by decide +kernel), List.mem_of_getElem? (i := 1938) (by decide +kernel)⟩
theorem lw_p87 : lw_okq (⟨"HotThroughModel", "holdsOut", "(II)I"⟩, 72) := ⟨⟨by decide +kernel, by decide +kernel⟩, List.mem_of_getElem? (i := 1366) (by decide +kernel), List.mem_of_getElem? (i := 1941) (by decide +kernel), List.mem_of_getElem? (i := 1942) (by decide +kernel)⟩
theorem lw_p88 : lw_okq (⟨"HotThroughModel", "canThink", "(III)Z"⟩, 72) := ⟨⟨by decide +kernel, by decide +kernel⟩, List.mem_of_getElem? (i := 1366) (by decide +kernel), List.mem_of_getElem? (i := 1961) (by decide +kernel), List.mem_of_getElem? (i := 1962) (by decide +kernel)⟩
theorem lw_p89 : lw_okq (⟨"HotThroughModel", "soloBegins", "(II)V"⟩, 72) := ⟨⟨by decide +kernel, by decide +kernel⟩, List.mem_of_getElem? (i := 1366) (by decide +kernel), List.mem_of_getElem? (i := 1965) (by decide +kernel), List.mem_of_getElem? (i := 1966) (by decide +kernel)⟩
theorem lw_p90 : lw_okq (⟨"HotThroughModel", "soloHolds", "(IIII)I"⟩, 72) := ⟨⟨by decide +kernel, by decide +kernel⟩, List.mem_of_getElem? (i := 1366) (by decide +kernel), List.mem_of_getElem? (i := 1969) (by decide +kernel), List.mem_of_getElem? (i := 1970) (by decide +kernel)⟩
theorem lw_p91 : lw_okq (⟨"HotThroughModel", "laysWay", "(II)Z"⟩, 72) := ⟨⟨by decide +kernel, by decide +kernel⟩, List.mem_of_getElem? (i := 1366) (by decide +kernel), List.mem_of_getElem? (i := 1981) (by decide +kernel), List.mem_of_getElem? (i := 1982) (by decide +kernel)⟩
theorem lw_p92 : lw_okq (⟨"HotThroughModel", "laysApart", "(I)V"⟩, 72) := ⟨⟨by decide +kernel, by decide +kernel⟩, List.mem_of_getElem? (i := 1366) (by decide +kernel), List.mem_of_getElem? (i := 1985) (by decide +kernel), List.mem_of_getElem? (i := 1986) (by decide +kernel)⟩
theorem lw_p93 : lw_okq (⟨"HotThroughModel", "stepsOfWay", "()I"⟩, 72) := ⟨⟨by decide +kernel, by decide +kernel⟩, List.mem_of_getElem? (i := 1366) (by decide +kernel), List.mem_of_getElem? (i := 1990) (by decide +kernel), List.mem_of_getElem? (i := 1991) (by decide +kernel)⟩
theorem lw_p94 : lw_okq (⟨"HotThroughModel", "legOf", "(I)I"⟩, 72) := ⟨⟨by decide +kernel, by decide +kernel⟩, List.mem_of_getElem? (i := 1366) (by decide +kernel), List.mem_of_getElem? (i := 2002) (by decide +kernel), List.mem_of_getElem? (i := 2003) (by decide +kernel)⟩
theorem lw_p95 : lw_okq (⟨"HotThroughModel", "fewestRests", "(II)I"⟩, 72) := ⟨⟨by decide +kernel, by decide +kernel⟩, List.mem_of_getElem? (i := 1366) (by decide +kernel), List.mem_of_getElem? (i := 2011) (by decide +kernel), List.mem_of_getElem? (i := 2012) (by decide +kernel)⟩
def lw_privs_6 : List (MethodName × Nat) := [(⟨"HotThroughModel", "passes", "(I)I"⟩, 72), (⟨"HotThroughModel", "changesHand", "(I)I"⟩, 72), (⟨"HotThroughModel", "gives", "(II)I"⟩, 72), (⟨"HotThroughModel", "opens", "(II)I"⟩, 72), (⟨"HotThroughModel", "readsAct", "()Z"⟩, 72), (⟨"HotThroughModel", "does", "(I)Z"⟩, 72), (⟨"HotThroughModel", "canHold", "(I)Z"⟩, 72), (⟨"HotThroughModel", "holdsOut", "(II)I"⟩, 72), (⟨"HotThroughModel", "canThink", "(III)Z"⟩, 72), (⟨"HotThroughModel", "soloBegins", "(II)V"⟩, 72), (⟨"HotThroughModel", "soloHolds", "(IIII)I"⟩, 72), (⟨"HotThroughModel", "laysWay", "(II)Z"⟩, 72), (⟨"HotThroughModel", "laysApart", "(I)V"⟩, 72), (⟨"HotThroughModel", "stepsOfWay", "()I"⟩, 72), (⟨"HotThroughModel", "legOf", "(I)I"⟩, 72), (⟨"HotThroughModel", "fewestRests", "(II)I"⟩, 72)]
theorem lw_r6 : ∀ q ∈ lw_privs_6, lw_okq q := List.forall_mem_cons.mpr ⟨lw_p80, List.forall_mem_cons.mpr ⟨lw_p81, List.forall_mem_cons.mpr ⟨lw_p82, List.forall_mem_cons.mpr ⟨lw_p83, List.forall_mem_cons.mpr ⟨lw_p84, List.forall_mem_cons.mpr ⟨lw_p85, List.forall_mem_cons.mpr ⟨lw_p86, List.forall_mem_cons.mpr ⟨lw_p87, List.forall_mem_cons.mpr ⟨lw_p88, List.forall_mem_cons.mpr ⟨lw_p89, List.forall_mem_cons.mpr ⟨lw_p90, List.forall_mem_cons.mpr ⟨lw_p91, List.forall_mem_cons.mpr ⟨lw_p92, List.forall_mem_cons.mpr ⟨lw_p93, List.forall_mem_cons.mpr ⟨lw_p94, List.forall_mem_cons.mpr ⟨lw_p95, fun _ h => absurd h List.not_mem_nil⟩⟩⟩⟩⟩⟩⟩⟩⟩⟩⟩⟩⟩⟩⟩⟩
theorem lw_p96 : lw_okq (⟨"HotThroughModel", "isAhead", "(II)Z"⟩, 72) := ⟨⟨by decide +kernel, by decide +kernel⟩, List.mem_of_getElem? (i := 1366) (by decide +kernel), List.mem_of_getElem? (i := 2015) (by decide +kernel), List.mem_of_getElem? (i := 2016) (by decide +kernel)⟩
theorem lw_p97 : lw_okq (⟨"HotThroughModel", "canRest", "(I)Z"⟩, 72) := ⟨⟨by decide +kernel, by decide +kernel⟩, List.mem_of_getElem? (i := 1366) (by decide +kernel), List.mem_of_getElem? (i := 2023) (by decide +kernel), List.mem_of_getElem? (i := 2024) (by decide +kernel)⟩
theorem lw_p98 : lw_okq (⟨"HotThroughModel", "carries", "(III)Z"⟩, 72) := ⟨⟨by decide +kernel, by decide +kernel⟩, List.mem_of_getElem? (i := 1366) (by decide +kernel), List.mem_of_getElem? (i := 2027) (by decide +kernel), List.mem_of_getElem? (i := 2028) (by decide +kernel)⟩
theorem lw_p99 : lw_okq (⟨"HotThroughModel", "soloRests", "(II)V"⟩, 72) := ⟨⟨by decide +kernel, by decide +kernel⟩, List.mem_of_getElem? (i := 1366) (by decide +kernel), List.mem_of_getElem? (i := 2031) (by decide +kernel), List.mem_of_getElem? (i := 2032) (by decide +kernel)⟩
theorem lw_p100 : lw_okq (⟨"HotThroughModel", "carriesOn", "(IIIIIII)V"⟩, 72) := ⟨⟨by decide +kernel, by decide +kernel⟩, List.mem_of_getElem? (i := 1366) (by decide +kernel), List.mem_of_getElem? (i := 2043) (by decide +kernel), List.mem_of_getElem? (i := 2044) (by decide +kernel)⟩
theorem lw_p101 : lw_okq (⟨"HotThroughModel", "brings", "(IIIIIIII)V"⟩, 72) := ⟨⟨by decide +kernel, by decide +kernel⟩, List.mem_of_getElem? (i := 1366) (by decide +kernel), List.mem_of_getElem? (i := 2051) (by decide +kernel), List.mem_of_getElem? (i := 2052) (by decide +kernel)⟩
theorem lw_p102 : lw_okq (⟨"HotThroughModel", "coolsAll", "(II)V"⟩, 72) := ⟨⟨by decide +kernel, by decide +kernel⟩, List.mem_of_getElem? (i := 1366) (by decide +kernel), List.mem_of_getElem? (i := 2055) (by decide +kernel), List.mem_of_getElem? (i := 2056) (by decide +kernel)⟩
theorem lw_p103 : lw_okq (⟨"HotThroughModel", "walksOn", "(IIIII)V"⟩, 72) := ⟨⟨by decide +kernel, by decide +kernel⟩, List.mem_of_getElem? (i := 1366) (by decide +kernel), List.mem_of_getElem? (i := 2072) (by decide +kernel), List.mem_of_getElem? (i := 2073) (by decide +kernel)⟩
theorem lw_p104 : lw_okq (⟨"HotThroughModel", "marksAt", "(II)I"⟩, 72) := ⟨⟨by decide +kernel, by decide +kernel⟩, List.mem_of_getElem? (i := 1366) (by decide +kernel), List.mem_of_getElem? (i := 2076) (by decide +kernel), List.mem_of_getElem? (i := 2077) (by decide +kernel)⟩
theorem lw_p105 : lw_okq (⟨"HotThroughModel", "isLess", "(I)Z"⟩, 72) := ⟨⟨by decide +kernel, by decide +kernel⟩, List.mem_of_getElem? (i := 1366) (by decide +kernel), List.mem_of_getElem? (i := 2080) (by decide +kernel), List.mem_of_getElem? (i := 2081) (by decide +kernel)⟩
theorem lw_p106 : lw_okq (⟨"HotThroughModel", "dropped", "()I"⟩, 72) := ⟨⟨by decide +kernel, by decide +kernel⟩, List.mem_of_getElem? (i := 1366) (by decide +kernel), List.mem_of_getElem? (i := 2103) (by decide +kernel), List.mem_of_getElem? (i := 2104) (by decide +kernel)⟩
theorem lw_p107 : lw_okq (⟨"HotThroughModel", "burntAll", "()I"⟩, 72) := ⟨⟨by decide +kernel, by decide +kernel⟩, List.mem_of_getElem? (i := 1366) (by decide +kernel), List.mem_of_getElem? (i := 2107) (by decide +kernel), List.mem_of_getElem? (i := 2108) (by decide +kernel)⟩
def lw_privs_7 : List (MethodName × Nat) := [(⟨"HotThroughModel", "isAhead", "(II)Z"⟩, 72), (⟨"HotThroughModel", "canRest", "(I)Z"⟩, 72), (⟨"HotThroughModel", "carries", "(III)Z"⟩, 72), (⟨"HotThroughModel", "soloRests", "(II)V"⟩, 72), (⟨"HotThroughModel", "carriesOn", "(IIIIIII)V"⟩, 72), (⟨"HotThroughModel", "brings", "(IIIIIIII)V"⟩, 72), (⟨"HotThroughModel", "coolsAll", "(II)V"⟩, 72), (⟨"HotThroughModel", "walksOn", "(IIIII)V"⟩, 72), (⟨"HotThroughModel", "marksAt", "(II)I"⟩, 72), (⟨"HotThroughModel", "isLess", "(I)Z"⟩, 72), (⟨"HotThroughModel", "dropped", "()I"⟩, 72), (⟨"HotThroughModel", "burntAll", "()I"⟩, 72)]
theorem lw_r7 : ∀ q ∈ lw_privs_7, lw_okq q := List.forall_mem_cons.mpr ⟨lw_p96, List.forall_mem_cons.mpr ⟨lw_p97, List.forall_mem_cons.mpr ⟨lw_p98, List.forall_mem_cons.mpr ⟨lw_p99, List.forall_mem_cons.mpr ⟨lw_p100, List.forall_mem_cons.mpr ⟨lw_p101, List.forall_mem_cons.mpr ⟨lw_p102, List.forall_mem_cons.mpr ⟨lw_p103, List.forall_mem_cons.mpr ⟨lw_p104, List.forall_mem_cons.mpr ⟨lw_p105, List.forall_mem_cons.mpr ⟨lw_p106, List.forall_mem_cons.mpr ⟨lw_p107, fun _ h => absurd h List.not_mem_nil⟩⟩⟩⟩⟩⟩⟩⟩⟩⟩⟩⟩
def lw_privs : List (MethodName × Nat) := lw_privs_1 ++ (lw_privs_2 ++ (lw_privs_3 ++ (lw_privs_4 ++ (lw_privs_5 ++ (lw_privs_6 ++ (lw_privs_7))))))
def lw_tbl : List Cond := k2_sels lw_privs ++ tables_1
theorem lw_privs_ok : ∀ q ∈ lw_privs, lw_okq q := by
  show ∀ q ∈ lw_privs_1 ++ (lw_privs_2 ++ (lw_privs_3 ++ (lw_privs_4 ++ (lw_privs_5 ++ (lw_privs_6 ++ (lw_privs_7)))))), lw_okq q
  exact List.forall_mem_append.mpr ⟨lw_r1, List.forall_mem_append.mpr ⟨lw_r2, List.forall_mem_append.mpr ⟨lw_r3, List.forall_mem_append.mpr ⟨lw_r4, List.forall_mem_append.mpr ⟨lw_r5, List.forall_mem_append.mpr ⟨lw_r6, lw_r7⟩⟩⟩⟩⟩⟩
-- ===== end of PART A; then your names; then what follows =====
end
section
/-! numbers: ints of the machine as whole numbers -/
def inI (v : Int) : Prop := -2147483648 ≤ v ∧ v < 2147483648
def inL (v : Int) : Prop := -9223372036854775808 ≤ v ∧ v < 9223372036854775808
def w32 (v : Int) : Int := (v + 2147483648) % 4294967296 - 2147483648
theorem w32_in (v : Int) : inI (w32 v) := by unfold inI w32; omega
theorem w32_id {v : Int} (h : inI v) : w32 v = v := by unfold inI at h; unfold w32; omega
theorem w32_eq {v : Int} (h1 : -2147483648 ≤ v) (h2 : v < 2147483648) : w32 v = v := w32_id ⟨h1, h2⟩
theorem toInt_in (x : Int32) : inI x.toInt := ⟨by have := Int32.le_toInt x; omega, by have := Int32.toInt_lt x; omega⟩
theorem ofI_toInt {v : Int} (h : inI v) : (Int32.ofInt v).toInt = v := Int32.toInt_ofInt_of_le (by unfold inI at h; omega) (by unfold inI at h; omega)
theorem ofL_toInt {v : Int} (h : inL v) : (Int64.ofInt v).toInt = v := Int64.toInt_ofInt_of_le (by unfold inL at h; omega) (by unfold inL at h; omega)
theorem ofI_bmod (v : Int) : Int32.ofInt (w32 v) = Int32.ofInt v := by
  rw [← Int32.toInt_inj, Int32.toInt_ofInt, Int32.toInt_ofInt]
  unfold w32
  simp only [show Int32.size = 4294967296 from rfl]
  unfold Int.bmod
  dsimp only
  split <;> split <;> omega
theorem ofI_inj {a b : Int} (ha : inI a) (hb : inI b) : Int32.ofInt a = Int32.ofInt b ↔ a = b :=
  ⟨fun h => by rw [← ofI_toInt ha, ← ofI_toInt hb, h], fun h => by rw [h]⟩
theorem ofI_lt {a b : Int} (ha : inI a) (hb : inI b) : Int32.ofInt a < Int32.ofInt b ↔ a < b := by
  rw [Int32.lt_iff_toInt_lt, ofI_toInt ha, ofI_toInt hb]
theorem ofI_le {a b : Int} (ha : inI a) (hb : inI b) : Int32.ofInt a ≤ Int32.ofInt b ↔ a ≤ b := by
  rw [Int32.le_iff_toInt_le, ofI_toInt ha, ofI_toInt hb]
theorem inI_0 : inI 0 := by unfold inI; omega
theorem ofI_zero {a : Int} (ha : inI a) : Int32.ofInt a = 0 ↔ a = 0 := ofI_inj ha inI_0
theorem ofI_idx {i : Int} (h0 : 0 ≤ i) (h : i < 2147483648) : (Int32.ofInt i).toNatClampNeg = i.toNat := by
  show (Int32.ofInt i).toInt.toNat = i.toNat
  rw [ofI_toInt ⟨by omega, h⟩]
theorem ofI_not {i : Int} {n : Nat} (h0 : 0 ≤ i) (h : i < n) (hn : n < 2147483648) : ¬ (Int32.ofInt i < 0 ∨ n ≤ (Int32.ofInt i).toNatClampNeg) := by
  rw [ofI_idx h0 (by omega)]
  rintro (q | q)
  · rw [show (0 : Int32) = Int32.ofInt 0 from rfl, ofI_lt ⟨by omega, by omega⟩ inI_0] at q; omega
  · omega
def iand (a b : Int) : Int := (Int32.ofInt a &&& Int32.ofInt b).toInt
def ior (a b : Int) : Int := (Int32.ofInt a ||| Int32.ofInt b).toInt
def ixor (a b : Int) : Int := (Int32.ofInt a ^^^ Int32.ofInt b).toInt
def ishl (a b : Int) : Int := (Int32.ofInt a <<< (Int32.ofInt b &&& 31)).toInt
def ishr (a b : Int) : Int := (Int32.ofInt a >>> (Int32.ofInt b &&& 31)).toInt
def iushr (a b : Int) : Int := ((Int32.ofInt a).toUInt32 >>> ((Int32.ofInt b).toUInt32 &&& Int32.toUInt32 31)).toInt32.toInt
def idv (a b : Int) : Int := (Int32.ofInt a / Int32.ofInt b).toInt
def irm (a b : Int) : Int := (Int32.ofInt a - Int32.ofInt a / Int32.ofInt b * Int32.ofInt b).toInt
def i2b (a : Int) : Int := (Int32.ofInt a).toInt8.toInt32.toInt
def i2s (a : Int) : Int := (Int32.ofInt a).toInt16.toInt32.toInt
def i2c (a : Int) : Int := ((Int32.ofInt a).toUInt32 % 65536).toInt32.toInt
theorem idv_eq {a b : Int} (ha : inI a) (hb : inI b) (h : ¬ b = -1) : idv a b = a.tdiv b := by
  unfold idv
  rw [Int32.toInt_div_of_ne_right, ofI_toInt ha, ofI_toInt hb]
  rw [show (-1 : Int32) = Int32.ofInt (-1) from rfl, ne_eq, ofI_inj hb ⟨by omega, by omega⟩]
  exact h
theorem irm_eq {a b : Int} (ha : inI a) (hb : inI b) (h : ¬ b = -1) (h0 : ¬ b = 0) : irm a b = a.tmod b := by
  unfold irm
  have e := idv_eq ha hb h
  unfold idv at e
  have e2 : Int32.ofInt a / Int32.ofInt b = Int32.ofInt (a.tdiv b) := by rw [← e, Int32.ofInt_toInt]
  rw [e2, ← Int32.ofInt_mul, ← Int32.ofInt_sub]
  have e3 : a - a.tdiv b * b = a.tmod b := by rw [Int.tmod_def, Int.mul_comm]
  rw [e3, ofI_toInt]
  unfold inI at *
  have h1 := Int.natAbs_tmod a b
  have h2 : a.natAbs % b.natAbs < b.natAbs := Nat.mod_lt _ (by omega)
  omega
end
section

/-! ===== BEGIN exceptions that leave a method, and their catching by the caller (launches without stack traces) ===== -/
section VXA
/-! The laws vx_back, vx_callV, vx_callS, vx_callSW, vx_throw0, vx_throwS follow proofs of the library, with one case more: JvmDerived/Free/Laws.lean (Back.of_free), Shelf42/LK1.lean (callV, callS), Shelf/KitTraced.lean (throwNew0V, throwNewS). -/
/-- where a method has thrown q: the class by its name, the cell, what was written, the world -/
def vx_T (XC : String → State → State → Prop) (st : State) (q : Addr) (t : State) (mc ms : Nat) (free : Addr → Prop) : Prop :=
  ∃ (E : String) (ce : Cell) (L : List Loc), XC E st t ∧ t.heap[q]? = some ce ∧ ce.vm = .none ∧ st.vm.findClass E = some ce.cls ∧ st.WarmedH t.vm ∧ st.sameButNew ({ t with vm := st.vm } : State) L mc ms ∧ ∀ z ∈ L, free z.base
def vx_Q (Qc : Array Value → State → Outcome → State → Prop) (XC : String → State → State → Prop) (mc ms : Nat) (free : Addr → Prop) : Array Value → State → Outcome → State → Prop := fun a st o t =>
  (Qc a st o t ∧ ∃ L, FrameEnd st o t L mc ms ∧ ∀ q ∈ L, free q.base) ∨ ∃ q, o = .threw q ∧ vx_T XC st q t mc ms free
/-- a callee that returns or throws -/
def vx_Met (l : Launch) (y : MethodName) (ws : List Cond) (rm : Room) (Pc : Array Value → State → Prop) (Qc : Array Value → State → Outcome → State → Prop) (XC : String → State → State → Prop) (mc ms : Nat) (free : Addr → Prop) : Prop :=
  MetFree l y (headSpec ws rm) Pc (fun _ _ _ _ _ => True) (vx_Q Qc XC mc ms free)
def vx_Post (XC : String → State → State → Prop) (mc ms : Nat) (free : Addr → Prop) : Pt → Array Value → Addr → Pt → Prop := fun A a q B =>
  ∃ (g : JFrame) (mk : MethodId) (t : State) (L : List Loc) (E : String) (ce : Cell), B.U.heap = t.heap ∧ B.U.vm = t.vm ∧ XC E (A.U.calling g mk a) t ∧ t.heap[q]? = some ce ∧ ce.vm = .none ∧ A.U.vm.findClass E = some ce.cls ∧ B.locs = A.locs ++ L ∧ (∀ z ∈ L, free z.base) ∧ B.cells = A.cells + mc ∧ B.slots = A.slots + ms
def vx_Back (l : Launch) (R : Room) (p : Program) (e : Env) (below : List Frame) (s : State) (sargs : Array Value) (y : MethodName) (len W9 : Nat)
    (Pre : Pt → Array Value → Prop) (Post : Pt → Array Value → Option Value → Pt → Prop) (PostX : Pt → Array Value → Addr → Pt → Prop) : Prop :=
  ∀ (m : MethodId) (meth : Method) (c : Code) (A : Pt) (g : JFrame) (ig : Instr) (mk : MethodId) (a : Array Value),
    Stand p l e R s m sargs below meth c A.U A.locs A.cells A.slots → g.method = m → g.locals.size = c.maxLocals → decode c.code g.pc = .ok (ig, len) →
    2 * g.monitorRoom + (g.stack.map fun v => v.category).sum ≤ W9 → A.U.methodNamed? y = some mk → Pre A a →
    (∃ (v : Option Value) (B : Pt), Stand p l e R s m sargs below meth c B.U B.locs B.cells B.slots ∧ Post A a v B ∧
      Steps p.tables e below (doInvoke e (A.U.setTop g) [] mk a).1 (B.U.setTop { g with pc := g.pc + len, stack := v.toList ++ g.stack })) ∨
    (∃ (q : Addr) (B : Pt), Stand p l e R s m sargs below meth c B.U B.locs B.cells B.slots ∧ PostX A a q B ∧
      Steps p.tables e below (doInvoke e (A.U.setTop g) [] mk a).1 ((B.U.setTop g).pushFrame (.throwing q)))
section Payer
variable {l : Launch} {R : Room} {p : Program} {e : Env} {below : List Frame} {s : State} {sargs : Array Value} {y : MethodName} {len W9 : Nat}
theorem vx_back {ws : List Cond} {rm : Room} {Pc : Array Value → State → Prop} {Qc : Array Value → State → Outcome → State → Prop} {XC : String → State → State → Prop} {mc ms : Nat} {free : Addr → Prop} {bytes : ByteArray} {maxL : Nat} {ret : Option FieldType}
    (hM : vx_Met l y ws rm Pc Qc XC mc ms free) (hblind : FrameBlind Pc) (hrc : rm.cells = mc) (hrs : rm.slots = ms)
    (hframes : rm.frames + 1 ≤ R.frames) (hlocals : W9 + (maxL + 11) + rm.locals ≤ R.locals)
    (hws : ∀ w ∈ ws, ∀ a' U, s.WarmedH U.vm → w.before a' U = true) (hcode : Cond.code y bytes maxL ret ∈ ws) (hinit : ∀ a' U, s.WarmedH U.vm → (Cond.initialized y.cls).before a' U = true) :
    vx_Back l R p e below s sargs y len W9 (PreOf R mc ms Pc) (PostOf Qc mc ms free) (vx_Post XC mc ms free) := by
  intro m meth c A g ig mk a X hg hsize hdg hW hn hp
  have h1 : (headSpec ws rm).pre.before a A.U = true := atoms_intro fun w hw => hws w hw _ _ X.warmed
  have h2 : (Cond.code y bytes maxL ret).before a A.U = true := hws _ hcode _ _ X.warmed
  have h3 : (Cond.initialized y.cls).before a A.U = true := hinit _ _ X.warmed
  have h4 : A.cells + (headSpec ws rm).room.cells ≤ R.cells := by rw [show (headSpec ws rm).room.cells = mc from hrc]; exact hp.1
  have h5 : A.slots + (headSpec ws rm).room.slots ≤ R.slots := by rw [show (headSpec ws rm).room.slots = ms from hrs]; exact hp.2.1
  have hPc : Pc a (A.U.calling g mk a) := hblind _ _ _ _ hp.2.2
  obtain ⟨U, Ls, c0, s0⟩ := A
  dsimp only [Pt.U, Pt.locs, Pt.cells, Pt.slots] at h1 h2 h3 h4 h5 X hn hPc ⊢
  obtain ⟨methY, cY, hmY, hcY, -, hlY, -, -, -, -⟩ := Cond.code_spec hn h2
  obtain ⟨kY, hkY, -⟩ := className_of_methodNamed hn
  have hinitY : kY.init = .initialized := Cond.initialized_spec (findClass_of_methodNamed hn) hkY h3
  have h : At U g.method c below := by rw [hg]; exact X.here
  have hlocals9 : W9 + (maxL + 11) + (headSpec ws rm).room.locals ≤ R.locals := hlocals
  have happ : (headSpec ws rm).appliesLoose y e.platform (U.calling g mk a) = true :=
    Spec.appliesLoose_calling (g := g) h hdg hn hkY hinitY
      (X.room_calling (g := g) (R' := (headSpec ws rm).room) hsize hmY hcY hframes (by rw [hlY]; omega) h4 h5) h1
  obtain ⟨mid, hmid⟩ := h.above
  have hfr : (U.setTop g).frames = (.java g :: mid) ++ below := by rw [State.frames_setTop' g h.top, hmid]; rfl
  obtain ⟨o, s₂, hsteps, -, hend, hq⟩ := Steps.callFree hM p X.admits X.cas X.clock (acts := []) hfr happ hPc trivial
  have hq' : vx_Q Qc XC mc ms free a (U.calling g mk a) o s₂ := hq
  rw [State.frames_setTop' g h.top] at hend
  obtain ⟨g₀, hg0⟩ := Option.isSome_iff_exists.mp h.top
  obtain ⟨r, hr⟩ := State.topJava?_eq_some.mp hg0
  have hr' : (({ U with heap := s₂.heap, slotsUsed := s₂.slotsUsed } : State).setVm s₂.vm).frames = .java g₀ :: r := hr
  rcases hq' with ⟨hqc, L, hfe, hL⟩ | ⟨q, rfl, E, ce, L, hx, hce, hcv, hcl, hW₂, hsm, hL⟩
  · obtain ⟨⟨v, rfl⟩, hW₂, e2, q2, q3, q4, q5, q6⟩ := id hfe
    have e3 : s₂ = ({ (U.calling g mk a).setFrames s₂.frames with heap := s₂.heap, slotsUsed := s₂.slotsUsed } : State).setVm s₂.vm := by
      have : s₂ = ({ s₂ with vm := (U.calling g mk a).vm } : State).setVm s₂.vm := rfl
      rw [e2] at this
      exact this
    obtain ⟨c₂, i₂, len₂, hc₂, hd₂, hf₂⟩ := hend
    have hW' : U.WarmedH s₂.vm := hW₂
    have hcc : c₂ = c := by
      have h1 : s₂.code? g.method = U.code? g.method := by
        rw [State.code?_eq, State.code?_eq, hW'.alike.method?]
      exact Option.some.inj (hc₂.symm.trans (h1.trans h.code))
    subst hcc
    have hlen : len₂ = len := by rw [hdg] at hd₂; cases hd₂; rfl
    subst hlen
    have hs₂ : s₂ = (({ U with heap := s₂.heap, slotsUsed := s₂.slotsUsed } : State).setVm s₂.vm).setTop { g with pc := g.pc + len₂, stack := v.toList ++ g.stack } := by
      refine e3.trans ?_
      rw [hf₂, State.calling_eq h.top, State.setFrames_setFrames, State.setTop_of_frames _ hr', hr]
      rfl
    have hsame : U.sameButNew ({ U with heap := s₂.heap, slotsUsed := s₂.slotsUsed } : State) L mc ms := by
      refine ⟨?_, q2, q3, q4, q5, q6⟩
      obtain ⟨t, ht, -⟩ := State.frames_cons hr
      show ({ U with heap := s₂.heap, slotsUsed := s₂.slotsUsed } : State) = { U.setFrames U.frames with heap := s₂.heap, slotsUsed := s₂.slotsUsed }
      rw [State.setFrames_self ht]
    subst hg
    refine Or.inl ⟨v, ⟨(({ U with heap := s₂.heap, slotsUsed := s₂.slotsUsed } : State).setVm s₂.vm), Ls ++ L, c0 + mc, s0 + ms⟩,
      ⟨X.admits, X.cas, X.clock, X.frames, X.room, X.hears, X.method, X.code, (X.here.setHeapUsed s₂.heap s₂.slotsUsed).setVm hW'.alike, X.tail, State.WarmedH.trans X.warmed hW', X.limits, X.bytes, X.same.trans (hsame.setVm s.vm)⟩,
      ⟨g, mk, s₂, L, rfl, rfl, hqc, rfl, hL, rfl, rfl⟩, ?_⟩
    show Steps p.tables e below _ ((({ U with heap := s₂.heap, slotsUsed := s₂.slotsUsed } : State).setVm s₂.vm).setTop { g with pc := g.pc + len₂, stack := v.toList ++ g.stack })
    rw [← hs₂]
    exact hsteps
  · obtain ⟨e2, q2, q3, q4, q5, q6⟩ := id hsm
    have e3 : s₂ = ({ (U.calling g mk a).setFrames s₂.frames with heap := s₂.heap, slotsUsed := s₂.slotsUsed } : State).setVm s₂.vm := by
      have : s₂ = ({ s₂ with vm := (U.calling g mk a).vm } : State).setVm s₂.vm := rfl
      rw [e2] at this
      exact this
    have hf₂ : s₂.frames = .throwing q :: .java g :: U.frames.tail := hend
    have hW' : U.WarmedH s₂.vm := hW₂
    have hs₂ : s₂ = ((({ U with heap := s₂.heap, slotsUsed := s₂.slotsUsed } : State).setVm s₂.vm).setTop g).pushFrame (.throwing q) := by
      refine e3.trans ?_
      rw [hf₂, State.calling_eq h.top, State.setFrames_setFrames, State.pushFrame, State.frames_setTop _ hr', State.setTop_of_frames _ hr', State.setFrames_setFrames, hr]
      rfl
    have hsame : U.sameButNew ({ U with heap := s₂.heap, slotsUsed := s₂.slotsUsed } : State) L mc ms := by
      refine ⟨?_, q2, q3, q4, q5, q6⟩
      obtain ⟨t, ht, -⟩ := State.frames_cons hr
      show ({ U with heap := s₂.heap, slotsUsed := s₂.slotsUsed } : State) = { U.setFrames U.frames with heap := s₂.heap, slotsUsed := s₂.slotsUsed }
      rw [State.setFrames_self ht]
    subst hg
    refine Or.inr ⟨q, ⟨(({ U with heap := s₂.heap, slotsUsed := s₂.slotsUsed } : State).setVm s₂.vm), Ls ++ L, c0 + mc, s0 + ms⟩,
      ⟨X.admits, X.cas, X.clock, X.frames, X.room, X.hears, X.method, X.code, (X.here.setHeapUsed s₂.heap s₂.slotsUsed).setVm hW'.alike, X.tail, State.WarmedH.trans X.warmed hW', X.limits, X.bytes, X.same.trans (hsame.setVm s.vm)⟩,
      ⟨g, mk, s₂, L, E, ce, rfl, rfl, hx, hce, hcv, hcl, rfl, hL, rfl, rfl⟩, ?_⟩
    show Steps p.tables e below _ (((({ U with heap := s₂.heap, slotsUsed := s₂.slotsUsed } : State).setVm s₂.vm).setTop g).pushFrame (.throwing q))
    rw [← hs₂]
    exact hsteps
end Payer
section Calls
variable {p : Program} {l : Launch} {e : Env} {R : Room} {s : State} {m : MethodId} {args : Array Value} {below : List Frame} {meth : Method} {c : Code} {T : State} {locs : List Loc} {cells slots : Nat}
theorem vx_callV (X : Stand p l e R s m args below meth c T locs cells slots) (hexec : p.tables.exec = Jvm.exec) {own C : String} {index : Nat} {y : MethodName} {bytes : ByteArray} {maxL : Nat} {ret : Option FieldType}
    (hown : s.vm.findClass own = some m.cls) (hlink : (Cond.methodLink own index y).before args s = true) (hinst : (Cond.instanceMethod y).before args s = true) (hsel : (Cond.selects C y y).before args s = true)
    (hcode : (Cond.code y bytes maxL ret).before args s = true) (hy : y.cls ≠ "java/lang/invoke/MethodHandle" ∧ y.cls ≠ "java/lang/invoke/VarHandle")
    {W9 : Nat} {Pre : Pt → Array Value → Prop} {Post : Pt → Array Value → Option Value → Pt → Prop} {PostX : Pt → Array Value → Addr → Pt → Prop} (hK : vx_Back l R p e below s args y 3 W9 Pre Post PostX)
    {b : Addr} {cellB : Cell} (hcell : T.heap[b]? = some cellB) (hobj : cellB.vm.isStatics = false) (hcls : s.vm.findClass C = some cellB.cls)
    {g : JFrame} (hg : g.method = m) (hsize : g.locals.size = c.maxLocals) {argsL rest : List Value} (hlen : ∀ sig, parseMethodDescriptor y.desc = some sig → argsL.length = sig.parameters.length)
    (hstack : g.stack = argsL.reverse ++ .ref b :: rest) (hW : 2 * g.monitorRoom + (rest.map fun v => v.category).sum ≤ W9) (hdg : decode c.code g.pc = .ok (.invokevirtual index, 3))
    (hpre : ∀ vm₁, s.WarmedH vm₁ → Pre ⟨T.setVm vm₁, locs, cells, slots⟩ (Value.ref b :: argsL).toArray) :
    (∃ (v : Option Value) (vm₁ : Vm) (B : Pt), s.WarmedH vm₁ ∧ Stand p l e R s m args below meth c B.U B.locs B.cells B.slots ∧ Post ⟨T.setVm vm₁, locs, cells, slots⟩ (Value.ref b :: argsL).toArray v B ∧
      ∀ target, Steps p.tables e below (B.U.setTop { g with pc := g.pc + 3, stack := v.toList ++ rest }) target → Steps p.tables e below (T.setTop g) target) ∨
    (∃ (q : Addr) (vm₁ : Vm) (B : Pt), s.WarmedH vm₁ ∧ Stand p l e R s m args below meth c B.U B.locs B.cells B.slots ∧ PostX ⟨T.setVm vm₁, locs, cells, slots⟩ (Value.ref b :: argsL).toArray q B ∧
      Steps p.tables e below (T.setTop g) ((B.U.setTop { g with stack := rest }).pushFrame (.throwing q))) := by
  obtain ⟨mk, methM, hnamed, hmethM, hstM, habM⟩ := Cond.instanceMethod_spec hinst
  obtain ⟨methM', cM, hmethM', -, -, -, -, -, -, hsigM⟩ := Cond.code_spec hnamed hcode
  cases hmethM.symm.trans hmethM'
  obtain ⟨c2, r2, m2, q1, q2, q3, q4, kP, hkP, hkPi⟩ := Cond.selects_spec hsel
  cases hcls.symm.trans q1
  cases (State.methodFound?_of_named hnamed hy).symm.trans q2
  cases hnamed.symm.trans q3
  have hselP : selectMethod e.platform s.vm cellB.cls mk = .method mk := by rw [Launch.admits_selectMethod X.admits]; exact q4
  obtain ⟨vm₁, X₁, hstep₁⟩ := X.invokevirtual hexec hown hlink hnamed hmethM hstM hkP hkPi hy (a := b) (cell := cellB) hcell
    (fun z h => by rw [h] at hobj; cases hobj) hselP hmethM habM hkP hkPi (g := g) hg (argsL := argsL) (rest := rest) (hlen _ hsigM) hstack hdg
  rcases hK m meth c ⟨T.setVm vm₁, locs, cells, slots⟩ { g with stack := rest } (.invokevirtual index) mk (Value.ref b :: argsL).toArray X₁ hg hsize hdg hW (X₁.named hnamed) (hpre vm₁ X₁.warmed) with ⟨v, B, X', hpost, hsteps⟩ | ⟨q, B, X', hpost, hsteps⟩
  · exact Or.inl ⟨v, vm₁, B, X₁.warmed, X', hpost, fun target h => hstep₁ _ fun acts => by rw [doInvoke_state]; exact hsteps.trans h⟩
  · exact Or.inr ⟨q, vm₁, B, X₁.warmed, X', hpost, hstep₁ _ fun acts => by rw [doInvoke_state]; exact hsteps⟩
theorem vx_callS (X : Stand p l e R s m args below meth c T locs cells slots) (hexec : p.tables.exec = Jvm.exec) {own : String} {index : Nat} {y : MethodName} {bytes : ByteArray} {maxL : Nat} {ret : Option FieldType}
    (hown : s.vm.findClass own = some m.cls) (hlink : (Cond.methodLink own index y).before args s = true) (hstat : (Cond.static y).before args s = true) (hinit : (Cond.initialized y.cls).before args s = true)
    (hcode : (Cond.code y bytes maxL ret).before args s = true) (hy : y.cls ≠ "java/lang/invoke/MethodHandle" ∧ y.cls ≠ "java/lang/invoke/VarHandle")
    {W9 : Nat} {Pre : Pt → Array Value → Prop} {Post : Pt → Array Value → Option Value → Pt → Prop} {PostX : Pt → Array Value → Addr → Pt → Prop} (hK : vx_Back l R p e below s args y 3 W9 Pre Post PostX)
    {g : JFrame} (hg : g.method = m) (hsize : g.locals.size = c.maxLocals) {argsL rest : List Value} (hlen : ∀ sig, parseMethodDescriptor y.desc = some sig → argsL.length = sig.parameters.length)
    (hstack : g.stack = argsL.reverse ++ rest) (hW : 2 * g.monitorRoom + (rest.map fun v => v.category).sum ≤ W9) (hdg : decode c.code g.pc = .ok (.invokestatic index, 3))
    (hpre : ∀ vm₁, s.WarmedH vm₁ → Pre ⟨T.setVm vm₁, locs, cells, slots⟩ argsL.toArray) :
    (∃ (v : Option Value) (vm₁ : Vm) (B : Pt), s.WarmedH vm₁ ∧ Stand p l e R s m args below meth c B.U B.locs B.cells B.slots ∧ Post ⟨T.setVm vm₁, locs, cells, slots⟩ argsL.toArray v B ∧
      ∀ target, Steps p.tables e below (B.U.setTop { g with pc := g.pc + 3, stack := v.toList ++ rest }) target → Steps p.tables e below (T.setTop g) target) ∨
    (∃ (q : Addr) (vm₁ : Vm) (B : Pt), s.WarmedH vm₁ ∧ Stand p l e R s m args below meth c B.U B.locs B.cells B.slots ∧ PostX ⟨T.setVm vm₁, locs, cells, slots⟩ argsL.toArray q B ∧
      Steps p.tables e below (T.setTop g) ((B.U.setTop { g with stack := rest }).pushFrame (.throwing q))) := by
  obtain ⟨mk, hnamed⟩ := Cond.code_named hcode
  obtain ⟨methM, cM, hmethM, -, -, -, -, -, -, hsigM⟩ := Cond.code_spec hnamed hcode
  have hstatic : methM.isStatic = true := Cond.static_spec hnamed hmethM hstat
  obtain ⟨kP, hkP, -⟩ := className_of_methodNamed hnamed
  have hinitP : kP.init = .initialized := Cond.initialized_spec (findClass_of_methodNamed hnamed) hkP hinit
  obtain ⟨vm₁, X₁, hstep₁⟩ := X.invokestatic hexec hown hlink hnamed hmethM hstatic hkP hinitP hy (g := g) hg (argsL := argsL) (rest := rest) (hlen _ hsigM) hstack hdg
  rcases hK m meth c ⟨T.setVm vm₁, locs, cells, slots⟩ { g with stack := rest } (.invokestatic index) mk argsL.toArray X₁ hg hsize hdg hW (X₁.named hnamed) (hpre vm₁ X₁.warmed) with ⟨v, B, X', hpost, hsteps⟩ | ⟨q, B, X', hpost, hsteps⟩
  · exact Or.inl ⟨v, vm₁, B, X₁.warmed, X', hpost, fun target h => hstep₁ _ fun acts => by rw [doInvoke_state]; exact hsteps.trans h⟩
  · exact Or.inr ⟨q, vm₁, B, X₁.warmed, X', hpost, hstep₁ _ fun acts => by rw [doInvoke_state]; exact hsteps⟩
end Calls
theorem vx_cls {s : State} {T : State} {vm₁ : Vm} {E : String} {k : ClassId} (hW : s.WarmedH vm₁) (h : (T.setVm vm₁).vm.findClass E = some k) : s.vm.findClass E = some k := by
  have h1 : vm₁.findClass E = some k := h
  rw [hW.alike.findClass] at h1
  exact h1
/-- the method's frame g, with q thrown over it -/
def vx_W (p : Program) (l : Launch) (e : Env) (R : Room) (s : State) (m : MethodId) (args : Array Value) (below : List Frame) (meth : Method) (c : Code) (H : Heap) (locs : List Loc) (cells slots : Nat) (Q : State → Prop) (g : JFrame) (q : Addr) : Prop :=
  ∀ T : State, T.heap = H → Stand p l e R s m args below meth c T locs cells slots → ∃ t, Steps p.tables e below ((T.setTop g).pushFrame (.throwing q)) t ∧ Q t
def vx_Run (p : Program) (l : Launch) (e : Env) (R : Room) (s : State) (m : MethodId) (args : Array Value) (below : List Frame) (meth : Method) (c : Code) (H : Heap) (locs : List Loc) (cells slots mc ms : Nat) (g : JFrame) (rest : List Value) (Qa : State → Outcome → State → Prop) (XC : String → State → State → Prop) (free : Addr → Prop) : Prop :=
  ∀ T : State, T.heap = H → Stand p l e R s m args below meth c T locs cells slots →
    (∃ (v : Option Value) (st₀ t T' : State) (L : List Loc), st₀.heap = H ∧ Stand p l e R s m args below meth c T' (locs ++ L) (cells + mc) (slots + ms) ∧ (∀ q ∈ L, free q.base) ∧ T'.heap = t.heap ∧ T'.vm = t.vm ∧ Qa st₀ (.returned v) t ∧
      Goes p e below T g T' { g with pc := g.pc + 3, stack := v.toList ++ rest }) ∨
    (∃ (q : Addr) (st₀ t T' : State) (L : List Loc) (E : String) (ce : Cell), st₀.heap = H ∧ Stand p l e R s m args below meth c T' (locs ++ L) (cells + mc) (slots + ms) ∧ (∀ z ∈ L, free z.base) ∧ T'.heap = t.heap ∧ T'.vm = t.vm ∧ XC E st₀ t ∧ t.heap[q]? = some ce ∧ ce.vm = .none ∧ s.vm.findClass E = some ce.cls ∧
      Steps p.tables e below (T.setTop g) ((T'.setTop { g with stack := rest }).pushFrame (.throwing q)))
def vx_X {S : Type} (px : S → Prop) (B : String → S → State → Prop) (A : Nat → Prop) : String → State → State → Prop := fun E st t => ∃ u : S, px u ∧ B E u t ∧ va_F A st t
section Runs
variable {p : Program} {l : Launch} {e : Env} {R : Room} {s : State} {m : MethodId} {args : Array Value} {below : List Frame} {meth : Method} {c : Code} {H : Heap} {locs : List Loc} {cells slots : Nat}
variable {y : MethodName} {bytes cc : ByteArray} {maxL nL mc ms n index : Nat} {ret : Option FieldType} {ws : List Cond} {rm : Room} {Pc : Array Value → State → Prop} {Qc : Array Value → State → Outcome → State → Prop} {XC : String → State → State → Prop} {free : Addr → Prop} {Ts : List Cond} {own C : String} {b : Addr} {As rest : List Value} {g : JFrame}
theorem vx_callBack (cb : CallB R s args own index y bytes maxL ret ws rm mc ms n) (hM : vx_Met l y ws rm Pc Qc XC mc ms free) (hbl : FrameBlind Pc) : vx_Back l R p e below s args y 3 8 (PreOf R mc ms Pc) (PostOf Qc mc ms free) (vx_Post XC mc ms free) := by
  obtain ⟨hrc, hrs, hfr, hlo, hws, hcw, -, hini, -⟩ := cb
  exact vx_back (bytes := bytes) (maxL := maxL) (ret := ret) hM hbl hrc hrs hfr hlo hws hcw (fun a' U hW => word_at hW (Or.inl (by first | rfl | simp [Cond.onTables, Cond.keeps, Cond.steady])) hini)
theorem vx_runV (S : CallFix p m c cc nL s args Ts own) (hM : vx_Met l y ws rm Pc Qc XC mc ms free) (cw : CallW R s args own C index y bytes maxL ret ws rm mc ms n) (hp : PreV s H C b Pc As)
    (hg : g.method = m) (hn : As.length = n) (hsize : g.locals.size = nL) (hstack : g.stack = As.reverse ++ .ref b :: rest) (hW : 2 * g.monitorRoom + (rest.map fun v => v.category).sum ≤ 8) (hdg : decode cc g.pc = .ok (.invokevirtual index, 3)) (hf : cells + mc ≤ R.cells ∧ slots + ms ≤ R.slots) :
    vx_Run p l e R s m args below meth c H locs cells slots mc ms g rest (Qc (Value.ref b :: As).toArray) XC free := by
  have hK : vx_Back l R p e below s args y 3 8 (PreOf R mc ms Pc) (PostOf Qc mc ms free) (vx_Post XC mc ms free) := vx_callBack cw.1 hM hp.1
  obtain ⟨⟨-, -, -, -, -, -, hcode, -, hy, hlen, hl⟩, hin, hse⟩ := cw
  obtain ⟨hx, hb, hml, ho, -⟩ := S
  obtain ⟨-, ⟨cellB, hcB, hoB, hclB⟩, hPc⟩ := hp
  intro T hT X
  rcases vx_callV X hx (C := C) (bytes := bytes) (maxL := maxL) (ret := ret) ho hl hin hse hcode hy hK (by rw [hT]; exact hcB) hoB hclB hg (hsize.trans hml.symm) (argsL := As) (rest := rest) (fun sig h => hn.trans (hlen sig h)) hstack hW (by rw [hb]; exact hdg)
    (fun vm₁ hW₁ => ⟨hf.1, hf.2, hPc (T.setVm vm₁) hT hW₁⟩) with ⟨v, vm₁, ⟨U', l2, c2, s2⟩, hW₁, X', ⟨g', mk, t, L, e1, e2, hq, h1, hL, h2, h3⟩, st⟩ | ⟨q, vm₁, ⟨U', l2, c2, s2⟩, hW₁, X', ⟨g', mk, t, L, E, ce, e1, e2, hq, hce, hcv, hcl, h1, hL, h2, h3⟩, st⟩
  · dsimp only [Pt.U, Pt.locs, Pt.cells, Pt.slots] at X' e1 e2 h1 h2 h3 st
    subst h1; subst h2; subst h3
    exact Or.inl ⟨v, (T.setVm vm₁).calling g' mk (Value.ref b :: As).toArray, t, U', L, hT, X', hL, e1, e2, hq, st⟩
  · dsimp only [Pt.U, Pt.locs, Pt.cells, Pt.slots] at X' e1 e2 h1 h2 h3 st hcl
    subst h1; subst h2; subst h3
    exact Or.inr ⟨q, (T.setVm vm₁).calling g' mk (Value.ref b :: As).toArray, t, U', L, E, ce, hT, X', hL, e1, e2, hq, hce, hcv, vx_cls hW₁ hcl, st⟩
theorem vx_runS (S : CallFix p m c cc nL s args Ts own) (hM : vx_Met l y ws rm Pc Qc XC mc ms free) (cw : CallB R s args own index y bytes maxL ret ws rm mc ms n ∧ (Cond.static y).before args s = true) (hp : PreS s H Pc As)
    (hg : g.method = m) (hn : As.length = n) (hsize : g.locals.size = nL) (hstack : g.stack = As.reverse ++ rest) (hW : 2 * g.monitorRoom + (rest.map fun v => v.category).sum ≤ 8) (hdg : decode cc g.pc = .ok (.invokestatic index, 3)) (hf : cells + mc ≤ R.cells ∧ slots + ms ≤ R.slots) :
    vx_Run p l e R s m args below meth c H locs cells slots mc ms g rest (Qc As.toArray) XC free := by
  have hK : vx_Back l R p e below s args y 3 8 (PreOf R mc ms Pc) (PostOf Qc mc ms free) (vx_Post XC mc ms free) := vx_callBack cw.1 hM hp.1
  obtain ⟨⟨-, -, -, -, -, -, hcode, hini, hy, hlen, hl⟩, hstt⟩ := cw
  obtain ⟨hx, hb, hml, ho, -⟩ := S
  intro T hT X
  rcases vx_callS X hx (bytes := bytes) (maxL := maxL) (ret := ret) ho hl hstt hini hcode hy hK hg (hsize.trans hml.symm) (argsL := As) (rest := rest) (fun sig h => hn.trans (hlen sig h)) hstack hW (by rw [hb]; exact hdg)
    (fun vm₁ hW₁ => ⟨hf.1, hf.2, hp.2 (T.setVm vm₁) hT hW₁⟩) with ⟨v, vm₁, ⟨U', l2, c2, s2⟩, hW₁, X', ⟨g', mk, t, L, e1, e2, hq, h1, hL, h2, h3⟩, st⟩ | ⟨q, vm₁, ⟨U', l2, c2, s2⟩, hW₁, X', ⟨g', mk, t, L, E, ce, e1, e2, hq, hce, hcv, hcl, h1, hL, h2, h3⟩, st⟩
  · dsimp only [Pt.U, Pt.locs, Pt.cells, Pt.slots] at X' e1 e2 h1 h2 h3 st
    subst h1; subst h2; subst h3
    exact Or.inl ⟨v, (T.setVm vm₁).calling g' mk As.toArray, t, U', L, hT, X', hL, e1, e2, hq, st⟩
  · dsimp only [Pt.U, Pt.locs, Pt.cells, Pt.slots] at X' e1 e2 h1 h2 h3 st hcl
    subst h1; subst h2; subst h3
    exact Or.inr ⟨q, (T.setVm vm₁).calling g' mk As.toArray, t, U', L, E, ce, hT, X', hL, e1, e2, hq, hce, hcv, vx_cls hW₁ hcl, st⟩
end Runs
section Rows
variable {p : Program} {l : Launch} {e : Env} {R : Room} {s : State} {m : MethodId} {args : Array Value} {below : List Frame} {meth : Method} {c : Code} {H : Heap} {locs : List Loc} {cells slots : Nat} {Q : State → Prop}
variable {mc ms : Nat} {free : Addr → Prop} {A0 A1 : Nat → Prop} {H0 : Heap} {a : Array Value} {pc : Nat} {ls : Array Slot} {st0 rest : List Value}
theorem vx_keep {st₀ t T' : State} {L : List Loc} (h0 : st₀.heap = H) (e1 : T'.heap = t.heap) (hS : va_S A0 H0 H locs) (hA : ∀ q, q < H.size → A1 q → A0 q) (hf : ∀ q, free q → A0 q) (hL : ∀ q ∈ L, free q.base) (hF : va_F A1 st₀ t) :
    H.size ≤ T'.heap.size ∧ (∀ q : Nat, q < H.size → ¬ A1 q → T'.heap[q]? = H[q]?) ∧ va_S A0 H0 T'.heap (locs ++ L) := by
  obtain ⟨hz, hk⟩ := hF
  rw [h0] at hz hk
  exact ⟨by rw [e1]; exact hz, fun q h1 h2 => by rw [e1]; exact hk q h1 h2,
    ⟨Nat.le_trans hS.1 (by rw [e1]; exact hz), fun q h1 h2 => by rw [e1, hk q (Nat.lt_of_lt_of_le h1 hS.1) (fun z => h2 (hA q (Nat.lt_of_lt_of_le h1 hS.1) z))]; exact hS.2.1 q h1 h2, fun q hq => by
      rcases List.mem_append.mp hq with h | h
      · exact hS.2.2 q h
      · exact hf _ (hL q h)⟩⟩
theorem vx_calli {S SX : Type} {post : Int32 → S → Prop} {px : SX → Prop} {B : S → State → Prop} {BX : String → SX → State → Prop} {AX : Nat → Prop} (hr : vx_Run p l e R s m args below meth c H locs cells slots mc ms (F0 m pc ls st0) rest (va_Qi post B A1 a) (vx_X px BX AX) free) (hS : va_S A0 H0 H locs) (hA : ∀ q, q < H.size → A1 q → A0 q) (hf : ∀ q, free q → A0 q) (hAX : ∀ q, q < H.size → AX q → A0 q)
    (kx : ∀ (E : String) (ce : Cell) (q9 : Addr) (u : SX) (t : State) (H1 : Heap) (locs1 : List Loc), t.heap = H1 → s.vm.Alike t.vm → px u → BX E u t → H.size ≤ H1.size → (∀ q : Nat, q < H.size → ¬ AX q → H1[q]? = H[q]?) → va_S A0 H0 H1 locs1 → H1[q9]? = some ce → ce.vm = .none → s.vm.findClass E = some ce.cls → vx_W p l e R s m args below meth c H1 locs1 (cells + mc) (slots + ms) Q (F0 m pc ls rest) q9)
    (kk : ∀ (r : Int32) (u : S) (t : State) (H1 : Heap) (locs1 : List Loc), t.heap = H1 → s.vm.Alike t.vm → post r u → B u t → H.size ≤ H1.size → (∀ q : Nat, q < H.size → ¬ A1 q → H1[q]? = H[q]?) → va_S A0 H0 H1 locs1 → W p l e R s m args below meth c H1 locs1 (cells + mc) (slots + ms) Q (F0 m (pc + 3) ls (.int r :: rest))) : W p l e R s m args below meth c H locs cells slots Q (F0 m pc ls st0) := by
  intro T hT X
  rcases hr T hT X with ⟨v, st₀, t, T', L, h0, X', hL, e1, e2, ⟨⟨r, u, hv, hp, hb⟩, hF⟩, st⟩ | ⟨q, st₀, t, T', L, E, ce, h0, X', hL, e1, e2, ⟨u, hp, hb, hF⟩, hce, hcv, hcl, st⟩
  · cases hv
    obtain ⟨k1, k2, k3⟩ := vx_keep h0 e1 hS hA hf hL hF
    obtain ⟨t2, a1, b1⟩ := kk r u t T'.heap (locs ++ L) e1.symm (by rw [← e2]; exact X'.warmed.alike) hp hb k1 k2 k3 T' rfl X'
    exact ⟨t2, st t2 a1, b1⟩
  · obtain ⟨k1, k2, k3⟩ := vx_keep h0 e1 hS hAX hf hL hF
    obtain ⟨t2, a1, b1⟩ := kx E ce q u t T'.heap (locs ++ L) e1.symm (by rw [← e2]; exact X'.warmed.alike) hp hb k1 k2 k3 (by rw [e1]; exact hce) hcv hcl T' rfl X'
    exact ⟨t2, st.trans a1, b1⟩
theorem vx_calll {S SX : Type} {post : Int64 → S → Prop} {px : SX → Prop} {B : S → State → Prop} {BX : String → SX → State → Prop} {AX : Nat → Prop} (hr : vx_Run p l e R s m args below meth c H locs cells slots mc ms (F0 m pc ls st0) rest (va_Ql post B A1 a) (vx_X px BX AX) free) (hS : va_S A0 H0 H locs) (hA : ∀ q, q < H.size → A1 q → A0 q) (hf : ∀ q, free q → A0 q) (hAX : ∀ q, q < H.size → AX q → A0 q)
    (kx : ∀ (E : String) (ce : Cell) (q9 : Addr) (u : SX) (t : State) (H1 : Heap) (locs1 : List Loc), t.heap = H1 → s.vm.Alike t.vm → px u → BX E u t → H.size ≤ H1.size → (∀ q : Nat, q < H.size → ¬ AX q → H1[q]? = H[q]?) → va_S A0 H0 H1 locs1 → H1[q9]? = some ce → ce.vm = .none → s.vm.findClass E = some ce.cls → vx_W p l e R s m args below meth c H1 locs1 (cells + mc) (slots + ms) Q (F0 m pc ls rest) q9)
    (kk : ∀ (r : Int64) (u : S) (t : State) (H1 : Heap) (locs1 : List Loc), t.heap = H1 → s.vm.Alike t.vm → post r u → B u t → H.size ≤ H1.size → (∀ q : Nat, q < H.size → ¬ A1 q → H1[q]? = H[q]?) → va_S A0 H0 H1 locs1 → W p l e R s m args below meth c H1 locs1 (cells + mc) (slots + ms) Q (F0 m (pc + 3) ls (.long r :: rest))) : W p l e R s m args below meth c H locs cells slots Q (F0 m pc ls st0) := by
  intro T hT X
  rcases hr T hT X with ⟨v, st₀, t, T', L, h0, X', hL, e1, e2, ⟨⟨r, u, hv, hp, hb⟩, hF⟩, st⟩ | ⟨q, st₀, t, T', L, E, ce, h0, X', hL, e1, e2, ⟨u, hp, hb, hF⟩, hce, hcv, hcl, st⟩
  · cases hv
    obtain ⟨k1, k2, k3⟩ := vx_keep h0 e1 hS hA hf hL hF
    obtain ⟨t2, a1, b1⟩ := kk r u t T'.heap (locs ++ L) e1.symm (by rw [← e2]; exact X'.warmed.alike) hp hb k1 k2 k3 T' rfl X'
    exact ⟨t2, st t2 a1, b1⟩
  · obtain ⟨k1, k2, k3⟩ := vx_keep h0 e1 hS hAX hf hL hF
    obtain ⟨t2, a1, b1⟩ := kx E ce q u t T'.heap (locs ++ L) e1.symm (by rw [← e2]; exact X'.warmed.alike) hp hb k1 k2 k3 (by rw [e1]; exact hce) hcv hcl T' rfl X'
    exact ⟨t2, st.trans a1, b1⟩
theorem vx_callf {S SX : Type} {post : UInt32 → S → Prop} {px : SX → Prop} {B : S → State → Prop} {BX : String → SX → State → Prop} {AX : Nat → Prop} (hr : vx_Run p l e R s m args below meth c H locs cells slots mc ms (F0 m pc ls st0) rest (va_Qf post B A1 a) (vx_X px BX AX) free) (hS : va_S A0 H0 H locs) (hA : ∀ q, q < H.size → A1 q → A0 q) (hf : ∀ q, free q → A0 q) (hAX : ∀ q, q < H.size → AX q → A0 q)
    (kx : ∀ (E : String) (ce : Cell) (q9 : Addr) (u : SX) (t : State) (H1 : Heap) (locs1 : List Loc), t.heap = H1 → s.vm.Alike t.vm → px u → BX E u t → H.size ≤ H1.size → (∀ q : Nat, q < H.size → ¬ AX q → H1[q]? = H[q]?) → va_S A0 H0 H1 locs1 → H1[q9]? = some ce → ce.vm = .none → s.vm.findClass E = some ce.cls → vx_W p l e R s m args below meth c H1 locs1 (cells + mc) (slots + ms) Q (F0 m pc ls rest) q9)
    (kk : ∀ (r : UInt32) (u : S) (t : State) (H1 : Heap) (locs1 : List Loc), t.heap = H1 → s.vm.Alike t.vm → post r u → B u t → H.size ≤ H1.size → (∀ q : Nat, q < H.size → ¬ A1 q → H1[q]? = H[q]?) → va_S A0 H0 H1 locs1 → W p l e R s m args below meth c H1 locs1 (cells + mc) (slots + ms) Q (F0 m (pc + 3) ls (.float r :: rest))) : W p l e R s m args below meth c H locs cells slots Q (F0 m pc ls st0) := by
  intro T hT X
  rcases hr T hT X with ⟨v, st₀, t, T', L, h0, X', hL, e1, e2, ⟨⟨r, u, hv, hp, hb⟩, hF⟩, st⟩ | ⟨q, st₀, t, T', L, E, ce, h0, X', hL, e1, e2, ⟨u, hp, hb, hF⟩, hce, hcv, hcl, st⟩
  · cases hv
    obtain ⟨k1, k2, k3⟩ := vx_keep h0 e1 hS hA hf hL hF
    obtain ⟨t2, a1, b1⟩ := kk r u t T'.heap (locs ++ L) e1.symm (by rw [← e2]; exact X'.warmed.alike) hp hb k1 k2 k3 T' rfl X'
    exact ⟨t2, st t2 a1, b1⟩
  · obtain ⟨k1, k2, k3⟩ := vx_keep h0 e1 hS hAX hf hL hF
    obtain ⟨t2, a1, b1⟩ := kx E ce q u t T'.heap (locs ++ L) e1.symm (by rw [← e2]; exact X'.warmed.alike) hp hb k1 k2 k3 (by rw [e1]; exact hce) hcv hcl T' rfl X'
    exact ⟨t2, st.trans a1, b1⟩
theorem vx_calld {S SX : Type} {post : UInt64 → S → Prop} {px : SX → Prop} {B : S → State → Prop} {BX : String → SX → State → Prop} {AX : Nat → Prop} (hr : vx_Run p l e R s m args below meth c H locs cells slots mc ms (F0 m pc ls st0) rest (va_Qd post B A1 a) (vx_X px BX AX) free) (hS : va_S A0 H0 H locs) (hA : ∀ q, q < H.size → A1 q → A0 q) (hf : ∀ q, free q → A0 q) (hAX : ∀ q, q < H.size → AX q → A0 q)
    (kx : ∀ (E : String) (ce : Cell) (q9 : Addr) (u : SX) (t : State) (H1 : Heap) (locs1 : List Loc), t.heap = H1 → s.vm.Alike t.vm → px u → BX E u t → H.size ≤ H1.size → (∀ q : Nat, q < H.size → ¬ AX q → H1[q]? = H[q]?) → va_S A0 H0 H1 locs1 → H1[q9]? = some ce → ce.vm = .none → s.vm.findClass E = some ce.cls → vx_W p l e R s m args below meth c H1 locs1 (cells + mc) (slots + ms) Q (F0 m pc ls rest) q9)
    (kk : ∀ (r : UInt64) (u : S) (t : State) (H1 : Heap) (locs1 : List Loc), t.heap = H1 → s.vm.Alike t.vm → post r u → B u t → H.size ≤ H1.size → (∀ q : Nat, q < H.size → ¬ A1 q → H1[q]? = H[q]?) → va_S A0 H0 H1 locs1 → W p l e R s m args below meth c H1 locs1 (cells + mc) (slots + ms) Q (F0 m (pc + 3) ls (.double r :: rest))) : W p l e R s m args below meth c H locs cells slots Q (F0 m pc ls st0) := by
  intro T hT X
  rcases hr T hT X with ⟨v, st₀, t, T', L, h0, X', hL, e1, e2, ⟨⟨r, u, hv, hp, hb⟩, hF⟩, st⟩ | ⟨q, st₀, t, T', L, E, ce, h0, X', hL, e1, e2, ⟨u, hp, hb, hF⟩, hce, hcv, hcl, st⟩
  · cases hv
    obtain ⟨k1, k2, k3⟩ := vx_keep h0 e1 hS hA hf hL hF
    obtain ⟨t2, a1, b1⟩ := kk r u t T'.heap (locs ++ L) e1.symm (by rw [← e2]; exact X'.warmed.alike) hp hb k1 k2 k3 T' rfl X'
    exact ⟨t2, st t2 a1, b1⟩
  · obtain ⟨k1, k2, k3⟩ := vx_keep h0 e1 hS hAX hf hL hF
    obtain ⟨t2, a1, b1⟩ := kx E ce q u t T'.heap (locs ++ L) e1.symm (by rw [← e2]; exact X'.warmed.alike) hp hb k1 k2 k3 (by rw [e1]; exact hce) hcv hcl T' rfl X'
    exact ⟨t2, st.trans a1, b1⟩
theorem vx_callv {S SX : Type} {post : S → Prop} {px : SX → Prop} {B : S → State → Prop} {BX : String → SX → State → Prop} {AX : Nat → Prop} (hr : vx_Run p l e R s m args below meth c H locs cells slots mc ms (F0 m pc ls st0) rest (va_Qv post B A1 a) (vx_X px BX AX) free) (hS : va_S A0 H0 H locs) (hA : ∀ q, q < H.size → A1 q → A0 q) (hf : ∀ q, free q → A0 q) (hAX : ∀ q, q < H.size → AX q → A0 q)
    (kx : ∀ (E : String) (ce : Cell) (q9 : Addr) (u : SX) (t : State) (H1 : Heap) (locs1 : List Loc), t.heap = H1 → s.vm.Alike t.vm → px u → BX E u t → H.size ≤ H1.size → (∀ q : Nat, q < H.size → ¬ AX q → H1[q]? = H[q]?) → va_S A0 H0 H1 locs1 → H1[q9]? = some ce → ce.vm = .none → s.vm.findClass E = some ce.cls → vx_W p l e R s m args below meth c H1 locs1 (cells + mc) (slots + ms) Q (F0 m pc ls rest) q9)
    (kk : ∀ (u : S) (t : State) (H1 : Heap) (locs1 : List Loc), t.heap = H1 → s.vm.Alike t.vm → post u → B u t → H.size ≤ H1.size → (∀ q : Nat, q < H.size → ¬ A1 q → H1[q]? = H[q]?) → va_S A0 H0 H1 locs1 → W p l e R s m args below meth c H1 locs1 (cells + mc) (slots + ms) Q (F0 m (pc + 3) ls (rest))) : W p l e R s m args below meth c H locs cells slots Q (F0 m pc ls st0) := by
  intro T hT X
  rcases hr T hT X with ⟨v, st₀, t, T', L, h0, X', hL, e1, e2, ⟨⟨u, hv, hp, hb⟩, hF⟩, st⟩ | ⟨q, st₀, t, T', L, E, ce, h0, X', hL, e1, e2, ⟨u, hp, hb, hF⟩, hce, hcv, hcl, st⟩
  · cases hv
    obtain ⟨k1, k2, k3⟩ := vx_keep h0 e1 hS hA hf hL hF
    obtain ⟨t2, a1, b1⟩ := kk u t T'.heap (locs ++ L) e1.symm (by rw [← e2]; exact X'.warmed.alike) hp hb k1 k2 k3 T' rfl X'
    exact ⟨t2, st t2 a1, b1⟩
  · obtain ⟨k1, k2, k3⟩ := vx_keep h0 e1 hS hAX hf hL hF
    obtain ⟨t2, a1, b1⟩ := kx E ce q u t T'.heap (locs ++ L) e1.symm (by rw [← e2]; exact X'.warmed.alike) hp hb k1 k2 k3 (by rw [e1]; exact hce) hcv hcl T' rfl X'
    exact ⟨t2, st.trans a1, b1⟩
/-- caught by the row x of this method's table; the rows ahead don't take it -/
theorem vx_catch {own name : String} {E : String} {ce : Cell} {q : Addr} (hown : s.vm.findClass own = some m.cls) (pre : List ExceptionTableEntry) (x : ExceptionTableEntry) (suf : List ExceptionTableEntry) (hsplit : c.exceptionTable.toList = pre ++ x :: suf)
    (hpass : ∀ z ∈ pre, covers z pc = false ∨ (z.catchType ≠ 0 ∧ ∃ nm : String, (Cond.classLink own z.catchType nm).before args s = true ∧ va_Nc E nm s)) (hx : covers x pc = true) (h0 : x.catchType ≠ 0)
    (hlink : (Cond.classLink own x.catchType name).before args s = true) (hcast : (Cond.castable E name).before args s = true) (hcell : H[q]? = some ce) (hv : ce.vm = .none) (hcl : s.vm.findClass E = some ce.cls)
    (kk : W p l e R s m args below meth c H locs cells slots Q (F0 m x.handlerPc ls [.ref q])) : vx_W p l e R s m args below meth c H locs cells slots Q (F0 m pc ls rest) q := by
  intro T hT X
  have hpl : e.platform.magicAccessors = ({} : Platform).magicAccessors := by rw [X.admits.platform]
  obtain ⟨c3, c4, hc3, hc4, hasg⟩ := Cond.castable_spec hcast
  cases Option.some.inj (hc3.symm.trans hcl)
  obtain ⟨c5, hc5, hcl5⟩ := Cond.classLink_spec hown hlink e.platform hpl
  cases Option.some.inj (hc4.symm.trans hc5)
  obtain ⟨vm', X', st⟩ := X.thenCaughtThrough q (g := F0 m pc ls rest) rfl (Steps.refl _) (by rw [hT]; exact hcell) (by rw [hv]; rfl) (by obtain ⟨k9, h9, -⟩ := Vm.findClass_spec hcl; exact ⟨k9, h9⟩) pre x suf hsplit
    (fun z hz => by
      rcases hpass z hz with h | ⟨hz0, nm, hl1, hn1⟩
      · exact Or.inl h
      · obtain ⟨c6, hc6, hcl6⟩ := Cond.classLink_spec hown hl1 e.platform hpl
        obtain ⟨a8, b8, h1, h2, h3⟩ := hn1
        cases Option.some.inj (h1.symm.trans hcl)
        cases Option.some.inj (h2.symm.trans hc6)
        exact Or.inr ⟨hz0, _, hcl6, h3⟩) hx (Or.inr ⟨h0, c4, hcl5, hasg⟩)
  obtain ⟨t, a1, b1⟩ := kk (T.setVm vm') hT X'
  exact ⟨t, st.trans a1, b1⟩
end Rows
section Ends
variable {p : Program} {l : Launch} {e : Env} {R : Room} {s : State} {m : MethodId} {args : Array Value} {below : List Frame} {meth : Method} {c : Code} {H : Heap} {locs : List Loc} {cells slots : Nat} {Q : State → Prop}
variable {mc ms : Nat} {free : Addr → Prop} {A0 A1 : Nat → Prop} {H0 : Heap} {a : Array Value} {ls : Array Slot} {st0 rest : List Value}
variable {Qc : Array Value → State → Outcome → State → Prop} {XC : String → State → State → Prop}
/-- what a body that may throw owes at its end -/
def vx_MQ (below : List Frame) (Qc : Array Value → State → Outcome → State → Prop) (XC : String → State → State → Prop) (a : Array Value) (s : State) (mc ms : Nat) (free : Addr → Prop) : State → Prop := fun t =>
  ∃ o, t.status = .running ∧ Ended t below o ∧ vx_Q Qc XC mc ms free a s o t
theorem vx_ret {g : JFrame} {mc ms : Nat} (k : W p l e R s m args below meth c H locs cells slots (MQ below Qc args s mc ms free) g) : W p l e R s m args below meth c H locs cells slots (vx_MQ below Qc XC args s mc ms free) g := by
  intro T hT X
  obtain ⟨t, a1, o, b1, b2, b3, b4⟩ := k T hT X
  exact ⟨t, a1, o, b1, b2, Or.inl ⟨b3, b4⟩⟩
/-- not caught here: it goes on to the caller -/
theorem vx_widen {g : JFrame} {q : Addr} {k n : Nat} (h1 : cells ≤ k) (h2 : slots ≤ n) (kk : vx_W p l e R s m args below meth c H locs k n Q g q) : vx_W p l e R s m args below meth c H locs cells slots Q g q := fun T hT X => kk T hT (stand_widen X h1 h2)
theorem vx_out {pc : Nat} {E : String} {ce : Cell} {q : Addr} {mc ms : Nat} (hout : ∀ x ∈ c.exceptionTable.toList, covers x pc = false) (hlocks : meth.locks = false) (hcell : H[q]? = some ce) (hv : ce.vm = .none) (hcl : s.vm.findClass E = some ce.cls)
    (hx : ∀ t : State, t.heap = H → s.vm.Alike t.vm → XC E s t) (hf : ∀ z ∈ locs, free z.base) (hc : cells ≤ mc) (hs : slots ≤ ms) :
    vx_W p l e R s m args below meth c H locs cells slots (vx_MQ below Qc XC args s mc ms free) (F0 m pc ls rest) q := by
  intro T hT X
  obtain ⟨st1, hrun, hend, hW, hsm⟩ := X.leaveThrown q (g := F0 m pc ls rest) rfl rfl rfl hout hlocks
  have hcell9 : (T.setFrames (.throwing q :: below)).heap[q]? = some ce := by
    show T.heap[q]? = some ce
    rw [hT]; exact hcell
  exact ⟨_, st1, .threw q, hrun, hend, Or.inr ⟨q, rfl, E, ce, locs, hx _ hT hW.alike, hcell9, hv, hcl, hW, hsm.mono hc hs, hf⟩⟩
theorem vx_frame {U : State} {k n : Nat} (h : s.sameButNew ({ U with vm := s.vm } : State) locs k n) : s.heap.size ≤ U.heap.size ∧ ∀ q : Nat, q < s.heap.size → (∀ z ∈ locs, z.base ≠ q) → U.heap[q]? = s.heap[q]? := by
  obtain ⟨-, h2, -, -, -, h6⟩ := h
  refine ⟨h2, fun q hq hz => ?_⟩
  obtain ⟨c9, e1, e2, e3, e4⟩ := h6 q _ (Array.getElem?_eq_getElem hq)
  have hs : c9.slots = (s.heap[q]).slots := Array.ext_getElem? fun i => e4 i fun hm => hz _ hm rfl
  have h9 : c9 = s.heap[q] := by
    rw [hs] at e2
    exact e2
  have e5 : U.heap[q]? = some c9 := e1
  rw [e5, h9, Array.getElem?_eq_getElem hq]
/-- the words of a throw but the four that speak of the heap -/
def vx_no (w : Cond) : Bool := decide (w ≠ .isRef (.static Bundle.tN "UNASSIGNED_STACK" Bundle.steD)) && decide (w ≠ .isRef (.static Bundle.tN "SUPPRESSED_SENTINEL" Bundle.listD)) && decide (w ≠ .laysStatic Bundle.tN "UNASSIGNED_STACK" Bundle.steD) && decide (w ≠ .laysStatic Bundle.tN "SUPPRESSED_SENTINEL" Bundle.listD)
def vx_at0 (own : String) (ic : Nat) (X : String) (names : List String) : List Cond := (Bundle.ownAtoms0 own ic X names).filter vx_no
def vx_atS (own : String) (ic : Nat) (X : String) (names : List String) : List Cond := (Bundle.ownAtoms own ic X names).filter vx_no
/-- a word that the tables alone decide, or a good one -/
def vx_ot (w : Cond) : Bool := w.onTables || goodWord w
theorem vx_ot_at {args a' : Array Value} {s U : State} {w : Cond} (hW : s.WarmedH U.vm) (hvm : s.vm = U.vm) (hg : vx_ot w = true) (h : w.before args s = true) : w.before a' U = true := by
  simp only [vx_ot, Bool.or_eq_true] at hg
  rcases hg with hg | hg
  · exact va_tabs hg hvm h
  · exact word_at hW (good_of_word hg) h
/-- a list's words: the good ones out of the method's own list, the others by premises of their own -/
theorem vx_hat {args : Array Value} {s : State} {L B : List Cond} (h1 : ∀ w ∈ L.filter goodWord, w.before args s = true) (h2 : ∀ w ∈ L.filter (fun w => !goodWord w), w ∈ B) (h3 : ∀ w ∈ B, w.before args s = true) : ∀ w ∈ L, w.before args s = true := by
  intro w hw
  by_cases g : goodWord w = true
  · exact h1 w (List.mem_filter.mpr ⟨hw, g⟩)
  · refine h3 w (h2 w (List.mem_filter.mpr ⟨hw, ?_⟩))
    show (!goodWord w) = true
    cases hgw : goodWord w
    · rfl
    · exact absurd hgw g
theorem vx_c {args : Array Value} {s : State} {w : Cond} {B : List Cond} (h : w.before args s = true) (t : ∀ w ∈ B, w.before args s = true) : ∀ w' ∈ w :: B, w'.before args s = true := fun w' h' => (List.mem_cons.mp h').elim (fun e => by rw [e]; exact h) (t w')
theorem vx_n {args : Array Value} {s : State} : ∀ w ∈ ([] : List Cond), w.before args s = true := fun _ h => nomatch h
theorem vx_own {args : Array Value} {s : State} {L : List Cond} (h1 : ∀ w ∈ L.filter vx_no, w.before args s = true)
    (hU : (Cond.isRef (.static Bundle.tN "UNASSIGNED_STACK" Bundle.steD)).before args s = true) (hN : (Cond.isRef (.static Bundle.tN "SUPPRESSED_SENTINEL" Bundle.listD)).before args s = true)
    (lU : (Cond.laysStatic Bundle.tN "UNASSIGNED_STACK" Bundle.steD).before args s = true) (lN : (Cond.laysStatic Bundle.tN "SUPPRESSED_SENTINEL" Bundle.listD).before args s = true) : ∀ w ∈ L, w.before args s = true := by
  intro w hw
  by_cases e1 : w = .isRef (.static Bundle.tN "UNASSIGNED_STACK" Bundle.steD)
  · rw [e1]; exact hU
  · by_cases e2 : w = .isRef (.static Bundle.tN "SUPPRESSED_SENTINEL" Bundle.listD)
    · rw [e2]; exact hN
    · by_cases e3 : w = .laysStatic Bundle.tN "UNASSIGNED_STACK" Bundle.steD
      · rw [e3]; exact lU
      · by_cases e4 : w = .laysStatic Bundle.tN "SUPPRESSED_SENTINEL" Bundle.listD
        · rw [e4]; exact lN
        · exact h1 w (List.mem_filter.mpr ⟨hw, by unfold vx_no; rw [decide_eq_true e1, decide_eq_true e2, decide_eq_true e3, decide_eq_true e4]; rfl⟩)
/-- where a static field lies, its class's statics cell in H -/
def vx_L (C n d : String) (A : Nat → Prop) (U : State) (H : Heap) : Prop := ∃ (c : ClassId) (k : Class) (i : Nat) (f : Field) (a : Nat) (cell : Cell), U.vm.findClass C = some c ∧ U.fieldFound? C n d = some (c, k, i, f) ∧ f.isStatic = true ∧ k.statics = some a ∧ H[a]? = some cell ∧ cell.vm.isStatics = true ∧ cell.cls = c ∧ f.slot < cell.slots.size ∧ k.staticTypes[f.slot]? = some f.type ∧ ¬ A a
theorem vx_L.moved {C n d : String} {A : Nat → Prop} {u U : State} {H : Heap} (hvm : u.vm.Alike U.vm) (h : vx_L C n d A u H) : vx_L C n d A U H := by
  obtain ⟨c, k, i, f, a, cell, h1, h2, h3, h4, h5, h6, h7, h8, h9, h10⟩ := h
  obtain ⟨k', hi', he⟩ := State.fieldFound?_setVm hvm h2
  exact ⟨c, k', i, f, a, cell, by rw [hvm.findClass]; exact h1, hi', h3, by rw [he]; exact h4, h5, h6, h7, h8, by rw [he]; exact h9, h10⟩
theorem vx_L.kept {C n d : String} {A : Nat → Prop} {U : State} {H H1 : Heap} (h : vx_L C n d A U H) (hq : ∀ a : Nat, a < H.size → ¬ A a → H1[a]? = H[a]?) : vx_L C n d A U H1 := by
  obtain ⟨c, k, i, f, a, cell, h1, h2, h3, h4, h5, h6, h7, h8, h9, h10⟩ := h
  exact ⟨c, k, i, f, a, cell, h1, h2, h3, h4, by rw [hq a (Array.getElem?_eq_some_iff.mp h5).1 h10]; exact h5, h6, h7, h8, h9, h10⟩
theorem vx_L.narrow {C n d : String} {A B : Nat → Prop} {U : State} {H : Heap} (h : vx_L C n d A U H) (hAB : ∀ q, B q → A q) : vx_L C n d B U H := by
  obtain ⟨c, k, i, f, a, cell, h1, h2, h3, h4, h5, h6, h7, h8, h9, h10⟩ := h
  exact ⟨c, k, i, f, a, cell, h1, h2, h3, h4, h5, h6, h7, h8, h9, fun z => h10 (hAB _ z)⟩
theorem vx_L.word {C n d : String} {A : Nat → Prop} {s : State} {args : Array Value} (h : vx_L C n d A s s.heap) : (Cond.laysStatic C n d).before args s = true := by
  obtain ⟨c, k, i, f, a, cell, h1, h2, h3, h4, h5, h6, h7, h8, h9, -⟩ := h
  show (Cond.laysStatic C n d).holds args s none s [] = true
  exact Cond.laysStatic_of h1 h2 h3 h4 h5 h6 h7 h8 h9
/-- .. and what it holds: null or some reference -/
def vx_Zq (C n d : String) (A : Nat → Prop) (U : State) (H : Heap) : Prop := va_Zq C n d A U H ∧ vx_L C n d A U H
theorem vx_Zq.moved {C n d : String} {A : Nat → Prop} {u U : State} {H : Heap} (hvm : u.vm.Alike U.vm) (h : vx_Zq C n d A u H) : vx_Zq C n d A U H := ⟨va_Zq.moved hvm h.1, vx_L.moved hvm h.2⟩
theorem vx_Zq.kept {C n d : String} {A : Nat → Prop} {U : State} {H H1 : Heap} (h : vx_Zq C n d A U H) (hq : ∀ a : Nat, a < H.size → ¬ A a → H1[a]? = H[a]?) : vx_Zq C n d A U H1 := ⟨va_Zq.kept h.1 hq, vx_L.kept h.2 hq⟩
theorem vx_Zq.narrow {C n d : String} {A B : Nat → Prop} {U : State} {H : Heap} (h : vx_Zq C n d A U H) (hAB : ∀ q, B q → A q) : vx_Zq C n d B U H := ⟨va_Zq.narrow h.1 hAB, vx_L.narrow h.2 hAB⟩
theorem vx_Zqof {args : Array Value} {s : State} {C n d : String} {A : Nat → Prop} (hl : (Cond.laysStatic C n d).before args s = true) (hini : (Cond.initialized C).before args s = true) (h : (Cond.isRef (.static C n d)).before args s = true) (hA : ∀ a : Nat, a < s.heap.size → ¬ A a) : vx_Zq C n d A s s.heap := by
  refine ⟨va_Zqof hl hini h hA, ?_⟩
  obtain ⟨c, k, i, f, a, cell, h1, h2, h3, h4, h5, h6, h7, h8, h9⟩ := Cond.laysStatic_spec hl
  exact ⟨c, k, i, f, a, cell, h1, h2, h3, h4, h5, h6, h7, h8, h9, hA a (Array.getElem?_eq_some_iff.mp h5).1⟩
theorem vx_isRef {C n d : String} {v : Value} {A : Nat → Prop} {s : State} {args : Array Value} (h : va_Z C n d v A s s.heap) (hv : v.isRef = true) : (Cond.isRef (.static C n d)).before args s = true := by
  obtain ⟨cf, kf, fi, f, a, cell, h1, h2, h3, h4, h5, h6, h7, -⟩ := h
  have he : (Term.static C n d).eval args s none [] s = some v := by
    simp [Term.eval, State.fieldNamed?, h1, h2, h4, h5, h6, h7]
  simp only [Cond.before, Cond.holds, Cond.value, he]
  cases v <;> simp_all [Value.isRef]
theorem vx_isRefq {C n d : String} {A : Nat → Prop} {s : State} {args : Array Value} (h : va_Zq C n d A s s.heap) : (Cond.isRef (.static C n d)).before args s = true := by
  rcases h with h | ⟨t, h⟩
  · exact vx_isRef h rfl
  · exact vx_isRef h rfl
/-- the same frame, seen from here: as if the method were called anew in this heap -/
theorem vx_rebase {T : State} (X : Stand p l e R s m args below meth c T locs cells slots) {R' : Room} (hf : R'.frames ≤ R.frames) (hl : R'.locals ≤ R.locals) (hc : cells + R'.cells ≤ R.cells) (hs : slots + R'.slots ≤ R.slots) :
    Stand p l e R' ((T.setVm s.vm).setFrames (.invoking m args :: below)) m args below meth c T [] 0 0 := by
  have htop : (T.setVm s.vm).topJava?.isSome := X.here.top
  have hF : ((T.setVm s.vm).setFrames (.invoking m args :: below)).frames = .invoking m args :: below := State.frames_setFrames _ (State.cur_lt_of_top htop)
  obtain ⟨g₀, hg0⟩ := Option.isSome_iff_exists.mp htop
  obtain ⟨r, hr⟩ := State.topJava?_eq_some.mp hg0
  have hl9 : e.platform.stackLimits (T.setVm s.vm).me = e.platform.stackLimits s.me := X.limits
  have hb9 : (T.setVm s.vm).me.stackBytes = s.me.stackBytes := X.bytes
  refine ⟨X.admits, X.cas, X.clock, hF, ?_, X.hears, X.method, X.code, X.here, X.tail, X.warmed, ?_, ?_, ?_⟩
  · have h := X.room
    have hU : ((T.setVm s.vm).setFrames (.invoking m args :: below)).localsInUse = s.localsInUse := by
      rw [State.localsInUse_invoking hF (meth := meth) (c := c) X.method X.code, State.localsInUse_invoking X.frames X.method X.code]
    simp only [State.hasRoom, Bool.and_eq_true, decide_eq_true_eq] at h ⊢
    obtain ⟨⟨⟨⟨h1, h2, h3, h4, h5, h6⟩, h7⟩, h8⟩, h9⟩ := h
    rw [X.frames, List.length_cons] at h2 h3
    have q1 := X.heapSize
    have q2 := X.used
    simp only [hF, hU, List.length_cons, State.stackLimits_setFrames, State.stackBytes_setFrames, hl9, hb9]
    refine ⟨⟨⟨⟨by omega, by omega, by omega, by omega, by omega, h6⟩, ?_⟩, ?_⟩, X.book⟩
    · show T.heap.size + R'.cells ≤ e.platform.maxCells
      omega
    · show T.slotsUsed + R'.slots ≤ e.platform.maxSlots
      omega
  · rw [State.stackLimits_setFrames]; rfl
  · rw [State.stackBytes_setFrames]; rfl
  · refine ⟨?_, Nat.le_refl _, Nat.le_refl _, ?_, ?_, fun a c9 h9 => ⟨c9, h9, rfl, rfl, fun _ _ => rfl⟩⟩
    · obtain ⟨t, ht, -⟩ := State.frames_cons hr
      show T.setVm s.vm = { ((T.setVm s.vm).setFrames (.invoking m args :: below)).setFrames (T.setVm s.vm).frames with heap := T.heap, slotsUsed := T.slotsUsed }
      rw [State.setFrames_setFrames, State.setFrames_self ht]
      rfl
    · show T.slotsUsed = T.slotsUsed + ((T.heap.toList.drop T.heap.size).map (·.slots.size)).sum
      rw [List.drop_eq_nil_of_le (Nat.le_of_eq Array.length_toList)]
      rfl
    · show ((T.heap.toList.drop T.heap.size).map (·.slots.size)).sum ≤ 0
      rw [List.drop_eq_nil_of_le (Nat.le_of_eq Array.length_toList)]
      exact Nat.le_refl _
/-- 'throw new E()': new; dup; invokespecial; athrow -/
theorem vx_throw0 {cc : ByteArray} {pc : Nat} (hexec : p.tables.exec = Jvm.exec) (hb : c.code = cc) (hl : l.stackTraces = false) {own cls : String} {names : List String} {ik ic mc ms : Nat} {A : Nat → Prop}
    (hown : s.vm.findClass own = some m.cls) (hcls : Bundle.fit cls = true) (hnames : ∀ n ∈ names, Bundle.fit n = true)
    (hk : (Cond.classLink own ik cls).before args s = true) (hini : (Cond.initialized cls).before args s = true) (hat : ∀ w ∈ vx_at0 own ic cls names, w.before args s = true)
    (hgood : ∀ w ∈ Cond.classLink own ik cls :: Cond.initialized cls :: vx_at0 own ic cls names, vx_ot w = true)
    (hU : vx_Zq Bundle.tN "UNASSIGNED_STACK" Bundle.steD A s s.heap) (hN : vx_Zq Bundle.tN "SUPPRESSED_SENTINEL" Bundle.listD A s s.heap) (hS : va_S A s.heap H locs) (hsize : ls.size = c.maxLocals)
    (d0 : decode cc pc = .ok (.new ik, 3)) (d3 : decode cc (pc + 3) = .ok (.dup, 1)) (d4 : decode cc (pc + 4) = .ok (.invokespecial ic, 3)) (d7 : decode cc (pc + 7) = .ok (.athrow, 1))
    (hout : ∀ x ∈ c.exceptionTable.toList, covers x (pc + 7) = false)
    (hRframes : names.length + 3 < R.frames) (hRlocals : (rest.map fun v => v.category).sum + (13 * (names.length + 1) + 42) ≤ R.locals) (hRcells : cells + 1 ≤ R.cells) (hRslots : slots + 6 ≤ R.slots) (hlocks : meth.locks = false)
    (hx : ∀ t : State, s.vm.Alike t.vm → H.size ≤ t.heap.size → (∀ q : Nat, q < H.size → t.heap[q]? = H[q]?) → XC cls s t)
    (hf : ∀ z ∈ locs, free z.base) (hc : cells + 1 ≤ mc) (hs : slots + 6 ≤ ms) :
    W p l e R s m args below meth c H locs cells slots (vx_MQ below Qc XC args s mc ms free) (F0 m pc ls rest) := by
  intro T hT X
  have htr : e.platform.stackTraces = false := (show e.platform.stackTraces = l.stackTraces by rw [X.admits.platform]).trans hl
  have Y := vx_rebase X (R' := { frames := R.frames, locals := R.locals, cells := 1, slots := 6 }) (Nat.le_refl _) (Nat.le_refl _) hRcells hRslots
  obtain ⟨s', hA⟩ : ∃ z, z = (T.setVm s.vm).setFrames (.invoking m args :: below) := ⟨_, rfl⟩
  rw [← hA] at Y
  have hvm : s'.vm = s.vm := by rw [hA]; rfl
  have hhp : s'.heap = H := by rw [hA]; exact hT
  have hW0 : s.WarmedH s'.vm := by rw [hvm]; exact State.WarmedH.refl s
  have hat' : ∀ w ∈ vx_at0 own ic cls names, w.before args s' = true := fun w hw => vx_ot_at hW0 hvm.symm (hgood w (List.mem_cons_of_mem _ (List.mem_cons_of_mem _ hw))) (hat w hw)
  have hk' : (Cond.classLink own ik cls).before args s' = true := vx_ot_at hW0 hvm.symm (hgood _ List.mem_cons_self) hk
  have hini' : (Cond.initialized cls).before args s' = true := vx_ot_at hW0 hvm.symm (hgood _ (List.mem_cons_of_mem _ List.mem_cons_self)) hini
  have hU' : vx_Zq Bundle.tN "UNASSIGNED_STACK" Bundle.steD A s' s'.heap := by rw [hhp]; exact vx_Zq.moved hW0.alike (hU.kept hS.2.1)
  have hN' : vx_Zq Bundle.tN "SUPPRESSED_SENTINEL" Bundle.listD A s' s'.heap := by rw [hhp]; exact vx_Zq.moved hW0.alike (hN.kept hS.2.1)
  have h : ∀ w ∈ Bundle.ownAtoms0 own ic cls names, w.before args s' = true := vx_own hat' (vx_isRefq hU'.1) (vx_isRefq hN'.1) hU'.2.word hN'.2.word
  have hown' : s'.vm.findClass own = some m.cls := by rw [hvm]; exact hown
  have hins : (Cond.instantiable cls 6).before args s' = true := h _ (by simp [Bundle.ownAtoms0])
  obtain ⟨vm₁, cX, kX, hfX, hkX, -, -, X₁, st1⟩ := Y.newCold hexec (own := own) (C := cls) (index := ik) (n := 6) hown' hk' hins hini'
    (g := F0 m pc ls rest) rfl (by rw [hb]; exact d0) (Nat.le_refl _) (Nat.le_refl _)
  generalize hT1 : (T.setVm vm₁).pushCell { cls := cX, slots := kX.instanceTypes.map defaultValue, vm := .none } = T1 at X₁ st1
  have hcat : (Value.ref T.heap.size).category = 1 := rfl
  have hcellA : T1.heap[T.heap.size]? = some (freshCell cX kX) := by rw [← hT1]; exact State.heap_pushCell_size _ _
  have d3' : decode c.code (pc + 3) = .ok (.dup, 1) := by rw [hb]; exact d3
  obtain ⟨U, hsteps, hrun, hend, hW, hsame, ce, hce, hO⟩ := X₁.ctorThrow0 hexec htr (own := own) (cls := cls) (names := names) (ic := ic) hown' hcls hnames h (fun x hx => nomatch hx) hfX hkX hcellA (by rw [hhp, hT]; exact Nat.le_refl _)
    (g := { method := m, pc := pc + 4, locals := ls, stack := .ref T.heap.size :: .ref T.heap.size :: rest, locked := none }) rfl hsize rfl rfl (rest := rest) rfl
    (by rw [hb]; exact d4) (by rw [hb]; exact d7) hout hRframes (by simp only [List.map_cons, List.sum_cons, hcat]; omega) hlocks
  obtain ⟨f1, f2⟩ := vx_frame hsame
  rw [hhp] at f1 f2
  have hWs : s.WarmedH U.vm := State.WarmedH.trans hW0 hW
  have hcl : s.vm.findClass cls = some ce.cls := by
    have h9 := hO.cls
    rw [hvm] at h9
    exact h9
  have hall : s.sameButNew ({ U with vm := s.vm } : State) locs mc ms := by
    subst hA
    obtain ⟨e1, e2⟩ := hsame
    rw [State.setFrames_setFrames] at e1
    have h2 : (T.setVm s.vm).sameButNew ({ U with vm := s.vm } : State) [] (0 + 1) (0 + 6) := ⟨e1, e2⟩
    have h3 := X.same.trans h2
    rw [List.append_nil] at h3
    exact h3.mono hc hs
  refine ⟨U, ?_, .threw T.heap.size, hrun, hend, Or.inr ⟨T.heap.size, rfl, cls, ce, locs, hx U hWs.alike f1 (fun q hq => f2 q hq (fun z hz => nomatch hz)), hce, hO.vm, hcl, hWs, hall, hf⟩⟩
  refine st1 _ ?_
  show Steps p.tables e below (T1.setTop { method := m, pc := pc + 3, locals := ls, stack := .ref T.heap.size :: rest, locked := none }) _
  jvm_step X₁.here [X₁.here.top, hexec, d3', Value.category]
  exact hsteps
/-- 'throw new E("text")': new; dup; ldc; invokespecial; athrow -/
theorem vx_throwS {cc : ByteArray} {pc : Nat} (hexec : p.tables.exec = Jvm.exec) (hb : c.code = cc) (hl : l.stackTraces = false) {own cls text : String} {names : List String} {ik is ic mc ms sa : Nat} {A : Nat → Prop}
    (hown : s.vm.findClass own = some m.cls) (hcls : Bundle.fit cls = true) (hnames : ∀ n ∈ names, Bundle.fit n = true)
    (hk : (Cond.classLink own ik cls).before args s = true) (hini : (Cond.initialized cls).before args s = true) (hstr : vk_R own is text sa s) (hat : ∀ w ∈ vx_atS own ic cls names, w.before args s = true)
    (hgood : ∀ w ∈ Cond.classLink own ik cls :: Cond.initialized cls :: vx_atS own ic cls names, vx_ot w = true)
    (hU : vx_Zq Bundle.tN "UNASSIGNED_STACK" Bundle.steD A s s.heap) (hN : vx_Zq Bundle.tN "SUPPRESSED_SENTINEL" Bundle.listD A s s.heap) (hS : va_S A s.heap H locs) (hsize : ls.size = c.maxLocals)
    (d0 : decode cc pc = .ok (.new ik, 3)) (d3 : decode cc (pc + 3) = .ok (.dup, 1)) (d4 : decode cc (pc + 4) = .ok (.ldc is, 2)) (d6 : decode cc (pc + 6) = .ok (.invokespecial ic, 3)) (d9 : decode cc (pc + 9) = .ok (.athrow, 1))
    (hout : ∀ x ∈ c.exceptionTable.toList, covers x (pc + 9) = false)
    (hRframes : names.length + 3 < R.frames) (hRlocals : (rest.map fun v => v.category).sum + (13 * (names.length + 1) + 43) ≤ R.locals) (hRcells : cells + 1 ≤ R.cells) (hRslots : slots + 6 ≤ R.slots) (hlocks : meth.locks = false)
    (hx : ∀ t : State, s.vm.Alike t.vm → H.size ≤ t.heap.size → (∀ q : Nat, q < H.size → t.heap[q]? = H[q]?) → XC cls s t)
    (hf : ∀ z ∈ locs, free z.base) (hc : cells + 1 ≤ mc) (hs : slots + 6 ≤ ms) :
    W p l e R s m args below meth c H locs cells slots (vx_MQ below Qc XC args s mc ms free) (F0 m pc ls rest) := by
  intro T hT X
  have htr : e.platform.stackTraces = false := (show e.platform.stackTraces = l.stackTraces by rw [X.admits.platform]).trans hl
  have Y := vx_rebase X (R' := { frames := R.frames, locals := R.locals, cells := 1, slots := 6 }) (Nat.le_refl _) (Nat.le_refl _) hRcells hRslots
  obtain ⟨s', hA⟩ : ∃ z, z = (T.setVm s.vm).setFrames (.invoking m args :: below) := ⟨_, rfl⟩
  rw [← hA] at Y
  have hvm : s'.vm = s.vm := by rw [hA]; rfl
  have hhp : s'.heap = H := by rw [hA]; exact hT
  have hW0 : s.WarmedH s'.vm := by rw [hvm]; exact State.WarmedH.refl s
  have hat' : ∀ w ∈ vx_atS own ic cls names, w.before args s' = true := fun w hw => vx_ot_at hW0 hvm.symm (hgood w (List.mem_cons_of_mem _ (List.mem_cons_of_mem _ hw))) (hat w hw)
  have hk' : (Cond.classLink own ik cls).before args s' = true := vx_ot_at hW0 hvm.symm (hgood _ List.mem_cons_self) hk
  have hini' : (Cond.initialized cls).before args s' = true := vx_ot_at hW0 hvm.symm (hgood _ (List.mem_cons_of_mem _ List.mem_cons_self)) hini
  have hU' : vx_Zq Bundle.tN "UNASSIGNED_STACK" Bundle.steD A s' s'.heap := by rw [hhp]; exact vx_Zq.moved hW0.alike (hU.kept hS.2.1)
  have hN' : vx_Zq Bundle.tN "SUPPRESSED_SENTINEL" Bundle.listD A s' s'.heap := by rw [hhp]; exact vx_Zq.moved hW0.alike (hN.kept hS.2.1)
  have h : ∀ w ∈ Bundle.ownAtoms own ic cls names, w.before args s' = true := vx_own hat' (vx_isRefq hU'.1) (vx_isRefq hN'.1) hU'.2.word hN'.2.word
  have hown' : s'.vm.findClass own = some m.cls := by rw [hvm]; exact hown
  have hins : (Cond.instantiable cls 6).before args s' = true := h _ (by simp [Bundle.ownAtoms])
  obtain ⟨vm₁, cX, kX, hfX, hkX, -, -, X₁, st1⟩ := Y.newCold hexec (own := own) (C := cls) (index := ik) (n := 6) hown' hk' hins hini'
    (g := F0 m pc ls rest) rfl (by rw [hb]; exact d0) (Nat.le_refl _) (Nat.le_refl _)
  generalize hT1 : (T.setVm vm₁).pushCell { cls := cX, slots := kX.instanceTypes.map defaultValue, vm := .none } = T1 at X₁ st1
  have hcat : (Value.ref T.heap.size).category = 1 := rfl
  have hcellA : T1.heap[T.heap.size]? = some (freshCell cX kX) := by rw [← hT1]; exact State.heap_pushCell_size _ _
  have d3' : decode c.code (pc + 3) = .ok (.dup, 1) := by rw [hb]; exact d3
  have d4' : decode c.code (pc + 4) = .ok (.ldc is, 2) := by rw [hb]; exact d4
  have hstr' : vk_R own is text sa s' := vk_R.warm hW0 hstr
  obtain ⟨U, hsteps, hrun, hend, hW, hsame, ce, hce, hO⟩ := X₁.ctorThrowS hexec htr (own := own) (cls := cls) (names := names) (ic := ic) hown' hcls hnames h (fun x hx => nomatch hx) hfX hkX hcellA (by rw [hhp, hT]; exact Nat.le_refl _) (msg := .ref sa) rfl
    (g := { method := m, pc := pc + 6, locals := ls, stack := .ref sa :: .ref T.heap.size :: .ref T.heap.size :: rest, locked := none }) rfl hsize rfl rfl (rest := rest) rfl
    (by rw [hb]; exact d6) (by rw [hb]; exact d9) hout hRframes (by simp only [List.map_cons, List.sum_cons, hcat]; omega) hlocks
  obtain ⟨f1, f2⟩ := vx_frame hsame
  rw [hhp] at f1 f2
  have hWs : s.WarmedH U.vm := State.WarmedH.trans hW0 hW
  have hcl : s.vm.findClass cls = some ce.cls := by
    have h9 := hO.cls
    rw [hvm] at h9
    exact h9
  have hall : s.sameButNew ({ U with vm := s.vm } : State) locs mc ms := by
    subst hA
    obtain ⟨e1, e2⟩ := hsame
    rw [State.setFrames_setFrames] at e1
    have h2 : (T.setVm s.vm).sameButNew ({ U with vm := s.vm } : State) [] (0 + 1) (0 + 6) := ⟨e1, e2⟩
    have h3 := X.same.trans h2
    rw [List.append_nil] at h3
    exact h3.mono hc hs
  refine ⟨U, ?_, .threw T.heap.size, hrun, hend, Or.inr ⟨T.heap.size, rfl, cls, ce, locs, hx U hWs.alike f1 (fun q hq => f2 q hq (fun z hz => nomatch hz)), hce, hO.vm, hcl, hWs, hall, hf⟩⟩
  refine st1 _ ?_
  show Steps p.tables e below (T1.setTop { method := m, pc := pc + 3, locals := ls, stack := .ref T.heap.size :: rest, locked := none }) _
  jvm_step X₁.here [X₁.here.top, hexec, d3', Value.category]
  exact X₁.ldcString hexec (own := own) (text := text) (index := is) (a := sa) hown' hstr'.1 hstr'.2
    (g := { method := m, pc := pc + 4, locals := ls, stack := .ref T.heap.size :: .ref T.heap.size :: rest, locked := none }) rfl d4' _ hsteps
/-- 'throw new E("text")', the text by a wide index -/
theorem vx_throwSW {cc : ByteArray} {pc : Nat} (hexec : p.tables.exec = Jvm.exec) (hb : c.code = cc) (hl : l.stackTraces = false) {own cls text : String} {names : List String} {ik is ic mc ms sa : Nat} {A : Nat → Prop}
    (hown : s.vm.findClass own = some m.cls) (hcls : Bundle.fit cls = true) (hnames : ∀ n ∈ names, Bundle.fit n = true)
    (hk : (Cond.classLink own ik cls).before args s = true) (hini : (Cond.initialized cls).before args s = true) (hstr : vk_R own is text sa s) (hat : ∀ w ∈ vx_atS own ic cls names, w.before args s = true)
    (hgood : ∀ w ∈ Cond.classLink own ik cls :: Cond.initialized cls :: vx_atS own ic cls names, vx_ot w = true)
    (hU : vx_Zq Bundle.tN "UNASSIGNED_STACK" Bundle.steD A s s.heap) (hN : vx_Zq Bundle.tN "SUPPRESSED_SENTINEL" Bundle.listD A s s.heap) (hS : va_S A s.heap H locs) (hsize : ls.size = c.maxLocals)
    (d0 : decode cc pc = .ok (.new ik, 3)) (d3 : decode cc (pc + 3) = .ok (.dup, 1)) (d4 : decode cc (pc + 4) = .ok (.ldc_w is, 3)) (d7 : decode cc (pc + 7) = .ok (.invokespecial ic, 3)) (d10 : decode cc (pc + 10) = .ok (.athrow, 1))
    (hout : ∀ x ∈ c.exceptionTable.toList, covers x (pc + 10) = false)
    (hRframes : names.length + 3 < R.frames) (hRlocals : (rest.map fun v => v.category).sum + (13 * (names.length + 1) + 43) ≤ R.locals) (hRcells : cells + 1 ≤ R.cells) (hRslots : slots + 6 ≤ R.slots) (hlocks : meth.locks = false)
    (hx : ∀ t : State, s.vm.Alike t.vm → H.size ≤ t.heap.size → (∀ q : Nat, q < H.size → t.heap[q]? = H[q]?) → XC cls s t)
    (hf : ∀ z ∈ locs, free z.base) (hc : cells + 1 ≤ mc) (hs : slots + 6 ≤ ms) :
    W p l e R s m args below meth c H locs cells slots (vx_MQ below Qc XC args s mc ms free) (F0 m pc ls rest) := by
  intro T hT X
  have htr : e.platform.stackTraces = false := (show e.platform.stackTraces = l.stackTraces by rw [X.admits.platform]).trans hl
  have Y := vx_rebase X (R' := { frames := R.frames, locals := R.locals, cells := 1, slots := 6 }) (Nat.le_refl _) (Nat.le_refl _) hRcells hRslots
  obtain ⟨s', hA⟩ : ∃ z, z = (T.setVm s.vm).setFrames (.invoking m args :: below) := ⟨_, rfl⟩
  rw [← hA] at Y
  have hvm : s'.vm = s.vm := by rw [hA]; rfl
  have hhp : s'.heap = H := by rw [hA]; exact hT
  have hW0 : s.WarmedH s'.vm := by rw [hvm]; exact State.WarmedH.refl s
  have hat' : ∀ w ∈ vx_atS own ic cls names, w.before args s' = true := fun w hw => vx_ot_at hW0 hvm.symm (hgood w (List.mem_cons_of_mem _ (List.mem_cons_of_mem _ hw))) (hat w hw)
  have hk' : (Cond.classLink own ik cls).before args s' = true := vx_ot_at hW0 hvm.symm (hgood _ List.mem_cons_self) hk
  have hini' : (Cond.initialized cls).before args s' = true := vx_ot_at hW0 hvm.symm (hgood _ (List.mem_cons_of_mem _ List.mem_cons_self)) hini
  have hU' : vx_Zq Bundle.tN "UNASSIGNED_STACK" Bundle.steD A s' s'.heap := by rw [hhp]; exact vx_Zq.moved hW0.alike (hU.kept hS.2.1)
  have hN' : vx_Zq Bundle.tN "SUPPRESSED_SENTINEL" Bundle.listD A s' s'.heap := by rw [hhp]; exact vx_Zq.moved hW0.alike (hN.kept hS.2.1)
  have h : ∀ w ∈ Bundle.ownAtoms own ic cls names, w.before args s' = true := vx_own hat' (vx_isRefq hU'.1) (vx_isRefq hN'.1) hU'.2.word hN'.2.word
  have hown' : s'.vm.findClass own = some m.cls := by rw [hvm]; exact hown
  have hins : (Cond.instantiable cls 6).before args s' = true := h _ (by simp [Bundle.ownAtoms])
  obtain ⟨vm₁, cX, kX, hfX, hkX, -, -, X₁, st1⟩ := Y.newCold hexec (own := own) (C := cls) (index := ik) (n := 6) hown' hk' hins hini'
    (g := F0 m pc ls rest) rfl (by rw [hb]; exact d0) (Nat.le_refl _) (Nat.le_refl _)
  generalize hT1 : (T.setVm vm₁).pushCell { cls := cX, slots := kX.instanceTypes.map defaultValue, vm := .none } = T1 at X₁ st1
  have hcat : (Value.ref T.heap.size).category = 1 := rfl
  have hcellA : T1.heap[T.heap.size]? = some (freshCell cX kX) := by rw [← hT1]; exact State.heap_pushCell_size _ _
  have d3' : decode c.code (pc + 3) = .ok (.dup, 1) := by rw [hb]; exact d3
  have d4' : decode c.code (pc + 4) = .ok (.ldc_w is, 3) := by rw [hb]; exact d4
  have hstr' : vk_R own is text sa s' := vk_R.warm hW0 hstr
  obtain ⟨U, hsteps, hrun, hend, hW, hsame, ce, hce, hO⟩ := X₁.ctorThrowS hexec htr (own := own) (cls := cls) (names := names) (ic := ic) hown' hcls hnames h (fun x hx => nomatch hx) hfX hkX hcellA (by rw [hhp, hT]; exact Nat.le_refl _) (msg := .ref sa) rfl
    (g := { method := m, pc := pc + 7, locals := ls, stack := .ref sa :: .ref T.heap.size :: .ref T.heap.size :: rest, locked := none }) rfl hsize rfl rfl (rest := rest) rfl
    (by rw [hb]; exact d7) (by rw [hb]; exact d10) hout hRframes (by simp only [List.map_cons, List.sum_cons, hcat]; omega) hlocks
  obtain ⟨f1, f2⟩ := vx_frame hsame
  rw [hhp] at f1 f2
  have hWs : s.WarmedH U.vm := State.WarmedH.trans hW0 hW
  have hcl : s.vm.findClass cls = some ce.cls := by
    have h9 := hO.cls
    rw [hvm] at h9
    exact h9
  have hall : s.sameButNew ({ U with vm := s.vm } : State) locs mc ms := by
    subst hA
    obtain ⟨e1, e2⟩ := hsame
    rw [State.setFrames_setFrames] at e1
    have h2 : (T.setVm s.vm).sameButNew ({ U with vm := s.vm } : State) [] (0 + 1) (0 + 6) := ⟨e1, e2⟩
    have h3 := X.same.trans h2
    rw [List.append_nil] at h3
    exact h3.mono hc hs
  refine ⟨U, ?_, .threw T.heap.size, hrun, hend, Or.inr ⟨T.heap.size, rfl, cls, ce, locs, hx U hWs.alike f1 (fun q hq => f2 q hq (fun z hz => nomatch hz)), hce, hO.vm, hcl, hWs, hall, hf⟩⟩
  refine st1 _ ?_
  show Steps p.tables e below (T1.setTop { method := m, pc := pc + 3, locals := ls, stack := .ref T.heap.size :: rest, locked := none }) _
  jvm_step X₁.here [X₁.here.top, hexec, d3', Value.category]
  exact X₁.ldcStringW hexec (own := own) (text := text) (index := is) (a := sa) hown' hstr'.1 hstr'.2
    (g := { method := m, pc := pc + 4, locals := ls, stack := .ref T.heap.size :: .ref T.heap.size :: rest, locked := none }) rfl d4' _ hsteps
end Ends
section Bodies
variable {l : Launch}
theorem vx_ofW {y : MethodName} {ws ws' : List Cond} {rm : Room} {Pc : Array Value → State → Prop} {Qc : Array Value → State → Outcome → State → Prop} {XC : String → State → State → Prop} {mc ms : Nat} {free : Addr → Prop} {cc : ByteArray} {maxL : Nat} {ret : Option FieldType}
    (hy : plainName y.cls = true) (hw : ws = Cond.code y cc maxL ret :: ws')
    (body : ∀ p e s m args below meth c s₁, BodyLoose p l y (headSpec ws rm) cc maxL ret e s m args below meth c s₁ → c.maxLocals = maxL → (∀ x ∈ c.exceptionTable.toList, False) → Pc args s →
      W p l e (headSpec ws rm).room s m args below meth c s.heap [] 0 0 (vx_MQ below Qc XC args s mc ms free) (entryFrame m args maxL)) : vx_Met l y ws rm Pc Qc XC mc ms free := by
  refine MetFree.of_bodyS (code := cc) (maxLocals := maxL) (ret := ret) hy ?_ ?_
  · intro args s m h hn
    obtain ⟨meth, c, h1, h2, h3, h4, h5, h6, -, -⟩ := Cond.code_spec hn (atoms_spec (ws := ws) h _ (by rw [hw]; exact List.mem_cons_self))
    exact ⟨meth, c, h1, h2, h3, h4, h5, h6⟩
  · intro p e s m args below meth c s₁ B hml hP _
    have hh0 : s₁.heap = s.heap := by rw [B.state]; rfl
    have ht : ∀ x ∈ c.exceptionTable.toList, False := by
      obtain ⟨meth9, c9, h1, h2, -, -, -, -, h7, -⟩ := Cond.code_spec B.named (atoms_spec (ws := ws) B.pre _ (by rw [hw]; exact List.mem_cons_self))
      cases Option.some.inj (h1.symm.trans B.method)
      cases Option.some.inj (h2.symm.trans (Stand.of_body B).code)
      intro x hx
      rw [Array.isEmpty_iff.mp h7] at hx
      cases hx
    obtain ⟨t, a1, o, b1, b2, b3⟩ := body p e s m args below meth c s₁ B hml ht hP s₁ hh0 (Stand.of_body B)
    exact ⟨t, o, a1, b1, b2, b3⟩
/-- the table of a body with handlers -/
theorem vx_table {p : Program} {x y : MethodName} {S : Spec} {cc bytes : ByteArray} {maxL maxL' : Nat} {ret ret' : Option FieldType} {e : Env} {s s₁ : State} {m : MethodId} {args : Array Value} {below : List Frame} {meth : Method} {c : Code} {hh : List (Nat × Nat × Nat × Nat)}
    (B : BodyLoose p l y S cc maxL ret e s m args below meth c s₁) (h : (Cond.codeWith y bytes maxL' ret' hh).before args s = true) : c.exceptionTable.toList = tableOf hh := by
  obtain ⟨m9, meth9, c9, hn9, h1, h2, -, -, h6, -⟩ := Cond.codeWith_spec h
  cases Option.some.inj (hn9.symm.trans B.named)
  cases Option.some.inj (h1.symm.trans B.method)
  cases Option.some.inj (h2.symm.trans (Stand.of_body B).code)
  rw [← h6, table_eq]
end Bodies
end VXA
/-! ===== END ===== -/
end
section
/-! numbers for what the system has: kinds, fields, methods (by program) -/
abbrev Rho : Type := Nat → Int
abbrev Mem : Type := Int → Int → Int
/-- references, numbers, (next, exact, cells, slots) -/
abbrev Sto : Type := Mem × Mem × Int × Int × Nat × Nat
/-- addresses, kinds, slots, base -/
abbrev Geo : Type := (Int → Nat) × (Nat → ClassId) × (Nat → Nat → Nat) × Nat
def enc (al : Int → Nat) (t : Nat) (v : Int) : Value := if t = 1 then .long (Int64.ofInt v) else if t = 2 then (if v = 0 then .null else .ref (al v)) else .int (Int32.ofInt v)
def okv (t : Nat) (v : Int) : Prop := if t = 1 then inL v else if t = 2 then True else if t = 3 then 0 ≤ v ∧ v ≤ 1 else if t = 4 then 0 ≤ v ∧ v < 65536 else inI v
def tyOK (t : Nat) (ft : FieldType) : Prop := ∀ (al : Int → Nat) (v : Int), okv t v → narrow ft (enc al t v) = enc al t v ∧ fits ft (enc al t v) = true
theorem okv_I {t : Nat} {v : Int} (h1 : t ≠ 1) (h2 : t ≠ 2) (h : okv t v) : inI v := by
  unfold okv at h
  rw [if_neg h1, if_neg h2] at h
  unfold inI at *
  split at h
  · omega
  · split at h
    · omega
    · exact h
theorem enc_I {t : Nat} (al : Int → Nat) (v : Int) (h1 : t ≠ 1) (h2 : t ≠ 2) : enc al t v = .int (Int32.ofInt v) := by
  unfold enc; rw [if_neg h1, if_neg h2]
theorem enc_0 (al : Int → Nat) (v : Int) : enc al 0 v = .int (Int32.ofInt v) := rfl
theorem enc_1 (al : Int → Nat) (v : Int) : enc al 1 v = .long (Int64.ofInt v) := rfl
theorem enc_2 (al : Int → Nat) {v : Int} (h : v ≠ 0) : enc al 2 v = .ref (al v) := by unfold enc; simp [h]
theorem tyOK_0 : tyOK 0 .int := fun al v h => ⟨rfl, rfl⟩
theorem tyOK_1 : tyOK 1 .long := fun al v h => ⟨rfl, rfl⟩
theorem tyOK_2o (C : String) : tyOK 2 (.object C) := fun al v h => by
  by_cases hv : v = 0 <;> simp [enc, hv, narrow, fits]
theorem tyOK_2a (C : FieldType) : tyOK 2 (.array C) := fun al v h => by
  by_cases hv : v = 0 <;> simp [enc, hv, narrow, fits]
theorem tyOK_3 : tyOK 3 .boolean := fun al v h => by
  have h : 0 ≤ v ∧ v ≤ 1 := h
  have h2 : v = 0 ∨ v = 1 := by omega
  rcases h2 with rfl | rfl <;> exact ⟨rfl, rfl⟩
def isNest : Cond → Bool
  | .methodLinkNest _ _ _ _ => true
  | .arrayOver (.object _) => true
  | _ => false
def gTbl : List Cond := lw_tbl.filter (fun w => goodWord w || isNest w)
theorem lwt {w : Cond} (i : Nat) (h : tables_1[i]? = some w) : w ∈ lw_tbl := List.mem_append_right _ (List.mem_of_getElem? h)
theorem gwt {w : Cond} (i : Nat) (h : tables_1[i]? = some w) (hg : goodWord w = true) : w ∈ gTbl := List.mem_filter.mpr ⟨lwt i h, by rw [hg]; rfl⟩
theorem gw1 {w : Cond} (i : Nat) (h : tables_1_1[i]? = some w) (hg : goodWord w = true) : w ∈ gTbl := List.mem_filter.mpr ⟨List.mem_append_right _ (List.mem_append_left _ (List.mem_of_getElem? h)), by rw [hg]; rfl⟩
theorem gw2 {w : Cond} (i : Nat) (h : tables_1_2[i]? = some w) (hg : goodWord w = true) : w ∈ gTbl := List.mem_filter.mpr ⟨List.mem_append_right _ (List.mem_append_right _ (List.mem_append_left _ (List.mem_of_getElem? h))), by rw [hg]; rfl⟩
theorem gw3 {w : Cond} (i : Nat) (h : tables_1_3[i]? = some w) (hg : goodWord w = true) : w ∈ gTbl := List.mem_filter.mpr ⟨List.mem_append_right _ (List.mem_append_right _ (List.mem_append_right _ (List.mem_append_left _ (List.mem_of_getElem? h)))), by rw [hg]; rfl⟩
theorem gw4 {w : Cond} (i : Nat) (h : tables_1_4[i]? = some w) (hg : goodWord w = true) : w ∈ gTbl := List.mem_filter.mpr ⟨List.mem_append_right _ (List.mem_append_right _ (List.mem_append_right _ (List.mem_append_right _ (List.mem_append_left _ (List.mem_of_getElem? h))))), by rw [hg]; rfl⟩
theorem gw5 {w : Cond} (i : Nat) (h : tables_1_5[i]? = some w) (hg : goodWord w = true) : w ∈ gTbl := List.mem_filter.mpr ⟨List.mem_append_right _ (List.mem_append_right _ (List.mem_append_right _ (List.mem_append_right _ (List.mem_append_right _ (List.mem_append_left _ (List.mem_of_getElem? h)))))), by rw [hg]; rfl⟩
theorem gw6 {w : Cond} (i : Nat) (h : tables_1_6[i]? = some w) (hg : goodWord w = true) : w ∈ gTbl := List.mem_filter.mpr ⟨List.mem_append_right _ (List.mem_append_right _ (List.mem_append_right _ (List.mem_append_right _ (List.mem_append_right _ (List.mem_append_right _ (List.mem_append_left _ (List.mem_of_getElem? h))))))), by rw [hg]; rfl⟩
theorem gw7 {w : Cond} (i : Nat) (h : tables_1_7[i]? = some w) (hg : goodWord w = true) : w ∈ gTbl := List.mem_filter.mpr ⟨List.mem_append_right _ (List.mem_append_right _ (List.mem_append_right _ (List.mem_append_right _ (List.mem_append_right _ (List.mem_append_right _ (List.mem_append_right _ (List.mem_append_left _ (List.mem_of_getElem? h)))))))), by rw [hg]; rfl⟩
theorem gw8 {w : Cond} (i : Nat) (h : tables_1_8[i]? = some w) (hg : goodWord w = true) : w ∈ gTbl := List.mem_filter.mpr ⟨List.mem_append_right _ (List.mem_append_right _ (List.mem_append_right _ (List.mem_append_right _ (List.mem_append_right _ (List.mem_append_right _ (List.mem_append_right _ (List.mem_append_right _ (List.mem_append_left _ (List.mem_of_getElem? h))))))))), by rw [hg]; rfl⟩
theorem gw9 {w : Cond} (i : Nat) (h : tables_1_9[i]? = some w) (hg : goodWord w = true) : w ∈ gTbl := List.mem_filter.mpr ⟨List.mem_append_right _ (List.mem_append_right _ (List.mem_append_right _ (List.mem_append_right _ (List.mem_append_right _ (List.mem_append_right _ (List.mem_append_right _ (List.mem_append_right _ (List.mem_append_right _ (List.mem_of_getElem? h))))))))), by rw [hg]; rfl⟩
theorem gwn {w : Cond} (i : Nat) (h : tables_1[i]? = some w) (hg : isNest w = true) : w ∈ gTbl := List.mem_filter.mpr ⟨lwt i h, by rw [hg]; simp⟩
theorem gwp {q : MethodName × Nat} (i : Nat) (h : lw_privs[i]? = some q) : Cond.selects q.1.cls q.1 q.1 ∈ gTbl :=
  List.mem_filter.mpr ⟨List.mem_append_left _ (List.mem_map.mpr ⟨q, List.mem_of_getElem? h, rfl⟩), rfl⟩
theorem gt_of {args : Array Value} {s : State} (h : ∀ w ∈ lw_tbl, w.before args s = true) : ∀ w ∈ gTbl, w.before args s = true := fun w hw => h w (List.mem_filter.mp hw).1
theorem gt_pay {args : Array Value} {s : State} (h : ∀ w ∈ gTbl, w.before args s = true) : ∀ w ∈ gTbl, ∀ (a' : Array Value) (U : State), s.WarmedH U.vm → w.before a' U = true := by
  intro w hw a' U hW
  have h1 := (List.mem_filter.mp hw).2
  have h2 := h w hw
  rcases Bool.or_eq_true_iff.mp h1 with hg | hg
  · exact word_at hW (good_of_word hg) h2
  · cases w
    case methodLinkNest => exact va_tabs rfl (rfl : (s.setVm U.vm).vm = U.vm) (Cond.methodLinkNest_warmed (args := a') hW (va_tabs rfl rfl h2))
    case arrayOver t =>
      cases t
      case object C => exact (va_AO.moved hW.alike h2 : (Cond.arrayOver (.object C)).before #[] U = true)
      all_goals exact absurd hg Bool.false_ne_true
    all_goals exact absurd hg Bool.false_ne_true
def kCl : List String := ["", "HotThrough", "HotThrough$Text", "HotThrough$Rule", "HotThrough$Kitchen", "HotThrough$State", "HotThrough$Carrier", "HotThrough$Acts", "HotThrough$Paths", "HotThrough$Rester", "HotThrough$Line", "HotThrough$Dishes", "HotThrough$Marks", "HotThroughModel", "", "", "", "", "", "HotThroughLaw", "java/lang/Math", "java/lang/Integer", "java/lang/String"]
def kC (k : Nat) : String := kCl.getD (k % 100) ""
def kF1 : List (String × String × String × Bool) := [("HotThrough", "text", "LHotThrough$Text;", true), ("HotThrough", "rule", "LHotThrough$Rule;", true), ("HotThrough", "kitchen", "LHotThrough$Kitchen;", true), ("HotThrough", "state", "LHotThrough$State;", true), ("HotThrough", "carrier", "LHotThrough$Carrier;", true), ("HotThrough", "acts", "LHotThrough$Acts;", true), ("HotThrough", "paths", "LHotThrough$Paths;", true), ("HotThrough", "rester", "LHotThrough$Rester;", true), ("HotThrough", "line", "LHotThrough$Line;", true), ("HotThrough", "dishes", "LHotThrough$Dishes;", true), ("HotThrough", "marks", "LHotThrough$Marks;", true), ("HotThrough", "kept", "[LHotThrough$State;", true), ("HotThrough", "keptBits", "I", false), ("HotThrough", "numbers", "[J", true), ("HotThrough", "told", "I", false)]
def kE1 : List Nat := [2, 2, 2, 2, 2, 2, 2, 2, 2, 2, 2, 2, 0, 2, 0]
def kT1 : List FieldType := [(.object "HotThrough$Text"), (.object "HotThrough$Rule"), (.object "HotThrough$Kitchen"), (.object "HotThrough$State"), (.object "HotThrough$Carrier"), (.object "HotThrough$Acts"), (.object "HotThrough$Paths"), (.object "HotThrough$Rester"), (.object "HotThrough$Line"), (.object "HotThrough$Dishes"), (.object "HotThrough$Marks"), (.array (.object "HotThrough$State")), .int, (.array .long), .int]
def kF2 : List (String × String × String × Bool) := [("HotThrough$Text", "signs", "[C", true), ("HotThrough$Text", "length", "I", false), ("HotThrough$Text", "limit", "I", false), ("HotThrough$Text", "over", "Z", false), ("HotThrough$Text", "at", "I", false), ("HotThrough$Text", "failed", "Z", false)]
def kE2 : List Nat := [2, 0, 0, 3, 0, 3]
def kT2 : List FieldType := [(.array .char), .int, .int, .boolean, .int, .boolean]
def kF3 : List (String × String × String × Bool) := [("HotThrough$Rule", "code", "[I", true), ("HotThrough$Rule", "size", "I", false), ("HotThrough$Rule", "draft", "[I", true), ("HotThrough$Rule", "drafted", "I", false), ("HotThrough$Rule", "stack", "[I", true)]
def kE3 : List Nat := [2, 0, 2, 0, 2]
def kT3 : List FieldType := [(.array .int), .int, (.array .int), .int, (.array .int)]
def kF4 : List (String × String × String × Bool) := [("HotThrough$Kitchen", "places", "I", false), ("HotThrough$Kitchen", "ways", "I", false), ("HotThrough$Kitchen", "pots", "I", false), ("HotThrough$Kitchen", "people", "I", false), ("HotThrough$Kitchen", "kinds", "[I", true), ("HotThrough$Kitchen", "ones", "[I", true), ("HotThrough$Kitchen", "others", "[I", true), ("HotThrough$Kitchen", "steps", "[I", true), ("HotThrough$Kitchen", "doored", "I", false), ("HotThrough$Kitchen", "cools", "[I", true), ("HotThrough$Kitchen", "bears", "[I", true)]
def kE4 : List Nat := [0, 0, 0, 0, 2, 2, 2, 2, 0, 2, 2]
def kT4 : List FieldType := [.int, .int, .int, .int, (.array .int), (.array .int), (.array .int), (.array .int), .int, (.array .int), (.array .int)]
def kF5 : List (String × String × String × Bool) := [("HotThrough$State", "heat", "[I", true), ("HotThrough$State", "lies", "[I", true), ("HotThrough$State", "holder", "[I", true), ("HotThrough$State", "dropped", "I", false), ("HotThrough$State", "at", "[I", true), ("HotThrough$State", "warm", "[I", true), ("HotThrough$State", "hand", "[I", true), ("HotThrough$State", "fold", "[I", true), ("HotThrough$State", "load", "[I", true), ("HotThrough$State", "burnt", "[I", true), ("HotThrough$State", "open", "I", false), ("HotThrough$State", "now", "I", false)]
def kE5 : List Nat := [2, 2, 2, 0, 2, 2, 2, 2, 2, 2, 0, 0]
def kT5 : List FieldType := [(.array .int), (.array .int), (.array .int), .int, (.array .int), (.array .int), (.array .int), (.array .int), (.array .int), (.array .int), .int, .int]
def kF6 : List (String × String × String × Bool) := [("HotThrough$Carrier", "kitchen", "LHotThrough$Kitchen;", true), ("HotThrough$Carrier", "state", "LHotThrough$State;", true), ("HotThrough$Carrier", "rule", "LHotThrough$Rule;", true), ("HotThrough$Carrier", "person", "I", false), ("HotThrough$Carrier", "pot", "I", false), ("HotThrough$Carrier", "bears", "I", false), ("HotThrough$Carrier", "fold", "I", false), ("HotThrough$Carrier", "hand", "I", false), ("HotThrough$Carrier", "warm", "I", false), ("HotThrough$Carrier", "other", "I", false), ("HotThrough$Carrier", "heat", "I", false), ("HotThrough$Carrier", "cools", "I", false), ("HotThrough$Carrier", "now", "I", false)]
def kE6 : List Nat := [2, 2, 2, 0, 0, 0, 0, 0, 0, 0, 0, 0, 0]
def kT6 : List FieldType := [(.object "HotThrough$Kitchen"), (.object "HotThrough$State"), (.object "HotThrough$Rule"), .int, .int, .int, .int, .int, .int, .int, .int, .int, .int]
def kF7 : List (String × String × String × Bool) := [("HotThrough$Acts", "kitchen", "LHotThrough$Kitchen;", true), ("HotThrough$Acts", "state", "LHotThrough$State;", true), ("HotThrough$Acts", "rule", "LHotThrough$Rule;", true), ("HotThrough$Acts", "carrier", "LHotThrough$Carrier;", true), ("HotThrough$Acts", "burnings", "I", false), ("HotThrough$Acts", "who", "I", false), ("HotThrough$Acts", "fallen", "I", false), ("HotThrough$Acts", "before", "[LHotThrough$State;", true), ("HotThrough$Acts", "oldest", "I", false), ("HotThrough$Acts", "undoable", "I", false), ("HotThrough$Acts", "letters", "[I", true), ("HotThrough$Acts", "firsts", "[I", true), ("HotThrough$Acts", "others", "[I", true)]
def kE7 : List Nat := [2, 2, 2, 2, 0, 0, 0, 2, 0, 0, 2, 2, 2]
def kT7 : List FieldType := [(.object "HotThrough$Kitchen"), (.object "HotThrough$State"), (.object "HotThrough$Rule"), (.object "HotThrough$Carrier"), .int, .int, .int, (.array (.object "HotThrough$State")), .int, .int, (.array .int), (.array .int), (.array .int)]
def kF8 : List (String × String × String × Bool) := [("HotThrough$Paths", "kitchen", "LHotThrough$Kitchen;", true), ("HotThrough$Paths", "state", "LHotThrough$State;", true), ("HotThrough$Paths", "price", "[I", true), ("HotThrough$Paths", "left", "[I", true), ("HotThrough$Paths", "places", "[I", true), ("HotThrough$Paths", "legs", "[I", true), ("HotThrough$Paths", "size", "I", false), ("HotThrough$Paths", "steps", "I", false), ("HotThrough$Paths", "doors", "I", false)]
def kE8 : List Nat := [2, 2, 2, 2, 2, 2, 0, 0, 0]
def kT8 : List FieldType := [(.object "HotThrough$Kitchen"), (.object "HotThrough$State"), (.array .int), (.array .int), (.array .int), (.array .int), .int, .int, .int]
def kF9 : List (String × String × String × Bool) := [("HotThrough$Rester", "kitchen", "LHotThrough$Kitchen;", true), ("HotThrough$Rester", "paths", "LHotThrough$Paths;", true), ("HotThrough$Rester", "carrier", "LHotThrough$Carrier;", true), ("HotThrough$Rester", "warm", "[I", true), ("HotThrough$Rester", "heat", "[I", true), ("HotThrough$Rester", "now", "[I", true), ("HotThrough$Rester", "chosen", "[I", true), ("HotThrough$Rester", "best", "[I", true), ("HotThrough$Rester", "bestSize", "I", false), ("HotThrough$Rester", "most", "I", false), ("HotThrough$Rester", "seconds", "I", false)]
def kE9 : List Nat := [2, 2, 2, 2, 2, 2, 2, 2, 0, 0, 0]
def kT9 : List FieldType := [(.object "HotThrough$Kitchen"), (.object "HotThrough$Paths"), (.object "HotThrough$Carrier"), (.array .int), (.array .int), (.array .int), (.array .int), (.array .int), .int, .int, .int]
def kF10 : List (String × String × String × Bool) := [("HotThrough$Line", "kitchen", "LHotThrough$Kitchen;", true), ("HotThrough$Line", "state", "LHotThrough$State;", true), ("HotThrough$Line", "paths", "LHotThrough$Paths;", true), ("HotThrough$Line", "carrier", "LHotThrough$Carrier;", true), ("HotThrough$Line", "reach", "[I", true), ("HotThrough$Line", "carries", "[I", true), ("HotThrough$Line", "those", "I", false)]
def kE10 : List Nat := [2, 2, 2, 2, 2, 2, 0]
def kT10 : List FieldType := [(.object "HotThrough$Kitchen"), (.object "HotThrough$State"), (.object "HotThrough$Paths"), (.object "HotThrough$Carrier"), (.array .int), (.array .int), .int]
def kF11 : List (String × String × String × Bool) := [("HotThrough$Dishes", "kitchen", "LHotThrough$Kitchen;", true), ("HotThrough$Dishes", "state", "LHotThrough$State;", true), ("HotThrough$Dishes", "paths", "LHotThrough$Paths;", true), ("HotThrough$Dishes", "carrier", "LHotThrough$Carrier;", true), ("HotThrough$Dishes", "first", "[I", true), ("HotThrough$Dishes", "haul", "[I", true), ("HotThrough$Dishes", "warm", "[I", true), ("HotThrough$Dishes", "order", "[I", true), ("HotThrough$Dishes", "best", "[I", true), ("HotThrough$Dishes", "size", "I", false), ("HotThrough$Dishes", "bestSeconds", "I", false), ("HotThrough$Dishes", "those", "I", false), ("HotThrough$Dishes", "hotEnough", "I", false)]
def kE11 : List Nat := [2, 2, 2, 2, 2, 2, 2, 2, 2, 0, 0, 0, 0]
def kT11 : List FieldType := [(.object "HotThrough$Kitchen"), (.object "HotThrough$State"), (.object "HotThrough$Paths"), (.object "HotThrough$Carrier"), (.array .int), (.array .int), (.array .int), (.array .int), (.array .int), .int, .int, .int, .int]
def kF12 : List (String × String × String × Bool) := [("HotThrough$Marks", "kitchen", "LHotThrough$Kitchen;", true), ("HotThrough$Marks", "state", "LHotThrough$State;", true), ("HotThrough$Marks", "places", "[I", true), ("HotThrough$Marks", "times", "[I", true), ("HotThrough$Marks", "size", "I", false), ("HotThrough$Marks", "came", "[I", true), ("HotThrough$Marks", "trail", "[I", true), ("HotThrough$Marks", "least", "[I", true), ("HotThrough$Marks", "leastSize", "I", false), ("HotThrough$Marks", "goal", "I", false), ("HotThrough$Marks", "found", "I", false)]
def kE12 : List Nat := [2, 2, 2, 2, 0, 2, 2, 2, 0, 0, 0]
def kT12 : List FieldType := [(.object "HotThrough$Kitchen"), (.object "HotThrough$State"), (.array .int), (.array .int), .int, (.array .int), (.array .int), (.array .int), .int, .int, .int]
def kF13 : List (String × String × String × Bool) := [("HotThroughModel", "thrown", "I", false), ("HotThroughModel", "rows", "I", false), ("HotThroughModel", "row", "[J", true), ("HotThroughModel", "places", "I", false), ("HotThroughModel", "ways", "I", false), ("HotThroughModel", "pots", "I", false), ("HotThroughModel", "people", "I", false), ("HotThroughModel", "changes", "I", false), ("HotThroughModel", "kind", "[I", true), ("HotThroughModel", "wayFrom", "[I", true), ("HotThroughModel", "wayTo", "[I", true), ("HotThroughModel", "steps", "[I", true), ("HotThroughModel", "hasDoor", "[Z", true), ("HotThroughModel", "cools", "[I", true), ("HotThroughModel", "bears", "[I", true), ("HotThroughModel", "now", "[I", true), ("HotThroughModel", "then", "[I", true), ("HotThroughModel", "tape", "[I", true), ("HotThroughModel", "taped", "I", false), ("HotThroughModel", "at", "I", false), ("HotThroughModel", "to", "I", false), ("HotThroughModel", "nest", "I", false), ("HotThroughModel", "readKind", "[I", true), ("HotThroughModel", "readWay", "[I", true), ("HotThroughModel", "readPot", "[I", true), ("HotThroughModel", "readOne", "[I", true), ("HotThroughModel", "readPlaces", "I", false), ("HotThroughModel", "readWays", "I", false), ("HotThroughModel", "readPots", "I", false), ("HotThroughModel", "readPeople", "I", false), ("HotThroughModel", "code", "[I", true), ("HotThroughModel", "readCode", "[I", true), ("HotThroughModel", "codeLong", "I", false), ("HotThroughModel", "readLong", "I", false), ("HotThroughModel", "stack", "[I", true), ("HotThroughModel", "asked", "[I", true), ("HotThroughModel", "burntMany", "I", false), ("HotThroughModel", "burntBits", "I", false), ("HotThroughModel", "droppedBits", "I", false), ("HotThroughModel", "undos", "I", false), ("HotThroughModel", "undone", "[I", true), ("HotThroughModel", "actSign", "[I", true), ("HotThroughModel", "actOne", "[I", true), ("HotThroughModel", "actTwo", "[I", true), ("HotThroughModel", "acts", "I", false), ("HotThroughModel", "changed", "I", false), ("HotThroughModel", "heatAhead", "I", false), ("HotThroughModel", "soloHeat", "I", false), ("HotThroughModel", "soloWarm", "I", false), ("HotThroughModel", "soloSecond", "I", false), ("HotThroughModel", "apart", "[I", true), ("HotThroughModel", "step", "[I", true), ("HotThroughModel", "way", "[I", true), ("HotThroughModel", "wayLong", "I", false), ("HotThroughModel", "carrier", "[I", true), ("HotThroughModel", "bestCarrier", "[I", true), ("HotThroughModel", "bestMany", "I", false), ("HotThroughModel", "order", "[I", true), ("HotThroughModel", "bestOrder", "[I", true), ("HotThroughModel", "bestTime", "I", false), ("HotThroughModel", "bestHeat", "I", false), ("HotThroughModel", "heats", "[I", true), ("HotThroughModel", "marks", "I", false), ("HotThroughModel", "markAt", "[I", true), ("HotThroughModel", "markWhen", "[I", true), ("HotThroughModel", "fitMany", "I", false), ("HotThroughModel", "fitLong", "I", false), ("HotThroughModel", "fitRow", "[I", true), ("HotThroughModel", "walked", "[I", true), ("HotThroughModel", "isKept", "[Z", true), ("HotThroughModel", "keptChanges", "[I", true), ("HotThroughModel", "kept", "[I", true)]
def kE13 : List Nat := [0, 0, 2, 0, 0, 0, 0, 0, 2, 2, 2, 2, 2, 2, 2, 2, 2, 2, 0, 0, 0, 0, 2, 2, 2, 2, 0, 0, 0, 0, 2, 2, 0, 0, 2, 2, 0, 0, 0, 0, 2, 2, 2, 2, 0, 0, 0, 0, 0, 0, 2, 2, 2, 0, 2, 2, 0, 2, 2, 0, 0, 2, 0, 2, 2, 0, 0, 2, 2, 2, 2, 2]
def kT13 : List FieldType := [.int, .int, (.array .long), .int, .int, .int, .int, .int, (.array .int), (.array .int), (.array .int), (.array .int), (.array .boolean), (.array .int), (.array .int), (.array .int), (.array .int), (.array .int), .int, .int, .int, .int, (.array .int), (.array .int), (.array .int), (.array .int), .int, .int, .int, .int, (.array .int), (.array .int), .int, .int, (.array .int), (.array .int), .int, .int, .int, .int, (.array .int), (.array .int), (.array .int), (.array .int), .int, .int, .int, .int, .int, .int, (.array .int), (.array .int), (.array .int), .int, (.array .int), (.array .int), .int, (.array .int), (.array .int), .int, .int, (.array .int), .int, (.array .int), (.array .int), .int, .int, (.array .int), (.array .int), (.array .boolean), (.array .int), (.array .int)]
def kFl : List (List (String × String × String × Bool)) := [[], kF1, kF2, kF3, kF4, kF5, kF6, kF7, kF8, kF9, kF10, kF11, kF12, kF13]
def kF (k : Nat) : u_T := fun j => (kFl.getD k []).getD j ("", "", "", false)
def kN (k : Nat) : Nat := (kFl.getD k []).length
def kEl : List (List Nat) := [[], kE1, kE2, kE3, kE4, kE5, kE6, kE7, kE8, kE9, kE10, kE11, kE12, kE13]
/-- the type of place j of a thing of kind k; 14 .. 18: arrays -/
def ety (k j : Nat) : Nat := if k = 14 then 0 else if k = 15 then 1 else if k = 16 then 3 else if k = 17 then 4 else if k = 18 then 2 else (kEl.getD k []).getD j 0
def kTl : List (List FieldType) := [[], kT1, kT2, kT3, kT4, kT5, kT6, kT7, kT8, kT9, kT10, kT11, kT12, kT13]
def kT (k j : Nat) : FieldType := (kTl.getD k []).getD j .int
def aT (k : Nat) : FieldType := if k = 14 then .int else if k = 15 then .long else if k = 16 then .boolean else if k = 17 then .char else .object "HotThrough$State"
def idl : List (Nat × Int) := [(0, 0), (1, 15), (2, 6), (17, 80), (3, 5), (14, 40), (14, 40), (14, 40), (4, 11), (14, 10), (14, 14), (14, 14), (14, 14), (14, 5), (14, 5), (5, 12), (14, 5), (14, 5), (14, 5), (14, 5), (14, 10), (14, 5), (14, 5), (14, 5), (14, 5), (6, 13), (7, 13), (18, 16), (14, 30), (14, 30), (14, 30), (5, 12), (14, 5), (14, 5), (14, 5), (14, 5), (14, 10), (14, 5), (14, 5), (14, 5), (14, 5), (5, 12), (14, 5), (14, 5), (14, 5), (14, 5), (14, 10), (14, 5), (14, 5), (14, 5), (14, 5), (5, 12), (14, 5), (14, 5), (14, 5), (14, 5), (14, 10), (14, 5), (14, 5), (14, 5), (14, 5), (5, 12), (14, 5), (14, 5), (14, 5), (14, 5), (14, 10), (14, 5), (14, 5), (14, 5), (14, 5), (5, 12), (14, 5), (14, 5), (14, 5), (14, 5), (14, 10), (14, 5), (14, 5), (14, 5), (14, 5), (5, 12), (14, 5), (14, 5), (14, 5), (14, 5), (14, 10), (14, 5), (14, 5), (14, 5), (14, 5), (5, 12), (14, 5), (14, 5), (14, 5), (14, 5), (14, 10), (14, 5), (14, 5), (14, 5), (14, 5), (5, 12), (14, 5), (14, 5), (14, 5), (14, 5), (14, 10), (14, 5), (14, 5), (14, 5), (14, 5), (5, 12), (14, 5), (14, 5), (14, 5), (14, 5), (14, 10), (14, 5), (14, 5), (14, 5), (14, 5), (5, 12), (14, 5), (14, 5), (14, 5), (14, 5), (14, 10), (14, 5), (14, 5), (14, 5), (14, 5), (5, 12), (14, 5), (14, 5), (14, 5), (14, 5), (14, 10), (14, 5), (14, 5), (14, 5), (14, 5), (5, 12), (14, 5), (14, 5), (14, 5), (14, 5), (14, 10), (14, 5), (14, 5), (14, 5), (14, 5), (5, 12), (14, 5), (14, 5), (14, 5), (14, 5), (14, 10), (14, 5), (14, 5), (14, 5), (14, 5), (5, 12), (14, 5), (14, 5), (14, 5), (14, 5), (14, 10), (14, 5), (14, 5), (14, 5), (14, 5), (5, 12), (14, 5), (14, 5), (14, 5), (14, 5), (14, 10), (14, 5), (14, 5), (14, 5), (14, 5), (5, 12), (14, 5), (14, 5), (14, 5), (14, 5), (14, 10), (14, 5), (14, 5), (14, 5), (14, 5), (8, 9), (14, 14), (14, 10), (14, 10), (14, 10), (9, 11), (14, 10), (14, 10), (14, 10), (14, 10), (14, 10), (10, 7), (14, 50), (14, 10), (11, 13), (14, 5), (14, 5), (14, 5), (14, 5), (14, 5), (12, 11), (14, 8), (14, 8), (14, 10), (14, 10), (14, 10), (18, 3), (15, 16), (5, 12), (14, 5), (14, 5), (14, 5), (14, 5), (14, 10), (14, 5), (14, 5), (14, 5), (14, 5), (5, 12), (14, 5), (14, 5), (14, 5), (14, 5), (14, 10), (14, 5), (14, 5), (14, 5), (14, 5), (5, 12), (14, 5), (14, 5), (14, 5), (14, 5), (14, 10), (14, 5), (14, 5), (14, 5), (14, 5), (13, 72), (15, 24), (14, 10), (14, 14), (14, 14), (14, 14), (16, 14), (14, 5), (14, 5), (14, 52), (14, 52), (14, 80), (14, 10), (14, 56), (14, 15), (14, 10), (14, 80), (14, 80), (14, 80), (14, 8), (14, 832), (14, 60), (14, 60), (14, 60), (14, 100), (14, 100), (14, 10), (14, 10), (14, 10), (14, 5), (14, 5), (14, 30), (14, 8), (14, 8), (14, 10), (14, 10), (16, 3), (14, 3), (14, 156), (15, 1)]
def kcls (id : Int) : Nat := if id < 0 then 0 else (idl.getD id.toNat (0, 0)).1
def klen (id : Int) : Int := if id < 0 then 0 else (idl.getD id.toNat (0, 0)).2
abbrev MT : Type := MethodName × ByteArray × Nat × Option FieldType × List Nat × Nat × Nat × Nat
def mT0 : List MT := [(⟨"HotThrough", "<init>", "()V"⟩, prog_1_method_1_code, 2, none, [2], 9, 247, 1951), (⟨"HotThrough$Text", "<init>", "()V"⟩, prog_12_method_1_code, 1, none, [2], 9, 1, 80), (⟨"HotThrough$Rule", "<init>", "()V"⟩, prog_10_method_1_code, 1, none, [2], 9, 3, 120), (⟨"HotThrough$Kitchen", "<init>", "()V"⟩, prog_5_method_1_code, 1, none, [2], 9, 6, 62), (⟨"HotThrough$State", "<init>", "()V"⟩, prog_11_method_1_code, 1, none, [2], 9, 9, 50), (⟨"HotThrough$Carrier", "<init>", "(LHotThrough$Kitchen;LHotThrough$State;LHotThrough$Rule;)V"⟩, prog_3_method_1_code, 4, none, [2, 2, 2, 2], 9, 0, 0), (⟨"HotThrough$Acts", "<init>", "(LHotThrough$Kitchen;LHotThrough$State;LHotThrough$Rule;LHotThrough$Carrier;)V"⟩, prog_2_method_1_code, 6, none, [2, 2, 2, 2, 2], 9, 164, 1098), (⟨"HotThrough$Paths", "<init>", "(LHotThrough$Kitchen;LHotThrough$State;)V"⟩, prog_8_method_1_code, 3, none, [2, 2, 2], 9, 4, 44), (⟨"HotThrough$Rester", "<init>", "(LHotThrough$Kitchen;LHotThrough$Paths;LHotThrough$Carrier;)V"⟩, prog_9_method_1_code, 4, none, [2, 2, 2, 2], 9, 5, 50), (⟨"HotThrough$Line", "<init>", "(LHotThrough$Kitchen;LHotThrough$State;LHotThrough$Paths;LHotThrough$Carrier;)V"⟩, prog_6_method_1_code, 5, none, [2, 2, 2, 2, 2], 9, 2, 60), (⟨"HotThrough$Dishes", "<init>", "(LHotThrough$Kitchen;LHotThrough$State;LHotThrough$Paths;LHotThrough$Carrier;)V"⟩, prog_4_method_1_code, 5, none, [2, 2, 2, 2, 2], 9, 5, 25), (⟨"HotThrough$Marks", "<init>", "(LHotThrough$Kitchen;LHotThrough$State;)V"⟩, prog_7_method_1_code, 3, none, [2, 2, 2], 9, 5, 46), (⟨"HotThrough", "sign", "(I)I"⟩, prog_1_method_2_code, 2, (some .int), [2, 0], 0, 0, 0), (⟨"HotThrough$Text", "append", "(I)I"⟩, prog_12_method_2_code, 3, (some .int), [2, 0], 0, 0, 0), (⟨"HotThrough", "end", "(I)Z"⟩, prog_1_method_3_code, 2, (some .boolean), [2, 0], 3, 0, 0), (⟨"HotThrough$Text", "shorten", "(I)Z"⟩, prog_12_method_3_code, 2, (some .boolean), [2, 0], 3, 0, 0), (⟨"HotThrough", "kitchen", "()I"⟩, prog_1_method_4_code, 2, (some .int), [2], 0, 0, 0), (⟨"HotThrough$Kitchen", "read", "(LHotThrough$Text;LHotThrough$State;)I"⟩, prog_5_method_10_code, 10, (some .int), [2, 2, 2], 0, 0, 0), (⟨"HotThrough$Text", "open", "(I)V"⟩, prog_12_method_4_code, 2, none, [2, 0], 9, 0, 0), (⟨"java/lang/Math", "min", "(II)I"⟩, prog_20_method_69_code, 2, (some .int), [0, 0], 0, 0, 0), (⟨"HotThrough$Kitchen", "readLine", "(LHotThrough$Text;LHotThrough$State;)V"⟩, prog_5_method_11_code, 4, none, [2, 2, 2], 9, 0, 0), (⟨"HotThrough$Text", "peek", "()I"⟩, prog_12_method_7_code, 1, (some .int), [2], 0, 0, 0), (⟨"HotThrough$Kitchen", "hasRoom", "(I)Z"⟩, prog_5_method_12_code, 2, (some .boolean), [2, 0], 3, 0, 0), (⟨"HotThrough$Text", "fail", "()V"⟩, prog_12_method_8_code, 1, none, [2], 9, 0, 0), (⟨"HotThrough$Text", "next", "()V"⟩, prog_12_method_10_code, 1, none, [2], 9, 0, 0), (⟨"HotThrough$Kitchen", "readWay", "(LHotThrough$Text;LHotThrough$State;)V"⟩, prog_5_method_14_code, 7, none, [2, 2, 2], 9, 0, 0), (⟨"HotThrough$Text", "letter", "(II)I"⟩, prog_12_method_16_code, 4, (some .int), [2, 0, 0], 0, 0, 0), (⟨"HotThrough$Text", "digit", "(I)I"⟩, prog_12_method_14_code, 3, (some .int), [2, 0], 0, 0, 0), (⟨"HotThrough$Text", "skip", "(C)Z"⟩, prog_12_method_11_code, 2, (some .boolean), [2, 0], 3, 0, 0), (⟨"HotThrough$Kitchen", "readPot", "(LHotThrough$Text;LHotThrough$State;)V"⟩, prog_5_method_15_code, 7, none, [2, 2, 2], 9, 0, 0), (⟨"HotThrough$Text", "number", "(I)I"⟩, prog_12_method_15_code, 4, (some .int), [2, 0], 0, 0, 0), (⟨"HotThrough$Text", "isDigit", "()Z"⟩, prog_12_method_13_code, 1, (some .boolean), [2], 3, 0, 0), (⟨"HotThrough$Text", "expect", "(C)V"⟩, prog_12_method_12_code, 2, none, [2, 0], 9, 0, 0), (⟨"HotThrough$Kitchen", "isPlace", "(I)Z"⟩, prog_5_method_2_code, 2, (some .boolean), [2, 0], 3, 0, 0), (⟨"HotThrough$Text", "failAt", "(I)V"⟩, prog_12_method_9_code, 2, none, [2, 0], 9, 0, 0), (⟨"HotThrough$State", "addPot", "(III)V"⟩, prog_11_method_3_code, 4, none, [2, 0, 0, 0], 9, 0, 0), (⟨"HotThrough$Kitchen", "readPerson", "(LHotThrough$Text;LHotThrough$State;)V"⟩, prog_5_method_16_code, 7, none, [2, 2, 2], 9, 0, 0), (⟨"HotThrough$State", "addPerson", "(II)V"⟩, prog_11_method_4_code, 3, none, [2, 0, 0], 9, 0, 0), (⟨"HotThrough$Kitchen", "addPlace", "(I)V"⟩, prog_5_method_13_code, 2, none, [2, 0], 9, 0, 0), (⟨"HotThrough$Text", "close", "()I"⟩, prog_12_method_5_code, 1, (some .int), [2], 0, 0, 0)]
def mT1 : List MT := [(⟨"HotThrough$Acts", "forget", "()V"⟩, prog_2_method_6_code, 1, none, [2], 9, 0, 0), (⟨"HotThrough", "rule", "()I"⟩, prog_1_method_5_code, 1, (some .int), [2], 0, 0, 0), (⟨"HotThrough$Rule", "read", "(LHotThrough$Text;)I"⟩, prog_10_method_2_code, 3, (some .int), [2, 2], 0, 0, 0), (⟨"HotThrough$Text", "atEnd", "()Z"⟩, prog_12_method_6_code, 1, (some .boolean), [2], 3, 0, 0), (⟨"HotThrough$Rule", "expression", "(LHotThrough$Text;I)V"⟩, prog_10_method_3_code, 4, none, [2, 2, 0], 9, 0, 0), (⟨"HotThrough$Rule", "sum", "(LHotThrough$Text;I)V"⟩, prog_10_method_4_code, 5, none, [2, 2, 0], 9, 0, 0), (⟨"HotThrough$Rule", "product", "(LHotThrough$Text;I)V"⟩, prog_10_method_5_code, 5, none, [2, 2, 0], 9, 0, 0), (⟨"HotThrough$Rule", "factor", "(LHotThrough$Text;I)V"⟩, prog_10_method_6_code, 5, none, [2, 2, 0], 9, 0, 0), (⟨"HotThrough$Rule", "thing", "(LHotThrough$Text;I)V"⟩, prog_10_method_7_code, 4, none, [2, 2, 0], 9, 0, 0), (⟨"HotThrough$Rule", "emit", "(I)V"⟩, prog_10_method_8_code, 2, none, [2, 0], 9, 0, 0), (⟨"HotThrough$Rule", "isName", "(I)Z"⟩, prog_10_method_9_code, 1, (some .boolean), [0], 3, 0, 0), (⟨"HotThrough", "heat", "(II)I"⟩, prog_1_method_11_code, 4, (some .int), [2, 0, 0], 0, 0, 0), (⟨"HotThrough$Kitchen", "isPot", "(I)Z"⟩, prog_5_method_4_code, 2, (some .boolean), [2, 0], 3, 0, 0), (⟨"HotThrough$State", "isDropped", "(I)Z"⟩, prog_11_method_5_code, 2, (some .boolean), [2, 0], 3, 0, 0), (⟨"HotThrough", "sheet", "(IIII)I"⟩, prog_1_method_12_code, 8, (some .int), [2, 0, 0, 0, 0], 0, 0, 0), (⟨"HotThrough", "entry", "(II)I"⟩, prog_1_method_13_code, 3, (some .int), [0, 0], 0, 0, 0), (⟨"java/lang/Math", "max", "(II)I"⟩, prog_20_method_65_code, 2, (some .int), [0, 0], 0, 0, 0), (⟨"HotThrough", "take", "(II)I"⟩, prog_1_method_14_code, 3, (some .int), [2, 0, 0], 0, 0, 0), (⟨"HotThrough$Acts", "note", "()V"⟩, prog_2_method_3_code, 1, none, [2], 9, 0, 0), (⟨"HotThrough$Acts", "slot", "(I)I"⟩, prog_2_method_2_code, 2, (some .int), [2, 0], 0, 0, 0), (⟨"java/lang/Math", "floorMod", "(II)I"⟩, prog_20_method_50_code, 3, (some .int), [0, 0], 0, 0, 0), (⟨"HotThrough$State", "copyFrom", "(LHotThrough$State;)V"⟩, prog_11_method_2_code, 2, none, [2, 2], 9, 0, 0), (⟨"HotThrough$Acts", "taken", "(II)I"⟩, prog_2_method_7_code, 3, (some .int), [2, 0, 0], 0, 0, 0), (⟨"HotThrough$Kitchen", "isPerson", "(I)Z"⟩, prog_5_method_5_code, 2, (some .boolean), [2, 0], 3, 0, 0), (⟨"HotThrough$Acts", "settled", "(I)I"⟩, prog_2_method_4_code, 2, (some .int), [2, 0], 0, 0, 0), (⟨"HotThrough", "down", "(I)I"⟩, prog_1_method_15_code, 2, (some .int), [2, 0], 0, 0, 0), (⟨"HotThrough$Acts", "setDown", "(I)I"⟩, prog_2_method_8_code, 4, (some .int), [2, 0], 0, 0, 0), (⟨"HotThrough", "walk", "(II)I"⟩, prog_1_method_16_code, 4, (some .int), [2, 0, 0], 0, 0, 0), (⟨"HotThrough$Acts", "walked", "(II)I"⟩, prog_2_method_9_code, 5, (some .int), [2, 0, 0], 0, 0, 0), (⟨"HotThrough$Kitchen", "otherEnd", "(II)I"⟩, prog_5_method_8_code, 3, (some .int), [2, 0, 0], 0, 0, 0), (⟨"HotThrough$Kitchen", "isWay", "(I)Z"⟩, prog_5_method_3_code, 2, (some .boolean), [2, 0], 3, 0, 0), (⟨"HotThrough$Kitchen", "isPassable", "(II)Z"⟩, prog_5_method_7_code, 3, (some .boolean), [2, 0, 0], 3, 0, 0), (⟨"HotThrough$Kitchen", "hasDoor", "(I)Z"⟩, prog_5_method_6_code, 2, (some .boolean), [2, 0], 3, 0, 0), (⟨"HotThrough$Acts", "second", "()V"⟩, prog_2_method_11_code, 2, none, [2], 9, 0, 0), (⟨"HotThrough$Acts", "hold", "(I)V"⟩, prog_2_method_13_code, 4, none, [2, 0], 9, 0, 0), (⟨"HotThrough$Carrier", "begin", "(II)Z"⟩, prog_3_method_4_code, 3, (some .boolean), [2, 0, 0], 3, 0, 0), (⟨"HotThrough$Carrier", "stand", "(I)Z"⟩, prog_3_method_2_code, 2, (some .boolean), [2, 0], 3, 0, 0), (⟨"HotThrough$Carrier", "lift", "(I)Z"⟩, prog_3_method_3_code, 2, (some .boolean), [2, 0], 3, 0, 0), (⟨"HotThrough$Rule", "through", "(LHotThrough$Carrier;)I"⟩, prog_10_method_10_code, 5, (some .int), [2, 2], 0, 0, 0), (⟨"HotThrough$Rule", "combine", "(III)I"⟩, prog_10_method_12_code, 3, (some .int), [0, 0, 0], 0, 0, 0)]
def mT2 : List MT := [(⟨"HotThrough$Rule", "within", "(I)I"⟩, prog_10_method_11_code, 1, (some .int), [0], 0, 0, 0), (⟨"HotThrough$Carrier", "valueOf", "(I)I"⟩, prog_3_method_10_code, 2, (some .int), [2, 0], 0, 0, 0), (⟨"HotThrough$Acts", "coolHand", "(I)V"⟩, prog_2_method_12_code, 2, none, [2, 0], 9, 0, 0), (⟨"HotThrough", "startRow", "()V"⟩, prog_1_method_48_code, 1, none, [2], 9, 0, 0), (⟨"HotThrough", "tell", "(J)V"⟩, prog_1_method_49_code, 3, none, [2, 1], 9, 0, 0), (⟨"HotThrough", "pass", "(I)I"⟩, prog_1_method_17_code, 3, (some .int), [2, 0], 0, 0, 0), (⟨"HotThrough$Acts", "elapsed", "(I)I"⟩, prog_2_method_10_code, 3, (some .int), [2, 0], 0, 0, 0), (⟨"HotThrough", "change", "(I)I"⟩, prog_1_method_18_code, 2, (some .int), [2, 0], 0, 0, 0), (⟨"HotThrough$Acts", "changed", "(I)I"⟩, prog_2_method_14_code, 2, (some .int), [2, 0], 0, 0, 0), (⟨"HotThrough", "give", "(II)I"⟩, prog_1_method_19_code, 3, (some .int), [2, 0, 0], 0, 0, 0), (⟨"HotThrough$Acts", "given", "(II)I"⟩, prog_2_method_15_code, 4, (some .int), [2, 0, 0], 0, 0, 0), (⟨"HotThrough", "fold", "(II)I"⟩, prog_1_method_20_code, 3, (some .int), [2, 0, 0], 0, 0, 0), (⟨"HotThrough$Acts", "folded", "(II)I"⟩, prog_2_method_16_code, 4, (some .int), [2, 0, 0], 0, 0, 0), (⟨"HotThrough", "door", "(II)I"⟩, prog_1_method_21_code, 3, (some .int), [2, 0, 0], 0, 0, 0), (⟨"HotThrough$Acts", "opened", "(II)I"⟩, prog_2_method_17_code, 3, (some .int), [2, 0, 0], 0, 0, 0), (⟨"java/lang/Integer", "bitCount", "(I)I"⟩, prog_19_method_49_code, 1, (some .int), [0], 0, 0, 0), (⟨"HotThrough", "dinner", "()I"⟩, prog_1_method_22_code, 3, (some .int), [2], 0, 0, 0), (⟨"HotThrough$Acts", "read", "(LHotThrough$Text;)I"⟩, prog_2_method_18_code, 5, (some .int), [2, 2], 0, 0, 0), (⟨"HotThrough$Acts", "readAct", "(LHotThrough$Text;I)V"⟩, prog_2_method_19_code, 4, none, [2, 2, 0], 9, 0, 0), (⟨"HotThrough$Acts", "isAct", "(I)Z"⟩, prog_2_method_20_code, 1, (some .boolean), [0], 3, 0, 0), (⟨"HotThrough$Acts", "act", "(I)I"⟩, prog_2_method_21_code, 2, (some .int), [2, 0], 0, 0, 0), (⟨"HotThrough", "undo", "()I"⟩, prog_1_method_23_code, 1, (some .int), [2], 0, 0, 0), (⟨"HotThrough$Acts", "back", "()I"⟩, prog_2_method_5_code, 1, (some .int), [2], 0, 0, 0), (⟨"HotThrough", "lasts", "(I)I"⟩, prog_1_method_24_code, 3, (some .int), [2, 0], 0, 0, 0), (⟨"HotThrough", "holds", "(I)Z"⟩, prog_1_method_29_code, 2, (some .boolean), [2, 0], 3, 0, 0), (⟨"HotThrough$Carrier", "burntAfter", "(II)I"⟩, prog_3_method_7_code, 4, (some .int), [2, 0, 0], 0, 0, 0), (⟨"HotThrough$Carrier", "changeHands", "()V"⟩, prog_3_method_8_code, 2, none, [2], 9, 0, 0), (⟨"HotThrough$Carrier", "holdOn", "()Z"⟩, prog_3_method_5_code, 2, (some .boolean), [2], 3, 0, 0), (⟨"HotThrough", "swaps", "(II)I"⟩, prog_1_method_25_code, 4, (some .int), [2, 0, 0], 0, 0, 0), (⟨"HotThrough", "often", "(I)I"⟩, prog_1_method_26_code, 6, (some .int), [2, 0], 0, 0, 0), (⟨"HotThrough", "layers", "(III)I"⟩, prog_1_method_27_code, 5, (some .int), [2, 0, 0, 0], 0, 0, 0), (⟨"HotThrough", "mayHold", "(III)Z"⟩, prog_1_method_30_code, 4, (some .boolean), [2, 0, 0, 0], 3, 0, 0), (⟨"HotThrough$Carrier", "carried", "(I)I"⟩, prog_3_method_6_code, 3, (some .int), [2, 0], 0, 0, 0), (⟨"HotThrough", "hottest", "(III)I"⟩, prog_1_method_28_code, 5, (some .int), [2, 0, 0, 0], 0, 0, 0), (⟨"HotThrough", "path", "(II)I"⟩, prog_1_method_31_code, 4, (some .int), [2, 0, 0], 0, 0, 0), (⟨"HotThrough$Paths", "find", "(II)Z"⟩, prog_8_method_2_code, 4, (some .boolean), [2, 0, 0], 3, 0, 0), (⟨"HotThrough$Paths", "spread", "(II)Z"⟩, prog_8_method_4_code, 5, (some .boolean), [2, 0, 0], 3, 0, 0), (⟨"HotThrough$Paths", "relax", "(III)V"⟩, prog_8_method_5_code, 4, none, [2, 0, 0, 0], 9, 0, 0), (⟨"HotThrough$Paths", "trace", "(II)V"⟩, prog_8_method_6_code, 5, none, [2, 0, 0], 9, 0, 0), (⟨"HotThrough$Paths", "nextFrom", "(I)I"⟩, prog_8_method_7_code, 6, (some .int), [2, 0], 0, 0, 0)]
def mT3 : List MT := [(⟨"HotThrough", "clear", "(II)I"⟩, prog_1_method_32_code, 3, (some .int), [2, 0, 0], 0, 0, 0), (⟨"HotThrough$Paths", "findByDoors", "(II)Z"⟩, prog_8_method_3_code, 5, (some .boolean), [2, 0, 0], 3, 0, 0), (⟨"HotThrough", "far", "(II)I"⟩, prog_1_method_33_code, 7, (some .int), [2, 0, 0], 0, 0, 0), (⟨"HotThrough", "rests", "(III)I"⟩, prog_1_method_34_code, 6, (some .int), [2, 0, 0, 0], 0, 0, 0), (⟨"HotThrough$Rester", "fewest", "(IIII)I"⟩, prog_9_method_2_code, 5, (some .int), [2, 0, 0, 0, 0], 0, 0, 0), (⟨"HotThrough$Rester", "stop", "(II)V"⟩, prog_9_method_3_code, 3, none, [2, 0, 0], 9, 0, 0), (⟨"HotThrough$Rester", "arrived", "(I)V"⟩, prog_9_method_5_code, 2, none, [2, 0], 9, 0, 0), (⟨"HotThrough$Rester", "isLess", "(I)Z"⟩, prog_9_method_6_code, 3, (some .boolean), [2, 0], 3, 0, 0), (⟨"HotThrough$Rester", "goOn", "(II)V"⟩, prog_9_method_4_code, 3, none, [2, 0, 0], 9, 0, 0), (⟨"HotThrough$Carrier", "rest", "(I)V"⟩, prog_3_method_9_code, 3, none, [2, 0], 9, 0, 0), (⟨"HotThrough", "soonest", "(II)I"⟩, prog_1_method_35_code, 8, (some .int), [2, 0, 0], 0, 0, 0), (⟨"HotThrough", "chain", "(III)I"⟩, prog_1_method_36_code, 6, (some .int), [2, 0, 0, 0], 0, 0, 0), (⟨"HotThrough", "areFree", "(I)Z"⟩, prog_1_method_37_code, 3, (some .boolean), [2, 0], 3, 0, 0), (⟨"HotThrough$Line", "fewest", "(II)I"⟩, prog_6_method_2_code, 4, (some .int), [2, 0, 0], 0, 0, 0), (⟨"HotThrough$Line", "measure", "(II)V"⟩, prog_6_method_3_code, 6, none, [2, 0, 0], 9, 0, 0), (⟨"HotThrough$Line", "covers", "(IIIII)Z"⟩, prog_6_method_4_code, 7, (some .boolean), [2, 0, 0, 0, 0, 0], 3, 0, 0), (⟨"HotThrough", "serve", "(IIII)I"⟩, prog_1_method_38_code, 7, (some .int), [2, 0, 0, 0, 0], 0, 0, 0), (⟨"HotThrough", "areOnPlaces", "(I)Z"⟩, prog_1_method_39_code, 3, (some .boolean), [2, 0], 3, 0, 0), (⟨"HotThrough$Dishes", "soonestOrder", "(IIII)I"⟩, prog_4_method_2_code, 5, (some .int), [2, 0, 0, 0, 0], 0, 0, 0), (⟨"HotThrough$Dishes", "measure", "(II)Z"⟩, prog_4_method_3_code, 4, (some .boolean), [2, 0, 0], 3, 0, 0), (⟨"HotThrough$Dishes", "bring", "(III)V"⟩, prog_4_method_4_code, 7, none, [2, 0, 0, 0], 9, 0, 0), (⟨"HotThrough$Dishes", "arrived", "(I)V"⟩, prog_4_method_5_code, 3, none, [2, 0], 9, 0, 0), (⟨"HotThrough$Dishes", "leastHeat", "(II)I"⟩, prog_4_method_6_code, 5, (some .int), [2, 0, 0], 0, 0, 0), (⟨"HotThrough", "mark", "(II)I"⟩, prog_1_method_40_code, 3, (some .int), [2, 0, 0], 0, 0, 0), (⟨"HotThrough$Marks", "add", "(II)I"⟩, prog_7_method_2_code, 3, (some .int), [2, 0, 0], 0, 0, 0), (⟨"HotThrough", "wipe", "()I"⟩, prog_1_method_41_code, 2, (some .int), [2], 0, 0, 0), (⟨"HotThrough", "fits", "(II)I"⟩, prog_1_method_42_code, 5, (some .int), [2, 0, 0], 0, 0, 0), (⟨"HotThrough$Marks", "fitting", "(II)I"⟩, prog_7_method_3_code, 4, (some .int), [2, 0, 0], 0, 0, 0), (⟨"HotThrough$Marks", "visit", "(III)V"⟩, prog_7_method_4_code, 5, none, [2, 0, 0, 0], 9, 0, 0), (⟨"HotThrough$Marks", "arrived", "(I)V"⟩, prog_7_method_6_code, 3, none, [2, 0], 9, 0, 0), (⟨"HotThrough$Marks", "visitBy", "(III)V"⟩, prog_7_method_5_code, 5, none, [2, 0, 0, 0], 9, 0, 0), (⟨"HotThrough", "dinners", "(IIII)I"⟩, prog_1_method_43_code, 11, (some .int), [2, 0, 0, 0, 0], 0, 0, 0), (⟨"HotThrough", "keep", "(I)Z"⟩, prog_1_method_44_code, 2, (some .boolean), [2, 0], 3, 0, 0), (⟨"HotThrough", "again", "(I)Z"⟩, prog_1_method_45_code, 2, (some .boolean), [2, 0], 3, 0, 0), (⟨"HotThrough", "count", "(I)I"⟩, prog_1_method_46_code, 2, (some .int), [2, 0], 0, 0, 0), (⟨"HotThrough$State", "burnings", "(I)I"⟩, prog_11_method_8_code, 4, (some .int), [2, 0], 0, 0, 0), (⟨"HotThrough", "place", "(II)I"⟩, prog_1_method_6_code, 3, (some .int), [2, 0, 0], 0, 0, 0), (⟨"HotThrough$State", "potsOn", "(II)I"⟩, prog_11_method_6_code, 5, (some .int), [2, 0, 0], 0, 0, 0), (⟨"HotThrough$State", "peopleAt", "(II)I"⟩, prog_11_method_7_code, 5, (some .int), [2, 0, 0], 0, 0, 0), (⟨"HotThrough$Kitchen", "waysAt", "(I)I"⟩, prog_5_method_9_code, 4, (some .int), [2, 0], 0, 0, 0)]
def mT4 : List MT := [(⟨"HotThrough", "way", "(II)I"⟩, prog_1_method_7_code, 3, (some .int), [2, 0, 0], 0, 0, 0), (⟨"HotThrough", "pot", "(II)I"⟩, prog_1_method_8_code, 3, (some .int), [2, 0, 0], 0, 0, 0), (⟨"HotThrough", "person", "(II)I"⟩, prog_1_method_9_code, 3, (some .int), [2, 0, 0], 0, 0, 0), (⟨"HotThrough", "throughNext", "(I)I"⟩, prog_1_method_10_code, 2, (some .int), [2, 0], 0, 0, 0), (⟨"HotThrough", "row", "(I)J"⟩, prog_1_method_47_code, 2, (some .long), [2, 0], 1, 0, 0), (⟨"HotThroughModel", "<init>", "()V"⟩, prog_14_method_1_code, 1, none, [2], 9, 38, 2103), (⟨"HotThroughModel", "thrown", "()I"⟩, prog_14_method_2_code, 1, (some .int), [2], 0, 0, 0), (⟨"HotThroughModel", "sign", "(I)I"⟩, prog_14_method_16_code, 3, (some .int), [2, 0], 0, 0, 0), (⟨"HotThroughModel", "end", "(I)Z"⟩, prog_14_method_17_code, 2, (some .boolean), [2, 0], 3, 0, 0), (⟨"HotThroughModel", "in", "(JJJ)Z"⟩, prog_14_method_4_code, 6, (some .boolean), [1, 1, 1], 3, 0, 0), (⟨"HotThroughModel", "kitchen", "()I"⟩, prog_14_method_32_code, 7, (some .int), [2], 0, 0, 0), (⟨"HotThroughModel", "begins", "(I)I"⟩, prog_14_method_18_code, 3, (some .int), [2, 0], 0, 0, 0), (⟨"HotThroughModel", "readsLine", "()Z"⟩, prog_14_method_31_code, 1, (some .boolean), [2], 3, 0, 0), (⟨"HotThroughModel", "among", "(Ljava/lang/String;)I"⟩, prog_14_method_21_code, 3, (some .int), [2, 2], 0, 0, 0), (⟨"java/lang/String", "length", "()I"⟩, prog_22_method_54_code, 1, (some .int), [2], 0, 0, 0), (⟨"java/lang/String", "charAt", "(I)C"⟩, prog_22_method_56_code, 2, (some .char), [2, 0], 4, 0, 0), (⟨"HotThroughModel", "readsPlace", "()Z"⟩, prog_14_method_27_code, 1, (some .boolean), [2], 3, 0, 0), (⟨"HotThroughModel", "takesOf", "(Ljava/lang/String;)I"⟩, prog_14_method_22_code, 3, (some .int), [2, 2], 0, 0, 0), (⟨"HotThroughModel", "flag", "(Z)I"⟩, prog_14_method_6_code, 1, (some .int), [0], 0, 0, 0), (⟨"HotThroughModel", "readsWay", "()Z"⟩, prog_14_method_28_code, 2, (some .boolean), [2], 3, 0, 0), (⟨"HotThroughModel", "letter", "()I"⟩, prog_14_method_25_code, 2, (some .int), [2], 0, 0, 0), (⟨"HotThroughModel", "takes", "(I)Z"⟩, prog_14_method_19_code, 3, (some .boolean), [2, 0], 3, 0, 0), (⟨"HotThroughModel", "readsPot", "()Z"⟩, prog_14_method_29_code, 2, (some .boolean), [2], 3, 0, 0), (⟨"HotThroughModel", "number", "(I)I"⟩, prog_14_method_23_code, 4, (some .int), [2, 0], 0, 0, 0), (⟨"HotThroughModel", "isDigit", "()Z"⟩, prog_14_method_20_code, 1, (some .boolean), [2], 3, 0, 0), (⟨"HotThroughModel", "kindOf", "(I)I"⟩, prog_14_method_26_code, 2, (some .int), [2, 0], 0, 0, 0), (⟨"HotThroughModel", "readsOne", "()Z"⟩, prog_14_method_30_code, 2, (some .boolean), [2], 3, 0, 0), (⟨"HotThroughModel", "faultOf", "(IIZ)I"⟩, prog_14_method_24_code, 5, (some .int), [2, 0, 0, 0], 0, 0, 0), (⟨"HotThroughModel", "one", "(I)I"⟩, prog_14_method_12_code, 1, (some .int), [0], 0, 0, 0), (⟨"HotThroughModel", "rule", "()I"⟩, prog_14_method_36_code, 5, (some .int), [2], 0, 0, 0), (⟨"HotThroughModel", "readsRank", "(I)Z"⟩, prog_14_method_35_code, 4, (some .boolean), [2, 0], 3, 0, 0), (⟨"HotThroughModel", "readsThing", "()Z"⟩, prog_14_method_34_code, 2, (some .boolean), [2], 3, 0, 0), (⟨"HotThroughModel", "codes", "(I)V"⟩, prog_14_method_33_code, 2, none, [2, 0], 9, 0, 0), (⟨"HotThroughModel", "place", "(II)I"⟩, prog_14_method_43_code, 5, (some .int), [2, 0, 0], 0, 0, 0), (⟨"HotThroughModel", "isPlace", "(I)Z"⟩, prog_14_method_8_code, 2, (some .boolean), [2, 0], 3, 0, 0), (⟨"HotThroughModel", "refuse", "()I"⟩, prog_14_method_3_code, 1, (some .int), [2], 0, 0, 0), (⟨"HotThroughModel", "way", "(II)I"⟩, prog_14_method_44_code, 3, (some .int), [2, 0, 0], 0, 0, 0), (⟨"HotThroughModel", "isWay", "(I)Z"⟩, prog_14_method_11_code, 2, (some .boolean), [2, 0], 3, 0, 0), (⟨"HotThroughModel", "isOpen", "(I)Z"⟩, prog_14_method_15_code, 2, (some .boolean), [2, 0], 3, 0, 0), (⟨"HotThroughModel", "has", "(II)Z"⟩, prog_14_method_5_code, 2, (some .boolean), [0, 0], 3, 0, 0)]
def mT5 : List MT := [(⟨"HotThroughModel", "pot", "(II)I"⟩, prog_14_method_45_code, 3, (some .int), [2, 0, 0], 0, 0, 0), (⟨"HotThroughModel", "isPot", "(I)Z"⟩, prog_14_method_9_code, 2, (some .boolean), [2, 0], 3, 0, 0), (⟨"HotThroughModel", "holder", "(I)I"⟩, prog_14_method_14_code, 4, (some .int), [2, 0], 0, 0, 0), (⟨"HotThroughModel", "holds", "(I)I"⟩, prog_14_method_13_code, 2, (some .int), [2, 0], 0, 0, 0), (⟨"HotThroughModel", "person", "(II)I"⟩, prog_14_method_46_code, 3, (some .int), [2, 0, 0], 0, 0, 0), (⟨"HotThroughModel", "isPerson", "(I)Z"⟩, prog_14_method_10_code, 2, (some .boolean), [2, 0], 3, 0, 0), (⟨"HotThroughModel", "throughOf", "([II)I"⟩, prog_14_method_40_code, 5, (some .int), [2, 2, 0], 0, 0, 0), (⟨"HotThroughModel", "throughBy", "(IIIIIII)I"⟩, prog_14_method_39_code, 8, (some .int), [2, 0, 0, 0, 0, 0, 0, 0], 0, 0, 0), (⟨"HotThroughModel", "through", "()I"⟩, prog_14_method_38_code, 4, (some .int), [2], 0, 0, 0), (⟨"HotThroughModel", "worked", "(III)I"⟩, prog_14_method_37_code, 3, (some .int), [0, 0, 0], 0, 0, 0), (⟨"HotThroughModel", "heat", "(II)I"⟩, prog_14_method_48_code, 4, (some .int), [2, 0, 0], 0, 0, 0), (⟨"HotThroughModel", "isThere", "(I)Z"⟩, prog_14_method_47_code, 2, (some .boolean), [2, 0], 3, 0, 0), (⟨"HotThroughModel", "sheet", "(IIII)I"⟩, prog_14_method_49_code, 9, (some .int), [2, 0, 0, 0, 0], 0, 0, 0), (⟨"HotThroughModel", "undo", "()I"⟩, prog_14_method_54_code, 2, (some .int), [2], 0, 0, 0), (⟨"HotThroughModel", "take", "(II)I"⟩, prog_14_method_62_code, 3, (some .int), [2, 0, 0], 0, 0, 0), (⟨"HotThroughModel", "putsBy", "()V"⟩, prog_14_method_51_code, 2, none, [2], 9, 0, 0), (⟨"HotThroughModel", "takesPot", "(II)I"⟩, prog_14_method_55_code, 3, (some .int), [2, 0, 0], 0, 0, 0), (⟨"HotThroughModel", "counts", "(I)I"⟩, prog_14_method_53_code, 2, (some .int), [2, 0], 0, 0, 0), (⟨"HotThroughModel", "adds", "(I)I"⟩, prog_14_method_52_code, 3, (some .int), [2, 0], 0, 0, 0), (⟨"HotThroughModel", "down", "(I)I"⟩, prog_14_method_63_code, 2, (some .int), [2, 0], 0, 0, 0), (⟨"HotThroughModel", "setsDown", "(I)I"⟩, prog_14_method_56_code, 3, (some .int), [2, 0], 0, 0, 0), (⟨"HotThroughModel", "walk", "(II)I"⟩, prog_14_method_64_code, 4, (some .int), [2, 0, 0], 0, 0, 0), (⟨"HotThroughModel", "startsCounting", "()V"⟩, prog_14_method_41_code, 1, none, [2], 9, 0, 0), (⟨"HotThroughModel", "walks", "(II)I"⟩, prog_14_method_57_code, 5, (some .int), [2, 0, 0], 0, 0, 0), (⟨"HotThroughModel", "secondGoes", "([I)V"⟩, prog_14_method_42_code, 6, none, [2, 2], 9, 0, 0), (⟨"HotThroughModel", "enters", "(J)V"⟩, prog_14_method_7_code, 3, none, [2, 1], 9, 0, 0), (⟨"HotThroughModel", "pass", "(I)I"⟩, prog_14_method_65_code, 3, (some .int), [2, 0], 0, 0, 0), (⟨"HotThroughModel", "passes", "(I)I"⟩, prog_14_method_58_code, 4, (some .int), [2, 0], 0, 0, 0), (⟨"HotThroughModel", "change", "(I)I"⟩, prog_14_method_66_code, 2, (some .int), [2, 0], 0, 0, 0), (⟨"HotThroughModel", "changesHand", "(I)I"⟩, prog_14_method_59_code, 2, (some .int), [2, 0], 0, 0, 0), (⟨"HotThroughModel", "give", "(II)I"⟩, prog_14_method_67_code, 3, (some .int), [2, 0, 0], 0, 0, 0), (⟨"HotThroughModel", "gives", "(II)I"⟩, prog_14_method_60_code, 4, (some .int), [2, 0, 0], 0, 0, 0), (⟨"HotThroughModel", "fold", "(II)I"⟩, prog_14_method_68_code, 4, (some .int), [2, 0, 0], 0, 0, 0), (⟨"HotThroughModel", "door", "(II)I"⟩, prog_14_method_69_code, 3, (some .int), [2, 0, 0], 0, 0, 0), (⟨"HotThroughModel", "opens", "(II)I"⟩, prog_14_method_61_code, 3, (some .int), [2, 0, 0], 0, 0, 0), (⟨"HotThroughModel", "dinner", "()I"⟩, prog_14_method_72_code, 6, (some .int), [2], 0, 0, 0), (⟨"HotThroughModel", "readsAct", "()Z"⟩, prog_14_method_70_code, 2, (some .boolean), [2], 3, 0, 0), (⟨"HotThroughModel", "does", "(I)Z"⟩, prog_14_method_71_code, 3, (some .boolean), [2, 0], 3, 0, 0), (⟨"HotThroughModel", "lasts", "(I)I"⟩, prog_14_method_75_code, 3, (some .int), [2, 0], 0, 0, 0), (⟨"HotThroughModel", "canHold", "(I)Z"⟩, prog_14_method_74_code, 2, (some .boolean), [2, 0], 3, 0, 0)]
def mT6 : List MT := [(⟨"HotThroughModel", "holdsOut", "(II)I"⟩, prog_14_method_73_code, 5, (some .int), [2, 0, 0], 0, 0, 0), (⟨"HotThroughModel", "puts", "([I[I)V"⟩, prog_14_method_50_code, 3, none, [2, 2], 9, 0, 0), (⟨"HotThroughModel", "swaps", "(II)I"⟩, prog_14_method_76_code, 4, (some .int), [2, 0, 0], 0, 0, 0), (⟨"HotThroughModel", "often", "(I)I"⟩, prog_14_method_77_code, 7, (some .int), [2, 0], 0, 0, 0), (⟨"HotThroughModel", "layers", "(III)I"⟩, prog_14_method_82_code, 5, (some .int), [2, 0, 0, 0], 0, 0, 0), (⟨"HotThroughModel", "canThink", "(III)Z"⟩, prog_14_method_81_code, 4, (some .boolean), [2, 0, 0, 0], 3, 0, 0), (⟨"HotThroughModel", "soloBegins", "(II)V"⟩, prog_14_method_80_code, 3, none, [2, 0, 0], 9, 0, 0), (⟨"HotThroughModel", "soloHolds", "(IIII)I"⟩, prog_14_method_78_code, 6, (some .int), [2, 0, 0, 0, 0], 0, 0, 0), (⟨"HotThroughModel", "hottest", "(III)I"⟩, prog_14_method_83_code, 7, (some .int), [2, 0, 0, 0], 0, 0, 0), (⟨"HotThroughModel", "path", "(II)I"⟩, prog_14_method_88_code, 4, (some .int), [2, 0, 0], 0, 0, 0), (⟨"HotThroughModel", "laysWay", "(II)Z"⟩, prog_14_method_85_code, 5, (some .boolean), [2, 0, 0], 3, 0, 0), (⟨"HotThroughModel", "laysApart", "(I)V"⟩, prog_14_method_84_code, 6, none, [2, 0], 9, 0, 0), (⟨"HotThroughModel", "stepsOfWay", "()I"⟩, prog_14_method_87_code, 1, (some .int), [2], 0, 0, 0), (⟨"HotThroughModel", "clear", "(II)I"⟩, prog_14_method_89_code, 8, (some .int), [2, 0, 0], 0, 0, 0), (⟨"HotThroughModel", "far", "(II)I"⟩, prog_14_method_90_code, 7, (some .int), [2, 0, 0], 0, 0, 0), (⟨"HotThroughModel", "legOf", "(I)I"⟩, prog_14_method_86_code, 2, (some .int), [2, 0], 0, 0, 0), (⟨"HotThroughModel", "rests", "(III)I"⟩, prog_14_method_95_code, 6, (some .int), [2, 0, 0, 0], 0, 0, 0), (⟨"HotThroughModel", "fewestRests", "(II)I"⟩, prog_14_method_94_code, 6, (some .int), [2, 0, 0], 0, 0, 0), (⟨"HotThroughModel", "isAhead", "(II)Z"⟩, prog_14_method_93_code, 7, (some .boolean), [2, 0, 0], 3, 0, 0), (⟨"java/lang/Integer", "numberOfTrailingZeros", "(I)I"⟩, prog_19_method_48_code, 2, (some .int), [0], 0, 0, 0), (⟨"HotThroughModel", "canRest", "(I)Z"⟩, prog_14_method_92_code, 4, (some .boolean), [2, 0], 3, 0, 0), (⟨"HotThroughModel", "carries", "(III)Z"⟩, prog_14_method_91_code, 6, (some .boolean), [2, 0, 0, 0], 3, 0, 0), (⟨"HotThroughModel", "soloRests", "(II)V"⟩, prog_14_method_79_code, 4, none, [2, 0, 0], 9, 0, 0), (⟨"HotThroughModel", "soonest", "(II)I"⟩, prog_14_method_96_code, 9, (some .int), [2, 0, 0], 0, 0, 0), (⟨"HotThroughModel", "chain", "(III)I"⟩, prog_14_method_98_code, 5, (some .int), [2, 0, 0, 0], 0, 0, 0), (⟨"HotThroughModel", "carriesOn", "(IIIIIII)V"⟩, prog_14_method_97_code, 10, none, [2, 0, 0, 0, 0, 0, 0, 0], 9, 0, 0), (⟨"HotThroughModel", "serve", "(IIII)I"⟩, prog_14_method_101_code, 6, (some .int), [2, 0, 0, 0, 0], 0, 0, 0), (⟨"HotThroughModel", "brings", "(IIIIIIII)V"⟩, prog_14_method_100_code, 15, none, [2, 0, 0, 0, 0, 0, 0, 0, 0], 9, 0, 0), (⟨"HotThroughModel", "coolsAll", "(II)V"⟩, prog_14_method_99_code, 5, none, [2, 0, 0], 9, 0, 0), (⟨"HotThroughModel", "mark", "(II)I"⟩, prog_14_method_102_code, 3, (some .int), [2, 0, 0], 0, 0, 0), (⟨"HotThroughModel", "wipe", "()I"⟩, prog_14_method_103_code, 2, (some .int), [2], 0, 0, 0), (⟨"HotThroughModel", "fits", "(II)I"⟩, prog_14_method_107_code, 4, (some .int), [2, 0, 0], 0, 0, 0), (⟨"HotThroughModel", "walksOn", "(IIIII)V"⟩, prog_14_method_106_code, 11, none, [2, 0, 0, 0, 0, 0], 9, 0, 0), (⟨"HotThroughModel", "marksAt", "(II)I"⟩, prog_14_method_104_code, 5, (some .int), [2, 0, 0], 0, 0, 0), (⟨"HotThroughModel", "isLess", "(I)Z"⟩, prog_14_method_105_code, 3, (some .boolean), [2, 0], 3, 0, 0), (⟨"HotThroughModel", "dinners", "(IIII)I"⟩, prog_14_method_108_code, 13, (some .int), [2, 0, 0, 0, 0], 0, 0, 0), (⟨"HotThroughModel", "keep", "(I)Z"⟩, prog_14_method_109_code, 3, (some .boolean), [2, 0], 3, 0, 0), (⟨"HotThroughModel", "again", "(I)Z"⟩, prog_14_method_110_code, 3, (some .boolean), [2, 0], 3, 0, 0), (⟨"HotThroughModel", "count", "(I)I"⟩, prog_14_method_113_code, 2, (some .int), [2, 0], 0, 0, 0), (⟨"HotThroughModel", "dropped", "()I"⟩, prog_14_method_111_code, 3, (some .int), [2], 0, 0, 0)]
def mT7 : List MT := [(⟨"HotThroughModel", "burntAll", "()I"⟩, prog_14_method_112_code, 3, (some .int), [2], 0, 0, 0), (⟨"HotThroughModel", "row", "(I)J"⟩, prog_14_method_114_code, 2, (some .long), [2, 0], 1, 0, 0)]
def mTl : List MT := mT0 ++ mT1 ++ mT2 ++ mT3 ++ mT4 ++ mT5 ++ mT6 ++ mT7
def mTd : MT := (⟨"", "", ""⟩, ⟨#[]⟩, 0, none, [], 0, 0, 0)
def mT (k : Nat) : MT := mTl.getD k mTd
def mNam (k : Nat) : MethodName := (mT k).1
def mCod (k : Nat) : ByteArray := (mT k).2.1
def mMax (k : Nat) : Nat := (mT k).2.2.1
def mRet (k : Nat) : Option FieldType := (mT k).2.2.2.1
def mArg (k : Nat) : List Nat := (mT k).2.2.2.2.1
def mRty (k : Nat) : Nat := (mT k).2.2.2.2.2.1
def mCel (k : Nat) : Nat := (mT k).2.2.2.2.2.2.1
def mSlo (k : Nat) : Nat := (mT k).2.2.2.2.2.2.2
def mWor (k : Nat) : Cond := .code (mNam k) (mCod k) (mMax k) (mRet k)
end
