section
-- ===== PART A: goes FIRST, ahead of the names: the tables' words, and 'selects' of the private methods out of them =====
/-- a private method of a class that the tables say can be made, by its rows of tables_1 -/
def lw_okq (q : MethodName × Nat) : Prop := (q.1.cls ≠ "java/lang/invoke/MethodHandle" ∧ q.1.cls ≠ "java/lang/invoke/VarHandle") ∧ Cond.instantiable q.1.cls q.2 ∈ tables_1 ∧ Cond.privateMethod q.1 ∈ tables_1 ∧ Cond.instanceMethod q.1 ∈ tables_1
theorem lw_p0 : lw_okq (⟨"HotThrough$Kitchen", "readLine", "(LHotThrough$Text;LHotThrough$State;)V"⟩, 11) := ⟨⟨by decide +kernel, by decide +kernel⟩, List.mem_of_getElem? (i := 88) (by decide +kernel), List.mem_of_getElem? (i := 634) (by decide +kernel), List.mem_of_getElem? (i := 635) (by decide +kernel)⟩
theorem lw_p1 : lw_okq (⟨"HotThrough$Kitchen", "hasRoom", "(I)Z"⟩, 11) := ⟨⟨by decide +kernel, by decide +kernel⟩, List.mem_of_getElem? (i := 88) (by decide +kernel), List.mem_of_getElem? (i := 642) (by decide +kernel), List.mem_of_getElem? (i := 643) (by decide +kernel)⟩
theorem lw_p2 : lw_okq (⟨"HotThrough$Kitchen", "readWay", "(LHotThrough$Text;LHotThrough$State;)V"⟩, 11) := ⟨⟨by decide +kernel, by decide +kernel⟩, List.mem_of_getElem? (i := 88) (by decide +kernel), List.mem_of_getElem? (i := 654) (by decide +kernel), List.mem_of_getElem? (i := 655) (by decide +kernel)⟩
theorem lw_p3 : lw_okq (⟨"HotThrough$Kitchen", "readPot", "(LHotThrough$Text;LHotThrough$State;)V"⟩, 11) := ⟨⟨by decide +kernel, by decide +kernel⟩, List.mem_of_getElem? (i := 88) (by decide +kernel), List.mem_of_getElem? (i := 671) (by decide +kernel), List.mem_of_getElem? (i := 672) (by decide +kernel)⟩
theorem lw_p4 : lw_okq (⟨"HotThrough$Kitchen", "readPerson", "(LHotThrough$Text;LHotThrough$State;)V"⟩, 11) := ⟨⟨by decide +kernel, by decide +kernel⟩, List.mem_of_getElem? (i := 88) (by decide +kernel), List.mem_of_getElem? (i := 701) (by decide +kernel), List.mem_of_getElem? (i := 702) (by decide +kernel)⟩
theorem lw_p5 : lw_okq (⟨"HotThrough$Kitchen", "addPlace", "(I)V"⟩, 11) := ⟨⟨by decide +kernel, by decide +kernel⟩, List.mem_of_getElem? (i := 88) (by decide +kernel), List.mem_of_getElem? (i := 709) (by decide +kernel), List.mem_of_getElem? (i := 710) (by decide +kernel)⟩
theorem lw_p6 : lw_okq (⟨"HotThrough$Rule", "expression", "(LHotThrough$Text;I)V"⟩, 5) := ⟨⟨by decide +kernel, by decide +kernel⟩, List.mem_of_getElem? (i := 65) (by decide +kernel), List.mem_of_getElem? (i := 734) (by decide +kernel), List.mem_of_getElem? (i := 735) (by decide +kernel)⟩
theorem lw_p7 : lw_okq (⟨"HotThrough$Rule", "sum", "(LHotThrough$Text;I)V"⟩, 5) := ⟨⟨by decide +kernel, by decide +kernel⟩, List.mem_of_getElem? (i := 65) (by decide +kernel), List.mem_of_getElem? (i := 738) (by decide +kernel), List.mem_of_getElem? (i := 739) (by decide +kernel)⟩
theorem lw_p8 : lw_okq (⟨"HotThrough$Rule", "product", "(LHotThrough$Text;I)V"⟩, 5) := ⟨⟨by decide +kernel, by decide +kernel⟩, List.mem_of_getElem? (i := 65) (by decide +kernel), List.mem_of_getElem? (i := 742) (by decide +kernel), List.mem_of_getElem? (i := 743) (by decide +kernel)⟩
theorem lw_p9 : lw_okq (⟨"HotThrough$Rule", "factor", "(LHotThrough$Text;I)V"⟩, 5) := ⟨⟨by decide +kernel, by decide +kernel⟩, List.mem_of_getElem? (i := 65) (by decide +kernel), List.mem_of_getElem? (i := 746) (by decide +kernel), List.mem_of_getElem? (i := 747) (by decide +kernel)⟩
theorem lw_p10 : lw_okq (⟨"HotThrough$Rule", "thing", "(LHotThrough$Text;I)V"⟩, 5) := ⟨⟨by decide +kernel, by decide +kernel⟩, List.mem_of_getElem? (i := 65) (by decide +kernel), List.mem_of_getElem? (i := 751) (by decide +kernel), List.mem_of_getElem? (i := 752) (by decide +kernel)⟩
theorem lw_p11 : lw_okq (⟨"HotThrough$Rule", "emit", "(I)V"⟩, 5) := ⟨⟨by decide +kernel, by decide +kernel⟩, List.mem_of_getElem? (i := 65) (by decide +kernel), List.mem_of_getElem? (i := 760) (by decide +kernel), List.mem_of_getElem? (i := 761) (by decide +kernel)⟩
theorem lw_p12 : lw_okq (⟨"HotThrough$Acts", "slot", "(I)I"⟩, 13) := ⟨⟨by decide +kernel, by decide +kernel⟩, List.mem_of_getElem? (i := 297) (by decide +kernel), List.mem_of_getElem? (i := 803) (by decide +kernel), List.mem_of_getElem? (i := 804) (by decide +kernel)⟩
theorem lw_p13 : lw_okq (⟨"HotThrough$Acts", "second", "()V"⟩, 13) := ⟨⟨by decide +kernel, by decide +kernel⟩, List.mem_of_getElem? (i := 297) (by decide +kernel), List.mem_of_getElem? (i := 861) (by decide +kernel), List.mem_of_getElem? (i := 862) (by decide +kernel)⟩
theorem lw_p14 : lw_okq (⟨"HotThrough$Acts", "hold", "(I)V"⟩, 13) := ⟨⟨by decide +kernel, by decide +kernel⟩, List.mem_of_getElem? (i := 297) (by decide +kernel), List.mem_of_getElem? (i := 865) (by decide +kernel), List.mem_of_getElem? (i := 866) (by decide +kernel)⟩
theorem lw_p15 : lw_okq (⟨"HotThrough$Acts", "coolHand", "(I)V"⟩, 13) := ⟨⟨by decide +kernel, by decide +kernel⟩, List.mem_of_getElem? (i := 297) (by decide +kernel), List.mem_of_getElem? (i := 901) (by decide +kernel), List.mem_of_getElem? (i := 902) (by decide +kernel)⟩
def lw_privs_1 : List (MethodName × Nat) := [(⟨"HotThrough$Kitchen", "readLine", "(LHotThrough$Text;LHotThrough$State;)V"⟩, 11), (⟨"HotThrough$Kitchen", "hasRoom", "(I)Z"⟩, 11), (⟨"HotThrough$Kitchen", "readWay", "(LHotThrough$Text;LHotThrough$State;)V"⟩, 11), (⟨"HotThrough$Kitchen", "readPot", "(LHotThrough$Text;LHotThrough$State;)V"⟩, 11), (⟨"HotThrough$Kitchen", "readPerson", "(LHotThrough$Text;LHotThrough$State;)V"⟩, 11), (⟨"HotThrough$Kitchen", "addPlace", "(I)V"⟩, 11), (⟨"HotThrough$Rule", "expression", "(LHotThrough$Text;I)V"⟩, 5), (⟨"HotThrough$Rule", "sum", "(LHotThrough$Text;I)V"⟩, 5), (⟨"HotThrough$Rule", "product", "(LHotThrough$Text;I)V"⟩, 5), (⟨"HotThrough$Rule", "factor", "(LHotThrough$Text;I)V"⟩, 5), (⟨"HotThrough$Rule", "thing", "(LHotThrough$Text;I)V"⟩, 5), (⟨"HotThrough$Rule", "emit", "(I)V"⟩, 5), (⟨"HotThrough$Acts", "slot", "(I)I"⟩, 13), (⟨"HotThrough$Acts", "second", "()V"⟩, 13), (⟨"HotThrough$Acts", "hold", "(I)V"⟩, 13), (⟨"HotThrough$Acts", "coolHand", "(I)V"⟩, 13)]
theorem lw_r1 : ∀ q ∈ lw_privs_1, lw_okq q := List.forall_mem_cons.mpr ⟨lw_p0, List.forall_mem_cons.mpr ⟨lw_p1, List.forall_mem_cons.mpr ⟨lw_p2, List.forall_mem_cons.mpr ⟨lw_p3, List.forall_mem_cons.mpr ⟨lw_p4, List.forall_mem_cons.mpr ⟨lw_p5, List.forall_mem_cons.mpr ⟨lw_p6, List.forall_mem_cons.mpr ⟨lw_p7, List.forall_mem_cons.mpr ⟨lw_p8, List.forall_mem_cons.mpr ⟨lw_p9, List.forall_mem_cons.mpr ⟨lw_p10, List.forall_mem_cons.mpr ⟨lw_p11, List.forall_mem_cons.mpr ⟨lw_p12, List.forall_mem_cons.mpr ⟨lw_p13, List.forall_mem_cons.mpr ⟨lw_p14, List.forall_mem_cons.mpr ⟨lw_p15, fun _ h => absurd h List.not_mem_nil⟩⟩⟩⟩⟩⟩⟩⟩⟩⟩⟩⟩⟩⟩⟩⟩
theorem lw_p16 : lw_okq (⟨"HotThrough", "startRow", "()V"⟩, 15) := ⟨⟨by decide +kernel, by decide +kernel⟩, List.mem_of_getElem? (i := 26) (by decide +kernel), List.mem_of_getElem? (i := 907) (by decide +kernel), List.mem_of_getElem? (i := 908) (by decide +kernel)⟩
theorem lw_p17 : lw_okq (⟨"HotThrough", "tell", "(J)V"⟩, 15) := ⟨⟨by decide +kernel, by decide +kernel⟩, List.mem_of_getElem? (i := 26) (by decide +kernel), List.mem_of_getElem? (i := 911) (by decide +kernel), List.mem_of_getElem? (i := 912) (by decide +kernel)⟩
theorem lw_p18 : lw_okq (⟨"HotThrough$Acts", "readAct", "(LHotThrough$Text;I)V"⟩, 13) := ⟨⟨by decide +kernel, by decide +kernel⟩, List.mem_of_getElem? (i := 297) (by decide +kernel), List.mem_of_getElem? (i := 973) (by decide +kernel), List.mem_of_getElem? (i := 974) (by decide +kernel)⟩
theorem lw_p19 : lw_okq (⟨"HotThrough", "holds", "(I)Z"⟩, 15) := ⟨⟨by decide +kernel, by decide +kernel⟩, List.mem_of_getElem? (i := 26) (by decide +kernel), List.mem_of_getElem? (i := 1010) (by decide +kernel), List.mem_of_getElem? (i := 1011) (by decide +kernel)⟩
theorem lw_p20 : lw_okq (⟨"HotThrough$Carrier", "changeHands", "()V"⟩, 13) := ⟨⟨by decide +kernel, by decide +kernel⟩, List.mem_of_getElem? (i := 238) (by decide +kernel), List.mem_of_getElem? (i := 1019) (by decide +kernel), List.mem_of_getElem? (i := 1020) (by decide +kernel)⟩
theorem lw_p21 : lw_okq (⟨"HotThrough", "mayHold", "(III)Z"⟩, 15) := ⟨⟨by decide +kernel, by decide +kernel⟩, List.mem_of_getElem? (i := 26) (by decide +kernel), List.mem_of_getElem? (i := 1041) (by decide +kernel), List.mem_of_getElem? (i := 1042) (by decide +kernel)⟩
theorem lw_p22 : lw_okq (⟨"HotThrough$Paths", "spread", "(II)Z"⟩, 9) := ⟨⟨by decide +kernel, by decide +kernel⟩, List.mem_of_getElem? (i := 350) (by decide +kernel), List.mem_of_getElem? (i := 1063) (by decide +kernel), List.mem_of_getElem? (i := 1064) (by decide +kernel)⟩
theorem lw_p23 : lw_okq (⟨"HotThrough$Paths", "relax", "(III)V"⟩, 9) := ⟨⟨by decide +kernel, by decide +kernel⟩, List.mem_of_getElem? (i := 350) (by decide +kernel), List.mem_of_getElem? (i := 1069) (by decide +kernel), List.mem_of_getElem? (i := 1070) (by decide +kernel)⟩
theorem lw_p24 : lw_okq (⟨"HotThrough$Paths", "trace", "(II)V"⟩, 9) := ⟨⟨by decide +kernel, by decide +kernel⟩, List.mem_of_getElem? (i := 350) (by decide +kernel), List.mem_of_getElem? (i := 1073) (by decide +kernel), List.mem_of_getElem? (i := 1074) (by decide +kernel)⟩
theorem lw_p25 : lw_okq (⟨"HotThrough$Paths", "nextFrom", "(I)I"⟩, 9) := ⟨⟨by decide +kernel, by decide +kernel⟩, List.mem_of_getElem? (i := 350) (by decide +kernel), List.mem_of_getElem? (i := 1077) (by decide +kernel), List.mem_of_getElem? (i := 1078) (by decide +kernel)⟩
theorem lw_p26 : lw_okq (⟨"HotThrough$Rester", "stop", "(II)V"⟩, 11) := ⟨⟨by decide +kernel, by decide +kernel⟩, List.mem_of_getElem? (i := 395) (by decide +kernel), List.mem_of_getElem? (i := 1105) (by decide +kernel), List.mem_of_getElem? (i := 1106) (by decide +kernel)⟩
theorem lw_p27 : lw_okq (⟨"HotThrough$Rester", "arrived", "(I)V"⟩, 11) := ⟨⟨by decide +kernel, by decide +kernel⟩, List.mem_of_getElem? (i := 395) (by decide +kernel), List.mem_of_getElem? (i := 1109) (by decide +kernel), List.mem_of_getElem? (i := 1110) (by decide +kernel)⟩
theorem lw_p28 : lw_okq (⟨"HotThrough$Rester", "isLess", "(I)Z"⟩, 11) := ⟨⟨by decide +kernel, by decide +kernel⟩, List.mem_of_getElem? (i := 395) (by decide +kernel), List.mem_of_getElem? (i := 1113) (by decide +kernel), List.mem_of_getElem? (i := 1114) (by decide +kernel)⟩
theorem lw_p29 : lw_okq (⟨"HotThrough$Rester", "goOn", "(II)V"⟩, 11) := ⟨⟨by decide +kernel, by decide +kernel⟩, List.mem_of_getElem? (i := 395) (by decide +kernel), List.mem_of_getElem? (i := 1118) (by decide +kernel), List.mem_of_getElem? (i := 1119) (by decide +kernel)⟩
theorem lw_p30 : lw_okq (⟨"HotThrough", "areFree", "(I)Z"⟩, 15) := ⟨⟨by decide +kernel, by decide +kernel⟩, List.mem_of_getElem? (i := 26) (by decide +kernel), List.mem_of_getElem? (i := 1135) (by decide +kernel), List.mem_of_getElem? (i := 1136) (by decide +kernel)⟩
theorem lw_p31 : lw_okq (⟨"HotThrough$Line", "measure", "(II)V"⟩, 7) := ⟨⟨by decide +kernel, by decide +kernel⟩, List.mem_of_getElem? (i := 436) (by decide +kernel), List.mem_of_getElem? (i := 1143) (by decide +kernel), List.mem_of_getElem? (i := 1144) (by decide +kernel)⟩
def lw_privs_2 : List (MethodName × Nat) := [(⟨"HotThrough", "startRow", "()V"⟩, 15), (⟨"HotThrough", "tell", "(J)V"⟩, 15), (⟨"HotThrough$Acts", "readAct", "(LHotThrough$Text;I)V"⟩, 13), (⟨"HotThrough", "holds", "(I)Z"⟩, 15), (⟨"HotThrough$Carrier", "changeHands", "()V"⟩, 13), (⟨"HotThrough", "mayHold", "(III)Z"⟩, 15), (⟨"HotThrough$Paths", "spread", "(II)Z"⟩, 9), (⟨"HotThrough$Paths", "relax", "(III)V"⟩, 9), (⟨"HotThrough$Paths", "trace", "(II)V"⟩, 9), (⟨"HotThrough$Paths", "nextFrom", "(I)I"⟩, 9), (⟨"HotThrough$Rester", "stop", "(II)V"⟩, 11), (⟨"HotThrough$Rester", "arrived", "(I)V"⟩, 11), (⟨"HotThrough$Rester", "isLess", "(I)Z"⟩, 11), (⟨"HotThrough$Rester", "goOn", "(II)V"⟩, 11), (⟨"HotThrough", "areFree", "(I)Z"⟩, 15), (⟨"HotThrough$Line", "measure", "(II)V"⟩, 7)]
theorem lw_r2 : ∀ q ∈ lw_privs_2, lw_okq q := List.forall_mem_cons.mpr ⟨lw_p16, List.forall_mem_cons.mpr ⟨lw_p17, List.forall_mem_cons.mpr ⟨lw_p18, List.forall_mem_cons.mpr ⟨lw_p19, List.forall_mem_cons.mpr ⟨lw_p20, List.forall_mem_cons.mpr ⟨lw_p21, List.forall_mem_cons.mpr ⟨lw_p22, List.forall_mem_cons.mpr ⟨lw_p23, List.forall_mem_cons.mpr ⟨lw_p24, List.forall_mem_cons.mpr ⟨lw_p25, List.forall_mem_cons.mpr ⟨lw_p26, List.forall_mem_cons.mpr ⟨lw_p27, List.forall_mem_cons.mpr ⟨lw_p28, List.forall_mem_cons.mpr ⟨lw_p29, List.forall_mem_cons.mpr ⟨lw_p30, List.forall_mem_cons.mpr ⟨lw_p31, fun _ h => absurd h List.not_mem_nil⟩⟩⟩⟩⟩⟩⟩⟩⟩⟩⟩⟩⟩⟩⟩⟩
theorem lw_p32 : lw_okq (⟨"HotThrough$Line", "covers", "(IIIII)Z"⟩, 7) := ⟨⟨by decide +kernel, by decide +kernel⟩, List.mem_of_getElem? (i := 436) (by decide +kernel), List.mem_of_getElem? (i := 1150) (by decide +kernel), List.mem_of_getElem? (i := 1151) (by decide +kernel)⟩
theorem lw_p33 : lw_okq (⟨"HotThrough", "areOnPlaces", "(I)Z"⟩, 15) := ⟨⟨by decide +kernel, by decide +kernel⟩, List.mem_of_getElem? (i := 26) (by decide +kernel), List.mem_of_getElem? (i := 1158) (by decide +kernel), List.mem_of_getElem? (i := 1159) (by decide +kernel)⟩
theorem lw_p34 : lw_okq (⟨"HotThrough$Dishes", "measure", "(II)Z"⟩, 13) := ⟨⟨by decide +kernel, by decide +kernel⟩, List.mem_of_getElem? (i := 465) (by decide +kernel), List.mem_of_getElem? (i := 1167) (by decide +kernel), List.mem_of_getElem? (i := 1168) (by decide +kernel)⟩
theorem lw_p35 : lw_okq (⟨"HotThrough$Dishes", "bring", "(III)V"⟩, 13) := ⟨⟨by decide +kernel, by decide +kernel⟩, List.mem_of_getElem? (i := 465) (by decide +kernel), List.mem_of_getElem? (i := 1173) (by decide +kernel), List.mem_of_getElem? (i := 1174) (by decide +kernel)⟩
theorem lw_p36 : lw_okq (⟨"HotThrough$Dishes", "arrived", "(I)V"⟩, 13) := ⟨⟨by decide +kernel, by decide +kernel⟩, List.mem_of_getElem? (i := 465) (by decide +kernel), List.mem_of_getElem? (i := 1177) (by decide +kernel), List.mem_of_getElem? (i := 1178) (by decide +kernel)⟩
theorem lw_p37 : lw_okq (⟨"HotThrough$Marks", "visit", "(III)V"⟩, 11) := ⟨⟨by decide +kernel, by decide +kernel⟩, List.mem_of_getElem? (i := 513) (by decide +kernel), List.mem_of_getElem? (i := 1212) (by decide +kernel), List.mem_of_getElem? (i := 1213) (by decide +kernel)⟩
theorem lw_p38 : lw_okq (⟨"HotThrough$Marks", "arrived", "(I)V"⟩, 11) := ⟨⟨by decide +kernel, by decide +kernel⟩, List.mem_of_getElem? (i := 513) (by decide +kernel), List.mem_of_getElem? (i := 1217) (by decide +kernel), List.mem_of_getElem? (i := 1218) (by decide +kernel)⟩
theorem lw_p39 : lw_okq (⟨"HotThrough$Marks", "visitBy", "(III)V"⟩, 11) := ⟨⟨by decide +kernel, by decide +kernel⟩, List.mem_of_getElem? (i := 513) (by decide +kernel), List.mem_of_getElem? (i := 1222) (by decide +kernel), List.mem_of_getElem? (i := 1223) (by decide +kernel)⟩
theorem lw_p40 : lw_okq (⟨"java/lang/Throwable", "fillInStackTrace", "(I)Ljava/lang/Throwable;"⟩, 6) := ⟨⟨by decide +kernel, by decide +kernel⟩, List.mem_of_getElem? (i := 1294) (by decide +kernel), List.mem_of_getElem? (i := 1292) (by decide +kernel), List.mem_of_getElem? (i := 1293) (by decide +kernel)⟩
theorem lw_p41 : lw_okq (⟨"HotThrough", "throughNext", "(I)I"⟩, 15) := ⟨⟨by decide +kernel, by decide +kernel⟩, List.mem_of_getElem? (i := 26) (by decide +kernel), List.mem_of_getElem? (i := 1354) (by decide +kernel), List.mem_of_getElem? (i := 1355) (by decide +kernel)⟩
theorem lw_p42 : lw_okq (⟨"HotThroughModel", "begins", "(I)I"⟩, 72) := ⟨⟨by decide +kernel, by decide +kernel⟩, List.mem_of_getElem? (i := 1366) (by decide +kernel), List.mem_of_getElem? (i := 1609) (by decide +kernel), List.mem_of_getElem? (i := 1610) (by decide +kernel)⟩
theorem lw_p43 : lw_okq (⟨"HotThroughModel", "readsLine", "()Z"⟩, 72) := ⟨⟨by decide +kernel, by decide +kernel⟩, List.mem_of_getElem? (i := 1366) (by decide +kernel), List.mem_of_getElem? (i := 1614) (by decide +kernel), List.mem_of_getElem? (i := 1615) (by decide +kernel)⟩
theorem lw_p44 : lw_okq (⟨"HotThroughModel", "among", "(Ljava/lang/String;)I"⟩, 72) := ⟨⟨by decide +kernel, by decide +kernel⟩, List.mem_of_getElem? (i := 1366) (by decide +kernel), List.mem_of_getElem? (i := 1619) (by decide +kernel), List.mem_of_getElem? (i := 1620) (by decide +kernel)⟩
theorem lw_p45 : lw_okq (⟨"HotThroughModel", "readsPlace", "()Z"⟩, 72) := ⟨⟨by decide +kernel, by decide +kernel⟩, List.mem_of_getElem? (i := 1366) (by decide +kernel), List.mem_of_getElem? (i := 1671) (by decide +kernel), List.mem_of_getElem? (i := 1672) (by decide +kernel)⟩
theorem lw_p46 : lw_okq (⟨"HotThroughModel", "takesOf", "(Ljava/lang/String;)I"⟩, 72) := ⟨⟨by decide +kernel, by decide +kernel⟩, List.mem_of_getElem? (i := 1366) (by decide +kernel), List.mem_of_getElem? (i := 1676) (by decide +kernel), List.mem_of_getElem? (i := 1677) (by decide +kernel)⟩
theorem lw_p47 : lw_okq (⟨"HotThroughModel", "readsWay", "()Z"⟩, 72) := ⟨⟨by decide +kernel, by decide +kernel⟩, List.mem_of_getElem? (i := 1366) (by decide +kernel), List.mem_of_getElem? (i := 1683) (by decide +kernel), List.mem_of_getElem? (i := 1684) (by decide +kernel)⟩
def lw_privs_3 : List (MethodName × Nat) := [(⟨"HotThrough$Line", "covers", "(IIIII)Z"⟩, 7), (⟨"HotThrough", "areOnPlaces", "(I)Z"⟩, 15), (⟨"HotThrough$Dishes", "measure", "(II)Z"⟩, 13), (⟨"HotThrough$Dishes", "bring", "(III)V"⟩, 13), (⟨"HotThrough$Dishes", "arrived", "(I)V"⟩, 13), (⟨"HotThrough$Marks", "visit", "(III)V"⟩, 11), (⟨"HotThrough$Marks", "arrived", "(I)V"⟩, 11), (⟨"HotThrough$Marks", "visitBy", "(III)V"⟩, 11), (⟨"java/lang/Throwable", "fillInStackTrace", "(I)Ljava/lang/Throwable;"⟩, 6), (⟨"HotThrough", "throughNext", "(I)I"⟩, 15), (⟨"HotThroughModel", "begins", "(I)I"⟩, 72), (⟨"HotThroughModel", "readsLine", "()Z"⟩, 72), (⟨"HotThroughModel", "among", "(Ljava/lang/String;)I"⟩, 72), (⟨"HotThroughModel", "readsPlace", "()Z"⟩, 72), (⟨"HotThroughModel", "takesOf", "(Ljava/lang/String;)I"⟩, 72), (⟨"HotThroughModel", "readsWay", "()Z"⟩, 72)]
theorem lw_r3 : ∀ q ∈ lw_privs_3, lw_okq q := List.forall_mem_cons.mpr ⟨lw_p32, List.forall_mem_cons.mpr ⟨lw_p33, List.forall_mem_cons.mpr ⟨lw_p34, List.forall_mem_cons.mpr ⟨lw_p35, List.forall_mem_cons.mpr ⟨lw_p36, List.forall_mem_cons.mpr ⟨lw_p37, List.forall_mem_cons.mpr ⟨lw_p38, List.forall_mem_cons.mpr ⟨lw_p39, List.forall_mem_cons.mpr ⟨lw_p40, List.forall_mem_cons.mpr ⟨lw_p41, List.forall_mem_cons.mpr ⟨lw_p42, List.forall_mem_cons.mpr ⟨lw_p43, List.forall_mem_cons.mpr ⟨lw_p44, List.forall_mem_cons.mpr ⟨lw_p45, List.forall_mem_cons.mpr ⟨lw_p46, List.forall_mem_cons.mpr ⟨lw_p47, fun _ h => absurd h List.not_mem_nil⟩⟩⟩⟩⟩⟩⟩⟩⟩⟩⟩⟩⟩⟩⟩⟩
theorem lw_p48 : lw_okq (⟨"HotThroughModel", "letter", "()I"⟩, 72) := ⟨⟨by decide +kernel, by decide +kernel⟩, List.mem_of_getElem? (i := 1366) (by decide +kernel), List.mem_of_getElem? (i := 1687) (by decide +kernel), List.mem_of_getElem? (i := 1688) (by decide +kernel)⟩
theorem lw_p49 : lw_okq (⟨"HotThroughModel", "takes", "(I)Z"⟩, 72) := ⟨⟨by decide +kernel, by decide +kernel⟩, List.mem_of_getElem? (i := 1366) (by decide +kernel), List.mem_of_getElem? (i := 1692) (by decide +kernel), List.mem_of_getElem? (i := 1693) (by decide +kernel)⟩
theorem lw_p50 : lw_okq (⟨"HotThroughModel", "readsPot", "()Z"⟩, 72) := ⟨⟨by decide +kernel, by decide +kernel⟩, List.mem_of_getElem? (i := 1366) (by decide +kernel), List.mem_of_getElem? (i := 1696) (by decide +kernel), List.mem_of_getElem? (i := 1697) (by decide +kernel)⟩
theorem lw_p51 : lw_okq (⟨"HotThroughModel", "number", "(I)I"⟩, 72) := ⟨⟨by decide +kernel, by decide +kernel⟩, List.mem_of_getElem? (i := 1366) (by decide +kernel), List.mem_of_getElem? (i := 1700) (by decide +kernel), List.mem_of_getElem? (i := 1701) (by decide +kernel)⟩
theorem lw_p52 : lw_okq (⟨"HotThroughModel", "isDigit", "()Z"⟩, 72) := ⟨⟨by decide +kernel, by decide +kernel⟩, List.mem_of_getElem? (i := 1366) (by decide +kernel), List.mem_of_getElem? (i := 1704) (by decide +kernel), List.mem_of_getElem? (i := 1705) (by decide +kernel)⟩
theorem lw_p53 : lw_okq (⟨"HotThroughModel", "kindOf", "(I)I"⟩, 72) := ⟨⟨by decide +kernel, by decide +kernel⟩, List.mem_of_getElem? (i := 1366) (by decide +kernel), List.mem_of_getElem? (i := 1710) (by decide +kernel), List.mem_of_getElem? (i := 1711) (by decide +kernel)⟩
theorem lw_p54 : lw_okq (⟨"HotThroughModel", "readsOne", "()Z"⟩, 72) := ⟨⟨by decide +kernel, by decide +kernel⟩, List.mem_of_getElem? (i := 1366) (by decide +kernel), List.mem_of_getElem? (i := 1714) (by decide +kernel), List.mem_of_getElem? (i := 1715) (by decide +kernel)⟩
theorem lw_p55 : lw_okq (⟨"HotThroughModel", "faultOf", "(IIZ)I"⟩, 72) := ⟨⟨by decide +kernel, by decide +kernel⟩, List.mem_of_getElem? (i := 1366) (by decide +kernel), List.mem_of_getElem? (i := 1718) (by decide +kernel), List.mem_of_getElem? (i := 1719) (by decide +kernel)⟩
theorem lw_p56 : lw_okq (⟨"HotThroughModel", "readsRank", "(I)Z"⟩, 72) := ⟨⟨by decide +kernel, by decide +kernel⟩, List.mem_of_getElem? (i := 1366) (by decide +kernel), List.mem_of_getElem? (i := 1730) (by decide +kernel), List.mem_of_getElem? (i := 1731) (by decide +kernel)⟩
theorem lw_p57 : lw_okq (⟨"HotThroughModel", "readsThing", "()Z"⟩, 72) := ⟨⟨by decide +kernel, by decide +kernel⟩, List.mem_of_getElem? (i := 1366) (by decide +kernel), List.mem_of_getElem? (i := 1734) (by decide +kernel), List.mem_of_getElem? (i := 1735) (by decide +kernel)⟩
theorem lw_p58 : lw_okq (⟨"HotThroughModel", "codes", "(I)V"⟩, 72) := ⟨⟨by decide +kernel, by decide +kernel⟩, List.mem_of_getElem? (i := 1366) (by decide +kernel), List.mem_of_getElem? (i := 1738) (by decide +kernel), List.mem_of_getElem? (i := 1739) (by decide +kernel)⟩
theorem lw_p59 : lw_okq (⟨"HotThroughModel", "isPlace", "(I)Z"⟩, 72) := ⟨⟨by decide +kernel, by decide +kernel⟩, List.mem_of_getElem? (i := 1366) (by decide +kernel), List.mem_of_getElem? (i := 1750) (by decide +kernel), List.mem_of_getElem? (i := 1751) (by decide +kernel)⟩
theorem lw_p60 : lw_okq (⟨"HotThroughModel", "refuse", "()I"⟩, 72) := ⟨⟨by decide +kernel, by decide +kernel⟩, List.mem_of_getElem? (i := 1366) (by decide +kernel), List.mem_of_getElem? (i := 1755) (by decide +kernel), List.mem_of_getElem? (i := 1756) (by decide +kernel)⟩
theorem lw_p61 : lw_okq (⟨"HotThroughModel", "isWay", "(I)Z"⟩, 72) := ⟨⟨by decide +kernel, by decide +kernel⟩, List.mem_of_getElem? (i := 1366) (by decide +kernel), List.mem_of_getElem? (i := 1763) (by decide +kernel), List.mem_of_getElem? (i := 1764) (by decide +kernel)⟩
theorem lw_p62 : lw_okq (⟨"HotThroughModel", "isOpen", "(I)Z"⟩, 72) := ⟨⟨by decide +kernel, by decide +kernel⟩, List.mem_of_getElem? (i := 1366) (by decide +kernel), List.mem_of_getElem? (i := 1767) (by decide +kernel), List.mem_of_getElem? (i := 1768) (by decide +kernel)⟩
theorem lw_p63 : lw_okq (⟨"HotThroughModel", "isPot", "(I)Z"⟩, 72) := ⟨⟨by decide +kernel, by decide +kernel⟩, List.mem_of_getElem? (i := 1366) (by decide +kernel), List.mem_of_getElem? (i := 1778) (by decide +kernel), List.mem_of_getElem? (i := 1779) (by decide +kernel)⟩
def lw_privs_4 : List (MethodName × Nat) := [(⟨"HotThroughModel", "letter", "()I"⟩, 72), (⟨"HotThroughModel", "takes", "(I)Z"⟩, 72), (⟨"HotThroughModel", "readsPot", "()Z"⟩, 72), (⟨"HotThroughModel", "number", "(I)I"⟩, 72), (⟨"HotThroughModel", "isDigit", "()Z"⟩, 72), (⟨"HotThroughModel", "kindOf", "(I)I"⟩, 72), (⟨"HotThroughModel", "readsOne", "()Z"⟩, 72), (⟨"HotThroughModel", "faultOf", "(IIZ)I"⟩, 72), (⟨"HotThroughModel", "readsRank", "(I)Z"⟩, 72), (⟨"HotThroughModel", "readsThing", "()Z"⟩, 72), (⟨"HotThroughModel", "codes", "(I)V"⟩, 72), (⟨"HotThroughModel", "isPlace", "(I)Z"⟩, 72), (⟨"HotThroughModel", "refuse", "()I"⟩, 72), (⟨"HotThroughModel", "isWay", "(I)Z"⟩, 72), (⟨"HotThroughModel", "isOpen", "(I)Z"⟩, 72), (⟨"HotThroughModel", "isPot", "(I)Z"⟩, 72)]
theorem lw_r4 : ∀ q ∈ lw_privs_4, lw_okq q := List.forall_mem_cons.mpr ⟨lw_p48, List.forall_mem_cons.mpr ⟨lw_p49, List.forall_mem_cons.mpr ⟨lw_p50, List.forall_mem_cons.mpr ⟨lw_p51, List.forall_mem_cons.mpr ⟨lw_p52, List.forall_mem_cons.mpr ⟨lw_p53, List.forall_mem_cons.mpr ⟨lw_p54, List.forall_mem_cons.mpr ⟨lw_p55, List.forall_mem_cons.mpr ⟨lw_p56, List.forall_mem_cons.mpr ⟨lw_p57, List.forall_mem_cons.mpr ⟨lw_p58, List.forall_mem_cons.mpr ⟨lw_p59, List.forall_mem_cons.mpr ⟨lw_p60, List.forall_mem_cons.mpr ⟨lw_p61, List.forall_mem_cons.mpr ⟨lw_p62, List.forall_mem_cons.mpr ⟨lw_p63, fun _ h => absurd h List.not_mem_nil⟩⟩⟩⟩⟩⟩⟩⟩⟩⟩⟩⟩⟩⟩⟩⟩
theorem lw_p64 : lw_okq (⟨"HotThroughModel", "holder", "(I)I"⟩, 72) := ⟨⟨by decide +kernel, by decide +kernel⟩, List.mem_of_getElem? (i := 1366) (by decide +kernel), List.mem_of_getElem? (i := 1783) (by decide +kernel), List.mem_of_getElem? (i := 1784) (by decide +kernel)⟩
theorem lw_p65 : lw_okq (⟨"HotThroughModel", "holds", "(I)I"⟩, 72) := ⟨⟨by decide +kernel, by decide +kernel⟩, List.mem_of_getElem? (i := 1366) (by decide +kernel), List.mem_of_getElem? (i := 1787) (by decide +kernel), List.mem_of_getElem? (i := 1788) (by decide +kernel)⟩
theorem lw_p66 : lw_okq (⟨"HotThroughModel", "isPerson", "(I)Z"⟩, 72) := ⟨⟨by decide +kernel, by decide +kernel⟩, List.mem_of_getElem? (i := 1366) (by decide +kernel), List.mem_of_getElem? (i := 1795) (by decide +kernel), List.mem_of_getElem? (i := 1796) (by decide +kernel)⟩
theorem lw_p67 : lw_okq (⟨"HotThroughModel", "throughOf", "([II)I"⟩, 72) := ⟨⟨by decide +kernel, by decide +kernel⟩, List.mem_of_getElem? (i := 1366) (by decide +kernel), List.mem_of_getElem? (i := 1800) (by decide +kernel), List.mem_of_getElem? (i := 1801) (by decide +kernel)⟩
theorem lw_p68 : lw_okq (⟨"HotThroughModel", "throughBy", "(IIIIIII)I"⟩, 72) := ⟨⟨by decide +kernel, by decide +kernel⟩, List.mem_of_getElem? (i := 1366) (by decide +kernel), List.mem_of_getElem? (i := 1804) (by decide +kernel), List.mem_of_getElem? (i := 1805) (by decide +kernel)⟩
theorem lw_p69 : lw_okq (⟨"HotThroughModel", "through", "()I"⟩, 72) := ⟨⟨by decide +kernel, by decide +kernel⟩, List.mem_of_getElem? (i := 1366) (by decide +kernel), List.mem_of_getElem? (i := 1808) (by decide +kernel), List.mem_of_getElem? (i := 1809) (by decide +kernel)⟩
theorem lw_p70 : lw_okq (⟨"HotThroughModel", "isThere", "(I)Z"⟩, 72) := ⟨⟨by decide +kernel, by decide +kernel⟩, List.mem_of_getElem? (i := 1366) (by decide +kernel), List.mem_of_getElem? (i := 1820) (by decide +kernel), List.mem_of_getElem? (i := 1821) (by decide +kernel)⟩
theorem lw_p71 : lw_okq (⟨"HotThroughModel", "putsBy", "()V"⟩, 72) := ⟨⟨by decide +kernel, by decide +kernel⟩, List.mem_of_getElem? (i := 1366) (by decide +kernel), List.mem_of_getElem? (i := 1837) (by decide +kernel), List.mem_of_getElem? (i := 1838) (by decide +kernel)⟩
theorem lw_p72 : lw_okq (⟨"HotThroughModel", "takesPot", "(II)I"⟩, 72) := ⟨⟨by decide +kernel, by decide +kernel⟩, List.mem_of_getElem? (i := 1366) (by decide +kernel), List.mem_of_getElem? (i := 1841) (by decide +kernel), List.mem_of_getElem? (i := 1842) (by decide +kernel)⟩
theorem lw_p73 : lw_okq (⟨"HotThroughModel", "counts", "(I)I"⟩, 72) := ⟨⟨by decide +kernel, by decide +kernel⟩, List.mem_of_getElem? (i := 1366) (by decide +kernel), List.mem_of_getElem? (i := 1845) (by decide +kernel), List.mem_of_getElem? (i := 1846) (by decide +kernel)⟩
theorem lw_p74 : lw_okq (⟨"HotThroughModel", "adds", "(I)I"⟩, 72) := ⟨⟨by decide +kernel, by decide +kernel⟩, List.mem_of_getElem? (i := 1366) (by decide +kernel), List.mem_of_getElem? (i := 1849) (by decide +kernel), List.mem_of_getElem? (i := 1850) (by decide +kernel)⟩
theorem lw_p75 : lw_okq (⟨"HotThroughModel", "setsDown", "(I)I"⟩, 72) := ⟨⟨by decide +kernel, by decide +kernel⟩, List.mem_of_getElem? (i := 1366) (by decide +kernel), List.mem_of_getElem? (i := 1857) (by decide +kernel), List.mem_of_getElem? (i := 1858) (by decide +kernel)⟩
theorem lw_p76 : lw_okq (⟨"HotThroughModel", "startsCounting", "()V"⟩, 72) := ⟨⟨by decide +kernel, by decide +kernel⟩, List.mem_of_getElem? (i := 1366) (by decide +kernel), List.mem_of_getElem? (i := 1865) (by decide +kernel), List.mem_of_getElem? (i := 1866) (by decide +kernel)⟩
theorem lw_p77 : lw_okq (⟨"HotThroughModel", "walks", "(II)I"⟩, 72) := ⟨⟨by decide +kernel, by decide +kernel⟩, List.mem_of_getElem? (i := 1366) (by decide +kernel), List.mem_of_getElem? (i := 1869) (by decide +kernel), List.mem_of_getElem? (i := 1870) (by decide +kernel)⟩
theorem lw_p78 : lw_okq (⟨"HotThroughModel", "secondGoes", "([I)V"⟩, 72) := ⟨⟨by decide +kernel, by decide +kernel⟩, List.mem_of_getElem? (i := 1366) (by decide +kernel), List.mem_of_getElem? (i := 1873) (by decide +kernel), List.mem_of_getElem? (i := 1874) (by decide +kernel)⟩
theorem lw_p79 : lw_okq (⟨"HotThroughModel", "enters", "(J)V"⟩, 72) := ⟨⟨by decide +kernel, by decide +kernel⟩, List.mem_of_getElem? (i := 1366) (by decide +kernel), List.mem_of_getElem? (i := 1877) (by decide +kernel), List.mem_of_getElem? (i := 1878) (by decide +kernel)⟩
def lw_privs_5 : List (MethodName × Nat) := [(⟨"HotThroughModel", "holder", "(I)I"⟩, 72), (⟨"HotThroughModel", "holds", "(I)I"⟩, 72), (⟨"HotThroughModel", "isPerson", "(I)Z"⟩, 72), (⟨"HotThroughModel", "throughOf", "([II)I"⟩, 72), (⟨"HotThroughModel", "throughBy", "(IIIIIII)I"⟩, 72), (⟨"HotThroughModel", "through", "()I"⟩, 72), (⟨"HotThroughModel", "isThere", "(I)Z"⟩, 72), (⟨"HotThroughModel", "putsBy", "()V"⟩, 72), (⟨"HotThroughModel", "takesPot", "(II)I"⟩, 72), (⟨"HotThroughModel", "counts", "(I)I"⟩, 72), (⟨"HotThroughModel", "adds", "(I)I"⟩, 72), (⟨"HotThroughModel", "setsDown", "(I)I"⟩, 72), (⟨"HotThroughModel", "startsCounting", "()V"⟩, 72), (⟨"HotThroughModel", "walks", "(II)I"⟩, 72), (⟨"HotThroughModel", "secondGoes", "([I)V"⟩, 72), (⟨"HotThroughModel", "enters", "(J)V"⟩, 72)]
theorem lw_r5 : ∀ q ∈ lw_privs_5, lw_okq q := List.forall_mem_cons.mpr ⟨lw_p64, List.forall_mem_cons.mpr ⟨lw_p65, List.forall_mem_cons.mpr ⟨lw_p66, List.forall_mem_cons.mpr ⟨lw_p67, List.forall_mem_cons.mpr ⟨lw_p68, List.forall_mem_cons.mpr ⟨lw_p69, List.forall_mem_cons.mpr ⟨lw_p70, List.forall_mem_cons.mpr ⟨lw_p71, List.forall_mem_cons.mpr ⟨lw_p72, List.forall_mem_cons.mpr ⟨lw_p73, List.forall_mem_cons.mpr ⟨lw_p74, List.forall_mem_cons.mpr ⟨lw_p75, List.forall_mem_cons.mpr ⟨lw_p76, List.forall_mem_cons.mpr ⟨lw_p77, List.forall_mem_cons.mpr ⟨lw_p78, List.forall_mem_cons.mpr ⟨lw_p79, fun _ h => absurd h List.not_mem_nil⟩⟩⟩⟩⟩⟩⟩⟩⟩⟩⟩⟩⟩⟩⟩⟩
theorem lw_p80 : lw_okq (⟨"HotThroughModel", "passes", "(I)I"⟩, 72) := ⟨⟨by decide +kernel, by decide +kernel⟩, List.mem_of_getElem? (i := 1366) (by decide +kernel), List.mem_of_getElem? (i := 1885) (by decide +kernel), List.mem_of_getElem? (i := 1886) (by decide +kernel)⟩
theorem lw_p81 : lw_okq (⟨"HotThroughModel", "changesHand", "(I)I"⟩, 72) := ⟨⟨by decide +kernel, by decide +kernel⟩, List.mem_of_getElem? (i := 1366) (by decide +kernel), List.mem_of_getElem? (i := 1894) (by decide +kernel), List.mem_of_getElem? (i := 1895) (by decide +kernel)⟩
theorem lw_p82 : lw_okq (⟨"HotThroughModel", "gives", "(II)I"⟩, 72) := ⟨⟨by decide +kernel, by decide +kernel⟩, List.mem_of_getElem? (i := 1366) (by decide +kernel), List.mem_of_getElem? (i := 1902) (by decide +kernel), List.mem_of_getElem? (i := 1903) (by decide +kernel)⟩
theorem lw_p83 : lw_okq (⟨"HotThroughModel", "opens", "(II)I"⟩, 72) := ⟨⟨by decide +kernel, by decide +kernel⟩, List.mem_of_getElem? (i := 1366) (by decide +kernel), List.mem_of_getElem? (i := 1915) (by decide +kernel), List.mem_of_getElem? (i := 1916) (by decide +kernel)⟩
theorem lw_p84 : lw_okq (⟨"HotThroughModel", "readsAct", "()Z"⟩, 72) := ⟨⟨by decide +kernel, by decide +kernel⟩, List.mem_of_getElem? (i := 1366) (by decide +kernel), List.mem_of_getElem? (i := 1924) (by decide +kernel), List.mem_of_getElem? (i := 1925) (by decide +kernel)⟩
theorem lw_p85 : lw_okq (⟨"HotThroughModel", "does", "(I)Z"⟩, 72) := ⟨⟨by decide +kernel, by decide +kernel⟩, List.mem_of_getElem? (i := 1366) (by decide +kernel), List.mem_of_getElem? (i := 1929) (by decide +kernel), List.mem_of_getElem? (i := 1930) (by decide +kernel)⟩
theorem lw_p86 : lw_okq (⟨"HotThroughModel", "canHold", "(I)Z"⟩, 72) := ⟨⟨by decide +kernel, by decide +kernel⟩, List.mem_of_getElem? (i := 1366) (by decide +kernel), List.mem_of_getElem? (i := 1937) (by decide +kernel), List.mem_of_getElem? (i := 1938) (by decide +kernel)⟩
theorem lw_p87 : lw_okq (⟨"HotThroughModel", "holdsOut", "(II)I"⟩, 72) := ⟨⟨by decide +kernel, by decide +kernel⟩, List.mem_of_getElem? (i := 1366) (by decide +kernel), List.mem_of_getElem? (i := 1941) (by decide +kernel), List.mem_of_getElem? (i := 1942) (by decide +kernel)⟩
theorem lw_p88 : lw_okq (⟨"HotThroughModel", "canThink", "(III)Z"⟩, 72) := ⟨⟨by decide +kernel, by decide +kernel⟩, List.mem_of_getElem? (i := 1366) (by decide +kernel), List.mem_of_getElem? (i := 1961) (by decide +kernel), List.mem_of_getElem? (i := 1962) (by decide +kernel)⟩
theorem lw_p89 : lw_okq (⟨"HotThroughModel", "soloBegins", "(II)V"⟩, 72) := ⟨⟨by decide +kernel, by decide +kernel⟩, List.mem_of_getElem? (i := 1366) (by decide +kernel), List.mem_of_getElem? (i := 1965) (by decide +kernel), List.mem_of_getElem? (i := 1966) (by decide +kernel)⟩
theorem lw_p90 : lw_okq (⟨"HotThroughModel", "soloHolds", "(IIII)I"⟩, 72) := ⟨⟨by decide +kernel, by decide +kernel⟩, List.mem_of_getElem? (i := 1366) (by decide +kernel), List.mem_of_getElem? (i := 1969) (by decide +kernel), List.mem_of_getElem? (i := 1970) (by decide +kernel)⟩
theorem lw_p91 : lw_okq (⟨"HotThroughModel", "laysWay", "(II)Z"⟩, 72) := ⟨⟨by decide +kernel, by decide +kernel⟩, List.mem_of_getElem? (i := 1366) (by decide +kernel), List.mem_of_getElem? (i := 1981) (by decide +kernel), List.mem_of_getElem? (i := 1982) (by decide +kernel)⟩
theorem lw_p92 : lw_okq (⟨"HotThroughModel", "laysApart", "(I)V"⟩, 72) := ⟨⟨by decide +kernel, by decide +kernel⟩, List.mem_of_getElem? (i := 1366) (by decide +kernel), List.mem_of_getElem? (i := 1985) (by decide +kernel), List.mem_of_getElem? (i := 1986) (by decide +kernel)⟩
theorem lw_p93 : lw_okq (⟨"HotThroughModel", "stepsOfWay", "()I"⟩, 72) := ⟨⟨by decide +kernel, by decide +kernel⟩, List.mem_of_getElem? (i := 1366) (by decide +kernel), List.mem_of_getElem? (i := 1990) (by decide +kernel), List.mem_of_getElem? (i := 1991) (by decide +kernel)⟩
theorem lw_p94 : lw_okq (⟨"HotThroughModel", "legOf", "(I)I"⟩, 72) := ⟨⟨by decide +kernel, by decide +kernel⟩, List.mem_of_getElem? (i := 1366) (by decide +kernel), List.mem_of_getElem? (i := 2002) (by decide +kernel), List.mem_of_getElem? (i := 2003) (by decide +kernel)⟩
theorem lw_p95 : lw_okq (⟨"HotThroughModel", "fewestRests", "(II)I"⟩, 72) := ⟨⟨by decide +kernel, by decide +kernel⟩, List.mem_of_getElem? (i := 1366) (by decide +kernel), List.mem_of_getElem? (i := 2011) (by decide +kernel), List.mem_of_getElem? (i := 2012) (by decide +kernel)⟩
def lw_privs_6 : List (MethodName × Nat) := [(⟨"HotThroughModel", "passes", "(I)I"⟩, 72), (⟨"HotThroughModel", "changesHand", "(I)I"⟩, 72), (⟨"HotThroughModel", "gives", "(II)I"⟩, 72), (⟨"HotThroughModel", "opens", "(II)I"⟩, 72), (⟨"HotThroughModel", "readsAct", "()Z"⟩, 72), (⟨"HotThroughModel", "does", "(I)Z"⟩, 72), (⟨"HotThroughModel", "canHold", "(I)Z"⟩, 72), (⟨"HotThroughModel", "holdsOut", "(II)I"⟩, 72), (⟨"HotThroughModel", "canThink", "(III)Z"⟩, 72), (⟨"HotThroughModel", "soloBegins", "(II)V"⟩, 72), (⟨"HotThroughModel", "soloHolds", "(IIII)I"⟩, 72), (⟨"HotThroughModel", "laysWay", "(II)Z"⟩, 72), (⟨"HotThroughModel", "laysApart", "(I)V"⟩, 72), (⟨"HotThroughModel", "stepsOfWay", "()I"⟩, 72), (⟨"HotThroughModel", "legOf", "(I)I"⟩, 72), (⟨"HotThroughModel", "fewestRests", "(II)I"⟩, 72)]
theorem lw_r6 : ∀ q ∈ lw_privs_6, lw_okq q := List.forall_mem_cons.mpr ⟨lw_p80, List.forall_mem_cons.mpr ⟨lw_p81, List.forall_mem_cons.mpr ⟨lw_p82, List.forall_mem_cons.mpr ⟨lw_p83, List.forall_mem_cons.mpr ⟨lw_p84, List.forall_mem_cons.mpr ⟨lw_p85, List.forall_mem_cons.mpr ⟨lw_p86, List.forall_mem_cons.mpr ⟨lw_p87, List.forall_mem_cons.mpr ⟨lw_p88, List.forall_mem_cons.mpr ⟨lw_p89, List.forall_mem_cons.mpr ⟨lw_p90, List.forall_mem_cons.mpr ⟨lw_p91, List.forall_mem_cons.mpr ⟨lw_p92, List.forall_mem_cons.mpr ⟨lw_p93, List.forall_mem_cons.mpr ⟨lw_p94, List.forall_mem_cons.mpr ⟨lw_p95, fun _ h => absurd h List.not_mem_nil⟩⟩⟩⟩⟩⟩⟩⟩⟩⟩⟩⟩⟩⟩⟩⟩
theorem lw_p96 : lw_okq (⟨"HotThroughModel", "isAhead", "(II)Z"⟩, 72) := ⟨⟨by decide +kernel, by decide +kernel⟩, List.mem_of_getElem? (i := 1366) (by decide +kernel), List.mem_of_getElem? (i := 2015) (by decide +kernel), List.mem_of_getElem? (i := 2016) (by decide +kernel)⟩
theorem lw_p97 : lw_okq (⟨"HotThroughModel", "canRest", "(I)Z"⟩, 72) := ⟨⟨by decide +kernel, by decide +kernel⟩, List.mem_of_getElem? (i := 1366) (by decide +kernel), List.mem_of_getElem? (i := 2023) (by decide +kernel), List.mem_of_getElem? (i := 2024) (by decide +kernel)⟩
theorem lw_p98 : lw_okq (⟨"HotThroughModel", "carries", "(III)Z"⟩, 72) := ⟨⟨by decide +kernel, by decide +kernel⟩, List.mem_of_getElem? (i := 1366) (by decide +kernel), List.mem_of_getElem? (i := 2027) (by decide +kernel), List.mem_of_getElem? (i := 2028) (by decide +kernel)⟩
theorem lw_p99 : lw_okq (⟨"HotThroughModel", "soloRests", "(II)V"⟩, 72) := ⟨⟨by decide +kernel, by decide +kernel⟩, List.mem_of_getElem? (i := 1366) (by decide +kernel), List.mem_of_getElem? (i := 2031) (by decide +kernel), List.mem_of_getElem? (i := 2032) (by decide +kernel)⟩
theorem lw_p100 : lw_okq (⟨"HotThroughModel", "carriesOn", "(IIIIIII)V"⟩, 72) := ⟨⟨by decide +kernel, by decide +kernel⟩, List.mem_of_getElem? (i := 1366) (by decide +kernel), List.mem_of_getElem? (i := 2043) (by decide +kernel), List.mem_of_getElem? (i := 2044) (by decide +kernel)⟩
theorem lw_p101 : lw_okq (⟨"HotThroughModel", "brings", "(IIIIIIII)V"⟩, 72) := ⟨⟨by decide +kernel, by decide +kernel⟩, List.mem_of_getElem? (i := 1366) (by decide +kernel), List.mem_of_getElem? (i := 2051) (by decide +kernel), List.mem_of_getElem? (i := 2052) (by decide +kernel)⟩
theorem lw_p102 : lw_okq (⟨"HotThroughModel", "coolsAll", "(II)V"⟩, 72) := ⟨⟨by decide +kernel, by decide +kernel⟩, List.mem_of_getElem? (i := 1366) (by decide +kernel), List.mem_of_getElem? (i := 2055) (by decide +kernel), List.mem_of_getElem? (i := 2056) (by decide +kernel)⟩
theorem lw_p103 : lw_okq (⟨"HotThroughModel", "walksOn", "(IIIII)V"⟩, 72) := ⟨⟨by decide +kernel, by decide +kernel⟩, List.mem_of_getElem? (i := 1366) (by decide +kernel), List.mem_of_getElem? (i := 2072) (by decide +kernel), List.mem_of_getElem? (i := 2073) (by decide +kernel)⟩
theorem lw_p104 : lw_okq (⟨"HotThroughModel", "marksAt", "(II)I"⟩, 72) := ⟨⟨by decide +kernel, by decide +kernel⟩, List.mem_of_getElem? (i := 1366) (by decide +kernel), List.mem_of_getElem? (i := 2076) (by decide +kernel), List.mem_of_getElem? (i := 2077) (by decide +kernel)⟩
theorem lw_p105 : lw_okq (⟨"HotThroughModel", "isLess", "(I)Z"⟩, 72) := ⟨⟨by decide +kernel, by decide +kernel⟩, List.mem_of_getElem? (i := 1366) (by decide +kernel), List.mem_of_getElem? (i := 2080) (by decide +kernel), List.mem_of_getElem? (i := 2081) (by decide +kernel)⟩
theorem lw_p106 : lw_okq (⟨"HotThroughModel", "dropped", "()I"⟩, 72) := ⟨⟨by decide +kernel, by decide +kernel⟩, List.mem_of_getElem? (i := 1366) (by decide +kernel), List.mem_of_getElem? (i := 2103) (by decide +kernel), List.mem_of_getElem? (i := 2104) (by decide +kernel)⟩
theorem lw_p107 : lw_okq (⟨"HotThroughModel", "burntAll", "()I"⟩, 72) := ⟨⟨by decide +kernel, by decide +kernel⟩, List.mem_of_getElem? (i := 1366) (by decide +kernel), List.mem_of_getElem? (i := 2107) (by decide +kernel), List.mem_of_getElem? (i := 2108) (by decide +kernel)⟩
def lw_privs_7 : List (MethodName × Nat) := [(⟨"HotThroughModel", "isAhead", "(II)Z"⟩, 72), (⟨"HotThroughModel", "canRest", "(I)Z"⟩, 72), (⟨"HotThroughModel", "carries", "(III)Z"⟩, 72), (⟨"HotThroughModel", "soloRests", "(II)V"⟩, 72), (⟨"HotThroughModel", "carriesOn", "(IIIIIII)V"⟩, 72), (⟨"HotThroughModel", "brings", "(IIIIIIII)V"⟩, 72), (⟨"HotThroughModel", "coolsAll", "(II)V"⟩, 72), (⟨"HotThroughModel", "walksOn", "(IIIII)V"⟩, 72), (⟨"HotThroughModel", "marksAt", "(II)I"⟩, 72), (⟨"HotThroughModel", "isLess", "(I)Z"⟩, 72), (⟨"HotThroughModel", "dropped", "()I"⟩, 72), (⟨"HotThroughModel", "burntAll", "()I"⟩, 72)]
theorem lw_r7 : ∀ q ∈ lw_privs_7, lw_okq q := List.forall_mem_cons.mpr ⟨lw_p96, List.forall_mem_cons.mpr ⟨lw_p97, List.forall_mem_cons.mpr ⟨lw_p98, List.forall_mem_cons.mpr ⟨lw_p99, List.forall_mem_cons.mpr ⟨lw_p100, List.forall_mem_cons.mpr ⟨lw_p101, List.forall_mem_cons.mpr ⟨lw_p102, List.forall_mem_cons.mpr ⟨lw_p103, List.forall_mem_cons.mpr ⟨lw_p104, List.forall_mem_cons.mpr ⟨lw_p105, List.forall_mem_cons.mpr ⟨lw_p106, List.forall_mem_cons.mpr ⟨lw_p107, fun _ h => absurd h List.not_mem_nil⟩⟩⟩⟩⟩⟩⟩⟩⟩⟩⟩⟩
def lw_privs : List (MethodName × Nat) := lw_privs_1 ++ (lw_privs_2 ++ (lw_privs_3 ++ (lw_privs_4 ++ (lw_privs_5 ++ (lw_privs_6 ++ (lw_privs_7))))))
def lw_tbl : List Cond := k2_sels lw_privs ++ tables_1
theorem lw_privs_ok : ∀ q ∈ lw_privs, lw_okq q := by
  show ∀ q ∈ lw_privs_1 ++ (lw_privs_2 ++ (lw_privs_3 ++ (lw_privs_4 ++ (lw_privs_5 ++ (lw_privs_6 ++ (lw_privs_7)))))), lw_okq q
  exact List.forall_mem_append.mpr ⟨lw_r1, List.forall_mem_append.mpr ⟨lw_r2, List.forall_mem_append.mpr ⟨lw_r3, List.forall_mem_append.mpr ⟨lw_r4, List.forall_mem_append.mpr ⟨lw_r5, List.forall_mem_append.mpr ⟨lw_r6, lw_r7⟩⟩⟩⟩⟩⟩
-- ===== end of PART A; then your names; then what follows =====
end
section
/-! numbers: ints of the machine as whole numbers -/
def inI (v : Int) : Prop := -2147483648 ≤ v ∧ v < 2147483648
def inL (v : Int) : Prop := -9223372036854775808 ≤ v ∧ v < 9223372036854775808
def w32 (v : Int) : Int := (v + 2147483648) % 4294967296 - 2147483648
theorem w32_in (v : Int) : inI (w32 v) := by unfold inI w32; omega
theorem w32_id {v : Int} (h : inI v) : w32 v = v := by unfold inI at h; unfold w32; omega
theorem w32_eq {v : Int} (h1 : -2147483648 ≤ v) (h2 : v < 2147483648) : w32 v = v := w32_id ⟨h1, h2⟩
theorem toInt_in (x : Int32) : inI x.toInt := ⟨by have := Int32.le_toInt x; omega, by have := Int32.toInt_lt x; omega⟩
theorem ofI_toInt {v : Int} (h : inI v) : (Int32.ofInt v).toInt = v := Int32.toInt_ofInt_of_le (by unfold inI at h; omega) (by unfold inI at h; omega)
theorem ofL_toInt {v : Int} (h : inL v) : (Int64.ofInt v).toInt = v := Int64.toInt_ofInt_of_le (by unfold inL at h; omega) (by unfold inL at h; omega)
theorem ofI_bmod (v : Int) : Int32.ofInt (w32 v) = Int32.ofInt v := by
  rw [← Int32.toInt_inj, Int32.toInt_ofInt, Int32.toInt_ofInt]
  unfold w32
  simp only [show Int32.size = 4294967296 from rfl]
  unfold Int.bmod
  dsimp only
  split <;> split <;> omega
theorem ofI_inj {a b : Int} (ha : inI a) (hb : inI b) : Int32.ofInt a = Int32.ofInt b ↔ a = b :=
  ⟨fun h => by rw [← ofI_toInt ha, ← ofI_toInt hb, h], fun h => by rw [h]⟩
theorem ofI_lt {a b : Int} (ha : inI a) (hb : inI b) : Int32.ofInt a < Int32.ofInt b ↔ a < b := by
  rw [Int32.lt_iff_toInt_lt, ofI_toInt ha, ofI_toInt hb]
theorem ofI_le {a b : Int} (ha : inI a) (hb : inI b) : Int32.ofInt a ≤ Int32.ofInt b ↔ a ≤ b := by
  rw [Int32.le_iff_toInt_le, ofI_toInt ha, ofI_toInt hb]
theorem inI_0 : inI 0 := by unfold inI; omega
theorem ofI_zero {a : Int} (ha : inI a) : Int32.ofInt a = 0 ↔ a = 0 := ofI_inj ha inI_0
theorem ofI_idx {i : Int} (h0 : 0 ≤ i) (h : i < 2147483648) : (Int32.ofInt i).toNatClampNeg = i.toNat := by
  show (Int32.ofInt i).toInt.toNat = i.toNat
  rw [ofI_toInt ⟨by omega, h⟩]
theorem ofI_not {i : Int} {n : Nat} (h0 : 0 ≤ i) (h : i < n) (hn : n < 2147483648) : ¬ (Int32.ofInt i < 0 ∨ n ≤ (Int32.ofInt i).toNatClampNeg) := by
  rw [ofI_idx h0 (by omega)]
  rintro (q | q)
  · rw [show (0 : Int32) = Int32.ofInt 0 from rfl, ofI_lt ⟨by omega, by omega⟩ inI_0] at q; omega
  · omega
def iand (a b : Int) : Int := (Int32.ofInt a &&& Int32.ofInt b).toInt
def ior (a b : Int) : Int := (Int32.ofInt a ||| Int32.ofInt b).toInt
def ixor (a b : Int) : Int := (Int32.ofInt a ^^^ Int32.ofInt b).toInt
def ishl (a b : Int) : Int := (Int32.ofInt a <<< (Int32.ofInt b &&& 31)).toInt
def ishr (a b : Int) : Int := (Int32.ofInt a >>> (Int32.ofInt b &&& 31)).toInt
def iushr (a b : Int) : Int := ((Int32.ofInt a).toUInt32 >>> ((Int32.ofInt b).toUInt32 &&& Int32.toUInt32 31)).toInt32.toInt
def idv (a b : Int) : Int := (Int32.ofInt a / Int32.ofInt b).toInt
def irm (a b : Int) : Int := (Int32.ofInt a - Int32.ofInt a / Int32.ofInt b * Int32.ofInt b).toInt
def i2b (a : Int) : Int := (Int32.ofInt a).toInt8.toInt32.toInt
def i2s (a : Int) : Int := (Int32.ofInt a).toInt16.toInt32.toInt
def i2c (a : Int) : Int := ((Int32.ofInt a).toUInt32 % 65536).toInt32.toInt
theorem idv_eq {a b : Int} (ha : inI a) (hb : inI b) (h : ¬ b = -1) : idv a b = a.tdiv b := by
  unfold idv
  rw [Int32.toInt_div_of_ne_right, ofI_toInt ha, ofI_toInt hb]
  rw [show (-1 : Int32) = Int32.ofInt (-1) from rfl, ne_eq, ofI_inj hb ⟨by omega, by omega⟩]
  exact h
theorem irm_eq {a b : Int} (ha : inI a) (hb : inI b) (h : ¬ b = -1) (h0 : ¬ b = 0) : irm a b = a.tmod b := by
  unfold irm
  have e := idv_eq ha hb h
  unfold idv at e
  have e2 : Int32.ofInt a / Int32.ofInt b = Int32.ofInt (a.tdiv b) := by rw [← e, Int32.ofInt_toInt]
  rw [e2, ← Int32.ofInt_mul, ← Int32.ofInt_sub]
  have e3 : a - a.tdiv b * b = a.tmod b := by rw [Int.tmod_def, Int.mul_comm]
  rw [e3, ofI_toInt]
  unfold inI at *
  have h1 := Int.natAbs_tmod a b
  have h2 : a.natAbs % b.natAbs < b.natAbs := Nat.mod_lt _ (by omega)
  omega
end
section

/-! ===== BEGIN exceptions that leave a method, and their catching by the caller (launches without stack traces) ===== -/
section VXA
/-! The laws vx_back, vx_callV, vx_callS, vx_callSW, vx_throw0, vx_throwS follow proofs of the library, with one case more: JvmDerived/Free/Laws.lean (Back.of_free), Shelf42/LK1.lean (callV, callS), Shelf/KitTraced.lean (throwNew0V, throwNewS). -/
/-- where a method has thrown q: the class by its name, the cell, what was written, the world -/
def vx_T (XC : String → State → State → Prop) (st : State) (q : Addr) (t : State) (mc ms : Nat) (free : Addr → Prop) : Prop :=
  ∃ (E : String) (ce : Cell) (L : List Loc), XC E st t ∧ t.heap[q]? = some ce ∧ ce.vm = .none ∧ st.vm.findClass E = some ce.cls ∧ st.WarmedH t.vm ∧ st.sameButNew ({ t with vm := st.vm } : State) L mc ms ∧ ∀ z ∈ L, free z.base
def vx_Q (Qc : Array Value → State → Outcome → State → Prop) (XC : String → State → State → Prop) (mc ms : Nat) (free : Addr → Prop) : Array Value → State → Outcome → State → Prop := fun a st o t =>
  (Qc a st o t ∧ ∃ L, FrameEnd st o t L mc ms ∧ ∀ q ∈ L, free q.base) ∨ ∃ q, o = .threw q ∧ vx_T XC st q t mc ms free
/-- a callee that returns or throws -/
def vx_Met (l : Launch) (y : MethodName) (ws : List Cond) (rm : Room) (Pc : Array Value → State → Prop) (Qc : Array Value → State → Outcome → State → Prop) (XC : String → State → State → Prop) (mc ms : Nat) (free : Addr → Prop) : Prop :=
  MetFree l y (headSpec ws rm) Pc (fun _ _ _ _ _ => True) (vx_Q Qc XC mc ms free)
def vx_Post (XC : String → State → State → Prop) (mc ms : Nat) (free : Addr → Prop) : Pt → Array Value → Addr → Pt → Prop := fun A a q B =>
  ∃ (g : JFrame) (mk : MethodId) (t : State) (L : List Loc) (E : String) (ce : Cell), B.U.heap = t.heap ∧ B.U.vm = t.vm ∧ XC E (A.U.calling g mk a) t ∧ t.heap[q]? = some ce ∧ ce.vm = .none ∧ A.U.vm.findClass E = some ce.cls ∧ B.locs = A.locs ++ L ∧ (∀ z ∈ L, free z.base) ∧ B.cells = A.cells + mc ∧ B.slots = A.slots + ms
def vx_Back (l : Launch) (R : Room) (p : Program) (e : Env) (below : List Frame) (s : State) (sargs : Array Value) (y : MethodName) (len W9 : Nat)
    (Pre : Pt → Array Value → Prop) (Post : Pt → Array Value → Option Value → Pt → Prop) (PostX : Pt → Array Value → Addr → Pt → Prop) : Prop :=
  ∀ (m : MethodId) (meth : Method) (c : Code) (A : Pt) (g : JFrame) (ig : Instr) (mk : MethodId) (a : Array Value),
    Stand p l e R s m sargs below meth c A.U A.locs A.cells A.slots → g.method = m → g.locals.size = c.maxLocals → decode c.code g.pc = .ok (ig, len) →
    2 * g.monitorRoom + (g.stack.map fun v => v.category).sum ≤ W9 → A.U.methodNamed? y = some mk → Pre A a →
    (∃ (v : Option Value) (B : Pt), Stand p l e R s m sargs below meth c B.U B.locs B.cells B.slots ∧ Post A a v B ∧
      Steps p.tables e below (doInvoke e (A.U.setTop g) [] mk a).1 (B.U.setTop { g with pc := g.pc + len, stack := v.toList ++ g.stack })) ∨
    (∃ (q : Addr) (B : Pt), Stand p l e R s m sargs below meth c B.U B.locs B.cells B.slots ∧ PostX A a q B ∧
      Steps p.tables e below (doInvoke e (A.U.setTop g) [] mk a).1 ((B.U.setTop g).pushFrame (.throwing q)))
section Payer
variable {l : Launch} {R : Room} {p : Program} {e : Env} {below : List Frame} {s : State} {sargs : Array Value} {y : MethodName} {len W9 : Nat}
theorem vx_back {ws : List Cond} {rm : Room} {Pc : Array Value → State → Prop} {Qc : Array Value → State → Outcome → State → Prop} {XC : String → State → State → Prop} {mc ms : Nat} {free : Addr → Prop} {bytes : ByteArray} {maxL : Nat} {ret : Option FieldType}
    (hM : vx_Met l y ws rm Pc Qc XC mc ms free) (hblind : FrameBlind Pc) (hrc : rm.cells = mc) (hrs : rm.slots = ms)
    (hframes : rm.frames + 1 ≤ R.frames) (hlocals : W9 + (maxL + 11) + rm.locals ≤ R.locals)
    (hws : ∀ w ∈ ws, ∀ a' U, s.WarmedH U.vm → w.before a' U = true) (hcode : Cond.code y bytes maxL ret ∈ ws) (hinit : ∀ a' U, s.WarmedH U.vm → (Cond.initialized y.cls).before a' U = true) :
    vx_Back l R p e below s sargs y len W9 (PreOf R mc ms Pc) (PostOf Qc mc ms free) (vx_Post XC mc ms free) := by
  intro m meth c A g ig mk a X hg hsize hdg hW hn hp
  have h1 : (headSpec ws rm).pre.before a A.U = true := atoms_intro fun w hw => hws w hw _ _ X.warmed
  have h2 : (Cond.code y bytes maxL ret).before a A.U = true := hws _ hcode _ _ X.warmed
  have h3 : (Cond.initialized y.cls).before a A.U = true := hinit _ _ X.warmed
  have h4 : A.cells + (headSpec ws rm).room.cells ≤ R.cells := by rw [show (headSpec ws rm).room.cells = mc from hrc]; exact hp.1
  have h5 : A.slots + (headSpec ws rm).room.slots ≤ R.slots := by rw [show (headSpec ws rm).room.slots = ms from hrs]; exact hp.2.1
  have hPc : Pc a (A.U.calling g mk a) := hblind _ _ _ _ hp.2.2
  obtain ⟨U, Ls, c0, s0⟩ := A
  dsimp only [Pt.U, Pt.locs, Pt.cells, Pt.slots] at h1 h2 h3 h4 h5 X hn hPc ⊢
  obtain ⟨methY, cY, hmY, hcY, -, hlY, -, -, -, -⟩ := Cond.code_spec hn h2
  obtain ⟨kY, hkY, -⟩ := className_of_methodNamed hn
  have hinitY : kY.init = .initialized := Cond.initialized_spec (findClass_of_methodNamed hn) hkY h3
  have h : At U g.method c below := by rw [hg]; exact X.here
  have hlocals9 : W9 + (maxL + 11) + (headSpec ws rm).room.locals ≤ R.locals := hlocals
  have happ : (headSpec ws rm).appliesLoose y e.platform (U.calling g mk a) = true :=
    Spec.appliesLoose_calling (g := g) h hdg hn hkY hinitY
      (X.room_calling (g := g) (R' := (headSpec ws rm).room) hsize hmY hcY hframes (by rw [hlY]; omega) h4 h5) h1
  obtain ⟨mid, hmid⟩ := h.above
  have hfr : (U.setTop g).frames = (.java g :: mid) ++ below := by rw [State.frames_setTop' g h.top, hmid]; rfl
  obtain ⟨o, s₂, hsteps, -, hend, hq⟩ := Steps.callFree hM p X.admits X.cas X.clock (acts := []) hfr happ hPc trivial
  have hq' : vx_Q Qc XC mc ms free a (U.calling g mk a) o s₂ := hq
  rw [State.frames_setTop' g h.top] at hend
  obtain ⟨g₀, hg0⟩ := Option.isSome_iff_exists.mp h.top
  obtain ⟨r, hr⟩ := State.topJava?_eq_some.mp hg0
  have hr' : (({ U with heap := s₂.heap, slotsUsed := s₂.slotsUsed } : State).setVm s₂.vm).frames = .java g₀ :: r := hr
  rcases hq' with ⟨hqc, L, hfe, hL⟩ | ⟨q, rfl, E, ce, L, hx, hce, hcv, hcl, hW₂, hsm, hL⟩
  · obtain ⟨⟨v, rfl⟩, hW₂, e2, q2, q3, q4, q5, q6⟩ := id hfe
    have e3 : s₂ = ({ (U.calling g mk a).setFrames s₂.frames with heap := s₂.heap, slotsUsed := s₂.slotsUsed } : State).setVm s₂.vm := by
      have : s₂ = ({ s₂ with vm := (U.calling g mk a).vm } : State).setVm s₂.vm := rfl
      rw [e2] at this
      exact this
    obtain ⟨c₂, i₂, len₂, hc₂, hd₂, hf₂⟩ := hend
    have hW' : U.WarmedH s₂.vm := hW₂
    have hcc : c₂ = c := by
      have h1 : s₂.code? g.method = U.code? g.method := by
        rw [State.code?_eq, State.code?_eq, hW'.alike.method?]
      exact Option.some.inj (hc₂.symm.trans (h1.trans h.code))
    subst hcc
    have hlen : len₂ = len := by rw [hdg] at hd₂; cases hd₂; rfl
    subst hlen
    have hs₂ : s₂ = (({ U with heap := s₂.heap, slotsUsed := s₂.slotsUsed } : State).setVm s₂.vm).setTop { g with pc := g.pc + len₂, stack := v.toList ++ g.stack } := by
      refine e3.trans ?_
      rw [hf₂, State.calling_eq h.top, State.setFrames_setFrames, State.setTop_of_frames _ hr', hr]
      rfl
    have hsame : U.sameButNew ({ U with heap := s₂.heap, slotsUsed := s₂.slotsUsed } : State) L mc ms := by
      refine ⟨?_, q2, q3, q4, q5, q6⟩
      obtain ⟨t, ht, -⟩ := State.frames_cons hr
      show ({ U with heap := s₂.heap, slotsUsed := s₂.slotsUsed } : State) = { U.setFrames U.frames with heap := s₂.heap, slotsUsed := s₂.slotsUsed }
      rw [State.setFrames_self ht]
    subst hg
    refine Or.inl ⟨v, ⟨(({ U with heap := s₂.heap, slotsUsed := s₂.slotsUsed } : State).setVm s₂.vm), Ls ++ L, c0 + mc, s0 + ms⟩,
      ⟨X.admits, X.cas, X.clock, X.frames, X.room, X.hears, X.method, X.code, (X.here.setHeapUsed s₂.heap s₂.slotsUsed).setVm hW'.alike, X.tail, State.WarmedH.trans X.warmed hW', X.limits, X.bytes, X.same.trans (hsame.setVm s.vm)⟩,
      ⟨g, mk, s₂, L, rfl, rfl, hqc, rfl, hL, rfl, rfl⟩, ?_⟩
    show Steps p.tables e below _ ((({ U with heap := s₂.heap, slotsUsed := s₂.slotsUsed } : State).setVm s₂.vm).setTop { g with pc := g.pc + len₂, stack := v.toList ++ g.stack })
    rw [← hs₂]
    exact hsteps
  · obtain ⟨e2, q2, q3, q4, q5, q6⟩ := id hsm
    have e3 : s₂ = ({ (U.calling g mk a).setFrames s₂.frames with heap := s₂.heap, slotsUsed := s₂.slotsUsed } : State).setVm s₂.vm := by
      have : s₂ = ({ s₂ with vm := (U.calling g mk a).vm } : State).setVm s₂.vm := rfl
      rw [e2] at this
      exact this
    have hf₂ : s₂.frames = .throwing q :: .java g :: U.frames.tail := hend
    have hW' : U.WarmedH s₂.vm := hW₂
    have hs₂ : s₂ = ((({ U with heap := s₂.heap, slotsUsed := s₂.slotsUsed } : State).setVm s₂.vm).setTop g).pushFrame (.throwing q) := by
      refine e3.trans ?_
      rw [hf₂, State.calling_eq h.top, State.setFrames_setFrames, State.pushFrame, State.frames_setTop _ hr', State.setTop_of_frames _ hr', State.setFrames_setFrames, hr]
      rfl
    have hsame : U.sameButNew ({ U with heap := s₂.heap, slotsUsed := s₂.slotsUsed } : State) L mc ms := by
      refine ⟨?_, q2, q3, q4, q5, q6⟩
      obtain ⟨t, ht, -⟩ := State.frames_cons hr
      show ({ U with heap := s₂.heap, slotsUsed := s₂.slotsUsed } : State) = { U.setFrames U.frames with heap := s₂.heap, slotsUsed := s₂.slotsUsed }
      rw [State.setFrames_self ht]
    subst hg
    refine Or.inr ⟨q, ⟨(({ U with heap := s₂.heap, slotsUsed := s₂.slotsUsed } : State).setVm s₂.vm), Ls ++ L, c0 + mc, s0 + ms⟩,
      ⟨X.admits, X.cas, X.clock, X.frames, X.room, X.hears, X.method, X.code, (X.here.setHeapUsed s₂.heap s₂.slotsUsed).setVm hW'.alike, X.tail, State.WarmedH.trans X.warmed hW', X.limits, X.bytes, X.same.trans (hsame.setVm s.vm)⟩,
      ⟨g, mk, s₂, L, E, ce, rfl, rfl, hx, hce, hcv, hcl, rfl, hL, rfl, rfl⟩, ?_⟩
    show Steps p.tables e below _ (((({ U with heap := s₂.heap, slotsUsed := s₂.slotsUsed } : State).setVm s₂.vm).setTop g).pushFrame (.throwing q))
    rw [← hs₂]
    exact hsteps
end Payer
section Calls
variable {p : Program} {l : Launch} {e : Env} {R : Room} {s : State} {m : MethodId} {args : Array Value} {below : List Frame} {meth : Method} {c : Code} {T : State} {locs : List Loc} {cells slots : Nat}
theorem vx_callV (X : Stand p l e R s m args below meth c T locs cells slots) (hexec : p.tables.exec = Jvm.exec) {own C : String} {index : Nat} {y : MethodName} {bytes : ByteArray} {maxL : Nat} {ret : Option FieldType}
    (hown : s.vm.findClass own = some m.cls) (hlink : (Cond.methodLink own index y).before args s = true) (hinst : (Cond.instanceMethod y).before args s = true) (hsel : (Cond.selects C y y).before args s = true)
    (hcode : (Cond.code y bytes maxL ret).before args s = true) (hy : y.cls ≠ "java/lang/invoke/MethodHandle" ∧ y.cls ≠ "java/lang/invoke/VarHandle")
    {W9 : Nat} {Pre : Pt → Array Value → Prop} {Post : Pt → Array Value → Option Value → Pt → Prop} {PostX : Pt → Array Value → Addr → Pt → Prop} (hK : vx_Back l R p e below s args y 3 W9 Pre Post PostX)
    {b : Addr} {cellB : Cell} (hcell : T.heap[b]? = some cellB) (hobj : cellB.vm.isStatics = false) (hcls : s.vm.findClass C = some cellB.cls)
    {g : JFrame} (hg : g.method = m) (hsize : g.locals.size = c.maxLocals) {argsL rest : List Value} (hlen : ∀ sig, parseMethodDescriptor y.desc = some sig → argsL.length = sig.parameters.length)
    (hstack : g.stack = argsL.reverse ++ .ref b :: rest) (hW : 2 * g.monitorRoom + (rest.map fun v => v.category).sum ≤ W9) (hdg : decode c.code g.pc = .ok (.invokevirtual index, 3))
    (hpre : ∀ vm₁, s.WarmedH vm₁ → Pre ⟨T.setVm vm₁, locs, cells, slots⟩ (Value.ref b :: argsL).toArray) :
    (∃ (v : Option Value) (vm₁ : Vm) (B : Pt), s.WarmedH vm₁ ∧ Stand p l e R s m args below meth c B.U B.locs B.cells B.slots ∧ Post ⟨T.setVm vm₁, locs, cells, slots⟩ (Value.ref b :: argsL).toArray v B ∧
      ∀ target, Steps p.tables e below (B.U.setTop { g with pc := g.pc + 3, stack := v.toList ++ rest }) target → Steps p.tables e below (T.setTop g) target) ∨
    (∃ (q : Addr) (vm₁ : Vm) (B : Pt), s.WarmedH vm₁ ∧ Stand p l e R s m args below meth c B.U B.locs B.cells B.slots ∧ PostX ⟨T.setVm vm₁, locs, cells, slots⟩ (Value.ref b :: argsL).toArray q B ∧
      Steps p.tables e below (T.setTop g) ((B.U.setTop { g with stack := rest }).pushFrame (.throwing q))) := by
  obtain ⟨mk, methM, hnamed, hmethM, hstM, habM⟩ := Cond.instanceMethod_spec hinst
  obtain ⟨methM', cM, hmethM', -, -, -, -, -, -, hsigM⟩ := Cond.code_spec hnamed hcode
  cases hmethM.symm.trans hmethM'
  obtain ⟨c2, r2, m2, q1, q2, q3, q4, kP, hkP, hkPi⟩ := Cond.selects_spec hsel
  cases hcls.symm.trans q1
  cases (State.methodFound?_of_named hnamed hy).symm.trans q2
  cases hnamed.symm.trans q3
  have hselP : selectMethod e.platform s.vm cellB.cls mk = .method mk := by rw [Launch.admits_selectMethod X.admits]; exact q4
  obtain ⟨vm₁, X₁, hstep₁⟩ := X.invokevirtual hexec hown hlink hnamed hmethM hstM hkP hkPi hy (a := b) (cell := cellB) hcell
    (fun z h => by rw [h] at hobj; cases hobj) hselP hmethM habM hkP hkPi (g := g) hg (argsL := argsL) (rest := rest) (hlen _ hsigM) hstack hdg
  rcases hK m meth c ⟨T.setVm vm₁, locs, cells, slots⟩ { g with stack := rest } (.invokevirtual index) mk (Value.ref b :: argsL).toArray X₁ hg hsize hdg hW (X₁.named hnamed) (hpre vm₁ X₁.warmed) with ⟨v, B, X', hpost, hsteps⟩ | ⟨q, B, X', hpost, hsteps⟩
  · exact Or.inl ⟨v, vm₁, B, X₁.warmed, X', hpost, fun target h => hstep₁ _ fun acts => by rw [doInvoke_state]; exact hsteps.trans h⟩
  · exact Or.inr ⟨q, vm₁, B, X₁.warmed, X', hpost, hstep₁ _ fun acts => by rw [doInvoke_state]; exact hsteps⟩
theorem vx_callS (X : Stand p l e R s m args below meth c T locs cells slots) (hexec : p.tables.exec = Jvm.exec) {own : String} {index : Nat} {y : MethodName} {bytes : ByteArray} {maxL : Nat} {ret : Option FieldType}
    (hown : s.vm.findClass own = some m.cls) (hlink : (Cond.methodLink own index y).before args s = true) (hstat : (Cond.static y).before args s = true) (hinit : (Cond.initialized y.cls).before args s = true)
    (hcode : (Cond.code y bytes maxL ret).before args s = true) (hy : y.cls ≠ "java/lang/invoke/MethodHandle" ∧ y.cls ≠ "java/lang/invoke/VarHandle")
    {W9 : Nat} {Pre : Pt → Array Value → Prop} {Post : Pt → Array Value → Option Value → Pt → Prop} {PostX : Pt → Array Value → Addr → Pt → Prop} (hK : vx_Back l R p e below s args y 3 W9 Pre Post PostX)
    {g : JFrame} (hg : g.method = m) (hsize : g.locals.size = c.maxLocals) {argsL rest : List Value} (hlen : ∀ sig, parseMethodDescriptor y.desc = some sig → argsL.length = sig.parameters.length)
    (hstack : g.stack = argsL.reverse ++ rest) (hW : 2 * g.monitorRoom + (rest.map fun v => v.category).sum ≤ W9) (hdg : decode c.code g.pc = .ok (.invokestatic index, 3))
    (hpre : ∀ vm₁, s.WarmedH vm₁ → Pre ⟨T.setVm vm₁, locs, cells, slots⟩ argsL.toArray) :
    (∃ (v : Option Value) (vm₁ : Vm) (B : Pt), s.WarmedH vm₁ ∧ Stand p l e R s m args below meth c B.U B.locs B.cells B.slots ∧ Post ⟨T.setVm vm₁, locs, cells, slots⟩ argsL.toArray v B ∧
      ∀ target, Steps p.tables e below (B.U.setTop { g with pc := g.pc + 3, stack := v.toList ++ rest }) target → Steps p.tables e below (T.setTop g) target) ∨
    (∃ (q : Addr) (vm₁ : Vm) (B : Pt), s.WarmedH vm₁ ∧ Stand p l e R s m args below meth c B.U B.locs B.cells B.slots ∧ PostX ⟨T.setVm vm₁, locs, cells, slots⟩ argsL.toArray q B ∧
      Steps p.tables e below (T.setTop g) ((B.U.setTop { g with stack := rest }).pushFrame (.throwing q))) := by
  obtain ⟨mk, hnamed⟩ := Cond.code_named hcode
  obtain ⟨methM, cM, hmethM, -, -, -, -, -, -, hsigM⟩ := Cond.code_spec hnamed hcode
  have hstatic : methM.isStatic = true := Cond.static_spec hnamed hmethM hstat
  obtain ⟨kP, hkP, -⟩ := className_of_methodNamed hnamed
  have hinitP : kP.init = .initialized := Cond.initialized_spec (findClass_of_methodNamed hnamed) hkP hinit
  obtain ⟨vm₁, X₁, hstep₁⟩ := X.invokestatic hexec hown hlink hnamed hmethM hstatic hkP hinitP hy (g := g) hg (argsL := argsL) (rest := rest) (hlen _ hsigM) hstack hdg
  rcases hK m meth c ⟨T.setVm vm₁, locs, cells, slots⟩ { g with stack := rest } (.invokestatic index) mk argsL.toArray X₁ hg hsize hdg hW (X₁.named hnamed) (hpre vm₁ X₁.warmed) with ⟨v, B, X', hpost, hsteps⟩ | ⟨q, B, X', hpost, hsteps⟩
  · exact Or.inl ⟨v, vm₁, B, X₁.warmed, X', hpost, fun target h => hstep₁ _ fun acts => by rw [doInvoke_state]; exact hsteps.trans h⟩
  · exact Or.inr ⟨q, vm₁, B, X₁.warmed, X', hpost, hstep₁ _ fun acts => by rw [doInvoke_state]; exact hsteps⟩
end Calls
theorem vx_cls {s : State} {T : State} {vm₁ : Vm} {E : String} {k : ClassId} (hW : s.WarmedH vm₁) (h : (T.setVm vm₁).vm.findClass E = some k) : s.vm.findClass E = some k := by
  have h1 : vm₁.findClass E = some k := h
  rw [hW.alike.findClass] at h1
  exact h1
/-- the method's frame g, with q thrown over it -/
def vx_W (p : Program) (l : Launch) (e : Env) (R : Room) (s : State) (m : MethodId) (args : Array Value) (below : List Frame) (meth : Method) (c : Code) (H : Heap) (locs : List Loc) (cells slots : Nat) (Q : State → Prop) (g : JFrame) (q : Addr) : Prop :=
  ∀ T : State, T.heap = H → Stand p l e R s m args below meth c T locs cells slots → ∃ t, Steps p.tables e below ((T.setTop g).pushFrame (.throwing q)) t ∧ Q t
def vx_Run (p : Program) (l : Launch) (e : Env) (R : Room) (s : State) (m : MethodId) (args : Array Value) (below : List Frame) (meth : Method) (c : Code) (H : Heap) (locs : List Loc) (cells slots mc ms : Nat) (g : JFrame) (rest : List Value) (Qa : State → Outcome → State → Prop) (XC : String → State → State → Prop) (free : Addr → Prop) : Prop :=
  ∀ T : State, T.heap = H → Stand p l e R s m args below meth c T locs cells slots →
    (∃ (v : Option Value) (st₀ t T' : State) (L : List Loc), st₀.heap = H ∧ Stand p l e R s m args below meth c T' (locs ++ L) (cells + mc) (slots + ms) ∧ (∀ q ∈ L, free q.base) ∧ T'.heap = t.heap ∧ T'.vm = t.vm ∧ Qa st₀ (.returned v) t ∧
      Goes p e below T g T' { g with pc := g.pc + 3, stack := v.toList ++ rest }) ∨
    (∃ (q : Addr) (st₀ t T' : State) (L : List Loc) (E : String) (ce : Cell), st₀.heap = H ∧ Stand p l e R s m args below meth c T' (locs ++ L) (cells + mc) (slots + ms) ∧ (∀ z ∈ L, free z.base) ∧ T'.heap = t.heap ∧ T'.vm = t.vm ∧ XC E st₀ t ∧ t.heap[q]? = some ce ∧ ce.vm = .none ∧ s.vm.findClass E = some ce.cls ∧
      Steps p.tables e below (T.setTop g) ((T'.setTop { g with stack := rest }).pushFrame (.throwing q)))
def vx_X {S : Type} (px : S → Prop) (B : String → S → State → Prop) (A : Nat → Prop) : String → State → State → Prop := fun E st t => ∃ u : S, px u ∧ B E u t ∧ va_F A st t
section Runs
variable {p : Program} {l : Launch} {e : Env} {R : Room} {s : State} {m : MethodId} {args : Array Value} {below : List Frame} {meth : Method} {c : Code} {H : Heap} {locs : List Loc} {cells slots : Nat}
variable {y : MethodName} {bytes cc : ByteArray} {maxL nL mc ms n index : Nat} {ret : Option FieldType} {ws : List Cond} {rm : Room} {Pc : Array Value → State → Prop} {Qc : Array Value → State → Outcome → State → Prop} {XC : String → State → State → Prop} {free : Addr → Prop} {Ts : List Cond} {own C : String} {b : Addr} {As rest : List Value} {g : JFrame}
theorem vx_callBack (cb : CallB R s args own index y bytes maxL ret ws rm mc ms n) (hM : vx_Met l y ws rm Pc Qc XC mc ms free) (hbl : FrameBlind Pc) : vx_Back l R p e below s args y 3 8 (PreOf R mc ms Pc) (PostOf Qc mc ms free) (vx_Post XC mc ms free) := by
  obtain ⟨hrc, hrs, hfr, hlo, hws, hcw, -, hini, -⟩ := cb
  exact vx_back (bytes := bytes) (maxL := maxL) (ret := ret) hM hbl hrc hrs hfr hlo hws hcw (fun a' U hW => word_at hW (Or.inl (by first | rfl | simp [Cond.onTables, Cond.keeps, Cond.steady])) hini)
theorem vx_runV (S : CallFix p m c cc nL s args Ts own) (hM : vx_Met l y ws rm Pc Qc XC mc ms free) (cw : CallW R s args own C index y bytes maxL ret ws rm mc ms n) (hp : PreV s H C b Pc As)
    (hg : g.method = m) (hn : As.length = n) (hsize : g.locals.size = nL) (hstack : g.stack = As.reverse ++ .ref b :: rest) (hW : 2 * g.monitorRoom + (rest.map fun v => v.category).sum ≤ 8) (hdg : decode cc g.pc = .ok (.invokevirtual index, 3)) (hf : cells + mc ≤ R.cells ∧ slots + ms ≤ R.slots) :
    vx_Run p l e R s m args below meth c H locs cells slots mc ms g rest (Qc (Value.ref b :: As).toArray) XC free := by
  have hK : vx_Back l R p e below s args y 3 8 (PreOf R mc ms Pc) (PostOf Qc mc ms free) (vx_Post XC mc ms free) := vx_callBack cw.1 hM hp.1
  obtain ⟨⟨-, -, -, -, -, -, hcode, -, hy, hlen, hl⟩, hin, hse⟩ := cw
  obtain ⟨hx, hb, hml, ho, -⟩ := S
  obtain ⟨-, ⟨cellB, hcB, hoB, hclB⟩, hPc⟩ := hp
  intro T hT X
  rcases vx_callV X hx (C := C) (bytes := bytes) (maxL := maxL) (ret := ret) ho hl hin hse hcode hy hK (by rw [hT]; exact hcB) hoB hclB hg (hsize.trans hml.symm) (argsL := As) (rest := rest) (fun sig h => hn.trans (hlen sig h)) hstack hW (by rw [hb]; exact hdg)
    (fun vm₁ hW₁ => ⟨hf.1, hf.2, hPc (T.setVm vm₁) hT hW₁⟩) with ⟨v, vm₁, ⟨U', l2, c2, s2⟩, hW₁, X', ⟨g', mk, t, L, e1, e2, hq, h1, hL, h2, h3⟩, st⟩ | ⟨q, vm₁, ⟨U', l2, c2, s2⟩, hW₁, X', ⟨g', mk, t, L, E, ce, e1, e2, hq, hce, hcv, hcl, h1, hL, h2, h3⟩, st⟩
  · dsimp only [Pt.U, Pt.locs, Pt.cells, Pt.slots] at X' e1 e2 h1 h2 h3 st
    subst h1; subst h2; subst h3
    exact Or.inl ⟨v, (T.setVm vm₁).calling g' mk (Value.ref b :: As).toArray, t, U', L, hT, X', hL, e1, e2, hq, st⟩
  · dsimp only [Pt.U, Pt.locs, Pt.cells, Pt.slots] at X' e1 e2 h1 h2 h3 st hcl
    subst h1; subst h2; subst h3
    exact Or.inr ⟨q, (T.setVm vm₁).calling g' mk (Value.ref b :: As).toArray, t, U', L, E, ce, hT, X', hL, e1, e2, hq, hce, hcv, vx_cls hW₁ hcl, st⟩
theorem vx_runS (S : CallFix p m c cc nL s args Ts own) (hM : vx_Met l y ws rm Pc Qc XC mc ms free) (cw : CallB R s args own index y bytes maxL ret ws rm mc ms n ∧ (Cond.static y).before args s = true) (hp : PreS s H Pc As)
    (hg : g.method = m) (hn : As.length = n) (hsize : g.locals.size = nL) (hstack : g.stack = As.reverse ++ rest) (hW : 2 * g.monitorRoom + (rest.map fun v => v.category).sum ≤ 8) (hdg : decode cc g.pc = .ok (.invokestatic index, 3)) (hf : cells + mc ≤ R.cells ∧ slots + ms ≤ R.slots) :
    vx_Run p l e R s m args below meth c H locs cells slots mc ms g rest (Qc As.toArray) XC free := by
  have hK : vx_Back l R p e below s args y 3 8 (PreOf R mc ms Pc) (PostOf Qc mc ms free) (vx_Post XC mc ms free) := vx_callBack cw.1 hM hp.1
  obtain ⟨⟨-, -, -, -, -, -, hcode, hini, hy, hlen, hl⟩, hstt⟩ := cw
  obtain ⟨hx, hb, hml, ho, -⟩ := S
  intro T hT X
  rcases vx_callS X hx (bytes := bytes) (maxL := maxL) (ret := ret) ho hl hstt hini hcode hy hK hg (hsize.trans hml.symm) (argsL := As) (rest := rest) (fun sig h => hn.trans (hlen sig h)) hstack hW (by rw [hb]; exact hdg)
    (fun vm₁ hW₁ => ⟨hf.1, hf.2, hp.2 (T.setVm vm₁) hT hW₁⟩) with ⟨v, vm₁, ⟨U', l2, c2, s2⟩, hW₁, X', ⟨g', mk, t, L, e1, e2, hq, h1, hL, h2, h3⟩, st⟩ | ⟨q, vm₁, ⟨U', l2, c2, s2⟩, hW₁, X', ⟨g', mk, t, L, E, ce, e1, e2, hq, hce, hcv, hcl, h1, hL, h2, h3⟩, st⟩
  · dsimp only [Pt.U, Pt.locs, Pt.cells, Pt.slots] at X' e1 e2 h1 h2 h3 st
    subst h1; subst h2; subst h3
    exact Or.inl ⟨v, (T.setVm vm₁).calling g' mk As.toArray, t, U', L, hT, X', hL, e1, e2, hq, st⟩
  · dsimp only [Pt.U, Pt.locs, Pt.cells, Pt.slots] at X' e1 e2 h1 h2 h3 st hcl
    subst h1; subst h2; subst h3
    exact Or.inr ⟨q, (T.setVm vm₁).calling g' mk As.toArray, t, U', L, E, ce, hT, X', hL, e1, e2, hq, hce, hcv, vx_cls hW₁ hcl, st⟩
end Runs
section Rows
variable {p : Program} {l : Launch} {e : Env} {R : Room} {s : State} {m : MethodId} {args : Array Value} {below : List Frame} {meth : Method} {c : Code} {H : Heap} {locs : List Loc} {cells slots : Nat} {Q : State → Prop}
variable {mc ms : Nat} {free : Addr → Prop} {A0 A1 : Nat → Prop} {H0 : Heap} {a : Array Value} {pc : Nat} {ls : Array Slot} {st0 rest : List Value}
theorem vx_keep {st₀ t T' : State} {L : List Loc} (h0 : st₀.heap = H) (e1 : T'.heap = t.heap) (hS : va_S A0 H0 H locs) (hA : ∀ q, q < H.size → A1 q → A0 q) (hf : ∀ q, free q → A0 q) (hL : ∀ q ∈ L, free q.base) (hF : va_F A1 st₀ t) :
    H.size ≤ T'.heap.size ∧ (∀ q : Nat, q < H.size → ¬ A1 q → T'.heap[q]? = H[q]?) ∧ va_S A0 H0 T'.heap (locs ++ L) := by
  obtain ⟨hz, hk⟩ := hF
  rw [h0] at hz hk
  exact ⟨by rw [e1]; exact hz, fun q h1 h2 => by rw [e1]; exact hk q h1 h2,
    ⟨Nat.le_trans hS.1 (by rw [e1]; exact hz), fun q h1 h2 => by rw [e1, hk q (Nat.lt_of_lt_of_le h1 hS.1) (fun z => h2 (hA q (Nat.lt_of_lt_of_le h1 hS.1) z))]; exact hS.2.1 q h1 h2, fun q hq => by
      rcases List.mem_append.mp hq with h | h
      · exact hS.2.2 q h
      · exact hf _ (hL q h)⟩⟩
theorem vx_calli {S SX : Type} {post : Int32 → S → Prop} {px : SX → Prop} {B : S → State → Prop} {BX : String → SX → State → Prop} {AX : Nat → Prop} (hr : vx_Run p l e R s m args below meth c H locs cells slots mc ms (F0 m pc ls st0) rest (va_Qi post B A1 a) (vx_X px BX AX) free) (hS : va_S A0 H0 H locs) (hA : ∀ q, q < H.size → A1 q → A0 q) (hf : ∀ q, free q → A0 q) (hAX : ∀ q, q < H.size → AX q → A0 q)
    (kx : ∀ (E : String) (ce : Cell) (q9 : Addr) (u : SX) (t : State) (H1 : Heap) (locs1 : List Loc), t.heap = H1 → s.vm.Alike t.vm → px u → BX E u t → H.size ≤ H1.size → (∀ q : Nat, q < H.size → ¬ AX q → H1[q]? = H[q]?) → va_S A0 H0 H1 locs1 → H1[q9]? = some ce → ce.vm = .none → s.vm.findClass E = some ce.cls → vx_W p l e R s m args below meth c H1 locs1 (cells + mc) (slots + ms) Q (F0 m pc ls rest) q9)
    (kk : ∀ (r : Int32) (u : S) (t : State) (H1 : Heap) (locs1 : List Loc), t.heap = H1 → s.vm.Alike t.vm → post r u → B u t → H.size ≤ H1.size → (∀ q : Nat, q < H.size → ¬ A1 q → H1[q]? = H[q]?) → va_S A0 H0 H1 locs1 → W p l e R s m args below meth c H1 locs1 (cells + mc) (slots + ms) Q (F0 m (pc + 3) ls (.int r :: rest))) : W p l e R s m args below meth c H locs cells slots Q (F0 m pc ls st0) := by
  intro T hT X
  rcases hr T hT X with ⟨v, st₀, t, T', L, h0, X', hL, e1, e2, ⟨⟨r, u, hv, hp, hb⟩, hF⟩, st⟩ | ⟨q, st₀, t, T', L, E, ce, h0, X', hL, e1, e2, ⟨u, hp, hb, hF⟩, hce, hcv, hcl, st⟩
  · cases hv
    obtain ⟨k1, k2, k3⟩ := vx_keep h0 e1 hS hA hf hL hF
    obtain ⟨t2, a1, b1⟩ := kk r u t T'.heap (locs ++ L) e1.symm (by rw [← e2]; exact X'.warmed.alike) hp hb k1 k2 k3 T' rfl X'
    exact ⟨t2, st t2 a1, b1⟩
  · obtain ⟨k1, k2, k3⟩ := vx_keep h0 e1 hS hAX hf hL hF
    obtain ⟨t2, a1, b1⟩ := kx E ce q u t T'.heap (locs ++ L) e1.symm (by rw [← e2]; exact X'.warmed.alike) hp hb k1 k2 k3 (by rw [e1]; exact hce) hcv hcl T' rfl X'
    exact ⟨t2, st.trans a1, b1⟩
theorem vx_calll {S SX : Type} {post : Int64 → S → Prop} {px : SX → Prop} {B : S → State → Prop} {BX : String → SX → State → Prop} {AX : Nat → Prop} (hr : vx_Run p l e R s m args below meth c H locs cells slots mc ms (F0 m pc ls st0) rest (va_Ql post B A1 a) (vx_X px BX AX) free) (hS : va_S A0 H0 H locs) (hA : ∀ q, q < H.size → A1 q → A0 q) (hf : ∀ q, free q → A0 q) (hAX : ∀ q, q < H.size → AX q → A0 q)
    (kx : ∀ (E : String) (ce : Cell) (q9 : Addr) (u : SX) (t : State) (H1 : Heap) (locs1 : List Loc), t.heap = H1 → s.vm.Alike t.vm → px u → BX E u t → H.size ≤ H1.size → (∀ q : Nat, q < H.size → ¬ AX q → H1[q]? = H[q]?) → va_S A0 H0 H1 locs1 → H1[q9]? = some ce → ce.vm = .none → s.vm.findClass E = some ce.cls → vx_W p l e R s m args below meth c H1 locs1 (cells + mc) (slots + ms) Q (F0 m pc ls rest) q9)
    (kk : ∀ (r : Int64) (u : S) (t : State) (H1 : Heap) (locs1 : List Loc), t.heap = H1 → s.vm.Alike t.vm → post r u → B u t → H.size ≤ H1.size → (∀ q : Nat, q < H.size → ¬ A1 q → H1[q]? = H[q]?) → va_S A0 H0 H1 locs1 → W p l e R s m args below meth c H1 locs1 (cells + mc) (slots + ms) Q (F0 m (pc + 3) ls (.long r :: rest))) : W p l e R s m args below meth c H locs cells slots Q (F0 m pc ls st0) := by
  intro T hT X
  rcases hr T hT X with ⟨v, st₀, t, T', L, h0, X', hL, e1, e2, ⟨⟨r, u, hv, hp, hb⟩, hF⟩, st⟩ | ⟨q, st₀, t, T', L, E, ce, h0, X', hL, e1, e2, ⟨u, hp, hb, hF⟩, hce, hcv, hcl, st⟩
  · cases hv
    obtain ⟨k1, k2, k3⟩ := vx_keep h0 e1 hS hA hf hL hF
    obtain ⟨t2, a1, b1⟩ := kk r u t T'.heap (locs ++ L) e1.symm (by rw [← e2]; exact X'.warmed.alike) hp hb k1 k2 k3 T' rfl X'
    exact ⟨t2, st t2 a1, b1⟩
  · obtain ⟨k1, k2, k3⟩ := vx_keep h0 e1 hS hAX hf hL hF
    obtain ⟨t2, a1, b1⟩ := kx E ce q u t T'.heap (locs ++ L) e1.symm (by rw [← e2]; exact X'.warmed.alike) hp hb k1 k2 k3 (by rw [e1]; exact hce) hcv hcl T' rfl X'
    exact ⟨t2, st.trans a1, b1⟩
theorem vx_callf {S SX : Type} {post : UInt32 → S → Prop} {px : SX → Prop} {B : S → State → Prop} {BX : String → SX → State → Prop} {AX : Nat → Prop} (hr : vx_Run p l e R s m args below meth c H locs cells slots mc ms (F0 m pc ls st0) rest (va_Qf post B A1 a) (vx_X px BX AX) free) (hS : va_S A0 H0 H locs) (hA : ∀ q, q < H.size → A1 q → A0 q) (hf : ∀ q, free q → A0 q) (hAX : ∀ q, q < H.size → AX q → A0 q)
    (kx : ∀ (E : String) (ce : Cell) (q9 : Addr) (u : SX) (t : State) (H1 : Heap) (locs1 : List Loc), t.heap = H1 → s.vm.Alike t.vm → px u → BX E u t → H.size ≤ H1.size → (∀ q : Nat, q < H.size → ¬ AX q → H1[q]? = H[q]?) → va_S A0 H0 H1 locs1 → H1[q9]? = some ce → ce.vm = .none → s.vm.findClass E = some ce.cls → vx_W p l e R s m args below meth c H1 locs1 (cells + mc) (slots + ms) Q (F0 m pc ls rest) q9)
    (kk : ∀ (r : UInt32) (u : S) (t : State) (H1 : Heap) (locs1 : List Loc), t.heap = H1 → s.vm.Alike t.vm → post r u → B u t → H.size ≤ H1.size → (∀ q : Nat, q < H.size → ¬ A1 q → H1[q]? = H[q]?) → va_S A0 H0 H1 locs1 → W p l e R s m args below meth c H1 locs1 (cells + mc) (slots + ms) Q (F0 m (pc + 3) ls (.float r :: rest))) : W p l e R s m args below meth c H locs cells slots Q (F0 m pc ls st0) := by
  intro T hT X
  rcases hr T hT X with ⟨v, st₀, t, T', L, h0, X', hL, e1, e2, ⟨⟨r, u, hv, hp, hb⟩, hF⟩, st⟩ | ⟨q, st₀, t, T', L, E, ce, h0, X', hL, e1, e2, ⟨u, hp, hb, hF⟩, hce, hcv, hcl, st⟩
  · cases hv
    obtain ⟨k1, k2, k3⟩ := vx_keep h0 e1 hS hA hf hL hF
    obtain ⟨t2, a1, b1⟩ := kk r u t T'.heap (locs ++ L) e1.symm (by rw [← e2]; exact X'.warmed.alike) hp hb k1 k2 k3 T' rfl X'
    exact ⟨t2, st t2 a1, b1⟩
  · obtain ⟨k1, k2, k3⟩ := vx_keep h0 e1 hS hAX hf hL hF
    obtain ⟨t2, a1, b1⟩ := kx E ce q u t T'.heap (locs ++ L) e1.symm (by rw [← e2]; exact X'.warmed.alike) hp hb k1 k2 k3 (by rw [e1]; exact hce) hcv hcl T' rfl X'
    exact ⟨t2, st.trans a1, b1⟩
theorem vx_calld {S SX : Type} {post : UInt64 → S → Prop} {px : SX → Prop} {B : S → State → Prop} {BX : String → SX → State → Prop} {AX : Nat → Prop} (hr : vx_Run p l e R s m args below meth c H locs cells slots mc ms (F0 m pc ls st0) rest (va_Qd post B A1 a) (vx_X px BX AX) free) (hS : va_S A0 H0 H locs) (hA : ∀ q, q < H.size → A1 q → A0 q) (hf : ∀ q, free q → A0 q) (hAX : ∀ q, q < H.size → AX q → A0 q)
    (kx : ∀ (E : String) (ce : Cell) (q9 : Addr) (u : SX) (t : State) (H1 : Heap) (locs1 : List Loc), t.heap = H1 → s.vm.Alike t.vm → px u → BX E u t → H.size ≤ H1.size → (∀ q : Nat, q < H.size → ¬ AX q → H1[q]? = H[q]?) → va_S A0 H0 H1 locs1 → H1[q9]? = some ce → ce.vm = .none → s.vm.findClass E = some ce.cls → vx_W p l e R s m args below meth c H1 locs1 (cells + mc) (slots + ms) Q (F0 m pc ls rest) q9)
    (kk : ∀ (r : UInt64) (u : S) (t : State) (H1 : Heap) (locs1 : List Loc), t.heap = H1 → s.vm.Alike t.vm → post r u → B u t → H.size ≤ H1.size → (∀ q : Nat, q < H.size → ¬ A1 q → H1[q]? = H[q]?) → va_S A0 H0 H1 locs1 → W p l e R s m args below meth c H1 locs1 (cells + mc) (slots + ms) Q (F0 m (pc + 3) ls (.double r :: rest))) : W p l e R s m args below meth c H locs cells slots Q (F0 m pc ls st0) := by
  intro T hT X
  rcases hr T hT X with ⟨v, st₀, t, T', L, h0, X', hL, e1, e2, ⟨⟨r, u, hv, hp, hb⟩, hF⟩, st⟩ | ⟨q, st₀, t, T', L, E, ce, h0, X', hL, e1, e2, ⟨u, hp, hb, hF⟩, hce, hcv, hcl, st⟩
  · cases hv
    obtain ⟨k1, k2, k3⟩ := vx_keep h0 e1 hS hA hf hL hF
    obtain ⟨t2, a1, b1⟩ := kk r u t T'.heap (locs ++ L) e1.symm (by rw [← e2]; exact X'.warmed.alike) hp hb k1 k2 k3 T' rfl X'
    exact ⟨t2, st t2 a1, b1⟩
  · obtain ⟨k1, k2, k3⟩ := vx_keep h0 e1 hS hAX hf hL hF
    obtain ⟨t2, a1, b1⟩ := kx E ce q u t T'.heap (locs ++ L) e1.symm (by rw [← e2]; exact X'.warmed.alike) hp hb k1 k2 k3 (by rw [e1]; exact hce) hcv hcl T' rfl X'
    exact ⟨t2, st.trans a1, b1⟩
theorem vx_callv {S SX : Type} {post : S → Prop} {px : SX → Prop} {B : S → State → Prop} {BX : String → SX → State → Prop} {AX : Nat → Prop} (hr : vx_Run p l e R s m args below meth c H locs cells slots mc ms (F0 m pc ls st0) rest (va_Qv post B A1 a) (vx_X px BX AX) free) (hS : va_S A0 H0 H locs) (hA : ∀ q, q < H.size → A1 q → A0 q) (hf : ∀ q, free q → A0 q) (hAX : ∀ q, q < H.size → AX q → A0 q)
    (kx : ∀ (E : String) (ce : Cell) (q9 : Addr) (u : SX) (t : State) (H1 : Heap) (locs1 : List Loc), t.heap = H1 → s.vm.Alike t.vm → px u → BX E u t → H.size ≤ H1.size → (∀ q : Nat, q < H.size → ¬ AX q → H1[q]? = H[q]?) → va_S A0 H0 H1 locs1 → H1[q9]? = some ce → ce.vm = .none → s.vm.findClass E = some ce.cls → vx_W p l e R s m args below meth c H1 locs1 (cells + mc) (slots + ms) Q (F0 m pc ls rest) q9)
    (kk : ∀ (u : S) (t : State) (H1 : Heap) (locs1 : List Loc), t.heap = H1 → s.vm.Alike t.vm → post u → B u t → H.size ≤ H1.size → (∀ q : Nat, q < H.size → ¬ A1 q → H1[q]? = H[q]?) → va_S A0 H0 H1 locs1 → W p l e R s m args below meth c H1 locs1 (cells + mc) (slots + ms) Q (F0 m (pc + 3) ls (rest))) : W p l e R s m args below meth c H locs cells slots Q (F0 m pc ls st0) := by
  intro T hT X
  rcases hr T hT X with ⟨v, st₀, t, T', L, h0, X', hL, e1, e2, ⟨⟨u, hv, hp, hb⟩, hF⟩, st⟩ | ⟨q, st₀, t, T', L, E, ce, h0, X', hL, e1, e2, ⟨u, hp, hb, hF⟩, hce, hcv, hcl, st⟩
  · cases hv
    obtain ⟨k1, k2, k3⟩ := vx_keep h0 e1 hS hA hf hL hF
    obtain ⟨t2, a1, b1⟩ := kk u t T'.heap (locs ++ L) e1.symm (by rw [← e2]; exact X'.warmed.alike) hp hb k1 k2 k3 T' rfl X'
    exact ⟨t2, st t2 a1, b1⟩
  · obtain ⟨k1, k2, k3⟩ := vx_keep h0 e1 hS hAX hf hL hF
    obtain ⟨t2, a1, b1⟩ := kx E ce q u t T'.heap (locs ++ L) e1.symm (by rw [← e2]; exact X'.warmed.alike) hp hb k1 k2 k3 (by rw [e1]; exact hce) hcv hcl T' rfl X'
    exact ⟨t2, st.trans a1, b1⟩
/-- caught by the row x of this method's table; the rows ahead don't take it -/
theorem vx_catch {own name : String} {E : String} {ce : Cell} {q : Addr} (hown : s.vm.findClass own = some m.cls) (pre : List ExceptionTableEntry) (x : ExceptionTableEntry) (suf : List ExceptionTableEntry) (hsplit : c.exceptionTable.toList = pre ++ x :: suf)
    (hpass : ∀ z ∈ pre, covers z pc = false ∨ (z.catchType ≠ 0 ∧ ∃ nm : String, (Cond.classLink own z.catchType nm).before args s = true ∧ va_Nc E nm s)) (hx : covers x pc = true) (h0 : x.catchType ≠ 0)
    (hlink : (Cond.classLink own x.catchType name).before args s = true) (hcast : (Cond.castable E name).before args s = true) (hcell : H[q]? = some ce) (hv : ce.vm = .none) (hcl : s.vm.findClass E = some ce.cls)
    (kk : W p l e R s m args below meth c H locs cells slots Q (F0 m x.handlerPc ls [.ref q])) : vx_W p l e R s m args below meth c H locs cells slots Q (F0 m pc ls rest) q := by
  intro T hT X
  have hpl : e.platform.magicAccessors = ({} : Platform).magicAccessors := by rw [X.admits.platform]
  obtain ⟨c3, c4, hc3, hc4, hasg⟩ := Cond.castable_spec hcast
  cases Option.some.inj (hc3.symm.trans hcl)
  obtain ⟨c5, hc5, hcl5⟩ := Cond.classLink_spec hown hlink e.platform hpl
  cases Option.some.inj (hc4.symm.trans hc5)
  obtain ⟨vm', X', st⟩ := X.thenCaughtThrough q (g := F0 m pc ls rest) rfl (Steps.refl _) (by rw [hT]; exact hcell) (by rw [hv]; rfl) (by obtain ⟨k9, h9, -⟩ := Vm.findClass_spec hcl; exact ⟨k9, h9⟩) pre x suf hsplit
    (fun z hz => by
      rcases hpass z hz with h | ⟨hz0, nm, hl1, hn1⟩
      · exact Or.inl h
      · obtain ⟨c6, hc6, hcl6⟩ := Cond.classLink_spec hown hl1 e.platform hpl
        obtain ⟨a8, b8, h1, h2, h3⟩ := hn1
        cases Option.some.inj (h1.symm.trans hcl)
        cases Option.some.inj (h2.symm.trans hc6)
        exact Or.inr ⟨hz0, _, hcl6, h3⟩) hx (Or.inr ⟨h0, c4, hcl5, hasg⟩)
  obtain ⟨t, a1, b1⟩ := kk (T.setVm vm') hT X'
  exact ⟨t, st.trans a1, b1⟩
end Rows
section Ends
variable {p : Program} {l : Launch} {e : Env} {R : Room} {s : State} {m : MethodId} {args : Array Value} {below : List Frame} {meth : Method} {c : Code} {H : Heap} {locs : List Loc} {cells slots : Nat} {Q : State → Prop}
variable {mc ms : Nat} {free : Addr → Prop} {A0 A1 : Nat → Prop} {H0 : Heap} {a : Array Value} {ls : Array Slot} {st0 rest : List Value}
variable {Qc : Array Value → State → Outcome → State → Prop} {XC : String → State → State → Prop}
/-- what a body that may throw owes at its end -/
def vx_MQ (below : List Frame) (Qc : Array Value → State → Outcome → State → Prop) (XC : String → State → State → Prop) (a : Array Value) (s : State) (mc ms : Nat) (free : Addr → Prop) : State → Prop := fun t =>
  ∃ o, t.status = .running ∧ Ended t below o ∧ vx_Q Qc XC mc ms free a s o t
theorem vx_ret {g : JFrame} {mc ms : Nat} (k : W p l e R s m args below meth c H locs cells slots (MQ below Qc args s mc ms free) g) : W p l e R s m args below meth c H locs cells slots (vx_MQ below Qc XC args s mc ms free) g := by
  intro T hT X
  obtain ⟨t, a1, o, b1, b2, b3, b4⟩ := k T hT X
  exact ⟨t, a1, o, b1, b2, Or.inl ⟨b3, b4⟩⟩
/-- not caught here: it goes on to the caller -/
theorem vx_widen {g : JFrame} {q : Addr} {k n : Nat} (h1 : cells ≤ k) (h2 : slots ≤ n) (kk : vx_W p l e R s m args below meth c H locs k n Q g q) : vx_W p l e R s m args below meth c H locs cells slots Q g q := fun T hT X => kk T hT (stand_widen X h1 h2)
theorem vx_out {pc : Nat} {E : String} {ce : Cell} {q : Addr} {mc ms : Nat} (hout : ∀ x ∈ c.exceptionTable.toList, covers x pc = false) (hlocks : meth.locks = false) (hcell : H[q]? = some ce) (hv : ce.vm = .none) (hcl : s.vm.findClass E = some ce.cls)
    (hx : ∀ t : State, t.heap = H → s.vm.Alike t.vm → XC E s t) (hf : ∀ z ∈ locs, free z.base) (hc : cells ≤ mc) (hs : slots ≤ ms) :
    vx_W p l e R s m args below meth c H locs cells slots (vx_MQ below Qc XC args s mc ms free) (F0 m pc ls rest) q := by
  intro T hT X
  obtain ⟨st1, hrun, hend, hW, hsm⟩ := X.leaveThrown q (g := F0 m pc ls rest) rfl rfl rfl hout hlocks
  have hcell9 : (T.setFrames (.throwing q :: below)).heap[q]? = some ce := by
    show T.heap[q]? = some ce
    rw [hT]; exact hcell
  exact ⟨_, st1, .threw q, hrun, hend, Or.inr ⟨q, rfl, E, ce, locs, hx _ hT hW.alike, hcell9, hv, hcl, hW, hsm.mono hc hs, hf⟩⟩
theorem vx_frame {U : State} {k n : Nat} (h : s.sameButNew ({ U with vm := s.vm } : State) locs k n) : s.heap.size ≤ U.heap.size ∧ ∀ q : Nat, q < s.heap.size → (∀ z ∈ locs, z.base ≠ q) → U.heap[q]? = s.heap[q]? := by
  obtain ⟨-, h2, -, -, -, h6⟩ := h
  refine ⟨h2, fun q hq hz => ?_⟩
  obtain ⟨c9, e1, e2, e3, e4⟩ := h6 q _ (Array.getElem?_eq_getElem hq)
  have hs : c9.slots = (s.heap[q]).slots := Array.ext_getElem? fun i => e4 i fun hm => hz _ hm rfl
  have h9 : c9 = s.heap[q] := by
    rw [hs] at e2
    exact e2
  have e5 : U.heap[q]? = some c9 := e1
  rw [e5, h9, Array.getElem?_eq_getElem hq]
/-- the words of a throw but the four that speak of the heap -/
def vx_no (w : Cond) : Bool := decide (w ≠ .isRef (.static Bundle.tN "UNASSIGNED_STACK" Bundle.steD)) && decide (w ≠ .isRef (.static Bundle.tN "SUPPRESSED_SENTINEL" Bundle.listD)) && decide (w ≠ .laysStatic Bundle.tN "UNASSIGNED_STACK" Bundle.steD) && decide (w ≠ .laysStatic Bundle.tN "SUPPRESSED_SENTINEL" Bundle.listD)
def vx_at0 (own : String) (ic : Nat) (X : String) (names : List String) : List Cond := (Bundle.ownAtoms0 own ic X names).filter vx_no
def vx_atS (own : String) (ic : Nat) (X : String) (names : List String) : List Cond := (Bundle.ownAtoms own ic X names).filter vx_no
/-- a word that the tables alone decide, or a good one -/
def vx_ot (w : Cond) : Bool := w.onTables || goodWord w
theorem vx_ot_at {args a' : Array Value} {s U : State} {w : Cond} (hW : s.WarmedH U.vm) (hvm : s.vm = U.vm) (hg : vx_ot w = true) (h : w.before args s = true) : w.before a' U = true := by
  simp only [vx_ot, Bool.or_eq_true] at hg
  rcases hg with hg | hg
  · exact va_tabs hg hvm h
  · exact word_at hW (good_of_word hg) h
/-- a list's words: the good ones out of the method's own list, the others by premises of their own -/
theorem vx_hat {args : Array Value} {s : State} {L B : List Cond} (h1 : ∀ w ∈ L.filter goodWord, w.before args s = true) (h2 : ∀ w ∈ L.filter (fun w => !goodWord w), w ∈ B) (h3 : ∀ w ∈ B, w.before args s = true) : ∀ w ∈ L, w.before args s = true := by
  intro w hw
  by_cases g : goodWord w = true
  · exact h1 w (List.mem_filter.mpr ⟨hw, g⟩)
  · refine h3 w (h2 w (List.mem_filter.mpr ⟨hw, ?_⟩))
    show (!goodWord w) = true
    cases hgw : goodWord w
    · rfl
    · exact absurd hgw g
theorem vx_c {args : Array Value} {s : State} {w : Cond} {B : List Cond} (h : w.before args s = true) (t : ∀ w ∈ B, w.before args s = true) : ∀ w' ∈ w :: B, w'.before args s = true := fun w' h' => (List.mem_cons.mp h').elim (fun e => by rw [e]; exact h) (t w')
theorem vx_n {args : Array Value} {s : State} : ∀ w ∈ ([] : List Cond), w.before args s = true := fun _ h => nomatch h
theorem vx_own {args : Array Value} {s : State} {L : List Cond} (h1 : ∀ w ∈ L.filter vx_no, w.before args s = true)
    (hU : (Cond.isRef (.static Bundle.tN "UNASSIGNED_STACK" Bundle.steD)).before args s = true) (hN : (Cond.isRef (.static Bundle.tN "SUPPRESSED_SENTINEL" Bundle.listD)).before args s = true)
    (lU : (Cond.laysStatic Bundle.tN "UNASSIGNED_STACK" Bundle.steD).before args s = true) (lN : (Cond.laysStatic Bundle.tN "SUPPRESSED_SENTINEL" Bundle.listD).before args s = true) : ∀ w ∈ L, w.before args s = true := by
  intro w hw
  by_cases e1 : w = .isRef (.static Bundle.tN "UNASSIGNED_STACK" Bundle.steD)
  · rw [e1]; exact hU
  · by_cases e2 : w = .isRef (.static Bundle.tN "SUPPRESSED_SENTINEL" Bundle.listD)
    · rw [e2]; exact hN
    · by_cases e3 : w = .laysStatic Bundle.tN "UNASSIGNED_STACK" Bundle.steD
      · rw [e3]; exact lU
      · by_cases e4 : w = .laysStatic Bundle.tN "SUPPRESSED_SENTINEL" Bundle.listD
        · rw [e4]; exact lN
        · exact h1 w (List.mem_filter.mpr ⟨hw, by unfold vx_no; rw [decide_eq_true e1, decide_eq_true e2, decide_eq_true e3, decide_eq_true e4]; rfl⟩)
/-- where a static field lies, its class's statics cell in H -/
def vx_L (C n d : String) (A : Nat → Prop) (U : State) (H : Heap) : Prop := ∃ (c : ClassId) (k : Class) (i : Nat) (f : Field) (a : Nat) (cell : Cell), U.vm.findClass C = some c ∧ U.fieldFound? C n d = some (c, k, i, f) ∧ f.isStatic = true ∧ k.statics = some a ∧ H[a]? = some cell ∧ cell.vm.isStatics = true ∧ cell.cls = c ∧ f.slot < cell.slots.size ∧ k.staticTypes[f.slot]? = some f.type ∧ ¬ A a
theorem vx_L.moved {C n d : String} {A : Nat → Prop} {u U : State} {H : Heap} (hvm : u.vm.Alike U.vm) (h : vx_L C n d A u H) : vx_L C n d A U H := by
  obtain ⟨c, k, i, f, a, cell, h1, h2, h3, h4, h5, h6, h7, h8, h9, h10⟩ := h
  obtain ⟨k', hi', he⟩ := State.fieldFound?_setVm hvm h2
  exact ⟨c, k', i, f, a, cell, by rw [hvm.findClass]; exact h1, hi', h3, by rw [he]; exact h4, h5, h6, h7, h8, by rw [he]; exact h9, h10⟩
theorem vx_L.kept {C n d : String} {A : Nat → Prop} {U : State} {H H1 : Heap} (h : vx_L C n d A U H) (hq : ∀ a : Nat, a < H.size → ¬ A a → H1[a]? = H[a]?) : vx_L C n d A U H1 := by
  obtain ⟨c, k, i, f, a, cell, h1, h2, h3, h4, h5, h6, h7, h8, h9, h10⟩ := h
  exact ⟨c, k, i, f, a, cell, h1, h2, h3, h4, by rw [hq a (Array.getElem?_eq_some_iff.mp h5).1 h10]; exact h5, h6, h7, h8, h9, h10⟩
theorem vx_L.narrow {C n d : String} {A B : Nat → Prop} {U : State} {H : Heap} (h : vx_L C n d A U H) (hAB : ∀ q, B q → A q) : vx_L C n d B U H := by
  obtain ⟨c, k, i, f, a, cell, h1, h2, h3, h4, h5, h6, h7, h8, h9, h10⟩ := h
  exact ⟨c, k, i, f, a, cell, h1, h2, h3, h4, h5, h6, h7, h8, h9, fun z => h10 (hAB _ z)⟩
theorem vx_L.word {C n d : String} {A : Nat → Prop} {s : State} {args : Array Value} (h : vx_L C n d A s s.heap) : (Cond.laysStatic C n d).before args s = true := by
  obtain ⟨c, k, i, f, a, cell, h1, h2, h3, h4, h5, h6, h7, h8, h9, -⟩ := h
  show (Cond.laysStatic C n d).holds args s none s [] = true
  exact Cond.laysStatic_of h1 h2 h3 h4 h5 h6 h7 h8 h9
/-- .. and what it holds: null or some reference -/
def vx_Zq (C n d : String) (A : Nat → Prop) (U : State) (H : Heap) : Prop := va_Zq C n d A U H ∧ vx_L C n d A U H
theorem vx_Zq.moved {C n d : String} {A : Nat → Prop} {u U : State} {H : Heap} (hvm : u.vm.Alike U.vm) (h : vx_Zq C n d A u H) : vx_Zq C n d A U H := ⟨va_Zq.moved hvm h.1, vx_L.moved hvm h.2⟩
theorem vx_Zq.kept {C n d : String} {A : Nat → Prop} {U : State} {H H1 : Heap} (h : vx_Zq C n d A U H) (hq : ∀ a : Nat, a < H.size → ¬ A a → H1[a]? = H[a]?) : vx_Zq C n d A U H1 := ⟨va_Zq.kept h.1 hq, vx_L.kept h.2 hq⟩
theorem vx_Zq.narrow {C n d : String} {A B : Nat → Prop} {U : State} {H : Heap} (h : vx_Zq C n d A U H) (hAB : ∀ q, B q → A q) : vx_Zq C n d B U H := ⟨va_Zq.narrow h.1 hAB, vx_L.narrow h.2 hAB⟩
theorem vx_Zqof {args : Array Value} {s : State} {C n d : String} {A : Nat → Prop} (hl : (Cond.laysStatic C n d).before args s = true) (hini : (Cond.initialized C).before args s = true) (h : (Cond.isRef (.static C n d)).before args s = true) (hA : ∀ a : Nat, a < s.heap.size → ¬ A a) : vx_Zq C n d A s s.heap := by
  refine ⟨va_Zqof hl hini h hA, ?_⟩
  obtain ⟨c, k, i, f, a, cell, h1, h2, h3, h4, h5, h6, h7, h8, h9⟩ := Cond.laysStatic_spec hl
  exact ⟨c, k, i, f, a, cell, h1, h2, h3, h4, h5, h6, h7, h8, h9, hA a (Array.getElem?_eq_some_iff.mp h5).1⟩
theorem vx_isRef {C n d : String} {v : Value} {A : Nat → Prop} {s : State} {args : Array Value} (h : va_Z C n d v A s s.heap) (hv : v.isRef = true) : (Cond.isRef (.static C n d)).before args s = true := by
  obtain ⟨cf, kf, fi, f, a, cell, h1, h2, h3, h4, h5, h6, h7, -⟩ := h
  have he : (Term.static C n d).eval args s none [] s = some v := by
    simp [Term.eval, State.fieldNamed?, h1, h2, h4, h5, h6, h7]
  simp only [Cond.before, Cond.holds, Cond.value, he]
  cases v <;> simp_all [Value.isRef]
theorem vx_isRefq {C n d : String} {A : Nat → Prop} {s : State} {args : Array Value} (h : va_Zq C n d A s s.heap) : (Cond.isRef (.static C n d)).before args s = true := by
  rcases h with h | ⟨t, h⟩
  · exact vx_isRef h rfl
  · exact vx_isRef h rfl
/-- the same frame, seen from here: as if the method were called anew in this heap -/
theorem vx_rebase {T : State} (X : Stand p l e R s m args below meth c T locs cells slots) {R' : Room} (hf : R'.frames ≤ R.frames) (hl : R'.locals ≤ R.locals) (hc : cells + R'.cells ≤ R.cells) (hs : slots + R'.slots ≤ R.slots) :
    Stand p l e R' ((T.setVm s.vm).setFrames (.invoking m args :: below)) m args below meth c T [] 0 0 := by
  have htop : (T.setVm s.vm).topJava?.isSome := X.here.top
  have hF : ((T.setVm s.vm).setFrames (.invoking m args :: below)).frames = .invoking m args :: below := State.frames_setFrames _ (State.cur_lt_of_top htop)
  obtain ⟨g₀, hg0⟩ := Option.isSome_iff_exists.mp htop
  obtain ⟨r, hr⟩ := State.topJava?_eq_some.mp hg0
  have hl9 : e.platform.stackLimits (T.setVm s.vm).me = e.platform.stackLimits s.me := X.limits
  have hb9 : (T.setVm s.vm).me.stackBytes = s.me.stackBytes := X.bytes
  refine ⟨X.admits, X.cas, X.clock, hF, ?_, X.hears, X.method, X.code, X.here, X.tail, X.warmed, ?_, ?_, ?_⟩
  · have h := X.room
    have hU : ((T.setVm s.vm).setFrames (.invoking m args :: below)).localsInUse = s.localsInUse := by
      rw [State.localsInUse_invoking hF (meth := meth) (c := c) X.method X.code, State.localsInUse_invoking X.frames X.method X.code]
    simp only [State.hasRoom, Bool.and_eq_true, decide_eq_true_eq] at h ⊢
    obtain ⟨⟨⟨⟨h1, h2, h3, h4, h5, h6⟩, h7⟩, h8⟩, h9⟩ := h
    rw [X.frames, List.length_cons] at h2 h3
    have q1 := X.heapSize
    have q2 := X.used
    simp only [hF, hU, List.length_cons, State.stackLimits_setFrames, State.stackBytes_setFrames, hl9, hb9]
    refine ⟨⟨⟨⟨by omega, by omega, by omega, by omega, by omega, h6⟩, ?_⟩, ?_⟩, X.book⟩
    · show T.heap.size + R'.cells ≤ e.platform.maxCells
      omega
    · show T.slotsUsed + R'.slots ≤ e.platform.maxSlots
      omega
  · rw [State.stackLimits_setFrames]; rfl
  · rw [State.stackBytes_setFrames]; rfl
  · refine ⟨?_, Nat.le_refl _, Nat.le_refl _, ?_, ?_, fun a c9 h9 => ⟨c9, h9, rfl, rfl, fun _ _ => rfl⟩⟩
    · obtain ⟨t, ht, -⟩ := State.frames_cons hr
      show T.setVm s.vm = { ((T.setVm s.vm).setFrames (.invoking m args :: below)).setFrames (T.setVm s.vm).frames with heap := T.heap, slotsUsed := T.slotsUsed }
      rw [State.setFrames_setFrames, State.setFrames_self ht]
      rfl
    · show T.slotsUsed = T.slotsUsed + ((T.heap.toList.drop T.heap.size).map (·.slots.size)).sum
      rw [List.drop_eq_nil_of_le (Nat.le_of_eq Array.length_toList)]
      rfl
    · show ((T.heap.toList.drop T.heap.size).map (·.slots.size)).sum ≤ 0
      rw [List.drop_eq_nil_of_le (Nat.le_of_eq Array.length_toList)]
      exact Nat.le_refl _
/-- 'throw new E()': new; dup; invokespecial; athrow -/
theorem vx_throw0 {cc : ByteArray} {pc : Nat} (hexec : p.tables.exec = Jvm.exec) (hb : c.code = cc) (hl : l.stackTraces = false) {own cls : String} {names : List String} {ik ic mc ms : Nat} {A : Nat → Prop}
    (hown : s.vm.findClass own = some m.cls) (hcls : Bundle.fit cls = true) (hnames : ∀ n ∈ names, Bundle.fit n = true)
    (hk : (Cond.classLink own ik cls).before args s = true) (hini : (Cond.initialized cls).before args s = true) (hat : ∀ w ∈ vx_at0 own ic cls names, w.before args s = true)
    (hgood : ∀ w ∈ Cond.classLink own ik cls :: Cond.initialized cls :: vx_at0 own ic cls names, vx_ot w = true)
    (hU : vx_Zq Bundle.tN "UNASSIGNED_STACK" Bundle.steD A s s.heap) (hN : vx_Zq Bundle.tN "SUPPRESSED_SENTINEL" Bundle.listD A s s.heap) (hS : va_S A s.heap H locs) (hsize : ls.size = c.maxLocals)
    (d0 : decode cc pc = .ok (.new ik, 3)) (d3 : decode cc (pc + 3) = .ok (.dup, 1)) (d4 : decode cc (pc + 4) = .ok (.invokespecial ic, 3)) (d7 : decode cc (pc + 7) = .ok (.athrow, 1))
    (hout : ∀ x ∈ c.exceptionTable.toList, covers x (pc + 7) = false)
    (hRframes : names.length + 3 < R.frames) (hRlocals : (rest.map fun v => v.category).sum + (13 * (names.length + 1) + 42) ≤ R.locals) (hRcells : cells + 1 ≤ R.cells) (hRslots : slots + 6 ≤ R.slots) (hlocks : meth.locks = false)
    (hx : ∀ t : State, s.vm.Alike t.vm → H.size ≤ t.heap.size → (∀ q : Nat, q < H.size → t.heap[q]? = H[q]?) → XC cls s t)
    (hf : ∀ z ∈ locs, free z.base) (hc : cells + 1 ≤ mc) (hs : slots + 6 ≤ ms) :
    W p l e R s m args below meth c H locs cells slots (vx_MQ below Qc XC args s mc ms free) (F0 m pc ls rest) := by
  intro T hT X
  have htr : e.platform.stackTraces = false := (show e.platform.stackTraces = l.stackTraces by rw [X.admits.platform]).trans hl
  have Y := vx_rebase X (R' := { frames := R.frames, locals := R.locals, cells := 1, slots := 6 }) (Nat.le_refl _) (Nat.le_refl _) hRcells hRslots
  obtain ⟨s', hA⟩ : ∃ z, z = (T.setVm s.vm).setFrames (.invoking m args :: below) := ⟨_, rfl⟩
  rw [← hA] at Y
  have hvm : s'.vm = s.vm := by rw [hA]; rfl
  have hhp : s'.heap = H := by rw [hA]; exact hT
  have hW0 : s.WarmedH s'.vm := by rw [hvm]; exact State.WarmedH.refl s
  have hat' : ∀ w ∈ vx_at0 own ic cls names, w.before args s' = true := fun w hw => vx_ot_at hW0 hvm.symm (hgood w (List.mem_cons_of_mem _ (List.mem_cons_of_mem _ hw))) (hat w hw)
  have hk' : (Cond.classLink own ik cls).before args s' = true := vx_ot_at hW0 hvm.symm (hgood _ List.mem_cons_self) hk
  have hini' : (Cond.initialized cls).before args s' = true := vx_ot_at hW0 hvm.symm (hgood _ (List.mem_cons_of_mem _ List.mem_cons_self)) hini
  have hU' : vx_Zq Bundle.tN "UNASSIGNED_STACK" Bundle.steD A s' s'.heap := by rw [hhp]; exact vx_Zq.moved hW0.alike (hU.kept hS.2.1)
  have hN' : vx_Zq Bundle.tN "SUPPRESSED_SENTINEL" Bundle.listD A s' s'.heap := by rw [hhp]; exact vx_Zq.moved hW0.alike (hN.kept hS.2.1)
  have h : ∀ w ∈ Bundle.ownAtoms0 own ic cls names, w.before args s' = true := vx_own hat' (vx_isRefq hU'.1) (vx_isRefq hN'.1) hU'.2.word hN'.2.word
  have hown' : s'.vm.findClass own = some m.cls := by rw [hvm]; exact hown
  have hins : (Cond.instantiable cls 6).before args s' = true := h _ (by simp [Bundle.ownAtoms0])
  obtain ⟨vm₁, cX, kX, hfX, hkX, -, -, X₁, st1⟩ := Y.newCold hexec (own := own) (C := cls) (index := ik) (n := 6) hown' hk' hins hini'
    (g := F0 m pc ls rest) rfl (by rw [hb]; exact d0) (Nat.le_refl _) (Nat.le_refl _)
  generalize hT1 : (T.setVm vm₁).pushCell { cls := cX, slots := kX.instanceTypes.map defaultValue, vm := .none } = T1 at X₁ st1
  have hcat : (Value.ref T.heap.size).category = 1 := rfl
  have hcellA : T1.heap[T.heap.size]? = some (freshCell cX kX) := by rw [← hT1]; exact State.heap_pushCell_size _ _
  have d3' : decode c.code (pc + 3) = .ok (.dup, 1) := by rw [hb]; exact d3
  obtain ⟨U, hsteps, hrun, hend, hW, hsame, ce, hce, hO⟩ := X₁.ctorThrow0 hexec htr (own := own) (cls := cls) (names := names) (ic := ic) hown' hcls hnames h (fun x hx => nomatch hx) hfX hkX hcellA (by rw [hhp, hT]; exact Nat.le_refl _)
    (g := { method := m, pc := pc + 4, locals := ls, stack := .ref T.heap.size :: .ref T.heap.size :: rest, locked := none }) rfl hsize rfl rfl (rest := rest) rfl
    (by rw [hb]; exact d4) (by rw [hb]; exact d7) hout hRframes (by simp only [List.map_cons, List.sum_cons, hcat]; omega) hlocks
  obtain ⟨f1, f2⟩ := vx_frame hsame
  rw [hhp] at f1 f2
  have hWs : s.WarmedH U.vm := State.WarmedH.trans hW0 hW
  have hcl : s.vm.findClass cls = some ce.cls := by
    have h9 := hO.cls
    rw [hvm] at h9
    exact h9
  have hall : s.sameButNew ({ U with vm := s.vm } : State) locs mc ms := by
    subst hA
    obtain ⟨e1, e2⟩ := hsame
    rw [State.setFrames_setFrames] at e1
    have h2 : (T.setVm s.vm).sameButNew ({ U with vm := s.vm } : State) [] (0 + 1) (0 + 6) := ⟨e1, e2⟩
    have h3 := X.same.trans h2
    rw [List.append_nil] at h3
    exact h3.mono hc hs
  refine ⟨U, ?_, .threw T.heap.size, hrun, hend, Or.inr ⟨T.heap.size, rfl, cls, ce, locs, hx U hWs.alike f1 (fun q hq => f2 q hq (fun z hz => nomatch hz)), hce, hO.vm, hcl, hWs, hall, hf⟩⟩
  refine st1 _ ?_
  show Steps p.tables e below (T1.setTop { method := m, pc := pc + 3, locals := ls, stack := .ref T.heap.size :: rest, locked := none }) _
  jvm_step X₁.here [X₁.here.top, hexec, d3', Value.category]
  exact hsteps
/-- 'throw new E("text")': new; dup; ldc; invokespecial; athrow -/
theorem vx_throwS {cc : ByteArray} {pc : Nat} (hexec : p.tables.exec = Jvm.exec) (hb : c.code = cc) (hl : l.stackTraces = false) {own cls text : String} {names : List String} {ik is ic mc ms sa : Nat} {A : Nat → Prop}
    (hown : s.vm.findClass own = some m.cls) (hcls : Bundle.fit cls = true) (hnames : ∀ n ∈ names, Bundle.fit n = true)
    (hk : (Cond.classLink own ik cls).before args s = true) (hini : (Cond.initialized cls).before args s = true) (hstr : vk_R own is text sa s) (hat : ∀ w ∈ vx_atS own ic cls names, w.before args s = true)
    (hgood : ∀ w ∈ Cond.classLink own ik cls :: Cond.initialized cls :: vx_atS own ic cls names, vx_ot w = true)
    (hU : vx_Zq Bundle.tN "UNASSIGNED_STACK" Bundle.steD A s s.heap) (hN : vx_Zq Bundle.tN "SUPPRESSED_SENTINEL" Bundle.listD A s s.heap) (hS : va_S A s.heap H locs) (hsize : ls.size = c.maxLocals)
    (d0 : decode cc pc = .ok (.new ik, 3)) (d3 : decode cc (pc + 3) = .ok (.dup, 1)) (d4 : decode cc (pc + 4) = .ok (.ldc is, 2)) (d6 : decode cc (pc + 6) = .ok (.invokespecial ic, 3)) (d9 : decode cc (pc + 9) = .ok (.athrow, 1))
    (hout : ∀ x ∈ c.exceptionTable.toList, covers x (pc + 9) = false)
    (hRframes : names.length + 3 < R.frames) (hRlocals : (rest.map fun v => v.category).sum + (13 * (names.length + 1) + 43) ≤ R.locals) (hRcells : cells + 1 ≤ R.cells) (hRslots : slots + 6 ≤ R.slots) (hlocks : meth.locks = false)
    (hx : ∀ t : State, s.vm.Alike t.vm → H.size ≤ t.heap.size → (∀ q : Nat, q < H.size → t.heap[q]? = H[q]?) → XC cls s t)
    (hf : ∀ z ∈ locs, free z.base) (hc : cells + 1 ≤ mc) (hs : slots + 6 ≤ ms) :
    W p l e R s m args below meth c H locs cells slots (vx_MQ below Qc XC args s mc ms free) (F0 m pc ls rest) := by
  intro T hT X
  have htr : e.platform.stackTraces = false := (show e.platform.stackTraces = l.stackTraces by rw [X.admits.platform]).trans hl
  have Y := vx_rebase X (R' := { frames := R.frames, locals := R.locals, cells := 1, slots := 6 }) (Nat.le_refl _) (Nat.le_refl _) hRcells hRslots
  obtain ⟨s', hA⟩ : ∃ z, z = (T.setVm s.vm).setFrames (.invoking m args :: below) := ⟨_, rfl⟩
  rw [← hA] at Y
  have hvm : s'.vm = s.vm := by rw [hA]; rfl
  have hhp : s'.heap = H := by rw [hA]; exact hT
  have hW0 : s.WarmedH s'.vm := by rw [hvm]; exact State.WarmedH.refl s
  have hat' : ∀ w ∈ vx_atS own ic cls names, w.before args s' = true := fun w hw => vx_ot_at hW0 hvm.symm (hgood w (List.mem_cons_of_mem _ (List.mem_cons_of_mem _ hw))) (hat w hw)
  have hk' : (Cond.classLink own ik cls).before args s' = true := vx_ot_at hW0 hvm.symm (hgood _ List.mem_cons_self) hk
  have hini' : (Cond.initialized cls).before args s' = true := vx_ot_at hW0 hvm.symm (hgood _ (List.mem_cons_of_mem _ List.mem_cons_self)) hini
  have hU' : vx_Zq Bundle.tN "UNASSIGNED_STACK" Bundle.steD A s' s'.heap := by rw [hhp]; exact vx_Zq.moved hW0.alike (hU.kept hS.2.1)
  have hN' : vx_Zq Bundle.tN "SUPPRESSED_SENTINEL" Bundle.listD A s' s'.heap := by rw [hhp]; exact vx_Zq.moved hW0.alike (hN.kept hS.2.1)
  have h : ∀ w ∈ Bundle.ownAtoms own ic cls names, w.before args s' = true := vx_own hat' (vx_isRefq hU'.1) (vx_isRefq hN'.1) hU'.2.word hN'.2.word
  have hown' : s'.vm.findClass own = some m.cls := by rw [hvm]; exact hown
  have hins : (Cond.instantiable cls 6).before args s' = true := h _ (by simp [Bundle.ownAtoms])
  obtain ⟨vm₁, cX, kX, hfX, hkX, -, -, X₁, st1⟩ := Y.newCold hexec (own := own) (C := cls) (index := ik) (n := 6) hown' hk' hins hini'
    (g := F0 m pc ls rest) rfl (by rw [hb]; exact d0) (Nat.le_refl _) (Nat.le_refl _)
  generalize hT1 : (T.setVm vm₁).pushCell { cls := cX, slots := kX.instanceTypes.map defaultValue, vm := .none } = T1 at X₁ st1
  have hcat : (Value.ref T.heap.size).category = 1 := rfl
  have hcellA : T1.heap[T.heap.size]? = some (freshCell cX kX) := by rw [← hT1]; exact State.heap_pushCell_size _ _
  have d3' : decode c.code (pc + 3) = .ok (.dup, 1) := by rw [hb]; exact d3
  have d4' : decode c.code (pc + 4) = .ok (.ldc is, 2) := by rw [hb]; exact d4
  have hstr' : vk_R own is text sa s' := vk_R.warm hW0 hstr
  obtain ⟨U, hsteps, hrun, hend, hW, hsame, ce, hce, hO⟩ := X₁.ctorThrowS hexec htr (own := own) (cls := cls) (names := names) (ic := ic) hown' hcls hnames h (fun x hx => nomatch hx) hfX hkX hcellA (by rw [hhp, hT]; exact Nat.le_refl _) (msg := .ref sa) rfl
    (g := { method := m, pc := pc + 6, locals := ls, stack := .ref sa :: .ref T.heap.size :: .ref T.heap.size :: rest, locked := none }) rfl hsize rfl rfl (rest := rest) rfl
    (by rw [hb]; exact d6) (by rw [hb]; exact d9) hout hRframes (by simp only [List.map_cons, List.sum_cons, hcat]; omega) hlocks
  obtain ⟨f1, f2⟩ := vx_frame hsame
  rw [hhp] at f1 f2
  have hWs : s.WarmedH U.vm := State.WarmedH.trans hW0 hW
  have hcl : s.vm.findClass cls = some ce.cls := by
    have h9 := hO.cls
    rw [hvm] at h9
    exact h9
  have hall : s.sameButNew ({ U with vm := s.vm } : State) locs mc ms := by
    subst hA
    obtain ⟨e1, e2⟩ := hsame
    rw [State.setFrames_setFrames] at e1
    have h2 : (T.setVm s.vm).sameButNew ({ U with vm := s.vm } : State) [] (0 + 1) (0 + 6) := ⟨e1, e2⟩
    have h3 := X.same.trans h2
    rw [List.append_nil] at h3
    exact h3.mono hc hs
  refine ⟨U, ?_, .threw T.heap.size, hrun, hend, Or.inr ⟨T.heap.size, rfl, cls, ce, locs, hx U hWs.alike f1 (fun q hq => f2 q hq (fun z hz => nomatch hz)), hce, hO.vm, hcl, hWs, hall, hf⟩⟩
  refine st1 _ ?_
  show Steps p.tables e below (T1.setTop { method := m, pc := pc + 3, locals := ls, stack := .ref T.heap.size :: rest, locked := none }) _
  jvm_step X₁.here [X₁.here.top, hexec, d3', Value.category]
  exact X₁.ldcString hexec (own := own) (text := text) (index := is) (a := sa) hown' hstr'.1 hstr'.2
    (g := { method := m, pc := pc + 4, locals := ls, stack := .ref T.heap.size :: .ref T.heap.size :: rest, locked := none }) rfl d4' _ hsteps
/-- 'throw new E("text")', the text by a wide index -/
theorem vx_throwSW {cc : ByteArray} {pc : Nat} (hexec : p.tables.exec = Jvm.exec) (hb : c.code = cc) (hl : l.stackTraces = false) {own cls text : String} {names : List String} {ik is ic mc ms sa : Nat} {A : Nat → Prop}
    (hown : s.vm.findClass own = some m.cls) (hcls : Bundle.fit cls = true) (hnames : ∀ n ∈ names, Bundle.fit n = true)
    (hk : (Cond.classLink own ik cls).before args s = true) (hini : (Cond.initialized cls).before args s = true) (hstr : vk_R own is text sa s) (hat : ∀ w ∈ vx_atS own ic cls names, w.before args s = true)
    (hgood : ∀ w ∈ Cond.classLink own ik cls :: Cond.initialized cls :: vx_atS own ic cls names, vx_ot w = true)
    (hU : vx_Zq Bundle.tN "UNASSIGNED_STACK" Bundle.steD A s s.heap) (hN : vx_Zq Bundle.tN "SUPPRESSED_SENTINEL" Bundle.listD A s s.heap) (hS : va_S A s.heap H locs) (hsize : ls.size = c.maxLocals)
    (d0 : decode cc pc = .ok (.new ik, 3)) (d3 : decode cc (pc + 3) = .ok (.dup, 1)) (d4 : decode cc (pc + 4) = .ok (.ldc_w is, 3)) (d7 : decode cc (pc + 7) = .ok (.invokespecial ic, 3)) (d10 : decode cc (pc + 10) = .ok (.athrow, 1))
    (hout : ∀ x ∈ c.exceptionTable.toList, covers x (pc + 10) = false)
    (hRframes : names.length + 3 < R.frames) (hRlocals : (rest.map fun v => v.category).sum + (13 * (names.length + 1) + 43) ≤ R.locals) (hRcells : cells + 1 ≤ R.cells) (hRslots : slots + 6 ≤ R.slots) (hlocks : meth.locks = false)
    (hx : ∀ t : State, s.vm.Alike t.vm → H.size ≤ t.heap.size → (∀ q : Nat, q < H.size → t.heap[q]? = H[q]?) → XC cls s t)
    (hf : ∀ z ∈ locs, free z.base) (hc : cells + 1 ≤ mc) (hs : slots + 6 ≤ ms) :
    W p l e R s m args below meth c H locs cells slots (vx_MQ below Qc XC args s mc ms free) (F0 m pc ls rest) := by
  intro T hT X
  have htr : e.platform.stackTraces = false := (show e.platform.stackTraces = l.stackTraces by rw [X.admits.platform]).trans hl
  have Y := vx_rebase X (R' := { frames := R.frames, locals := R.locals, cells := 1, slots := 6 }) (Nat.le_refl _) (Nat.le_refl _) hRcells hRslots
  obtain ⟨s', hA⟩ : ∃ z, z = (T.setVm s.vm).setFrames (.invoking m args :: below) := ⟨_, rfl⟩
  rw [← hA] at Y
  have hvm : s'.vm = s.vm := by rw [hA]; rfl
  have hhp : s'.heap = H := by rw [hA]; exact hT
  have hW0 : s.WarmedH s'.vm := by rw [hvm]; exact State.WarmedH.refl s
  have hat' : ∀ w ∈ vx_atS own ic cls names, w.before args s' = true := fun w hw => vx_ot_at hW0 hvm.symm (hgood w (List.mem_cons_of_mem _ (List.mem_cons_of_mem _ hw))) (hat w hw)
  have hk' : (Cond.classLink own ik cls).before args s' = true := vx_ot_at hW0 hvm.symm (hgood _ List.mem_cons_self) hk
  have hini' : (Cond.initialized cls).before args s' = true := vx_ot_at hW0 hvm.symm (hgood _ (List.mem_cons_of_mem _ List.mem_cons_self)) hini
  have hU' : vx_Zq Bundle.tN "UNASSIGNED_STACK" Bundle.steD A s' s'.heap := by rw [hhp]; exact vx_Zq.moved hW0.alike (hU.kept hS.2.1)
  have hN' : vx_Zq Bundle.tN "SUPPRESSED_SENTINEL" Bundle.listD A s' s'.heap := by rw [hhp]; exact vx_Zq.moved hW0.alike (hN.kept hS.2.1)
  have h : ∀ w ∈ Bundle.ownAtoms own ic cls names, w.before args s' = true := vx_own hat' (vx_isRefq hU'.1) (vx_isRefq hN'.1) hU'.2.word hN'.2.word
  have hown' : s'.vm.findClass own = some m.cls := by rw [hvm]; exact hown
  have hins : (Cond.instantiable cls 6).before args s' = true := h _ (by simp [Bundle.ownAtoms])
  obtain ⟨vm₁, cX, kX, hfX, hkX, -, -, X₁, st1⟩ := Y.newCold hexec (own := own) (C := cls) (index := ik) (n := 6) hown' hk' hins hini'
    (g := F0 m pc ls rest) rfl (by rw [hb]; exact d0) (Nat.le_refl _) (Nat.le_refl _)
  generalize hT1 : (T.setVm vm₁).pushCell { cls := cX, slots := kX.instanceTypes.map defaultValue, vm := .none } = T1 at X₁ st1
  have hcat : (Value.ref T.heap.size).category = 1 := rfl
  have hcellA : T1.heap[T.heap.size]? = some (freshCell cX kX) := by rw [← hT1]; exact State.heap_pushCell_size _ _
  have d3' : decode c.code (pc + 3) = .ok (.dup, 1) := by rw [hb]; exact d3
  have d4' : decode c.code (pc + 4) = .ok (.ldc_w is, 3) := by rw [hb]; exact d4
  have hstr' : vk_R own is text sa s' := vk_R.warm hW0 hstr
  obtain ⟨U, hsteps, hrun, hend, hW, hsame, ce, hce, hO⟩ := X₁.ctorThrowS hexec htr (own := own) (cls := cls) (names := names) (ic := ic) hown' hcls hnames h (fun x hx => nomatch hx) hfX hkX hcellA (by rw [hhp, hT]; exact Nat.le_refl _) (msg := .ref sa) rfl
    (g := { method := m, pc := pc + 7, locals := ls, stack := .ref sa :: .ref T.heap.size :: .ref T.heap.size :: rest, locked := none }) rfl hsize rfl rfl (rest := rest) rfl
    (by rw [hb]; exact d7) (by rw [hb]; exact d10) hout hRframes (by simp only [List.map_cons, List.sum_cons, hcat]; omega) hlocks
  obtain ⟨f1, f2⟩ := vx_frame hsame
  rw [hhp] at f1 f2
  have hWs : s.WarmedH U.vm := State.WarmedH.trans hW0 hW
  have hcl : s.vm.findClass cls = some ce.cls := by
    have h9 := hO.cls
    rw [hvm] at h9
    exact h9
  have hall : s.sameButNew ({ U with vm := s.vm } : State) locs mc ms := by
    subst hA
    obtain ⟨e1, e2⟩ := hsame
    rw [State.setFrames_setFrames] at e1
    have h2 : (T.setVm s.vm).sameButNew ({ U with vm := s.vm } : State) [] (0 + 1) (0 + 6) := ⟨e1, e2⟩
    have h3 := X.same.trans h2
    rw [List.append_nil] at h3
    exact h3.mono hc hs
  refine ⟨U, ?_, .threw T.heap.size, hrun, hend, Or.inr ⟨T.heap.size, rfl, cls, ce, locs, hx U hWs.alike f1 (fun q hq => f2 q hq (fun z hz => nomatch hz)), hce, hO.vm, hcl, hWs, hall, hf⟩⟩
  refine st1 _ ?_
  show Steps p.tables e below (T1.setTop { method := m, pc := pc + 3, locals := ls, stack := .ref T.heap.size :: rest, locked := none }) _
  jvm_step X₁.here [X₁.here.top, hexec, d3', Value.category]
  exact X₁.ldcStringW hexec (own := own) (text := text) (index := is) (a := sa) hown' hstr'.1 hstr'.2
    (g := { method := m, pc := pc + 4, locals := ls, stack := .ref T.heap.size :: .ref T.heap.size :: rest, locked := none }) rfl d4' _ hsteps
end Ends
section Bodies
variable {l : Launch}
theorem vx_ofW {y : MethodName} {ws ws' : List Cond} {rm : Room} {Pc : Array Value → State → Prop} {Qc : Array Value → State → Outcome → State → Prop} {XC : String → State → State → Prop} {mc ms : Nat} {free : Addr → Prop} {cc : ByteArray} {maxL : Nat} {ret : Option FieldType}
    (hy : plainName y.cls = true) (hw : ws = Cond.code y cc maxL ret :: ws')
    (body : ∀ p e s m args below meth c s₁, BodyLoose p l y (headSpec ws rm) cc maxL ret e s m args below meth c s₁ → c.maxLocals = maxL → (∀ x ∈ c.exceptionTable.toList, False) → Pc args s →
      W p l e (headSpec ws rm).room s m args below meth c s.heap [] 0 0 (vx_MQ below Qc XC args s mc ms free) (entryFrame m args maxL)) : vx_Met l y ws rm Pc Qc XC mc ms free := by
  refine MetFree.of_bodyS (code := cc) (maxLocals := maxL) (ret := ret) hy ?_ ?_
  · intro args s m h hn
    obtain ⟨meth, c, h1, h2, h3, h4, h5, h6, -, -⟩ := Cond.code_spec hn (atoms_spec (ws := ws) h _ (by rw [hw]; exact List.mem_cons_self))
    exact ⟨meth, c, h1, h2, h3, h4, h5, h6⟩
  · intro p e s m args below meth c s₁ B hml hP _
    have hh0 : s₁.heap = s.heap := by rw [B.state]; rfl
    have ht : ∀ x ∈ c.exceptionTable.toList, False := by
      obtain ⟨meth9, c9, h1, h2, -, -, -, -, h7, -⟩ := Cond.code_spec B.named (atoms_spec (ws := ws) B.pre _ (by rw [hw]; exact List.mem_cons_self))
      cases Option.some.inj (h1.symm.trans B.method)
      cases Option.some.inj (h2.symm.trans (Stand.of_body B).code)
      intro x hx
      rw [Array.isEmpty_iff.mp h7] at hx
      cases hx
    obtain ⟨t, a1, o, b1, b2, b3⟩ := body p e s m args below meth c s₁ B hml ht hP s₁ hh0 (Stand.of_body B)
    exact ⟨t, o, a1, b1, b2, b3⟩
/-- the table of a body with handlers -/
theorem vx_table {p : Program} {x y : MethodName} {S : Spec} {cc bytes : ByteArray} {maxL maxL' : Nat} {ret ret' : Option FieldType} {e : Env} {s s₁ : State} {m : MethodId} {args : Array Value} {below : List Frame} {meth : Method} {c : Code} {hh : List (Nat × Nat × Nat × Nat)}
    (B : BodyLoose p l y S cc maxL ret e s m args below meth c s₁) (h : (Cond.codeWith y bytes maxL' ret' hh).before args s = true) : c.exceptionTable.toList = tableOf hh := by
  obtain ⟨m9, meth9, c9, hn9, h1, h2, -, -, h6, -⟩ := Cond.codeWith_spec h
  cases Option.some.inj (hn9.symm.trans B.named)
  cases Option.some.inj (h1.symm.trans B.method)
  cases Option.some.inj (h2.symm.trans (Stand.of_body B).code)
  rw [← h6, table_eq]
end Bodies
end VXA
/-! ===== END ===== -/
end
section
/-! numbers for what the system has: kinds, fields, methods (by program) -/
abbrev Rho : Type := Nat → Int
abbrev Mem : Type := Int → Int → Int
/-- references, numbers, (next, exact, cells, slots) -/
abbrev Sto : Type := Mem × Mem × Int × Int × Nat × Nat
/-- addresses, kinds, slots, base -/
abbrev Geo : Type := (Int → Nat) × (Nat → ClassId) × (Nat → Nat → Nat) × Nat
def enc (al : Int → Nat) (t : Nat) (v : Int) : Value := if t = 1 then .long (Int64.ofInt v) else if t = 2 then (if v = 0 then .null else .ref (al v)) else .int (Int32.ofInt v)
def okv (t : Nat) (v : Int) : Prop := if t = 1 then inL v else if t = 2 then True else if t = 3 then 0 ≤ v ∧ v ≤ 1 else if t = 4 then 0 ≤ v ∧ v < 65536 else inI v
def tyOK (t : Nat) (ft : FieldType) : Prop := ∀ (al : Int → Nat) (v : Int), okv t v → narrow ft (enc al t v) = enc al t v ∧ fits ft (enc al t v) = true
theorem okv_I {t : Nat} {v : Int} (h1 : t ≠ 1) (h2 : t ≠ 2) (h : okv t v) : inI v := by
  unfold okv at h
  rw [if_neg h1, if_neg h2] at h
  unfold inI at *
  split at h
  · omega
  · split at h
    · omega
    · exact h
theorem enc_I {t : Nat} (al : Int → Nat) (v : Int) (h1 : t ≠ 1) (h2 : t ≠ 2) : enc al t v = .int (Int32.ofInt v) := by
  unfold enc; rw [if_neg h1, if_neg h2]
theorem enc_0 (al : Int → Nat) (v : Int) : enc al 0 v = .int (Int32.ofInt v) := rfl
theorem enc_1 (al : Int → Nat) (v : Int) : enc al 1 v = .long (Int64.ofInt v) := rfl
theorem enc_2 (al : Int → Nat) {v : Int} (h : v ≠ 0) : enc al 2 v = .ref (al v) := by unfold enc; simp [h]
theorem tyOK_0 : tyOK 0 .int := fun al v h => ⟨rfl, rfl⟩
theorem tyOK_1 : tyOK 1 .long := fun al v h => ⟨rfl, rfl⟩
theorem tyOK_2o (C : String) : tyOK 2 (.object C) := fun al v h => by
  by_cases hv : v = 0 <;> simp [enc, hv, narrow, fits]
theorem tyOK_2a (C : FieldType) : tyOK 2 (.array C) := fun al v h => by
  by_cases hv : v = 0 <;> simp [enc, hv, narrow, fits]
theorem tyOK_3 : tyOK 3 .boolean := fun al v h => by
  have h : 0 ≤ v ∧ v ≤ 1 := h
  have h2 : v = 0 ∨ v = 1 := by omega
  rcases h2 with rfl | rfl <;> exact ⟨rfl, rfl⟩
def isNest : Cond → Bool
  | .methodLinkNest _ _ _ _ => true
  | .arrayOver (.object _) => true
  | _ => false
def gTbl : List Cond := lw_tbl.filter (fun w => goodWord w || isNest w)
theorem lwt {w : Cond} (i : Nat) (h : tables_1[i]? = some w) : w ∈ lw_tbl := List.mem_append_right _ (List.mem_of_getElem? h)
theorem gwt {w : Cond} (i : Nat) (h : tables_1[i]? = some w) (hg : goodWord w = true) : w ∈ gTbl := List.mem_filter.mpr ⟨lwt i h, by rw [hg]; rfl⟩
theorem gw1 {w : Cond} (i : Nat) (h : tables_1_1[i]? = some w) (hg : goodWord w = true) : w ∈ gTbl := List.mem_filter.mpr ⟨List.mem_append_right _ (List.mem_append_left _ (List.mem_of_getElem? h)), by rw [hg]; rfl⟩
theorem gw2 {w : Cond} (i : Nat) (h : tables_1_2[i]? = some w) (hg : goodWord w = true) : w ∈ gTbl := List.mem_filter.mpr ⟨List.mem_append_right _ (List.mem_append_right _ (List.mem_append_left _ (List.mem_of_getElem? h))), by rw [hg]; rfl⟩
theorem gw3 {w : Cond} (i : Nat) (h : tables_1_3[i]? = some w) (hg : goodWord w = true) : w ∈ gTbl := List.mem_filter.mpr ⟨List.mem_append_right _ (List.mem_append_right _ (List.mem_append_right _ (List.mem_append_left _ (List.mem_of_getElem? h)))), by rw [hg]; rfl⟩
theorem gw4 {w : Cond} (i : Nat) (h : tables_1_4[i]? = some w) (hg : goodWord w = true) : w ∈ gTbl := List.mem_filter.mpr ⟨List.mem_append_right _ (List.mem_append_right _ (List.mem_append_right _ (List.mem_append_right _ (List.mem_append_left _ (List.mem_of_getElem? h))))), by rw [hg]; rfl⟩
theorem gw5 {w : Cond} (i : Nat) (h : tables_1_5[i]? = some w) (hg : goodWord w = true) : w ∈ gTbl := List.mem_filter.mpr ⟨List.mem_append_right _ (List.mem_append_right _ (List.mem_append_right _ (List.mem_append_right _ (List.mem_append_right _ (List.mem_append_left _ (List.mem_of_getElem? h)))))), by rw [hg]; rfl⟩
theorem gw6 {w : Cond} (i : Nat) (h : tables_1_6[i]? = some w) (hg : goodWord w = true) : w ∈ gTbl := List.mem_filter.mpr ⟨List.mem_append_right _ (List.mem_append_right _ (List.mem_append_right _ (List.mem_append_right _ (List.mem_append_right _ (List.mem_append_right _ (List.mem_append_left _ (List.mem_of_getElem? h))))))), by rw [hg]; rfl⟩
theorem gw7 {w : Cond} (i : Nat) (h : tables_1_7[i]? = some w) (hg : goodWord w = true) : w ∈ gTbl := List.mem_filter.mpr ⟨List.mem_append_right _ (List.mem_append_right _ (List.mem_append_right _ (List.mem_append_right _ (List.mem_append_right _ (List.mem_append_right _ (List.mem_append_right _ (List.mem_append_left _ (List.mem_of_getElem? h)))))))), by rw [hg]; rfl⟩
theorem gw8 {w : Cond} (i : Nat) (h : tables_1_8[i]? = some w) (hg : goodWord w = true) : w ∈ gTbl := List.mem_filter.mpr ⟨List.mem_append_right _ (List.mem_append_right _ (List.mem_append_right _ (List.mem_append_right _ (List.mem_append_right _ (List.mem_append_right _ (List.mem_append_right _ (List.mem_append_right _ (List.mem_append_left _ (List.mem_of_getElem? h))))))))), by rw [hg]; rfl⟩
theorem gw9 {w : Cond} (i : Nat) (h : tables_1_9[i]? = some w) (hg : goodWord w = true) : w ∈ gTbl := List.mem_filter.mpr ⟨List.mem_append_right _ (List.mem_append_right _ (List.mem_append_right _ (List.mem_append_right _ (List.mem_append_right _ (List.mem_append_right _ (List.mem_append_right _ (List.mem_append_right _ (List.mem_append_right _ (List.mem_of_getElem? h))))))))), by rw [hg]; rfl⟩
theorem gwn {w : Cond} (i : Nat) (h : tables_1[i]? = some w) (hg : isNest w = true) : w ∈ gTbl := List.mem_filter.mpr ⟨lwt i h, by rw [hg]; simp⟩
theorem gwp {q : MethodName × Nat} (i : Nat) (h : lw_privs[i]? = some q) : Cond.selects q.1.cls q.1 q.1 ∈ gTbl :=
  List.mem_filter.mpr ⟨List.mem_append_left _ (List.mem_map.mpr ⟨q, List.mem_of_getElem? h, rfl⟩), rfl⟩
theorem gt_of {args : Array Value} {s : State} (h : ∀ w ∈ lw_tbl, w.before args s = true) : ∀ w ∈ gTbl, w.before args s = true := fun w hw => h w (List.mem_filter.mp hw).1
theorem gt_pay {args : Array Value} {s : State} (h : ∀ w ∈ gTbl, w.before args s = true) : ∀ w ∈ gTbl, ∀ (a' : Array Value) (U : State), s.WarmedH U.vm → w.before a' U = true := by
  intro w hw a' U hW
  have h1 := (List.mem_filter.mp hw).2
  have h2 := h w hw
  rcases Bool.or_eq_true_iff.mp h1 with hg | hg
  · exact word_at hW (good_of_word hg) h2
  · cases w
    case methodLinkNest => exact va_tabs rfl (rfl : (s.setVm U.vm).vm = U.vm) (Cond.methodLinkNest_warmed (args := a') hW (va_tabs rfl rfl h2))
    case arrayOver t =>
      cases t
      case object C => exact (va_AO.moved hW.alike h2 : (Cond.arrayOver (.object C)).before #[] U = true)
      all_goals exact absurd hg Bool.false_ne_true
    all_goals exact absurd hg Bool.false_ne_true
def kCl : List String := ["", "HotThrough", "HotThrough$Text", "HotThrough$Rule", "HotThrough$Kitchen", "HotThrough$State", "HotThrough$Carrier", "HotThrough$Acts", "HotThrough$Paths", "HotThrough$Rester", "HotThrough$Line", "HotThrough$Dishes", "HotThrough$Marks", "HotThroughModel", "", "", "", "", "", "HotThroughLaw", "java/lang/Math", "java/lang/Integer", "java/lang/String"]
def kC (k : Nat) : String := kCl.getD (k % 100) ""
def kF1 : List (String × String × String × Bool) := [("HotThrough", "text", "LHotThrough$Text;", true), ("HotThrough", "rule", "LHotThrough$Rule;", true), ("HotThrough", "kitchen", "LHotThrough$Kitchen;", true), ("HotThrough", "state", "LHotThrough$State;", true), ("HotThrough", "carrier", "LHotThrough$Carrier;", true), ("HotThrough", "acts", "LHotThrough$Acts;", true), ("HotThrough", "paths", "LHotThrough$Paths;", true), ("HotThrough", "rester", "LHotThrough$Rester;", true), ("HotThrough", "line", "LHotThrough$Line;", true), ("HotThrough", "dishes", "LHotThrough$Dishes;", true), ("HotThrough", "marks", "LHotThrough$Marks;", true), ("HotThrough", "kept", "[LHotThrough$State;", true), ("HotThrough", "keptBits", "I", false), ("HotThrough", "numbers", "[J", true), ("HotThrough", "told", "I", false)]
def kE1 : List Nat := [2, 2, 2, 2, 2, 2, 2, 2, 2, 2, 2, 2, 0, 2, 0]
def kT1 : List FieldType := [(.object "HotThrough$Text"), (.object "HotThrough$Rule"), (.object "HotThrough$Kitchen"), (.object "HotThrough$State"), (.object "HotThrough$Carrier"), (.object "HotThrough$Acts"), (.object "HotThrough$Paths"), (.object "HotThrough$Rester"), (.object "HotThrough$Line"), (.object "HotThrough$Dishes"), (.object "HotThrough$Marks"), (.array (.object "HotThrough$State")), .int, (.array .long), .int]
def kF2 : List (String × String × String × Bool) := [("HotThrough$Text", "signs", "[C", true), ("HotThrough$Text", "length", "I", false), ("HotThrough$Text", "limit", "I", false), ("HotThrough$Text", "over", "Z", false), ("HotThrough$Text", "at", "I", false), ("HotThrough$Text", "failed", "Z", false)]
def kE2 : List Nat := [2, 0, 0, 3, 0, 3]
def kT2 : List FieldType := [(.array .char), .int, .int, .boolean, .int, .boolean]
def kF3 : List (String × String × String × Bool) := [("HotThrough$Rule", "code", "[I", true), ("HotThrough$Rule", "size", "I", false), ("HotThrough$Rule", "draft", "[I", true), ("HotThrough$Rule", "drafted", "I", false), ("HotThrough$Rule", "stack", "[I", true)]
def kE3 : List Nat := [2, 0, 2, 0, 2]
def kT3 : List FieldType := [(.array .int), .int, (.array .int), .int, (.array .int)]
def kF4 : List (String × String × String × Bool) := [("HotThrough$Kitchen", "places", "I", false), ("HotThrough$Kitchen", "ways", "I", false), ("HotThrough$Kitchen", "pots", "I", false), ("HotThrough$Kitchen", "people", "I", false), ("HotThrough$Kitchen", "kinds", "[I", true), ("HotThrough$Kitchen", "ones", "[I", true), ("HotThrough$Kitchen", "others", "[I", true), ("HotThrough$Kitchen", "steps", "[I", true), ("HotThrough$Kitchen", "doored", "I", false), ("HotThrough$Kitchen", "cools", "[I", true), ("HotThrough$Kitchen", "bears", "[I", true)]
def kE4 : List Nat := [0, 0, 0, 0, 2, 2, 2, 2, 0, 2, 2]
def kT4 : List FieldType := [.int, .int, .int, .int, (.array .int), (.array .int), (.array .int), (.array .int), .int, (.array .int), (.array .int)]
def kF5 : List (String × String × String × Bool) := [("HotThrough$State", "heat", "[I", true), ("HotThrough$State", "lies", "[I", true), ("HotThrough$State", "holder", "[I", true), ("HotThrough$State", "dropped", "I", false), ("HotThrough$State", "at", "[I", true), ("HotThrough$State", "warm", "[I", true), ("HotThrough$State", "hand", "[I", true), ("HotThrough$State", "fold", "[I", true), ("HotThrough$State", "load", "[I", true), ("HotThrough$State", "burnt", "[I", true), ("HotThrough$State", "open", "I", false), ("HotThrough$State", "now", "I", false)]
def kE5 : List Nat := [2, 2, 2, 0, 2, 2, 2, 2, 2, 2, 0, 0]
def kT5 : List FieldType := [(.array .int), (.array .int), (.array .int), .int, (.array .int), (.array .int), (.array .int), (.array .int), (.array .int), (.array .int), .int, .int]
def kF6 : List (String × String × String × Bool) := [("HotThrough$Carrier", "kitchen", "LHotThrough$Kitchen;", true), ("HotThrough$Carrier", "state", "LHotThrough$State;", true), ("HotThrough$Carrier", "rule", "LHotThrough$Rule;", true), ("HotThrough$Carrier", "person", "I", false), ("HotThrough$Carrier", "pot", "I", false), ("HotThrough$Carrier", "bears", "I", false), ("HotThrough$Carrier", "fold", "I", false), ("HotThrough$Carrier", "hand", "I", false), ("HotThrough$Carrier", "warm", "I", false), ("HotThrough$Carrier", "other", "I", false), ("HotThrough$Carrier", "heat", "I", false), ("HotThrough$Carrier", "cools", "I", false), ("HotThrough$Carrier", "now", "I", false)]
def kE6 : List Nat := [2, 2, 2, 0, 0, 0, 0, 0, 0, 0, 0, 0, 0]
def kT6 : List FieldType := [(.object "HotThrough$Kitchen"), (.object "HotThrough$State"), (.object "HotThrough$Rule"), .int, .int, .int, .int, .int, .int, .int, .int, .int, .int]
def kF7 : List (String × String × String × Bool) := [("HotThrough$Acts", "kitchen", "LHotThrough$Kitchen;", true), ("HotThrough$Acts", "state", "LHotThrough$State;", true), ("HotThrough$Acts", "rule", "LHotThrough$Rule;", true), ("HotThrough$Acts", "carrier", "LHotThrough$Carrier;", true), ("HotThrough$Acts", "burnings", "I", false), ("HotThrough$Acts", "who", "I", false), ("HotThrough$Acts", "fallen", "I", false), ("HotThrough$Acts", "before", "[LHotThrough$State;", true), ("HotThrough$Acts", "oldest", "I", false), ("HotThrough$Acts", "undoable", "I", false), ("HotThrough$Acts", "letters", "[I", true), ("HotThrough$Acts", "firsts", "[I", true), ("HotThrough$Acts", "others", "[I", true)]
def kE7 : List Nat := [2, 2, 2, 2, 0, 0, 0, 2, 0, 0, 2, 2, 2]
def kT7 : List FieldType := [(.object "HotThrough$Kitchen"), (.object "HotThrough$State"), (.object "HotThrough$Rule"), (.object "HotThrough$Carrier"), .int, .int, .int, (.array (.object "HotThrough$State")), .int, .int, (.array .int), (.array .int), (.array .int)]
def kF8 : List (String × String × String × Bool) := [("HotThrough$Paths", "kitchen", "LHotThrough$Kitchen;", true), ("HotThrough$Paths", "state", "LHotThrough$State;", true), ("HotThrough$Paths", "price", "[I", true), ("HotThrough$Paths", "left", "[I", true), ("HotThrough$Paths", "places", "[I", true), ("HotThrough$Paths", "legs", "[I", true), ("HotThrough$Paths", "size", "I", false), ("HotThrough$Paths", "steps", "I", false), ("HotThrough$Paths", "doors", "I", false)]
def kE8 : List Nat := [2, 2, 2, 2, 2, 2, 0, 0, 0]
def kT8 : List FieldType := [(.object "HotThrough$Kitchen"), (.object "HotThrough$State"), (.array .int), (.array .int), (.array .int), (.array .int), .int, .int, .int]
def kF9 : List (String × String × String × Bool) := [("HotThrough$Rester", "kitchen", "LHotThrough$Kitchen;", true), ("HotThrough$Rester", "paths", "LHotThrough$Paths;", true), ("HotThrough$Rester", "carrier", "LHotThrough$Carrier;", true), ("HotThrough$Rester", "warm", "[I", true), ("HotThrough$Rester", "heat", "[I", true), ("HotThrough$Rester", "now", "[I", true), ("HotThrough$Rester", "chosen", "[I", true), ("HotThrough$Rester", "best", "[I", true), ("HotThrough$Rester", "bestSize", "I", false), ("HotThrough$Rester", "most", "I", false), ("HotThrough$Rester", "seconds", "I", false)]
def kE9 : List Nat := [2, 2, 2, 2, 2, 2, 2, 2, 0, 0, 0]
def kT9 : List FieldType := [(.object "HotThrough$Kitchen"), (.object "HotThrough$Paths"), (.object "HotThrough$Carrier"), (.array .int), (.array .int), (.array .int), (.array .int), (.array .int), .int, .int, .int]
def kF10 : List (String × String × String × Bool) := [("HotThrough$Line", "kitchen", "LHotThrough$Kitchen;", true), ("HotThrough$Line", "state", "LHotThrough$State;", true), ("HotThrough$Line", "paths", "LHotThrough$Paths;", true), ("HotThrough$Line", "carrier", "LHotThrough$Carrier;", true), ("HotThrough$Line", "reach", "[I", true), ("HotThrough$Line", "carries", "[I", true), ("HotThrough$Line", "those", "I", false)]
def kE10 : List Nat := [2, 2, 2, 2, 2, 2, 0]
def kT10 : List FieldType := [(.object "HotThrough$Kitchen"), (.object "HotThrough$State"), (.object "HotThrough$Paths"), (.object "HotThrough$Carrier"), (.array .int), (.array .int), .int]
def kF11 : List (String × String × String × Bool) := [("HotThrough$Dishes", "kitchen", "LHotThrough$Kitchen;", true), ("HotThrough$Dishes", "state", "LHotThrough$State;", true), ("HotThrough$Dishes", "paths", "LHotThrough$Paths;", true), ("HotThrough$Dishes", "carrier", "LHotThrough$Carrier;", true), ("HotThrough$Dishes", "first", "[I", true), ("HotThrough$Dishes", "haul", "[I", true), ("HotThrough$Dishes", "warm", "[I", true), ("HotThrough$Dishes", "order", "[I", true), ("HotThrough$Dishes", "best", "[I", true), ("HotThrough$Dishes", "size", "I", false), ("HotThrough$Dishes", "bestSeconds", "I", false), ("HotThrough$Dishes", "those", "I", false), ("HotThrough$Dishes", "hotEnough", "I", false)]
def kE11 : List Nat := [2, 2, 2, 2, 2, 2, 2, 2, 2, 0, 0, 0, 0]
def kT11 : List FieldType := [(.object "HotThrough$Kitchen"), (.object "HotThrough$State"), (.object "HotThrough$Paths"), (.object "HotThrough$Carrier"), (.array .int), (.array .int), (.array .int), (.array .int), (.array .int), .int, .int, .int, .int]
def kF12 : List (String × String × String × Bool) := [("HotThrough$Marks", "kitchen", "LHotThrough$Kitchen;", true), ("HotThrough$Marks", "state", "LHotThrough$State;", true), ("HotThrough$Marks", "places", "[I", true), ("HotThrough$Marks", "times", "[I", true), ("HotThrough$Marks", "size", "I", false), ("HotThrough$Marks", "came", "[I", true), ("HotThrough$Marks", "trail", "[I", true), ("HotThrough$Marks", "least", "[I", true), ("HotThrough$Marks", "leastSize", "I", false), ("HotThrough$Marks", "goal", "I", false), ("HotThrough$Marks", "found", "I", false)]
def kE12 : List Nat := [2, 2, 2, 2, 0, 2, 2, 2, 0, 0, 0]
def kT12 : List FieldType := [(.object "HotThrough$Kitchen"), (.object "HotThrough$State"), (.array .int), (.array .int), .int, (.array .int), (.array .int), (.array .int), .int, .int, .int]
def kF13 : List (String × String × String × Bool) := [("HotThroughModel", "thrown", "I", false), ("HotThroughModel", "rows", "I", false), ("HotThroughModel", "row", "[J", true), ("HotThroughModel", "places", "I", false), ("HotThroughModel", "ways", "I", false), ("HotThroughModel", "pots", "I", false), ("HotThroughModel", "people", "I", false), ("HotThroughModel", "changes", "I", false), ("HotThroughModel", "kind", "[I", true), ("HotThroughModel", "wayFrom", "[I", true), ("HotThroughModel", "wayTo", "[I", true), ("HotThroughModel", "steps", "[I", true), ("HotThroughModel", "hasDoor", "[Z", true), ("HotThroughModel", "cools", "[I", true), ("HotThroughModel", "bears", "[I", true), ("HotThroughModel", "now", "[I", true), ("HotThroughModel", "then", "[I", true), ("HotThroughModel", "tape", "[I", true), ("HotThroughModel", "taped", "I", false), ("HotThroughModel", "at", "I", false), ("HotThroughModel", "to", "I", false), ("HotThroughModel", "nest", "I", false), ("HotThroughModel", "readKind", "[I", true), ("HotThroughModel", "readWay", "[I", true), ("HotThroughModel", "readPot", "[I", true), ("HotThroughModel", "readOne", "[I", true), ("HotThroughModel", "readPlaces", "I", false), ("HotThroughModel", "readWays", "I", false), ("HotThroughModel", "readPots", "I", false), ("HotThroughModel", "readPeople", "I", false), ("HotThroughModel", "code", "[I", true), ("HotThroughModel", "readCode", "[I", true), ("HotThroughModel", "codeLong", "I", false), ("HotThroughModel", "readLong", "I", false), ("HotThroughModel", "stack", "[I", true), ("HotThroughModel", "asked", "[I", true), ("HotThroughModel", "burntMany", "I", false), ("HotThroughModel", "burntBits", "I", false), ("HotThroughModel", "droppedBits", "I", false), ("HotThroughModel", "undos", "I", false), ("HotThroughModel", "undone", "[I", true), ("HotThroughModel", "actSign", "[I", true), ("HotThroughModel", "actOne", "[I", true), ("HotThroughModel", "actTwo", "[I", true), ("HotThroughModel", "acts", "I", false), ("HotThroughModel", "changed", "I", false), ("HotThroughModel", "heatAhead", "I", false), ("HotThroughModel", "soloHeat", "I", false), ("HotThroughModel", "soloWarm", "I", false), ("HotThroughModel", "soloSecond", "I", false), ("HotThroughModel", "apart", "[I", true), ("HotThroughModel", "step", "[I", true), ("HotThroughModel", "way", "[I", true), ("HotThroughModel", "wayLong", "I", false), ("HotThroughModel", "carrier", "[I", true), ("HotThroughModel", "bestCarrier", "[I", true), ("HotThroughModel", "bestMany", "I", false), ("HotThroughModel", "order", "[I", true), ("HotThroughModel", "bestOrder", "[I", true), ("HotThroughModel", "bestTime", "I", false), ("HotThroughModel", "bestHeat", "I", false), ("HotThroughModel", "heats", "[I", true), ("HotThroughModel", "marks", "I", false), ("HotThroughModel", "markAt", "[I", true), ("HotThroughModel", "markWhen", "[I", true), ("HotThroughModel", "fitMany", "I", false), ("HotThroughModel", "fitLong", "I", false), ("HotThroughModel", "fitRow", "[I", true), ("HotThroughModel", "walked", "[I", true), ("HotThroughModel", "isKept", "[Z", true), ("HotThroughModel", "keptChanges", "[I", true), ("HotThroughModel", "kept", "[I", true)]
def kE13 : List Nat := [0, 0, 2, 0, 0, 0, 0, 0, 2, 2, 2, 2, 2, 2, 2, 2, 2, 2, 0, 0, 0, 0, 2, 2, 2, 2, 0, 0, 0, 0, 2, 2, 0, 0, 2, 2, 0, 0, 0, 0, 2, 2, 2, 2, 0, 0, 0, 0, 0, 0, 2, 2, 2, 0, 2, 2, 0, 2, 2, 0, 0, 2, 0, 2, 2, 0, 0, 2, 2, 2, 2, 2]
def kT13 : List FieldType := [.int, .int, (.array .long), .int, .int, .int, .int, .int, (.array .int), (.array .int), (.array .int), (.array .int), (.array .boolean), (.array .int), (.array .int), (.array .int), (.array .int), (.array .int), .int, .int, .int, .int, (.array .int), (.array .int), (.array .int), (.array .int), .int, .int, .int, .int, (.array .int), (.array .int), .int, .int, (.array .int), (.array .int), .int, .int, .int, .int, (.array .int), (.array .int), (.array .int), (.array .int), .int, .int, .int, .int, .int, .int, (.array .int), (.array .int), (.array .int), .int, (.array .int), (.array .int), .int, (.array .int), (.array .int), .int, .int, (.array .int), .int, (.array .int), (.array .int), .int, .int, (.array .int), (.array .int), (.array .boolean), (.array .int), (.array .int)]
def kFl : List (List (String × String × String × Bool)) := [[], kF1, kF2, kF3, kF4, kF5, kF6, kF7, kF8, kF9, kF10, kF11, kF12, kF13]
def kF (k : Nat) : u_T := fun j => (kFl.getD k []).getD j ("", "", "", false)
def kN (k : Nat) : Nat := (kFl.getD k []).length
def kEl : List (List Nat) := [[], kE1, kE2, kE3, kE4, kE5, kE6, kE7, kE8, kE9, kE10, kE11, kE12, kE13]
/-- the type of place j of a thing of kind k; 14 .. 18: arrays -/
def ety (k j : Nat) : Nat := if k = 14 then 0 else if k = 15 then 1 else if k = 16 then 3 else if k = 17 then 4 else if k = 18 then 2 else (kEl.getD k []).getD j 0
def kTl : List (List FieldType) := [[], kT1, kT2, kT3, kT4, kT5, kT6, kT7, kT8, kT9, kT10, kT11, kT12, kT13]
def kT (k j : Nat) : FieldType := (kTl.getD k []).getD j .int
def aT (k : Nat) : FieldType := if k = 14 then .int else if k = 15 then .long else if k = 16 then .boolean else if k = 17 then .char else .object "HotThrough$State"
def idl : List (Nat × Int) := [(0, 0), (1, 15), (2, 6), (17, 80), (3, 5), (14, 40), (14, 40), (14, 40), (4, 11), (14, 10), (14, 14), (14, 14), (14, 14), (14, 5), (14, 5), (5, 12), (14, 5), (14, 5), (14, 5), (14, 5), (14, 10), (14, 5), (14, 5), (14, 5), (14, 5), (6, 13), (7, 13), (18, 16), (14, 30), (14, 30), (14, 30), (5, 12), (14, 5), (14, 5), (14, 5), (14, 5), (14, 10), (14, 5), (14, 5), (14, 5), (14, 5), (5, 12), (14, 5), (14, 5), (14, 5), (14, 5), (14, 10), (14, 5), (14, 5), (14, 5), (14, 5), (5, 12), (14, 5), (14, 5), (14, 5), (14, 5), (14, 10), (14, 5), (14, 5), (14, 5), (14, 5), (5, 12), (14, 5), (14, 5), (14, 5), (14, 5), (14, 10), (14, 5), (14, 5), (14, 5), (14, 5), (5, 12), (14, 5), (14, 5), (14, 5), (14, 5), (14, 10), (14, 5), (14, 5), (14, 5), (14, 5), (5, 12), (14, 5), (14, 5), (14, 5), (14, 5), (14, 10), (14, 5), (14, 5), (14, 5), (14, 5), (5, 12), (14, 5), (14, 5), (14, 5), (14, 5), (14, 10), (14, 5), (14, 5), (14, 5), (14, 5), (5, 12), (14, 5), (14, 5), (14, 5), (14, 5), (14, 10), (14, 5), (14, 5), (14, 5), (14, 5), (5, 12), (14, 5), (14, 5), (14, 5), (14, 5), (14, 10), (14, 5), (14, 5), (14, 5), (14, 5), (5, 12), (14, 5), (14, 5), (14, 5), (14, 5), (14, 10), (14, 5), (14, 5), (14, 5), (14, 5), (5, 12), (14, 5), (14, 5), (14, 5), (14, 5), (14, 10), (14, 5), (14, 5), (14, 5), (14, 5), (5, 12), (14, 5), (14, 5), (14, 5), (14, 5), (14, 10), (14, 5), (14, 5), (14, 5), (14, 5), (5, 12), (14, 5), (14, 5), (14, 5), (14, 5), (14, 10), (14, 5), (14, 5), (14, 5), (14, 5), (5, 12), (14, 5), (14, 5), (14, 5), (14, 5), (14, 10), (14, 5), (14, 5), (14, 5), (14, 5), (5, 12), (14, 5), (14, 5), (14, 5), (14, 5), (14, 10), (14, 5), (14, 5), (14, 5), (14, 5), (5, 12), (14, 5), (14, 5), (14, 5), (14, 5), (14, 10), (14, 5), (14, 5), (14, 5), (14, 5), (8, 9), (14, 14), (14, 10), (14, 10), (14, 10), (9, 11), (14, 10), (14, 10), (14, 10), (14, 10), (14, 10), (10, 7), (14, 50), (14, 10), (11, 13), (14, 5), (14, 5), (14, 5), (14, 5), (14, 5), (12, 11), (14, 8), (14, 8), (14, 10), (14, 10), (14, 10), (18, 3), (15, 16), (5, 12), (14, 5), (14, 5), (14, 5), (14, 5), (14, 10), (14, 5), (14, 5), (14, 5), (14, 5), (5, 12), (14, 5), (14, 5), (14, 5), (14, 5), (14, 10), (14, 5), (14, 5), (14, 5), (14, 5), (5, 12), (14, 5), (14, 5), (14, 5), (14, 5), (14, 10), (14, 5), (14, 5), (14, 5), (14, 5), (13, 72), (15, 24), (14, 10), (14, 14), (14, 14), (14, 14), (16, 14), (14, 5), (14, 5), (14, 52), (14, 52), (14, 80), (14, 10), (14, 56), (14, 15), (14, 10), (14, 80), (14, 80), (14, 80), (14, 8), (14, 832), (14, 60), (14, 60), (14, 60), (14, 100), (14, 100), (14, 10), (14, 10), (14, 10), (14, 5), (14, 5), (14, 30), (14, 8), (14, 8), (14, 10), (14, 10), (16, 3), (14, 3), (14, 156), (15, 1)]
def kcls (id : Int) : Nat := if id < 0 then 0 else (idl.getD id.toNat (0, 0)).1
def klen (id : Int) : Int := if id < 0 then 0 else (idl.getD id.toNat (0, 0)).2
abbrev MT : Type := MethodName × ByteArray × Nat × Option FieldType × List Nat × Nat × Nat × Nat
def mT0 : List MT := [(⟨"HotThrough", "<init>", "()V"⟩, prog_1_method_1_code, 2, none, [2], 9, 247, 1951), (⟨"HotThrough$Text", "<init>", "()V"⟩, prog_12_method_1_code, 1, none, [2], 9, 1, 80), (⟨"HotThrough$Rule", "<init>", "()V"⟩, prog_10_method_1_code, 1, none, [2], 9, 3, 120), (⟨"HotThrough$Kitchen", "<init>", "()V"⟩, prog_5_method_1_code, 1, none, [2], 9, 6, 62), (⟨"HotThrough$State", "<init>", "()V"⟩, prog_11_method_1_code, 1, none, [2], 9, 9, 50), (⟨"HotThrough$Carrier", "<init>", "(LHotThrough$Kitchen;LHotThrough$State;LHotThrough$Rule;)V"⟩, prog_3_method_1_code, 4, none, [2, 2, 2, 2], 9, 0, 0), (⟨"HotThrough$Acts", "<init>", "(LHotThrough$Kitchen;LHotThrough$State;LHotThrough$Rule;LHotThrough$Carrier;)V"⟩, prog_2_method_1_code, 6, none, [2, 2, 2, 2, 2], 9, 164, 1098), (⟨"HotThrough$Paths", "<init>", "(LHotThrough$Kitchen;LHotThrough$State;)V"⟩, prog_8_method_1_code, 3, none, [2, 2, 2], 9, 4, 44), (⟨"HotThrough$Rester", "<init>", "(LHotThrough$Kitchen;LHotThrough$Paths;LHotThrough$Carrier;)V"⟩, prog_9_method_1_code, 4, none, [2, 2, 2, 2], 9, 5, 50), (⟨"HotThrough$Line", "<init>", "(LHotThrough$Kitchen;LHotThrough$State;LHotThrough$Paths;LHotThrough$Carrier;)V"⟩, prog_6_method_1_code, 5, none, [2, 2, 2, 2, 2], 9, 2, 60), (⟨"HotThrough$Dishes", "<init>", "(LHotThrough$Kitchen;LHotThrough$State;LHotThrough$Paths;LHotThrough$Carrier;)V"⟩, prog_4_method_1_code, 5, none, [2, 2, 2, 2, 2], 9, 5, 25), (⟨"HotThrough$Marks", "<init>", "(LHotThrough$Kitchen;LHotThrough$State;)V"⟩, prog_7_method_1_code, 3, none, [2, 2, 2], 9, 5, 46), (⟨"HotThrough", "sign", "(I)I"⟩, prog_1_method_2_code, 2, (some .int), [2, 0], 0, 0, 0), (⟨"HotThrough$Text", "append", "(I)I"⟩, prog_12_method_2_code, 3, (some .int), [2, 0], 0, 0, 0), (⟨"HotThrough", "end", "(I)Z"⟩, prog_1_method_3_code, 2, (some .boolean), [2, 0], 3, 0, 0), (⟨"HotThrough$Text", "shorten", "(I)Z"⟩, prog_12_method_3_code, 2, (some .boolean), [2, 0], 3, 0, 0), (⟨"HotThrough", "kitchen", "()I"⟩, prog_1_method_4_code, 2, (some .int), [2], 0, 0, 0), (⟨"HotThrough$Kitchen", "read", "(LHotThrough$Text;LHotThrough$State;)I"⟩, prog_5_method_10_code, 10, (some .int), [2, 2, 2], 0, 0, 0), (⟨"HotThrough$Text", "open", "(I)V"⟩, prog_12_method_4_code, 2, none, [2, 0], 9, 0, 0), (⟨"java/lang/Math", "min", "(II)I"⟩, prog_20_method_69_code, 2, (some .int), [0, 0], 0, 0, 0), (⟨"HotThrough$Kitchen", "readLine", "(LHotThrough$Text;LHotThrough$State;)V"⟩, prog_5_method_11_code, 4, none, [2, 2, 2], 9, 0, 0), (⟨"HotThrough$Text", "peek", "()I"⟩, prog_12_method_7_code, 1, (some .int), [2], 0, 0, 0), (⟨"HotThrough$Kitchen", "hasRoom", "(I)Z"⟩, prog_5_method_12_code, 2, (some .boolean), [2, 0], 3, 0, 0), (⟨"HotThrough$Text", "fail", "()V"⟩, prog_12_method_8_code, 1, none, [2], 9, 0, 0), (⟨"HotThrough$Text", "next", "()V"⟩, prog_12_method_10_code, 1, none, [2], 9, 0, 0), (⟨"HotThrough$Kitchen", "readWay", "(LHotThrough$Text;LHotThrough$State;)V"⟩, prog_5_method_14_code, 7, none, [2, 2, 2], 9, 0, 0), (⟨"HotThrough$Text", "letter", "(II)I"⟩, prog_12_method_16_code, 4, (some .int), [2, 0, 0], 0, 0, 0), (⟨"HotThrough$Text", "digit", "(I)I"⟩, prog_12_method_14_code, 3, (some .int), [2, 0], 0, 0, 0), (⟨"HotThrough$Text", "skip", "(C)Z"⟩, prog_12_method_11_code, 2, (some .boolean), [2, 0], 3, 0, 0), (⟨"HotThrough$Kitchen", "readPot", "(LHotThrough$Text;LHotThrough$State;)V"⟩, prog_5_method_15_code, 7, none, [2, 2, 2], 9, 0, 0), (⟨"HotThrough$Text", "number", "(I)I"⟩, prog_12_method_15_code, 4, (some .int), [2, 0], 0, 0, 0), (⟨"HotThrough$Text", "isDigit", "()Z"⟩, prog_12_method_13_code, 1, (some .boolean), [2], 3, 0, 0), (⟨"HotThrough$Text", "expect", "(C)V"⟩, prog_12_method_12_code, 2, none, [2, 0], 9, 0, 0), (⟨"HotThrough$Kitchen", "isPlace", "(I)Z"⟩, prog_5_method_2_code, 2, (some .boolean), [2, 0], 3, 0, 0), (⟨"HotThrough$Text", "failAt", "(I)V"⟩, prog_12_method_9_code, 2, none, [2, 0], 9, 0, 0), (⟨"HotThrough$State", "addPot", "(III)V"⟩, prog_11_method_3_code, 4, none, [2, 0, 0, 0], 9, 0, 0), (⟨"HotThrough$Kitchen", "readPerson", "(LHotThrough$Text;LHotThrough$State;)V"⟩, prog_5_method_16_code, 7, none, [2, 2, 2], 9, 0, 0), (⟨"HotThrough$State", "addPerson", "(II)V"⟩, prog_11_method_4_code, 3, none, [2, 0, 0], 9, 0, 0), (⟨"HotThrough$Kitchen", "addPlace", "(I)V"⟩, prog_5_method_13_code, 2, none, [2, 0], 9, 0, 0), (⟨"HotThrough$Text", "close", "()I"⟩, prog_12_method_5_code, 1, (some .int), [2], 0, 0, 0)]
def mT1 : List MT := [(⟨"HotThrough$Acts", "forget", "()V"⟩, prog_2_method_6_code, 1, none, [2], 9, 0, 0), (⟨"HotThrough", "rule", "()I"⟩, prog_1_method_5_code, 1, (some .int), [2], 0, 0, 0), (⟨"HotThrough$Rule", "read", "(LHotThrough$Text;)I"⟩, prog_10_method_2_code, 3, (some .int), [2, 2], 0, 0, 0), (⟨"HotThrough$Text", "atEnd", "()Z"⟩, prog_12_method_6_code, 1, (some .boolean), [2], 3, 0, 0), (⟨"HotThrough$Rule", "expression", "(LHotThrough$Text;I)V"⟩, prog_10_method_3_code, 4, none, [2, 2, 0], 9, 0, 0), (⟨"HotThrough$Rule", "sum", "(LHotThrough$Text;I)V"⟩, prog_10_method_4_code, 5, none, [2, 2, 0], 9, 0, 0), (⟨"HotThrough$Rule", "product", "(LHotThrough$Text;I)V"⟩, prog_10_method_5_code, 5, none, [2, 2, 0], 9, 0, 0), (⟨"HotThrough$Rule", "factor", "(LHotThrough$Text;I)V"⟩, prog_10_method_6_code, 5, none, [2, 2, 0], 9, 0, 0), (⟨"HotThrough$Rule", "thing", "(LHotThrough$Text;I)V"⟩, prog_10_method_7_code, 4, none, [2, 2, 0], 9, 0, 0), (⟨"HotThrough$Rule", "emit", "(I)V"⟩, prog_10_method_8_code, 2, none, [2, 0], 9, 0, 0), (⟨"HotThrough$Rule", "isName", "(I)Z"⟩, prog_10_method_9_code, 1, (some .boolean), [0], 3, 0, 0), (⟨"HotThrough", "heat", "(II)I"⟩, prog_1_method_11_code, 4, (some .int), [2, 0, 0], 0, 0, 0), (⟨"HotThrough$Kitchen", "isPot", "(I)Z"⟩, prog_5_method_4_code, 2, (some .boolean), [2, 0], 3, 0, 0), (⟨"HotThrough$State", "isDropped", "(I)Z"⟩, prog_11_method_5_code, 2, (some .boolean), [2, 0], 3, 0, 0), (⟨"HotThrough", "sheet", "(IIII)I"⟩, prog_1_method_12_code, 8, (some .int), [2, 0, 0, 0, 0], 0, 0, 0), (⟨"HotThrough", "entry", "(II)I"⟩, prog_1_method_13_code, 3, (some .int), [0, 0], 0, 0, 0), (⟨"java/lang/Math", "max", "(II)I"⟩, prog_20_method_65_code, 2, (some .int), [0, 0], 0, 0, 0), (⟨"HotThrough", "take", "(II)I"⟩, prog_1_method_14_code, 3, (some .int), [2, 0, 0], 0, 0, 0), (⟨"HotThrough$Acts", "note", "()V"⟩, prog_2_method_3_code, 1, none, [2], 9, 0, 0), (⟨"HotThrough$Acts", "slot", "(I)I"⟩, prog_2_method_2_code, 2, (some .int), [2, 0], 0, 0, 0), (⟨"java/lang/Math", "floorMod", "(II)I"⟩, prog_20_method_50_code, 3, (some .int), [0, 0], 0, 0, 0), (⟨"HotThrough$State", "copyFrom", "(LHotThrough$State;)V"⟩, prog_11_method_2_code, 2, none, [2, 2], 9, 0, 0), (⟨"HotThrough$Acts", "taken", "(II)I"⟩, prog_2_method_7_code, 3, (some .int), [2, 0, 0], 0, 0, 0), (⟨"HotThrough$Kitchen", "isPerson", "(I)Z"⟩, prog_5_method_5_code, 2, (some .boolean), [2, 0], 3, 0, 0), (⟨"HotThrough$Acts", "settled", "(I)I"⟩, prog_2_method_4_code, 2, (some .int), [2, 0], 0, 0, 0), (⟨"HotThrough", "down", "(I)I"⟩, prog_1_method_15_code, 2, (some .int), [2, 0], 0, 0, 0), (⟨"HotThrough$Acts", "setDown", "(I)I"⟩, prog_2_method_8_code, 4, (some .int), [2, 0], 0, 0, 0), (⟨"HotThrough", "walk", "(II)I"⟩, prog_1_method_16_code, 4, (some .int), [2, 0, 0], 0, 0, 0), (⟨"HotThrough$Acts", "walked", "(II)I"⟩, prog_2_method_9_code, 5, (some .int), [2, 0, 0], 0, 0, 0), (⟨"HotThrough$Kitchen", "otherEnd", "(II)I"⟩, prog_5_method_8_code, 3, (some .int), [2, 0, 0], 0, 0, 0), (⟨"HotThrough$Kitchen", "isWay", "(I)Z"⟩, prog_5_method_3_code, 2, (some .boolean), [2, 0], 3, 0, 0), (⟨"HotThrough$Kitchen", "isPassable", "(II)Z"⟩, prog_5_method_7_code, 3, (some .boolean), [2, 0, 0], 3, 0, 0), (⟨"HotThrough$Kitchen", "hasDoor", "(I)Z"⟩, prog_5_method_6_code, 2, (some .boolean), [2, 0], 3, 0, 0), (⟨"HotThrough$Acts", "second", "()V"⟩, prog_2_method_11_code, 2, none, [2], 9, 0, 0), (⟨"HotThrough$Acts", "hold", "(I)V"⟩, prog_2_method_13_code, 4, none, [2, 0], 9, 0, 0), (⟨"HotThrough$Carrier", "begin", "(II)Z"⟩, prog_3_method_4_code, 3, (some .boolean), [2, 0, 0], 3, 0, 0), (⟨"HotThrough$Carrier", "stand", "(I)Z"⟩, prog_3_method_2_code, 2, (some .boolean), [2, 0], 3, 0, 0), (⟨"HotThrough$Carrier", "lift", "(I)Z"⟩, prog_3_method_3_code, 2, (some .boolean), [2, 0], 3, 0, 0), (⟨"HotThrough$Rule", "through", "(LHotThrough$Carrier;)I"⟩, prog_10_method_10_code, 5, (some .int), [2, 2], 0, 0, 0), (⟨"HotThrough$Rule", "combine", "(III)I"⟩, prog_10_method_12_code, 3, (some .int), [0, 0, 0], 0, 0, 0)]
def mT2 : List MT := [(⟨"HotThrough$Rule", "within", "(I)I"⟩, prog_10_method_11_code, 1, (some .int), [0], 0, 0, 0), (⟨"HotThrough$Carrier", "valueOf", "(I)I"⟩, prog_3_method_10_code, 2, (some .int), [2, 0], 0, 0, 0), (⟨"HotThrough$Acts", "coolHand", "(I)V"⟩, prog_2_method_12_code, 2, none, [2, 0], 9, 0, 0), (⟨"HotThrough", "startRow", "()V"⟩, prog_1_method_48_code, 1, none, [2], 9, 0, 0), (⟨"HotThrough", "tell", "(J)V"⟩, prog_1_method_49_code, 3, none, [2, 1], 9, 0, 0), (⟨"HotThrough", "pass", "(I)I"⟩, prog_1_method_17_code, 3, (some .int), [2, 0], 0, 0, 0), (⟨"HotThrough$Acts", "elapsed", "(I)I"⟩, prog_2_method_10_code, 3, (some .int), [2, 0], 0, 0, 0), (⟨"HotThrough", "change", "(I)I"⟩, prog_1_method_18_code, 2, (some .int), [2, 0], 0, 0, 0), (⟨"HotThrough$Acts", "changed", "(I)I"⟩, prog_2_method_14_code, 2, (some .int), [2, 0], 0, 0, 0), (⟨"HotThrough", "give", "(II)I"⟩, prog_1_method_19_code, 3, (some .int), [2, 0, 0], 0, 0, 0), (⟨"HotThrough$Acts", "given", "(II)I"⟩, prog_2_method_15_code, 4, (some .int), [2, 0, 0], 0, 0, 0), (⟨"HotThrough", "fold", "(II)I"⟩, prog_1_method_20_code, 3, (some .int), [2, 0, 0], 0, 0, 0), (⟨"HotThrough$Acts", "folded", "(II)I"⟩, prog_2_method_16_code, 4, (some .int), [2, 0, 0], 0, 0, 0), (⟨"HotThrough", "door", "(II)I"⟩, prog_1_method_21_code, 3, (some .int), [2, 0, 0], 0, 0, 0), (⟨"HotThrough$Acts", "opened", "(II)I"⟩, prog_2_method_17_code, 3, (some .int), [2, 0, 0], 0, 0, 0), (⟨"java/lang/Integer", "bitCount", "(I)I"⟩, prog_19_method_49_code, 1, (some .int), [0], 0, 0, 0), (⟨"HotThrough", "dinner", "()I"⟩, prog_1_method_22_code, 3, (some .int), [2], 0, 0, 0), (⟨"HotThrough$Acts", "read", "(LHotThrough$Text;)I"⟩, prog_2_method_18_code, 5, (some .int), [2, 2], 0, 0, 0), (⟨"HotThrough$Acts", "readAct", "(LHotThrough$Text;I)V"⟩, prog_2_method_19_code, 4, none, [2, 2, 0], 9, 0, 0), (⟨"HotThrough$Acts", "isAct", "(I)Z"⟩, prog_2_method_20_code, 1, (some .boolean), [0], 3, 0, 0), (⟨"HotThrough$Acts", "act", "(I)I"⟩, prog_2_method_21_code, 2, (some .int), [2, 0], 0, 0, 0), (⟨"HotThrough", "undo", "()I"⟩, prog_1_method_23_code, 1, (some .int), [2], 0, 0, 0), (⟨"HotThrough$Acts", "back", "()I"⟩, prog_2_method_5_code, 1, (some .int), [2], 0, 0, 0), (⟨"HotThrough", "lasts", "(I)I"⟩, prog_1_method_24_code, 3, (some .int), [2, 0], 0, 0, 0), (⟨"HotThrough", "holds", "(I)Z"⟩, prog_1_method_29_code, 2, (some .boolean), [2, 0], 3, 0, 0), (⟨"HotThrough$Carrier", "burntAfter", "(II)I"⟩, prog_3_method_7_code, 4, (some .int), [2, 0, 0], 0, 0, 0), (⟨"HotThrough$Carrier", "changeHands", "()V"⟩, prog_3_method_8_code, 2, none, [2], 9, 0, 0), (⟨"HotThrough$Carrier", "holdOn", "()Z"⟩, prog_3_method_5_code, 2, (some .boolean), [2], 3, 0, 0), (⟨"HotThrough", "swaps", "(II)I"⟩, prog_1_method_25_code, 4, (some .int), [2, 0, 0], 0, 0, 0), (⟨"HotThrough", "often", "(I)I"⟩, prog_1_method_26_code, 6, (some .int), [2, 0], 0, 0, 0), (⟨"HotThrough", "layers", "(III)I"⟩, prog_1_method_27_code, 5, (some .int), [2, 0, 0, 0], 0, 0, 0), (⟨"HotThrough", "mayHold", "(III)Z"⟩, prog_1_method_30_code, 4, (some .boolean), [2, 0, 0, 0], 3, 0, 0), (⟨"HotThrough$Carrier", "carried", "(I)I"⟩, prog_3_method_6_code, 3, (some .int), [2, 0], 0, 0, 0), (⟨"HotThrough", "hottest", "(III)I"⟩, prog_1_method_28_code, 5, (some .int), [2, 0, 0, 0], 0, 0, 0), (⟨"HotThrough", "path", "(II)I"⟩, prog_1_method_31_code, 4, (some .int), [2, 0, 0], 0, 0, 0), (⟨"HotThrough$Paths", "find", "(II)Z"⟩, prog_8_method_2_code, 4, (some .boolean), [2, 0, 0], 3, 0, 0), (⟨"HotThrough$Paths", "spread", "(II)Z"⟩, prog_8_method_4_code, 5, (some .boolean), [2, 0, 0], 3, 0, 0), (⟨"HotThrough$Paths", "relax", "(III)V"⟩, prog_8_method_5_code, 4, none, [2, 0, 0, 0], 9, 0, 0), (⟨"HotThrough$Paths", "trace", "(II)V"⟩, prog_8_method_6_code, 5, none, [2, 0, 0], 9, 0, 0), (⟨"HotThrough$Paths", "nextFrom", "(I)I"⟩, prog_8_method_7_code, 6, (some .int), [2, 0], 0, 0, 0)]
def mT3 : List MT := [(⟨"HotThrough", "clear", "(II)I"⟩, prog_1_method_32_code, 3, (some .int), [2, 0, 0], 0, 0, 0), (⟨"HotThrough$Paths", "findByDoors", "(II)Z"⟩, prog_8_method_3_code, 5, (some .boolean), [2, 0, 0], 3, 0, 0), (⟨"HotThrough", "far", "(II)I"⟩, prog_1_method_33_code, 7, (some .int), [2, 0, 0], 0, 0, 0), (⟨"HotThrough", "rests", "(III)I"⟩, prog_1_method_34_code, 6, (some .int), [2, 0, 0, 0], 0, 0, 0), (⟨"HotThrough$Rester", "fewest", "(IIII)I"⟩, prog_9_method_2_code, 5, (some .int), [2, 0, 0, 0, 0], 0, 0, 0), (⟨"HotThrough$Rester", "stop", "(II)V"⟩, prog_9_method_3_code, 3, none, [2, 0, 0], 9, 0, 0), (⟨"HotThrough$Rester", "arrived", "(I)V"⟩, prog_9_method_5_code, 2, none, [2, 0], 9, 0, 0), (⟨"HotThrough$Rester", "isLess", "(I)Z"⟩, prog_9_method_6_code, 3, (some .boolean), [2, 0], 3, 0, 0), (⟨"HotThrough$Rester", "goOn", "(II)V"⟩, prog_9_method_4_code, 3, none, [2, 0, 0], 9, 0, 0), (⟨"HotThrough$Carrier", "rest", "(I)V"⟩, prog_3_method_9_code, 3, none, [2, 0], 9, 0, 0), (⟨"HotThrough", "soonest", "(II)I"⟩, prog_1_method_35_code, 8, (some .int), [2, 0, 0], 0, 0, 0), (⟨"HotThrough", "chain", "(III)I"⟩, prog_1_method_36_code, 6, (some .int), [2, 0, 0, 0], 0, 0, 0), (⟨"HotThrough", "areFree", "(I)Z"⟩, prog_1_method_37_code, 3, (some .boolean), [2, 0], 3, 0, 0), (⟨"HotThrough$Line", "fewest", "(II)I"⟩, prog_6_method_2_code, 4, (some .int), [2, 0, 0], 0, 0, 0), (⟨"HotThrough$Line", "measure", "(II)V"⟩, prog_6_method_3_code, 6, none, [2, 0, 0], 9, 0, 0), (⟨"HotThrough$Line", "covers", "(IIIII)Z"⟩, prog_6_method_4_code, 7, (some .boolean), [2, 0, 0, 0, 0, 0], 3, 0, 0), (⟨"HotThrough", "serve", "(IIII)I"⟩, prog_1_method_38_code, 7, (some .int), [2, 0, 0, 0, 0], 0, 0, 0), (⟨"HotThrough", "areOnPlaces", "(I)Z"⟩, prog_1_method_39_code, 3, (some .boolean), [2, 0], 3, 0, 0), (⟨"HotThrough$Dishes", "soonestOrder", "(IIII)I"⟩, prog_4_method_2_code, 5, (some .int), [2, 0, 0, 0, 0], 0, 0, 0), (⟨"HotThrough$Dishes", "measure", "(II)Z"⟩, prog_4_method_3_code, 4, (some .boolean), [2, 0, 0], 3, 0, 0), (⟨"HotThrough$Dishes", "bring", "(III)V"⟩, prog_4_method_4_code, 7, none, [2, 0, 0, 0], 9, 0, 0), (⟨"HotThrough$Dishes", "arrived", "(I)V"⟩, prog_4_method_5_code, 3, none, [2, 0], 9, 0, 0), (⟨"HotThrough$Dishes", "leastHeat", "(II)I"⟩, prog_4_method_6_code, 5, (some .int), [2, 0, 0], 0, 0, 0), (⟨"HotThrough", "mark", "(II)I"⟩, prog_1_method_40_code, 3, (some .int), [2, 0, 0], 0, 0, 0), (⟨"HotThrough$Marks", "add", "(II)I"⟩, prog_7_method_2_code, 3, (some .int), [2, 0, 0], 0, 0, 0), (⟨"HotThrough", "wipe", "()I"⟩, prog_1_method_41_code, 2, (some .int), [2], 0, 0, 0), (⟨"HotThrough", "fits", "(II)I"⟩, prog_1_method_42_code, 5, (some .int), [2, 0, 0], 0, 0, 0), (⟨"HotThrough$Marks", "fitting", "(II)I"⟩, prog_7_method_3_code, 4, (some .int), [2, 0, 0], 0, 0, 0), (⟨"HotThrough$Marks", "visit", "(III)V"⟩, prog_7_method_4_code, 5, none, [2, 0, 0, 0], 9, 0, 0), (⟨"HotThrough$Marks", "arrived", "(I)V"⟩, prog_7_method_6_code, 3, none, [2, 0], 9, 0, 0), (⟨"HotThrough$Marks", "visitBy", "(III)V"⟩, prog_7_method_5_code, 5, none, [2, 0, 0, 0], 9, 0, 0), (⟨"HotThrough", "dinners", "(IIII)I"⟩, prog_1_method_43_code, 11, (some .int), [2, 0, 0, 0, 0], 0, 0, 0), (⟨"HotThrough", "keep", "(I)Z"⟩, prog_1_method_44_code, 2, (some .boolean), [2, 0], 3, 0, 0), (⟨"HotThrough", "again", "(I)Z"⟩, prog_1_method_45_code, 2, (some .boolean), [2, 0], 3, 0, 0), (⟨"HotThrough", "count", "(I)I"⟩, prog_1_method_46_code, 2, (some .int), [2, 0], 0, 0, 0), (⟨"HotThrough$State", "burnings", "(I)I"⟩, prog_11_method_8_code, 4, (some .int), [2, 0], 0, 0, 0), (⟨"HotThrough", "place", "(II)I"⟩, prog_1_method_6_code, 3, (some .int), [2, 0, 0], 0, 0, 0), (⟨"HotThrough$State", "potsOn", "(II)I"⟩, prog_11_method_6_code, 5, (some .int), [2, 0, 0], 0, 0, 0), (⟨"HotThrough$State", "peopleAt", "(II)I"⟩, prog_11_method_7_code, 5, (some .int), [2, 0, 0], 0, 0, 0), (⟨"HotThrough$Kitchen", "waysAt", "(I)I"⟩, prog_5_method_9_code, 4, (some .int), [2, 0], 0, 0, 0)]
def mT4 : List MT := [(⟨"HotThrough", "way", "(II)I"⟩, prog_1_method_7_code, 3, (some .int), [2, 0, 0], 0, 0, 0), (⟨"HotThrough", "pot", "(II)I"⟩, prog_1_method_8_code, 3, (some .int), [2, 0, 0], 0, 0, 0), (⟨"HotThrough", "person", "(II)I"⟩, prog_1_method_9_code, 3, (some .int), [2, 0, 0], 0, 0, 0), (⟨"HotThrough", "throughNext", "(I)I"⟩, prog_1_method_10_code, 2, (some .int), [2, 0], 0, 0, 0), (⟨"HotThrough", "row", "(I)J"⟩, prog_1_method_47_code, 2, (some .long), [2, 0], 1, 0, 0), (⟨"HotThroughModel", "<init>", "()V"⟩, prog_14_method_1_code, 1, none, [2], 9, 38, 2103), (⟨"HotThroughModel", "thrown", "()I"⟩, prog_14_method_2_code, 1, (some .int), [2], 0, 0, 0), (⟨"HotThroughModel", "sign", "(I)I"⟩, prog_14_method_16_code, 3, (some .int), [2, 0], 0, 0, 0), (⟨"HotThroughModel", "end", "(I)Z"⟩, prog_14_method_17_code, 2, (some .boolean), [2, 0], 3, 0, 0), (⟨"HotThroughModel", "in", "(JJJ)Z"⟩, prog_14_method_4_code, 6, (some .boolean), [1, 1, 1], 3, 0, 0), (⟨"HotThroughModel", "kitchen", "()I"⟩, prog_14_method_32_code, 7, (some .int), [2], 0, 0, 0), (⟨"HotThroughModel", "begins", "(I)I"⟩, prog_14_method_18_code, 3, (some .int), [2, 0], 0, 0, 0), (⟨"HotThroughModel", "readsLine", "()Z"⟩, prog_14_method_31_code, 1, (some .boolean), [2], 3, 0, 0), (⟨"HotThroughModel", "among", "(Ljava/lang/String;)I"⟩, prog_14_method_21_code, 3, (some .int), [2, 2], 0, 0, 0), (⟨"java/lang/String", "length", "()I"⟩, prog_22_method_54_code, 1, (some .int), [2], 0, 0, 0), (⟨"java/lang/String", "charAt", "(I)C"⟩, prog_22_method_56_code, 2, (some .char), [2, 0], 4, 0, 0), (⟨"HotThroughModel", "readsPlace", "()Z"⟩, prog_14_method_27_code, 1, (some .boolean), [2], 3, 0, 0), (⟨"HotThroughModel", "takesOf", "(Ljava/lang/String;)I"⟩, prog_14_method_22_code, 3, (some .int), [2, 2], 0, 0, 0), (⟨"HotThroughModel", "flag", "(Z)I"⟩, prog_14_method_6_code, 1, (some .int), [0], 0, 0, 0), (⟨"HotThroughModel", "readsWay", "()Z"⟩, prog_14_method_28_code, 2, (some .boolean), [2], 3, 0, 0), (⟨"HotThroughModel", "letter", "()I"⟩, prog_14_method_25_code, 2, (some .int), [2], 0, 0, 0), (⟨"HotThroughModel", "takes", "(I)Z"⟩, prog_14_method_19_code, 3, (some .boolean), [2, 0], 3, 0, 0), (⟨"HotThroughModel", "readsPot", "()Z"⟩, prog_14_method_29_code, 2, (some .boolean), [2], 3, 0, 0), (⟨"HotThroughModel", "number", "(I)I"⟩, prog_14_method_23_code, 4, (some .int), [2, 0], 0, 0, 0), (⟨"HotThroughModel", "isDigit", "()Z"⟩, prog_14_method_20_code, 1, (some .boolean), [2], 3, 0, 0), (⟨"HotThroughModel", "kindOf", "(I)I"⟩, prog_14_method_26_code, 2, (some .int), [2, 0], 0, 0, 0), (⟨"HotThroughModel", "readsOne", "()Z"⟩, prog_14_method_30_code, 2, (some .boolean), [2], 3, 0, 0), (⟨"HotThroughModel", "faultOf", "(IIZ)I"⟩, prog_14_method_24_code, 5, (some .int), [2, 0, 0, 0], 0, 0, 0), (⟨"HotThroughModel", "one", "(I)I"⟩, prog_14_method_12_code, 1, (some .int), [0], 0, 0, 0), (⟨"HotThroughModel", "rule", "()I"⟩, prog_14_method_36_code, 5, (some .int), [2], 0, 0, 0), (⟨"HotThroughModel", "readsRank", "(I)Z"⟩, prog_14_method_35_code, 4, (some .boolean), [2, 0], 3, 0, 0), (⟨"HotThroughModel", "readsThing", "()Z"⟩, prog_14_method_34_code, 2, (some .boolean), [2], 3, 0, 0), (⟨"HotThroughModel", "codes", "(I)V"⟩, prog_14_method_33_code, 2, none, [2, 0], 9, 0, 0), (⟨"HotThroughModel", "place", "(II)I"⟩, prog_14_method_43_code, 5, (some .int), [2, 0, 0], 0, 0, 0), (⟨"HotThroughModel", "isPlace", "(I)Z"⟩, prog_14_method_8_code, 2, (some .boolean), [2, 0], 3, 0, 0), (⟨"HotThroughModel", "refuse", "()I"⟩, prog_14_method_3_code, 1, (some .int), [2], 0, 0, 0), (⟨"HotThroughModel", "way", "(II)I"⟩, prog_14_method_44_code, 3, (some .int), [2, 0, 0], 0, 0, 0), (⟨"HotThroughModel", "isWay", "(I)Z"⟩, prog_14_method_11_code, 2, (some .boolean), [2, 0], 3, 0, 0), (⟨"HotThroughModel", "isOpen", "(I)Z"⟩, prog_14_method_15_code, 2, (some .boolean), [2, 0], 3, 0, 0), (⟨"HotThroughModel", "has", "(II)Z"⟩, prog_14_method_5_code, 2, (some .boolean), [0, 0], 3, 0, 0)]
def mT5 : List MT := [(⟨"HotThroughModel", "pot", "(II)I"⟩, prog_14_method_45_code, 3, (some .int), [2, 0, 0], 0, 0, 0), (⟨"HotThroughModel", "isPot", "(I)Z"⟩, prog_14_method_9_code, 2, (some .boolean), [2, 0], 3, 0, 0), (⟨"HotThroughModel", "holder", "(I)I"⟩, prog_14_method_14_code, 4, (some .int), [2, 0], 0, 0, 0), (⟨"HotThroughModel", "holds", "(I)I"⟩, prog_14_method_13_code, 2, (some .int), [2, 0], 0, 0, 0), (⟨"HotThroughModel", "person", "(II)I"⟩, prog_14_method_46_code, 3, (some .int), [2, 0, 0], 0, 0, 0), (⟨"HotThroughModel", "isPerson", "(I)Z"⟩, prog_14_method_10_code, 2, (some .boolean), [2, 0], 3, 0, 0), (⟨"HotThroughModel", "throughOf", "([II)I"⟩, prog_14_method_40_code, 5, (some .int), [2, 2, 0], 0, 0, 0), (⟨"HotThroughModel", "throughBy", "(IIIIIII)I"⟩, prog_14_method_39_code, 8, (some .int), [2, 0, 0, 0, 0, 0, 0, 0], 0, 0, 0), (⟨"HotThroughModel", "through", "()I"⟩, prog_14_method_38_code, 4, (some .int), [2], 0, 0, 0), (⟨"HotThroughModel", "worked", "(III)I"⟩, prog_14_method_37_code, 3, (some .int), [0, 0, 0], 0, 0, 0), (⟨"HotThroughModel", "heat", "(II)I"⟩, prog_14_method_48_code, 4, (some .int), [2, 0, 0], 0, 0, 0), (⟨"HotThroughModel", "isThere", "(I)Z"⟩, prog_14_method_47_code, 2, (some .boolean), [2, 0], 3, 0, 0), (⟨"HotThroughModel", "sheet", "(IIII)I"⟩, prog_14_method_49_code, 9, (some .int), [2, 0, 0, 0, 0], 0, 0, 0), (⟨"HotThroughModel", "undo", "()I"⟩, prog_14_method_54_code, 2, (some .int), [2], 0, 0, 0), (⟨"HotThroughModel", "take", "(II)I"⟩, prog_14_method_62_code, 3, (some .int), [2, 0, 0], 0, 0, 0), (⟨"HotThroughModel", "putsBy", "()V"⟩, prog_14_method_51_code, 2, none, [2], 9, 0, 0), (⟨"HotThroughModel", "takesPot", "(II)I"⟩, prog_14_method_55_code, 3, (some .int), [2, 0, 0], 0, 0, 0), (⟨"HotThroughModel", "counts", "(I)I"⟩, prog_14_method_53_code, 2, (some .int), [2, 0], 0, 0, 0), (⟨"HotThroughModel", "adds", "(I)I"⟩, prog_14_method_52_code, 3, (some .int), [2, 0], 0, 0, 0), (⟨"HotThroughModel", "down", "(I)I"⟩, prog_14_method_63_code, 2, (some .int), [2, 0], 0, 0, 0), (⟨"HotThroughModel", "setsDown", "(I)I"⟩, prog_14_method_56_code, 3, (some .int), [2, 0], 0, 0, 0), (⟨"HotThroughModel", "walk", "(II)I"⟩, prog_14_method_64_code, 4, (some .int), [2, 0, 0], 0, 0, 0), (⟨"HotThroughModel", "startsCounting", "()V"⟩, prog_14_method_41_code, 1, none, [2], 9, 0, 0), (⟨"HotThroughModel", "walks", "(II)I"⟩, prog_14_method_57_code, 5, (some .int), [2, 0, 0], 0, 0, 0), (⟨"HotThroughModel", "secondGoes", "([I)V"⟩, prog_14_method_42_code, 6, none, [2, 2], 9, 0, 0), (⟨"HotThroughModel", "enters", "(J)V"⟩, prog_14_method_7_code, 3, none, [2, 1], 9, 0, 0), (⟨"HotThroughModel", "pass", "(I)I"⟩, prog_14_method_65_code, 3, (some .int), [2, 0], 0, 0, 0), (⟨"HotThroughModel", "passes", "(I)I"⟩, prog_14_method_58_code, 4, (some .int), [2, 0], 0, 0, 0), (⟨"HotThroughModel", "change", "(I)I"⟩, prog_14_method_66_code, 2, (some .int), [2, 0], 0, 0, 0), (⟨"HotThroughModel", "changesHand", "(I)I"⟩, prog_14_method_59_code, 2, (some .int), [2, 0], 0, 0, 0), (⟨"HotThroughModel", "give", "(II)I"⟩, prog_14_method_67_code, 3, (some .int), [2, 0, 0], 0, 0, 0), (⟨"HotThroughModel", "gives", "(II)I"⟩, prog_14_method_60_code, 4, (some .int), [2, 0, 0], 0, 0, 0), (⟨"HotThroughModel", "fold", "(II)I"⟩, prog_14_method_68_code, 4, (some .int), [2, 0, 0], 0, 0, 0), (⟨"HotThroughModel", "door", "(II)I"⟩, prog_14_method_69_code, 3, (some .int), [2, 0, 0], 0, 0, 0), (⟨"HotThroughModel", "opens", "(II)I"⟩, prog_14_method_61_code, 3, (some .int), [2, 0, 0], 0, 0, 0), (⟨"HotThroughModel", "dinner", "()I"⟩, prog_14_method_72_code, 6, (some .int), [2], 0, 0, 0), (⟨"HotThroughModel", "readsAct", "()Z"⟩, prog_14_method_70_code, 2, (some .boolean), [2], 3, 0, 0), (⟨"HotThroughModel", "does", "(I)Z"⟩, prog_14_method_71_code, 3, (some .boolean), [2, 0], 3, 0, 0), (⟨"HotThroughModel", "lasts", "(I)I"⟩, prog_14_method_75_code, 3, (some .int), [2, 0], 0, 0, 0), (⟨"HotThroughModel", "canHold", "(I)Z"⟩, prog_14_method_74_code, 2, (some .boolean), [2, 0], 3, 0, 0)]
def mT6 : List MT := [(⟨"HotThroughModel", "holdsOut", "(II)I"⟩, prog_14_method_73_code, 5, (some .int), [2, 0, 0], 0, 0, 0), (⟨"HotThroughModel", "puts", "([I[I)V"⟩, prog_14_method_50_code, 3, none, [2, 2], 9, 0, 0), (⟨"HotThroughModel", "swaps", "(II)I"⟩, prog_14_method_76_code, 4, (some .int), [2, 0, 0], 0, 0, 0), (⟨"HotThroughModel", "often", "(I)I"⟩, prog_14_method_77_code, 7, (some .int), [2, 0], 0, 0, 0), (⟨"HotThroughModel", "layers", "(III)I"⟩, prog_14_method_82_code, 5, (some .int), [2, 0, 0, 0], 0, 0, 0), (⟨"HotThroughModel", "canThink", "(III)Z"⟩, prog_14_method_81_code, 4, (some .boolean), [2, 0, 0, 0], 3, 0, 0), (⟨"HotThroughModel", "soloBegins", "(II)V"⟩, prog_14_method_80_code, 3, none, [2, 0, 0], 9, 0, 0), (⟨"HotThroughModel", "soloHolds", "(IIII)I"⟩, prog_14_method_78_code, 6, (some .int), [2, 0, 0, 0, 0], 0, 0, 0), (⟨"HotThroughModel", "hottest", "(III)I"⟩, prog_14_method_83_code, 7, (some .int), [2, 0, 0, 0], 0, 0, 0), (⟨"HotThroughModel", "path", "(II)I"⟩, prog_14_method_88_code, 4, (some .int), [2, 0, 0], 0, 0, 0), (⟨"HotThroughModel", "laysWay", "(II)Z"⟩, prog_14_method_85_code, 5, (some .boolean), [2, 0, 0], 3, 0, 0), (⟨"HotThroughModel", "laysApart", "(I)V"⟩, prog_14_method_84_code, 6, none, [2, 0], 9, 0, 0), (⟨"HotThroughModel", "stepsOfWay", "()I"⟩, prog_14_method_87_code, 1, (some .int), [2], 0, 0, 0), (⟨"HotThroughModel", "clear", "(II)I"⟩, prog_14_method_89_code, 8, (some .int), [2, 0, 0], 0, 0, 0), (⟨"HotThroughModel", "far", "(II)I"⟩, prog_14_method_90_code, 7, (some .int), [2, 0, 0], 0, 0, 0), (⟨"HotThroughModel", "legOf", "(I)I"⟩, prog_14_method_86_code, 2, (some .int), [2, 0], 0, 0, 0), (⟨"HotThroughModel", "rests", "(III)I"⟩, prog_14_method_95_code, 6, (some .int), [2, 0, 0, 0], 0, 0, 0), (⟨"HotThroughModel", "fewestRests", "(II)I"⟩, prog_14_method_94_code, 6, (some .int), [2, 0, 0], 0, 0, 0), (⟨"HotThroughModel", "isAhead", "(II)Z"⟩, prog_14_method_93_code, 7, (some .boolean), [2, 0, 0], 3, 0, 0), (⟨"java/lang/Integer", "numberOfTrailingZeros", "(I)I"⟩, prog_19_method_48_code, 2, (some .int), [0], 0, 0, 0), (⟨"HotThroughModel", "canRest", "(I)Z"⟩, prog_14_method_92_code, 4, (some .boolean), [2, 0], 3, 0, 0), (⟨"HotThroughModel", "carries", "(III)Z"⟩, prog_14_method_91_code, 6, (some .boolean), [2, 0, 0, 0], 3, 0, 0), (⟨"HotThroughModel", "soloRests", "(II)V"⟩, prog_14_method_79_code, 4, none, [2, 0, 0], 9, 0, 0), (⟨"HotThroughModel", "soonest", "(II)I"⟩, prog_14_method_96_code, 9, (some .int), [2, 0, 0], 0, 0, 0), (⟨"HotThroughModel", "chain", "(III)I"⟩, prog_14_method_98_code, 5, (some .int), [2, 0, 0, 0], 0, 0, 0), (⟨"HotThroughModel", "carriesOn", "(IIIIIII)V"⟩, prog_14_method_97_code, 10, none, [2, 0, 0, 0, 0, 0, 0, 0], 9, 0, 0), (⟨"HotThroughModel", "serve", "(IIII)I"⟩, prog_14_method_101_code, 6, (some .int), [2, 0, 0, 0, 0], 0, 0, 0), (⟨"HotThroughModel", "brings", "(IIIIIIII)V"⟩, prog_14_method_100_code, 15, none, [2, 0, 0, 0, 0, 0, 0, 0, 0], 9, 0, 0), (⟨"HotThroughModel", "coolsAll", "(II)V"⟩, prog_14_method_99_code, 5, none, [2, 0, 0], 9, 0, 0), (⟨"HotThroughModel", "mark", "(II)I"⟩, prog_14_method_102_code, 3, (some .int), [2, 0, 0], 0, 0, 0), (⟨"HotThroughModel", "wipe", "()I"⟩, prog_14_method_103_code, 2, (some .int), [2], 0, 0, 0), (⟨"HotThroughModel", "fits", "(II)I"⟩, prog_14_method_107_code, 4, (some .int), [2, 0, 0], 0, 0, 0), (⟨"HotThroughModel", "walksOn", "(IIIII)V"⟩, prog_14_method_106_code, 11, none, [2, 0, 0, 0, 0, 0], 9, 0, 0), (⟨"HotThroughModel", "marksAt", "(II)I"⟩, prog_14_method_104_code, 5, (some .int), [2, 0, 0], 0, 0, 0), (⟨"HotThroughModel", "isLess", "(I)Z"⟩, prog_14_method_105_code, 3, (some .boolean), [2, 0], 3, 0, 0), (⟨"HotThroughModel", "dinners", "(IIII)I"⟩, prog_14_method_108_code, 13, (some .int), [2, 0, 0, 0, 0], 0, 0, 0), (⟨"HotThroughModel", "keep", "(I)Z"⟩, prog_14_method_109_code, 3, (some .boolean), [2, 0], 3, 0, 0), (⟨"HotThroughModel", "again", "(I)Z"⟩, prog_14_method_110_code, 3, (some .boolean), [2, 0], 3, 0, 0), (⟨"HotThroughModel", "count", "(I)I"⟩, prog_14_method_113_code, 2, (some .int), [2, 0], 0, 0, 0), (⟨"HotThroughModel", "dropped", "()I"⟩, prog_14_method_111_code, 3, (some .int), [2], 0, 0, 0)]
def mT7 : List MT := [(⟨"HotThroughModel", "burntAll", "()I"⟩, prog_14_method_112_code, 3, (some .int), [2], 0, 0, 0), (⟨"HotThroughModel", "row", "(I)J"⟩, prog_14_method_114_code, 2, (some .long), [2, 0], 1, 0, 0)]
def mTl : List MT := mT0 ++ mT1 ++ mT2 ++ mT3 ++ mT4 ++ mT5 ++ mT6 ++ mT7
def mTd : MT := (⟨"", "", ""⟩, ⟨#[]⟩, 0, none, [], 0, 0, 0)
def mT (k : Nat) : MT := mTl.getD k mTd
def mNam (k : Nat) : MethodName := (mT k).1
def mCod (k : Nat) : ByteArray := (mT k).2.1
def mMax (k : Nat) : Nat := (mT k).2.2.1
def mRet (k : Nat) : Option FieldType := (mT k).2.2.2.1
def mArg (k : Nat) : List Nat := (mT k).2.2.2.2.1
def mRty (k : Nat) : Nat := (mT k).2.2.2.2.2.1
def mCel (k : Nat) : Nat := (mT k).2.2.2.2.2.2.1
def mSlo (k : Nat) : Nat := (mT k).2.2.2.2.2.2.2
def mWor (k : Nat) : Cond := .code (mNam k) (mCod k) (mMax k) (mRet k)
end
section
/-! programs as trees: what a tree of expressions does to the machine, said once -/
def rd (u : Sto) (t : Nat) (a j : Int) : Int := if t = 2 then u.1 a j else u.2.1 a j
def upm (f : Mem) (a j v : Int) : Mem := fun x y => if x = a ∧ y = j then v else f x y
def wr (u : Sto) (t : Nat) (a j v : Int) : Sto := if t = 2 then (upm u.1 a j v, u.2) else (u.1, upm u.2.1 a j v, u.2.2)
def upr (r : Rho) (i : Nat) (v : Int) : Rho := fun j => if j = i then v else r j
def stn (u : Sto) : Int := u.2.2.1
def sex (u : Sto) : Int := u.2.2.2.1
def sbc (u : Sto) : Nat := u.2.2.2.2.1
def sbw (u : Sto) : Nat := u.2.2.2.2.2
def bud (u : Sto) (c w : Nat) : Sto := (u.1, u.2.1, u.2.2.1, u.2.2.2.1, c, w)
def live (u : Sto) (a : Int) (k : Nat) : Prop := 0 < a ∧ a < stn u ∧ kcls a = k
def cellAt (G : Geo) (u : Sto) (H : Heap) (a : Int) : Prop :=
  ∃ cell : Cell, H[G.1 a]? = some cell ∧ cell.vm = .none ∧ cell.cls = G.2.1 (kcls a) ∧ (14 ≤ kcls a → cell.slots.size = (klen a).toNat) ∧ ∀ j : Nat, (j : Int) < klen a → cell.slots[G.2.2.1 (kcls a) j]? = some (enc G.1 (ety (kcls a) j) (rd u (ety (kcls a) j) a j))
def Rel (G : Geo) (u : Sto) (H : Heap) : Prop :=
  (∀ a : Int, 0 < a → a < stn u → kcls a ≠ 0 → cellAt G u H a) ∧
  (∀ a : Int, 0 < a → a < stn u → ∀ j : Nat, (j : Int) < klen a → ety (kcls a) j ≠ 2 → okv (ety (kcls a) j) (u.2.1 a j)) ∧
  1 ≤ stn u ∧ G.2.2.2 + (stn u).toNat ≤ H.size + 1 ∧ (sex u = 1 → H.size + 1 = G.2.2.2 + (stn u).toNat)
def KOK (G : Geo) (U : State) : Prop :=
  (∀ a : Int, 0 < a → G.1 a = G.2.2.2 + (a.toNat - 1)) ∧
  (∀ k, 1 ≤ k → k ≤ 13 → u_Kn U (kC k) (kF k) (kN k) (G.2.1 k) (G.2.2.1 k)) ∧
  (∀ k i j, 1 ≤ k → k ≤ 13 → i < kN k → j < kN k → i ≠ j → G.2.2.1 k i ≠ G.2.2.1 k j) ∧
  (∀ k, 14 ≤ k → k ≤ 18 → ArrOfT U (G.2.1 k) (aT k)) ∧ (∀ k j, 14 ≤ k → G.2.2.1 k j = j) ∧ ∀ k, 14 ≤ k → k ≤ 18 → va_RA U (G.2.1 k) (aT k)
theorem KOK.moved {G : Geo} {u U : State} (hvm : u.vm.Alike U.vm) (h : KOK G u) : KOK G U :=
  ⟨h.1, fun k h1 h2 => u_Kn_moved hvm (h.2.1 k h1 h2), h.2.2.1, fun k h1 h2 => arrOfT_moved hvm (h.2.2.2.1 k h1 h2), h.2.2.2.2.1, fun k h1 h2 => (h.2.2.2.2.2 k h1 h2).moved hvm⟩
def sTx : List String := ["fbtwph", "fbt", "123456789", "hfnbsipr", "<>=", "+-", "*/", "tdwscgo"]
def sCp : List Nat := [236, 207, 218, 276, 281, 283, 285, 402]
def sLen : List Nat := [6, 3, 9, 8, 3, 2, 2, 7]
def sByt : List (List Int32) := [[102, 98, 116, 119, 112, 104], [102, 98, 116], [49, 50, 51, 52, 53, 54, 55, 56, 57], [104, 102, 110, 98, 115, 105, 112, 114], [60, 62, 61], [43, 45], [42, 47], [116, 100, 119, 115, 99, 103, 111]]
/-- what lies below the base and is never written: texts, statics -/
def SOH (G : Geo) (U : State) (H : Heap) : Prop :=
  (∃ adV : Nat → Nat, vk_S 8 sLen sByt (fun i => G.1 (-1 - (i : Int))) adV (fun q => G.2.2.2 ≤ q) U H) ∧ (∀ i : Nat, i < 8 → vk_R "HotThroughModel" (sCp.getD i 0) (sTx.getD i "") (G.1 (-1 - (i : Int))) U) ∧
  va_Z "java/lang/String" "COMPACT_STRINGS" "Z" (.int 1) (fun q => G.2.2.2 ≤ q) U H ∧ va_Zq "jdk/internal/util/Preconditions" "SIOOBE_FORMATTER" "Ljava/util/function/BiFunction;" (fun q => G.2.2.2 ≤ q) U H ∧
  vx_Zq Bundle.tN "UNASSIGNED_STACK" Bundle.steD (fun q => G.2.2.2 ≤ q) U H ∧ vx_Zq Bundle.tN "SUPPRESSED_SENTINEL" Bundle.listD (fun q => G.2.2.2 ≤ q) U H
def SOK (G : Geo) (U : State) : Prop := SOH G U U.heap
theorem SOK.on {G : Geo} {s U : State} (h : SOK G s) (hW : s.WarmedH U.vm) (hq : ∀ a : Nat, a < G.2.2.2 → U.heap[a]? = s.heap[a]?) : SOK G U := by
  have hk : ∀ a : Nat, a < s.heap.size → ¬ G.2.2.2 ≤ a → U.heap[a]? = s.heap[a]? := fun a _ h2 => hq a (by omega)
  obtain ⟨⟨adV, h1⟩, h2, h3, h4, h5, h6⟩ := h
  exact ⟨⟨adV, (h1.moved hW.alike).kept hk⟩, fun i hi => (h2 i hi).warm hW, (h3.moved hW.alike).kept hk, (h4.moved hW.alike).kept hk, (h5.moved hW.alike).kept hk, (h6.moved hW.alike).kept hk⟩
def FrS (G : Geo) (H0 H : Heap) (locs : List Loc) : Prop := H0.size ≤ H.size ∧ (∀ q : Nat, q < G.2.2.2 → H[q]? = H0[q]?) ∧ ∀ x ∈ locs, G.2.2.2 ≤ x.base
def At (G : Geo) (R : Room) (H0 : Heap) (u : Sto) (H : Heap) (locs : List Loc) (cells slots : Nat) : Prop :=
  Rel G u H ∧ FrS G H0 H locs ∧ cells + sbc u ≤ R.cells ∧ slots + sbw u ≤ R.slots
abbrev Cds : Type := List (Nat × Instr × Nat)
def pcOf : Cds → Nat
  | [] => 0
  | q :: _ => q.1
def Dec (cc : ByteArray) : Cds → Prop
  | [] => True
  | q :: t => decode cc q.1 = .ok (q.2.1, q.2.2) ∧ (t = [] ∨ pcOf t = q.1 + q.2.2) ∧ Dec cc t
/-- past one instruction, more to come -/
def nx (i : Instr) (n : Nat) : Cds → Option Cds
  | q :: r :: t => if q.2.1 = i ∧ q.2.2 = n then some (r :: t) else none
  | _ => none
theorem nx_ok {i : Instr} {n : Nat} {cs t : Cds} {cc : ByteArray} (h : nx i n cs = some t) (hD : Dec cc cs) : decode cc (pcOf cs) = .ok (i, n) ∧ pcOf t = pcOf cs + n ∧ Dec cc t := by
  match cs, h, hD with
  | [], h, _ => simp [nx] at h
  | [_], h, _ => simp [nx] at h
  | q :: r :: t', h, hD =>
    simp only [nx] at h
    split at h
    · rename_i hq
      cases h
      obtain ⟨h1, h2, h3⟩ := hD
      rw [hq.1, hq.2] at h1
      refine ⟨h1, ?_, h3⟩
      rcases h2 with h2 | h2
      · cases h2
      · rw [h2, hq.2]; rfl
    · cases h
/-- the last one of a stretch: what comes behind it, if anything does -/
def nxe (i : Instr) (n : Nat) : Cds → Option Cds
  | q :: t => if q.2.1 = i ∧ q.2.2 = n then some t else none
  | _ => none
theorem nxe_ok {i : Instr} {n : Nat} {cs t : Cds} {cc : ByteArray} (h : nxe i n cs = some t) (hD : Dec cc cs) : decode cc (pcOf cs) = .ok (i, n) ∧ Dec cc t := by
  match cs, h, hD with
  | [], h, _ => simp [nxe] at h
  | q :: t', h, hD =>
    simp only [nxe] at h
    split at h
    · rename_i hq
      cases h
      obtain ⟨h1, h2, h3⟩ := hD
      rw [hq.1, hq.2] at h1
      exact ⟨h1, h3⟩
    · cases h
abbrev Gam : Type := List (Nat × Nat)
def LR (G : Geo) (nL : Nat) (ga : Gam) (r : Rho) (ls : Array Slot) : Prop := lv_has ls nL (ga.map fun q => (q.1, enc G.1 q.2 (r q.1))) ∧ ∀ q ∈ ga, okv q.2 (r q.1)
theorem LR.at {G : Geo} {nL : Nat} {ga : Gam} {r : Rho} {ls : Array Slot} (h : LR G nL ga r ls) {i t : Nat} (hm : (i, t) ∈ ga) : ls[i]? = some (.val (enc G.1 t (r i))) ∧ okv t (r i) :=
  ⟨h.1.2.2 (i, enc G.1 t (r i)) (List.mem_map.mpr ⟨(i, t), hm, rfl⟩), h.2 (i, t) hm⟩
theorem LR.sub {G : Geo} {nL : Nat} {ga gb : Gam} {r : Rho} {ls : Array Slot} (h : LR G nL ga r ls) (hs : ∀ q ∈ gb, q ∈ ga) : LR G nL gb r ls :=
  ⟨⟨h.1.1, h.1.2.1, fun q hq => by
    obtain ⟨z, hz, rfl⟩ := List.mem_map.mp hq
    exact h.1.2.2 _ (List.mem_map.mpr ⟨z, hs z hz, rfl⟩)⟩, fun q hq => h.2 q (hs q hq)⟩
abbrev ClT : Type := Nat → List Int → (Int → Sto → Prop) → Sto → Prop
def encA (al : Int → Nat) : List Nat → List Int → List Value
  | t :: ts, v :: vs => enc al t v :: encA al ts vs
  | _, _ => []
def okA : List Nat → List Int → Prop
  | [], [] => True
  | t :: ts, v :: vs => okv t v ∧ okA ts vs
  | _, _ => False
def encR (al : Int → Nat) (t : Nat) (v : Int) : Option Value := if t = 9 then none else some (enc al t v)
def FrH (G : Geo) (st t : State) : Prop := st.heap.size ≤ t.heap.size ∧ ∀ q : Nat, q < G.2.2.2 → t.heap[q]? = st.heap[q]?
def PcOf (G : Geo) (k : Nat) (vs : List Int) (u : Sto) : Array Value → State → Prop := fun a U => a = (encA G.1 (mArg k) vs).toArray ∧ okA (mArg k) vs ∧ Rel G u U.heap ∧ KOK G U ∧ G.2.2.2 ≤ U.heap.size ∧ SOK G U
def QcOf (G : Geo) (k : Nat) (Q : Int → Sto → Prop) : Array Value → State → Outcome → State → Prop := fun _ st o t =>
  (∃ (v : Int) (u : Sto), o = .returned (encR G.1 (mRty k) v) ∧ okv (mRty k) v ∧ Q v u ∧ Rel G u t.heap) ∧ FrH G st t
def wsOf (k : Nat) : List Cond := mWor k :: gTbl
def ClOK (l : Launch) (R : Room) (G : Geo) (cl : ClT) : Prop := ∀ (k : Nat) (vs : List Int) (Q : Int → Sto → Prop) (u : Sto), cl k vs Q u → sbc u ≤ mCel k → sbw u ≤ mSlo k →
  ∃ rm : Room, rm.cells = mCel k ∧ rm.slots = mSlo k ∧ rm.frames + 1 ≤ R.frames ∧ 8 + (mMax k + 11) + rm.locals ≤ R.locals ∧
    Met l (mNam k) (wsOf k) rm (PcOf G k vs u) (QcOf G k Q) (mCel k) (mSlo k) (fun q => G.2.2.2 ≤ q)
def MX (p : Program) (R : Room) (s : State) (m : MethodId) (args : Array Value) (c : Code) (cc : ByteArray) (nL ow : Nat) (G : Geo) : Prop :=
  p.tables.exec = Jvm.exec ∧ c.code = cc ∧ c.maxLocals = nL ∧ s.vm.findClass (kC ow) = some m.cls ∧ (∀ w ∈ gTbl, w.before args s = true) ∧ KOK G s ∧ G.2.2.2 ≤ s.heap.size ∧ 1 ≤ R.frames ∧ 40 ≤ R.locals ∧ SOK G s ∧ (100 ≤ ow → ∀ mt : Method, s.vm.method? m = some mt → mt.name = "<init>")
def cats (st : List Value) : Nat := (st.map fun v => v.category).sum
theorem cats_cons (v : Value) (st : List Value) : cats (v :: st) = v.category + cats st := by simp [cats]
theorem cat_enc (al : Int → Nat) (t : Nat) (v : Int) : (enc al t v).category = if t = 1 then 2 else 1 := by
  unfold enc
  split
  · rfl
  · split
    · split <;> rfl
    · rfl
abbrev XE : Type := (Gam → Nat → Cds → Option (Nat × Cds)) × (ClT → (Int → Sto → Prop) → Rho → Sto → Prop)
def SndE (ow : Nat) (x : XE) : Prop :=
  ∀ (p : Program) (l : Launch) (e : Env) (R : Room) (s : State) (m : MethodId) (args : Array Value) (below : List Frame) (meth : Method) (c : Code) (cc : ByteArray) (nL : Nat) (G : Geo) (Qf : State → Prop) (cl : ClT),
  MX p R s m args c cc nL ow G → ClOK l R G cl → ∀ (ga : Gam) (d : Nat) (cs : Cds) (t : Nat) (cs' : Cds), x.1 ga d cs = some (t, cs') → Dec cc cs →
  ∀ (r : Rho) (u : Sto) (H : Heap) (locs : List Loc) (cells slots : Nat) (ls : Array Slot) (st : List Value) (Q : Int → Sto → Prop),
  LR G nL ga r ls → At G R s.heap u H locs cells slots → cats st ≤ d → x.2 cl Q r u →
  (∀ (v : Int) (u' : Sto) (H' : Heap) (locs' : List Loc) (cells' slots' : Nat), okv t v → At G R s.heap u' H' locs' cells' slots' → Q v u' → Dec cc cs' → W p l e R s m args below meth c H' locs' cells' slots' Qf (F0 m (pcOf cs') ls (enc G.1 t v :: st))) →
  W p l e R s m args below meth c H locs cells slots Qf (F0 m (pcOf cs) ls st)
def DecE (x : XE) : Prop := ∀ (ga : Gam) (d : Nat) (cs : Cds) (t : Nat) (cs' : Cds) (cc : ByteArray), x.1 ga d cs = some (t, cs') → Dec cc cs → Dec cc cs'
theorem map_nx {i : Instr} {n a t : Nat} {cs cs' : Cds} {cc : ByteArray} (h : (nx i n cs).map (fun x => (a, x)) = some (t, cs')) (hD : Dec cc cs) : Dec cc cs' := by
  obtain ⟨x, hx, e1⟩ := Option.map_eq_some_iff.mp h
  cases e1
  exact (nx_ok hx hD).2.2
abbrev EX (ow : Nat) : Type := { x : XE // SndE ow x ∧ DecE x }

def insC (n : Int) : Instr × Nat := if -1 ≤ n ∧ n ≤ 5 then (.iconst n, 1) else if -128 ≤ n ∧ n ≤ 127 then (.bipush n, 2) else (.sipush n, 3)
def cstP (n : Int) : XE := (fun _ _ cs => if -32768 ≤ n ∧ n ≤ 32767 then (nx (insC n).1 (insC n).2 cs).map (fun x => (0, x)) else none, fun _ Q _ u => Q n u)
theorem cst_ok (ow : Nat) (n : Int) : SndE ow (cstP n) := by
  intro p l e R s m args below meth c cc nL G Qf cl hX hC ga d cs t cs' hc hD r u H locs cells slots ls st Q hL hA hs hw k
  simp only [cstP] at hc hw
  split at hc
  case isFalse => cases hc
  rename_i hn
  obtain ⟨x, hx, e1⟩ := Option.map_eq_some_iff.mp hc
  cases e1
  obtain ⟨h1, h2, h3⟩ := nx_ok hx hD
  have hi : inI n := by unfold inI; omega
  have k' := k n u H locs cells slots hi hA hw h3
  rw [h2, enc_0] at k'
  unfold insC at h1 k'
  split at h1
  · rename_i q
    rw [if_pos q] at k'
    exact lv_iconst hX.1 hX.2.1 h1 rfl k'
  · rename_i q
    rw [if_neg q] at k'
    split at h1
    · rename_i q2
      rw [if_pos q2] at k'
      exact lv_bipush hX.1 hX.2.1 h1 (Int8.toInt32_ofInt (by show (-128 : Int) ≤ n; omega) (by show n ≤ (127 : Int); omega)) k'
    · rename_i q2
      rw [if_neg q2] at k'
      exact lv_sipush hX.1 hX.2.1 h1 (Int16.toInt32_ofInt (by show (-32768 : Int) ≤ n; omega) (by show n ≤ (32767 : Int); omega)) k'
theorem cst_d (n : Int) : DecE (cstP n) := by
  intro ga d cs t cs' cc hc hD
  simp only [cstP] at hc
  split at hc
  case isFalse => cases hc
  exact map_nx hc hD
def cst {ow : Nat} (n : Int) : EX ow := ⟨cstP n, cst_ok ow n, cst_d n⟩
def insI (i : Nat) : Instr × Nat := if h : i < 4 then (.iload_n ⟨i, h⟩, 1) else (.iload i, 2)
def insA (i : Nat) : Instr × Nat := if h : i < 4 then (.aload_n ⟨i, h⟩, 1) else (.aload i, 2)
def insJ (i : Nat) : Instr × Nat := if h : i < 4 then (.lload_n ⟨i, h⟩, 1) else (.lload i, 2)
def ldiP (i : Nat) : XE := (fun ga _ cs => if (i, 0) ∈ ga then (nx (insI i).1 (insI i).2 cs).map (fun x => (0, x)) else none, fun _ Q r u => Q (r i) u)
theorem ldi_ok (ow : Nat) (i : Nat) : SndE ow (ldiP i) := by
  intro p l e R s m args below meth c cc nL G Qf cl hX hC ga d cs t cs' hc hD r u H locs cells slots ls st Q hL hA hs hw k
  simp only [ldiP] at hc hw
  split at hc
  case isFalse => cases hc
  rename_i hm
  obtain ⟨x, hx, e1⟩ := Option.map_eq_some_iff.mp hc
  cases e1
  obtain ⟨h1, h2, h3⟩ := nx_ok hx hD
  obtain ⟨hl, hi⟩ := hL.at hm
  have k' := k (r i) u H locs cells slots hi hA hw h3
  rw [h2] at k'
  unfold insI at h1 k'
  split at h1
  · rename_i q
    rw [dif_pos q] at k'
    exact lv_iload_n hX.1 hX.2.1 h1 rfl hl k'
  · rename_i q
    rw [dif_neg q] at k'
    exact lv_iload hX.1 hX.2.1 h1 hl k'
theorem ldi_d (i : Nat) : DecE (ldiP i) := by
  intro ga d cs t cs' cc hc hD
  simp only [ldiP] at hc
  split at hc
  case isFalse => cases hc
  exact map_nx hc hD
def ldi {ow : Nat} (i : Nat) : EX ow := ⟨ldiP i, ldi_ok ow i, ldi_d i⟩
def ldjP (i : Nat) : XE := (fun ga _ cs => if (i, 1) ∈ ga then (nx (insJ i).1 (insJ i).2 cs).map (fun x => (1, x)) else none, fun _ Q r u => Q (r i) u)
theorem ldj_ok (ow : Nat) (i : Nat) : SndE ow (ldjP i) := by
  intro p l e R s m args below meth c cc nL G Qf cl hX hC ga d cs t cs' hc hD r u H locs cells slots ls st Q hL hA hs hw k
  simp only [ldjP] at hc hw
  split at hc
  case isFalse => cases hc
  rename_i hm
  obtain ⟨x, hx, e1⟩ := Option.map_eq_some_iff.mp hc
  cases e1
  obtain ⟨h1, h2, h3⟩ := nx_ok hx hD
  obtain ⟨hl, hi⟩ := hL.at hm
  have k' := k (r i) u H locs cells slots hi hA hw h3
  rw [h2] at k'
  unfold insJ at h1 k'
  split at h1
  · rename_i q
    rw [dif_pos q] at k'
    exact lv_lload_n hX.1 hX.2.1 h1 rfl hl k'
  · rename_i q
    rw [dif_neg q] at k'
    exact lv_lload hX.1 hX.2.1 h1 hl k'
theorem ldj_d (i : Nat) : DecE (ldjP i) := by
  intro ga d cs t cs' cc hc hD
  simp only [ldjP] at hc
  split at hc
  case isFalse => cases hc
  exact map_nx hc hD
def ldj {ow : Nat} (i : Nat) : EX ow := ⟨ldjP i, ldj_ok ow i, ldj_d i⟩
def ldaP (i : Nat) : XE := (fun ga _ cs => if (i, 2) ∈ ga then (nx (insA i).1 (insA i).2 cs).map (fun x => (2, x)) else none, fun _ Q r u => r i ≠ 0 ∧ Q (r i) u)
theorem lda_ok (ow : Nat) (i : Nat) : SndE ow (ldaP i) := by
  intro p l e R s m args below meth c cc nL G Qf cl hX hC ga d cs t cs' hc hD r u H locs cells slots ls st Q hL hA hs hw k
  simp only [ldaP] at hc hw
  split at hc
  case isFalse => cases hc
  rename_i hm
  obtain ⟨x, hx, e1⟩ := Option.map_eq_some_iff.mp hc
  cases e1
  obtain ⟨h1, h2, h3⟩ := nx_ok hx hD
  obtain ⟨hl, hi⟩ := hL.at hm
  have k' := k (r i) u H locs cells slots hi hA hw.2 h3
  rw [h2, enc_2 _ hw.1] at k'
  rw [enc_2 _ hw.1] at hl
  unfold insA at h1 k'
  split at h1
  · rename_i q
    rw [dif_pos q] at k'
    exact lv_aload_n hX.1 hX.2.1 h1 rfl hl k'
  · rename_i q
    rw [dif_neg q] at k'
    exact lv_aload hX.1 hX.2.1 h1 hl k'
theorem lda_d (i : Nat) : DecE (ldaP i) := by
  intro ga d cs t cs' cc hc hD
  simp only [ldaP] at hc
  split at hc
  case isFalse => cases hc
  exact map_nx hc hD
def lda {ow : Nat} (i : Nat) : EX ow := ⟨ldaP i, lda_ok ow i, lda_d i⟩

def negP (a : XE) : XE := (fun ga d cs => match a.1 ga d cs with
    | some (0, cs1) => (nx .ineg 1 cs1).map (fun x => (0, x))
    | _ => none, fun cl Q r u => a.2 cl (fun v u' => Q (w32 (-v)) u') r u)
theorem neg_ok (ow : Nat) (a : XE) (ha : SndE ow a) : SndE ow (negP a) := by
  intro p l e R s m args below meth c cc nL G Qf cl hX hC ga d cs t cs' hc hD r u H locs cells slots ls st Q hL hA hs hw k
  simp only [negP] at hc hw
  split at hc
  case h_2 => cases hc
  rename_i cs1 h0
  obtain ⟨x, hx, e1⟩ := Option.map_eq_some_iff.mp hc
  cases e1
  refine ha p l e R s m args below meth c cc nL G Qf cl hX hC ga d cs 0 cs1 h0 hD r u H locs cells slots ls st _ hL hA hs hw ?_
  intro v u' H' locs' cells' slots' hv hA' hq hD1
  obtain ⟨h1, h2, h3⟩ := nx_ok hx hD1
  have hv : inI v := hv
  have k' := k (w32 (-v)) u' H' locs' cells' slots' (w32_in _) hA' hq h3
  rw [h2] at k'
  exact lv_ineg hX.1 hX.2.1 h1 (by rw [← Int32.ofInt_neg, ← ofI_bmod]; exact k')
theorem neg_d (a : XE) (ha : DecE a) : DecE (negP a) := by
  intro ga d cs t cs' cc hc hD
  simp only [negP] at hc
  split at hc
  case h_2 => cases hc
  rename_i h0
  exact map_nx hc (ha _ _ _ _ _ _ h0 hD)
def neg {ow : Nat} (a : EX ow) : EX ow := ⟨negP a.1, neg_ok ow a.1 a.2.1, neg_d a.1 a.2.2⟩

def cvbP (a : XE) : XE := (fun ga d cs => match a.1 ga d cs with
    | some (0, cs1) => (nx .i2b 1 cs1).map (fun x => (0, x))
    | _ => none, fun cl Q r u => a.2 cl (fun v u' => Q (i2b v) u') r u)
theorem cvb_ok (ow : Nat) (a : XE) (ha : SndE ow a) : SndE ow (cvbP a) := by
  intro p l e R s m args below meth c cc nL G Qf cl hX hC ga d cs t cs' hc hD r u H locs cells slots ls st Q hL hA hs hw k
  simp only [cvbP] at hc hw
  split at hc
  case h_2 => cases hc
  rename_i cs1 h0
  obtain ⟨x, hx, e1⟩ := Option.map_eq_some_iff.mp hc
  cases e1
  refine ha p l e R s m args below meth c cc nL G Qf cl hX hC ga d cs 0 cs1 h0 hD r u H locs cells slots ls st _ hL hA hs hw ?_
  intro v u' H' locs' cells' slots' hv hA' hq hD1
  obtain ⟨h1, h2, h3⟩ := nx_ok hx hD1
  have hv : inI v := hv
  have k' := k (i2b v) u' H' locs' cells' slots' (toInt_in _) hA' hq h3
  rw [h2] at k'
  exact lv_i2b hX.1 hX.2.1 h1 (by rw [i2b, Int32.ofInt_toInt]) k'
theorem cvb_d (a : XE) (ha : DecE a) : DecE (cvbP a) := by
  intro ga d cs t cs' cc hc hD
  simp only [cvbP] at hc
  split at hc
  case h_2 => cases hc
  rename_i h0
  exact map_nx hc (ha _ _ _ _ _ _ h0 hD)
def cvb {ow : Nat} (a : EX ow) : EX ow := ⟨cvbP a.1, cvb_ok ow a.1 a.2.1, cvb_d a.1 a.2.2⟩

def cvsP (a : XE) : XE := (fun ga d cs => match a.1 ga d cs with
    | some (0, cs1) => (nx .i2s 1 cs1).map (fun x => (0, x))
    | _ => none, fun cl Q r u => a.2 cl (fun v u' => Q (i2s v) u') r u)
theorem cvs_ok (ow : Nat) (a : XE) (ha : SndE ow a) : SndE ow (cvsP a) := by
  intro p l e R s m args below meth c cc nL G Qf cl hX hC ga d cs t cs' hc hD r u H locs cells slots ls st Q hL hA hs hw k
  simp only [cvsP] at hc hw
  split at hc
  case h_2 => cases hc
  rename_i cs1 h0
  obtain ⟨x, hx, e1⟩ := Option.map_eq_some_iff.mp hc
  cases e1
  refine ha p l e R s m args below meth c cc nL G Qf cl hX hC ga d cs 0 cs1 h0 hD r u H locs cells slots ls st _ hL hA hs hw ?_
  intro v u' H' locs' cells' slots' hv hA' hq hD1
  obtain ⟨h1, h2, h3⟩ := nx_ok hx hD1
  have hv : inI v := hv
  have k' := k (i2s v) u' H' locs' cells' slots' (toInt_in _) hA' hq h3
  rw [h2] at k'
  exact lv_i2s hX.1 hX.2.1 h1 (by rw [i2s, Int32.ofInt_toInt]) k'
theorem cvs_d (a : XE) (ha : DecE a) : DecE (cvsP a) := by
  intro ga d cs t cs' cc hc hD
  simp only [cvsP] at hc
  split at hc
  case h_2 => cases hc
  rename_i h0
  exact map_nx hc (ha _ _ _ _ _ _ h0 hD)
def cvs {ow : Nat} (a : EX ow) : EX ow := ⟨cvsP a.1, cvs_ok ow a.1 a.2.1, cvs_d a.1 a.2.2⟩

def cvcP (a : XE) : XE := (fun ga d cs => match a.1 ga d cs with
    | some (0, cs1) => (nx .i2c 1 cs1).map (fun x => (0, x))
    | _ => none, fun cl Q r u => a.2 cl (fun v u' => Q (i2c v) u') r u)
theorem cvc_ok (ow : Nat) (a : XE) (ha : SndE ow a) : SndE ow (cvcP a) := by
  intro p l e R s m args below meth c cc nL G Qf cl hX hC ga d cs t cs' hc hD r u H locs cells slots ls st Q hL hA hs hw k
  simp only [cvcP] at hc hw
  split at hc
  case h_2 => cases hc
  rename_i cs1 h0
  obtain ⟨x, hx, e1⟩ := Option.map_eq_some_iff.mp hc
  cases e1
  refine ha p l e R s m args below meth c cc nL G Qf cl hX hC ga d cs 0 cs1 h0 hD r u H locs cells slots ls st _ hL hA hs hw ?_
  intro v u' H' locs' cells' slots' hv hA' hq hD1
  obtain ⟨h1, h2, h3⟩ := nx_ok hx hD1
  have hv : inI v := hv
  have k' := k (i2c v) u' H' locs' cells' slots' (toInt_in _) hA' hq h3
  rw [h2] at k'
  exact lv_i2c hX.1 hX.2.1 h1 (by rw [i2c, Int32.ofInt_toInt]) k'
theorem cvc_d (a : XE) (ha : DecE a) : DecE (cvcP a) := by
  intro ga d cs t cs' cc hc hD
  simp only [cvcP] at hc
  split at hc
  case h_2 => cases hc
  rename_i h0
  exact map_nx hc (ha _ _ _ _ _ _ h0 hD)
def cvc {ow : Nat} (a : EX ow) : EX ow := ⟨cvcP a.1, cvc_ok ow a.1 a.2.1, cvc_d a.1 a.2.2⟩

def cvjP (a : XE) : XE := (fun ga d cs => match a.1 ga d cs with
    | some (0, cs1) => (nx .i2l 1 cs1).map (fun x => (1, x))
    | _ => none, fun cl Q r u => a.2 cl (fun v u' => Q (v) u') r u)
theorem cvj_ok (ow : Nat) (a : XE) (ha : SndE ow a) : SndE ow (cvjP a) := by
  intro p l e R s m args below meth c cc nL G Qf cl hX hC ga d cs t cs' hc hD r u H locs cells slots ls st Q hL hA hs hw k
  simp only [cvjP] at hc hw
  split at hc
  case h_2 => cases hc
  rename_i cs1 h0
  obtain ⟨x, hx, e1⟩ := Option.map_eq_some_iff.mp hc
  cases e1
  refine ha p l e R s m args below meth c cc nL G Qf cl hX hC ga d cs 0 cs1 h0 hD r u H locs cells slots ls st _ hL hA hs hw ?_
  intro v u' H' locs' cells' slots' hv hA' hq hD1
  obtain ⟨h1, h2, h3⟩ := nx_ok hx hD1
  have hv : inI v := hv
  have k' := k (v) u' H' locs' cells' slots' (⟨by have := hv.1; omega, by have := hv.2; omega⟩) hA' hq h3
  rw [h2] at k'
  exact lv_i2l hX.1 hX.2.1 h1 (Int32.toInt64_ofInt (by show (-2147483648 : Int) ≤ v; exact hv.1) (by show v ≤ (2147483647 : Int); have := hv.2; omega)) k'
theorem cvj_d (a : XE) (ha : DecE a) : DecE (cvjP a) := by
  intro ga d cs t cs' cc hc hD
  simp only [cvjP] at hc
  split at hc
  case h_2 => cases hc
  rename_i h0
  exact map_nx hc (ha _ _ _ _ _ _ h0 hD)
def cvj {ow : Nat} (a : EX ow) : EX ow := ⟨cvjP a.1, cvj_ok ow a.1 a.2.1, cvj_d a.1 a.2.2⟩

def BinR (ins : Instr) (g : Int32 → Int32 → Int32) (ok : Int → Prop) : Prop := ∀ (p : Program) (l : Launch) (e : Env) (R : Room) (s : State) (m : MethodId) (args : Array Value) (below : List Frame) (meth : Method) (c : Code) (cc : ByteArray) (H : Heap) (locs : List Loc) (cells slots : Nat) (Q : State → Prop) (pc : Nat) (ls : Array Slot) (rest : List Value) (x y : Int), p.tables.exec = Jvm.exec → c.code = cc → decode cc pc = .ok (ins, 1) → ok y → inI y →
  W p l e R s m args below meth c H locs cells slots Q (F0 m (pc + 1) ls (.int (g (Int32.ofInt x) (Int32.ofInt y)) :: rest)) → W p l e R s m args below meth c H locs cells slots Q (F0 m pc ls (.int (Int32.ofInt y) :: .int (Int32.ofInt x) :: rest))
def binP (ins : Instr) (f : Int → Int → Int) (ok : Int → Prop) (a b : XE) : XE := (fun ga d cs => match a.1 ga d cs with
    | some (0, cs1) => match b.1 ga (d + 1) cs1 with
      | some (0, cs2) => (nx ins 1 cs2).map (fun x => (0, x))
      | _ => none
    | _ => none, fun cl Q r u => a.2 cl (fun v u' => b.2 cl (fun w u2 => ok w ∧ Q (f v w) u2) r u') r u)
theorem bin_ok (ow : Nat) (ins : Instr) (f : Int → Int → Int) (ok : Int → Prop) (g : Int32 → Int32 → Int32) (hr : BinR ins g ok) (hf : ∀ x y, inI (f x y)) (hg : ∀ x y, inI x → inI y → Int32.ofInt (f x y) = g (Int32.ofInt x) (Int32.ofInt y)) (a b : XE) (ha : SndE ow a) (hb : SndE ow b) : SndE ow (binP ins f ok a b) := by
  intro p l e R s m args below meth c cc nL G Qf cl hX hC ga d cs t cs' hc hD r u H locs cells slots ls st Q hL hA hs hw k
  simp only [binP] at hc hw
  split at hc
  case h_2 => cases hc
  rename_i cs1 h0
  split at hc
  case h_2 => cases hc
  rename_i cs2 h00
  obtain ⟨x, hx, e1⟩ := Option.map_eq_some_iff.mp hc
  cases e1
  refine ha p l e R s m args below meth c cc nL G Qf cl hX hC ga d cs 0 cs1 h0 hD r u H locs cells slots ls st _ hL hA hs hw ?_
  intro v u' H' locs' cells' slots' hv hA' hq hD1
  refine hb p l e R s m args below meth c cc nL G Qf cl hX hC ga (d + 1) cs1 0 cs2 h00 hD1 r u' H' locs' cells' slots' ls _ _ hL hA' ?_ hq ?_
  · rw [cats_cons, cat_enc]; simp; omega
  intro w u2 H2 locs2 cells2 slots2 hv2 hA2 hq2 hD2
  obtain ⟨h1, h2, h3⟩ := nx_ok hx hD2
  have hv : inI v := hv
  have hv2 : inI w := hv2
  have k' := k (f v w) u2 H2 locs2 cells2 slots2 (hf v w) hA2 hq2.2 h3
  rw [h2, enc_0, hg v w hv hv2] at k'
  exact hr p l e R s m args below meth c cc H2 locs2 cells2 slots2 Qf (pcOf cs2) ls st v w hX.1 hX.2.1 h1 hq2.1 hv2 k'
theorem bin_d (ins : Instr) (f : Int → Int → Int) (ok : Int → Prop) (a b : XE) (ha : DecE a) (hb : DecE b) : DecE (binP ins f ok a b) := by
  intro ga d cs t cs' cc hc hD
  simp only [binP] at hc
  split at hc
  case h_2 => cases hc
  rename_i h0
  split at hc
  case h_2 => cases hc
  rename_i h00
  exact map_nx hc (hb _ _ _ _ _ _ h00 (ha _ _ _ _ _ _ h0 hD))
def okT : Int → Prop := fun _ => True
def okN : Int → Prop := fun y => y ≠ 0
theorem add_r : BinR .iadd (fun x y => x + y) okT := fun p l e R s m args below meth c cc H locs cells slots Q pc ls rest x y hx hb hd ho hy k => lv_iadd hx hb hd k
def add {ow : Nat} (a b : EX ow) : EX ow := ⟨binP .iadd (fun a b => w32 (a + b)) okT a.1 b.1, bin_ok ow _ _ _ _ add_r (fun _ _ => w32_in _) (fun x y _ _ => by rw [ofI_bmod, Int32.ofInt_add]) a.1 b.1 a.2.1 b.2.1, bin_d _ _ _ a.1 b.1 a.2.2 b.2.2⟩
theorem sub_r : BinR .isub (fun x y => x - y) okT := fun p l e R s m args below meth c cc H locs cells slots Q pc ls rest x y hx hb hd ho hy k => lv_isub hx hb hd k
def sub {ow : Nat} (a b : EX ow) : EX ow := ⟨binP .isub (fun a b => w32 (a - b)) okT a.1 b.1, bin_ok ow _ _ _ _ sub_r (fun _ _ => w32_in _) (fun x y _ _ => by rw [ofI_bmod, Int32.ofInt_sub]) a.1 b.1 a.2.1 b.2.1, bin_d _ _ _ a.1 b.1 a.2.2 b.2.2⟩
theorem mul_r : BinR .imul (fun x y => x * y) okT := fun p l e R s m args below meth c cc H locs cells slots Q pc ls rest x y hx hb hd ho hy k => lv_imul hx hb hd k
def mul {ow : Nat} (a b : EX ow) : EX ow := ⟨binP .imul (fun a b => w32 (a * b)) okT a.1 b.1, bin_ok ow _ _ _ _ mul_r (fun _ _ => w32_in _) (fun x y _ _ => by rw [ofI_bmod, Int32.ofInt_mul]) a.1 b.1 a.2.1 b.2.1, bin_d _ _ _ a.1 b.1 a.2.2 b.2.2⟩
theorem ban_r : BinR .iand (fun x y => x &&& y) okT := fun p l e R s m args below meth c cc H locs cells slots Q pc ls rest x y hx hb hd ho hy k => lv_iand hx hb hd k
def ban {ow : Nat} (a b : EX ow) : EX ow := ⟨binP .iand iand okT a.1 b.1, bin_ok ow _ _ _ _ ban_r (fun _ _ => toInt_in _) (fun x y _ _ => Int32.ofInt_toInt _) a.1 b.1 a.2.1 b.2.1, bin_d _ _ _ a.1 b.1 a.2.2 b.2.2⟩
theorem bor_r : BinR .ior (fun x y => x ||| y) okT := fun p l e R s m args below meth c cc H locs cells slots Q pc ls rest x y hx hb hd ho hy k => lv_ior hx hb hd k
def bor {ow : Nat} (a b : EX ow) : EX ow := ⟨binP .ior ior okT a.1 b.1, bin_ok ow _ _ _ _ bor_r (fun _ _ => toInt_in _) (fun x y _ _ => Int32.ofInt_toInt _) a.1 b.1 a.2.1 b.2.1, bin_d _ _ _ a.1 b.1 a.2.2 b.2.2⟩
theorem bxo_r : BinR .ixor (fun x y => x ^^^ y) okT := fun p l e R s m args below meth c cc H locs cells slots Q pc ls rest x y hx hb hd ho hy k => lv_ixor hx hb hd k
def bxo {ow : Nat} (a b : EX ow) : EX ow := ⟨binP .ixor ixor okT a.1 b.1, bin_ok ow _ _ _ _ bxo_r (fun _ _ => toInt_in _) (fun x y _ _ => Int32.ofInt_toInt _) a.1 b.1 a.2.1 b.2.1, bin_d _ _ _ a.1 b.1 a.2.2 b.2.2⟩
theorem shl_r : BinR .ishl (fun x y => x <<< (y &&& 31)) okT := fun p l e R s m args below meth c cc H locs cells slots Q pc ls rest x y hx hb hd ho hy k => lv_ishl hx hb hd k
def shl {ow : Nat} (a b : EX ow) : EX ow := ⟨binP .ishl ishl okT a.1 b.1, bin_ok ow _ _ _ _ shl_r (fun _ _ => toInt_in _) (fun x y _ _ => Int32.ofInt_toInt _) a.1 b.1 a.2.1 b.2.1, bin_d _ _ _ a.1 b.1 a.2.2 b.2.2⟩
theorem shr_r : BinR .ishr (fun x y => x >>> (y &&& 31)) okT := fun p l e R s m args below meth c cc H locs cells slots Q pc ls rest x y hx hb hd ho hy k => lv_ishr hx hb hd k
def shr {ow : Nat} (a b : EX ow) : EX ow := ⟨binP .ishr ishr okT a.1 b.1, bin_ok ow _ _ _ _ shr_r (fun _ _ => toInt_in _) (fun x y _ _ => Int32.ofInt_toInt _) a.1 b.1 a.2.1 b.2.1, bin_d _ _ _ a.1 b.1 a.2.2 b.2.2⟩
theorem ush_r : BinR .iushr (fun x y => (x.toUInt32 >>> (y.toUInt32 &&& Int32.toUInt32 31)).toInt32) okT := fun p l e R s m args below meth c cc H locs cells slots Q pc ls rest x y hx hb hd ho hy k => lv_iushr hx hb hd rfl k
def ush {ow : Nat} (a b : EX ow) : EX ow := ⟨binP .iushr iushr okT a.1 b.1, bin_ok ow _ _ _ _ ush_r (fun _ _ => toInt_in _) (fun x y _ _ => Int32.ofInt_toInt _) a.1 b.1 a.2.1 b.2.1, bin_d _ _ _ a.1 b.1 a.2.2 b.2.2⟩
theorem dvi_r : BinR .idiv (fun x y => x / y) okN := fun p l e R s m args below meth c cc H locs cells slots Q pc ls rest x y hx hb hd ho hy k => lv_idiv hx hb hd (fun q => ho ((ofI_zero hy).mp q)) k
def dvi {ow : Nat} (a b : EX ow) : EX ow := ⟨binP .idiv idv okN a.1 b.1, bin_ok ow _ _ _ _ dvi_r (fun _ _ => toInt_in _) (fun x y _ _ => Int32.ofInt_toInt _) a.1 b.1 a.2.1 b.2.1, bin_d _ _ _ a.1 b.1 a.2.2 b.2.2⟩
theorem rmi_r : BinR .irem (fun x y => x - x / y * y) okN := fun p l e R s m args below meth c cc H locs cells slots Q pc ls rest x y hx hb hd ho hy k => lv_irem hx hb hd (fun q => ho ((ofI_zero hy).mp q)) k
def rmi {ow : Nat} (a b : EX ow) : EX ow := ⟨binP .irem irm okN a.1 b.1, bin_ok ow _ _ _ _ rmi_r (fun _ _ => toInt_in _) (fun x y _ _ => Int32.ofInt_toInt _) a.1 b.1 a.2.1 b.2.1, bin_d _ _ _ a.1 b.1 a.2.2 b.2.2⟩
end
section
/-! trees: fields, arrays, branches, calls -/
theorem idl_ok : ∀ q ∈ idl, (1 ≤ q.1 → q.1 ≤ 13 → q.2 = kN q.1) ∧ q.1 ≤ 18 ∧ 0 ≤ q.2 ∧ q.2 < 100000 := by decide +kernel
theorem id_in (a : Int) : (kcls a, klen a) ∈ idl := by
  unfold kcls klen
  by_cases h : a < 0
  · rw [if_pos h, if_pos h]; exact List.mem_cons_self
  · rw [if_neg h, if_neg h, List.getD_eq_getElem?_getD]
    cases hq : idl[a.toNat]? with
    | none => exact List.mem_cons_self
    | some z => exact List.mem_of_getElem? hq
theorem kl_obj {a : Int} {k : Nat} (h : kcls a = k) (h1 : 1 ≤ k) (h2 : k ≤ 13) : klen a = kN k := by
  have := (idl_ok _ (id_in a)).1
  dsimp only at this
  rw [h] at this
  exact this h1 h2
theorem kl_18 (a : Int) : kcls a ≤ 18 ∧ 0 ≤ klen a ∧ klen a < 100000 := (idl_ok _ (id_in a)).2
def FldAt (ow cp k j : Nat) : Prop := Cond.fieldLink (kC ow) cp (kF k j).1 (kF k j).2.1 (kF k j).2.2.1 ∈ gTbl ∧ u_lay (kC k) (kF k) j ∈ gTbl ∧ 1 ≤ k ∧ k ≤ 13 ∧ j < kN k ∧ parseFieldDescriptor (kF k j).2.2.1 = some (kT k j) ∧ tyOK (ety k j) (kT k j)
def gty (t : Nat) : Nat := if t = 1 then 1 else if t = 2 then 2 else 0
theorem enc_g (al : Int → Nat) (t : Nat) (v : Int) : enc al (gty t) v = enc al t v := by
  unfold enc gty
  by_cases h1 : t = 1
  · simp [h1]
  · by_cases h2 : t = 2 <;> simp [h1, h2]
theorem okv_g {t : Nat} {v : Int} (h : okv t v) : okv (gty t) v := by
  by_cases h1 : t = 1
  · subst h1; exact h
  · by_cases h2 : t = 2
    · subst h2; trivial
    · have := okv_I h1 h2 h
      simp [gty, h1, h2, okv, this]
theorem rd_ok {G : Geo} {u : Sto} {H : Heap} (h : Rel G u H) {a : Int} {k j : Nat} (hl : live u a k) (hj : (j : Int) < klen a) : okv (ety k j) (rd u (ety k j) a j) := by
  obtain ⟨h1, h2, rfl⟩ := hl
  unfold rd
  split
  · rename_i q; rw [q]; trivial
  · rename_i q; exact h.2.1 a h1 h2 j hj q
theorem u_lay1 {args : Array Value} {s : State} {C : String} {T : u_T} {k : Nat} (h : (u_lay C T k).before args s = true) :
    (Cond.lays C (T k).1 (T k).2.1 (T k).2.2.1).before args s = true ∨ (Cond.laysFinal C (T k).1 (T k).2.1 (T k).2.2.1).before args s = true := by
  unfold u_lay at h
  split at h
  · exact Or.inr h
  · exact Or.inl h
def getP (cp K j : Nat) (a : XE) : XE := (fun ga d cs => match a.1 ga d cs with
    | some (2, cs1) => (nx (.getfield cp) 3 cs1).map (fun x => (gty (ety K j), x))
    | _ => none, fun cl Q r u => a.2 cl (fun v u' => live u' v K ∧ Q (rd u' (ety K j) v j) u') r u)
theorem get_ok (ow cp K j : Nat) (hf : FldAt ow cp K j) (a : XE) (ha : SndE ow a) : SndE ow (getP cp K j a) := by
  intro p l e R s m args below meth c cc nL G Qf cl hX hC ga d cs t cs' hc hD r u H locs cells slots ls st Q hL hA hs hw k
  simp only [getP] at hc hw
  split at hc
  case h_2 => cases hc
  rename_i cs1 h0
  obtain ⟨x, hx, e1⟩ := Option.map_eq_some_iff.mp hc
  cases e1
  refine ha p l e R s m args below meth c cc nL G Qf cl hX hC ga d cs 2 cs1 h0 hD r u H locs cells slots ls st _ hL hA hs hw ?_
  intro v u' H' locs' cells' slots' hv hA' hq hD1
  obtain ⟨h1, h2, h3⟩ := nx_ok hx hD1
  obtain ⟨hl, hq⟩ := hq
  obtain ⟨f1, f2, f3, f4, f5, f6, f7⟩ := hf
  have hj : (j : Int) < klen v := by rw [kl_obj hl.2.2 f3 f4]; exact_mod_cast f5
  have k' := k (rd u' (ety K j) v j) u' H' locs' cells' slots' (okv_g (rd_ok hA'.1 hl hj)) hA' hq h3
  rw [h2, enc_g] at k'
  obtain ⟨cell, q1, q2, q3, q4, q5⟩ := hA'.1.1 v hl.1 hl.2.1 (by rw [hl.2.2]; omega)
  have hts := hX.2.2.2.2.1
  obtain ⟨hS, hfc, kC', hkC, hkind⟩ := hX.2.2.2.2.2.1.2.1 K f3 f4
  obtain ⟨cf, kf, fi, f, hi, hsl⟩ := hS j f5
  rw [enc_2 _ (by have := hl.1; omega)]
  refine W.getf hX.1 hX.2.1 hX.2.2.2.1 (hts _ f1) hi (u_facts hfc hkC (u_lay1 (hts _ f2)) hi).1 q1 (by rw [q2]; exact fun h => by cases h) (v := enc G.1 (ety K j) (rd u' (ety K j) v j)) ?_ rfl rfl h1 k'
  rw [hsl]
  have := q5 j hj
  rw [hl.2.2] at this
  exact this
theorem get_d (cp K j : Nat) (a : XE) (ha : DecE a) : DecE (getP cp K j a) := by
  intro ga d cs t cs' cc hc hD
  simp only [getP] at hc
  split at hc
  case h_2 => cases hc
  rename_i h0
  exact map_nx hc (ha _ _ _ _ _ _ h0 hD)
def get {ow : Nat} {cp k j : Nat} (hf : FldAt ow cp k j) (a : EX ow) : EX ow := ⟨getP cp k j a.1, get_ok ow cp k j hf a.1 a.2.1, get_d cp k j a.1 a.2.2⟩
theorem arr_is {U : State} {cA : ClassId} {ty : FieldType} (h : ArrOfT U cA ty) {cell : Cell} (h1 : cell.cls = cA) (h2 : cell.vm = .none) : U.isArrayOf cell ty := by
  obtain ⟨-, h4⟩ := h 0 (fun _ => .null)
  exact ⟨fun k q => (by rw [h2] at q; cases q), (by rw [h1]; exact h4)⟩
def AldR (K : Nat) (ins : Instr) : Prop := ∀ (p : Program) (l : Launch) (e : Env) (R : Room) (s : State) (m : MethodId) (args : Array Value) (below : List Frame) (meth : Method) (c : Code) (cc : ByteArray) (H : Heap) (locs : List Loc) (cells slots : Nat) (Q : State → Prop) (pc : Nat) (ls : Array Slot) (rest : List Value) (a : Nat) (cell : Cell) (j : Int32) (v : Value), p.tables.exec = Jvm.exec → c.code = cc → decode cc pc = .ok (ins, 1) →
  H[a]? = some cell → s.isArrayOf cell (aT K) → cell.vm ≠ .unknown → ¬ (j < 0 ∨ cell.slots.size ≤ j.toNatClampNeg) → cell.slots[j.toNatClampNeg]? = some v →
  W p l e R s m args below meth c H locs cells slots Q (F0 m (pc + 1) ls (v :: rest)) → W p l e R s m args below meth c H locs cells slots Q (F0 m pc ls (.int j :: .ref a :: rest))
def inb (u : Sto) (a : Int) (K : Nat) (j : Int) : Prop := live u a K ∧ 0 ≤ j ∧ j < klen a
def aldP (K : Nat) (ins : Instr) (a b : XE) : XE := (fun ga d cs => match a.1 ga d cs with
    | some (2, cs1) => match b.1 ga (d + 1) cs1 with
      | some (0, cs2) => (nx ins 1 cs2).map (fun x => (gty (ety K 0), x))
      | _ => none
    | _ => none, fun cl Q r u => a.2 cl (fun v u' => b.2 cl (fun w u2 => inb u2 v K w ∧ Q (rd u2 (ety K 0) v w) u2) r u') r u)
theorem ety_arr {K : Nat} (h : 14 ≤ K) (h2 : K ≤ 18) (j : Nat) : ety K j = ety K 0 := by
  have : K = 14 ∨ K = 15 ∨ K = 16 ∨ K = 17 ∨ K = 18 := by omega
  rcases this with rfl | rfl | rfl | rfl | rfl <;> rfl
theorem arr_at {G : Geo} {u : Sto} {H : Heap} {U : State} (h : Rel G u H) (hK : KOK G U) {a : Int} {K : Nat} {j : Int} (hl : inb u a K j) (h14 : 14 ≤ K) (h18 : K ≤ 18) :
    ∃ cell : Cell, H[G.1 a]? = some cell ∧ U.isArrayOf cell (aT K) ∧ cell.vm = .none ∧ ¬ (Int32.ofInt j < 0 ∨ cell.slots.size ≤ (Int32.ofInt j).toNatClampNeg) ∧ (Int32.ofInt j).toNatClampNeg = j.toNat ∧ cell.slots[j.toNat]? = some (enc G.1 (ety K 0) (rd u (ety K 0) a j)) ∧ okv (ety K 0) (rd u (ety K 0) a j) ∧ cell.cls = G.2.1 K ∧ cell.slots.size = (klen a).toNat ∧ ∀ i : Nat, (i : Int) < klen a → cell.slots[i]? = some (enc G.1 (ety K 0) (rd u (ety K 0) a i)) := by
  obtain ⟨hl, h0, hj⟩ := hl
  have hlv := hl
  obtain ⟨l1, l2, l3⟩ := hl
  obtain ⟨cell, q1, q2, q3, q4, q5⟩ := h.1 a l1 l2 (by omega)
  obtain ⟨b1, b2, b3⟩ := kl_18 a
  have hsz := q4 (by omega)
  rw [l3] at q3 q5
  have q6 : ∀ i : Nat, (i : Int) < klen a → cell.slots[i]? = some (enc G.1 (ety K 0) (rd u (ety K 0) a i)) := fun i hi => by
    have := q5 i hi
    rw [hK.2.2.2.2.1 K i h14, ety_arr h14 h18] at this
    exact this
  have e2 : ((j.toNat : Nat) : Int) = j := Int.toNat_of_nonneg h0
  refine ⟨cell, q1, arr_is (hK.2.2.2.1 K h14 h18) q3 q2, q2, ?_, ofI_idx h0 (by omega), ?_, ?_, q3, hsz, q6⟩
  · rw [hsz]
    exact ofI_not h0 (by omega) (by omega)
  · have := q6 j.toNat (by omega)
    rw [e2] at this
    exact this
  · have := rd_ok h hlv (j := j.toNat) (by omega)
    rw [ety_arr h14 h18, e2] at this
    exact this
theorem ald_ok (ow K : Nat) (h14 : 14 ≤ K) (h18 : K ≤ 18) (ins : Instr) (hr : AldR K ins) (a b : XE) (ha : SndE ow a) (hb : SndE ow b) : SndE ow (aldP K ins a b) := by
  intro p l e R s m args below meth c cc nL G Qf cl hX hC ga d cs t cs' hc hD r u H locs cells slots ls st Q hL hA hs hw k
  simp only [aldP] at hc hw
  split at hc
  case h_2 => cases hc
  rename_i cs1 h0
  split at hc
  case h_2 => cases hc
  rename_i cs2 h00
  obtain ⟨x, hx, e1⟩ := Option.map_eq_some_iff.mp hc
  cases e1
  refine ha p l e R s m args below meth c cc nL G Qf cl hX hC ga d cs 2 cs1 h0 hD r u H locs cells slots ls st _ hL hA hs hw ?_
  intro v u' H' locs' cells' slots' hv hA' hq hD1
  refine hb p l e R s m args below meth c cc nL G Qf cl hX hC ga (d + 1) cs1 0 cs2 h00 hD1 r u' H' locs' cells' slots' ls _ _ hL hA' ?_ hq ?_
  · rw [cats_cons, cat_enc]; simp; omega
  intro w u2 H2 locs2 cells2 slots2 hv2 hA2 hq2 hD2
  obtain ⟨h1, h2, h3⟩ := nx_ok hx hD2
  obtain ⟨hib, hq2⟩ := hq2
  obtain ⟨cell, q1, q2, q3, q4, q5, q6, q7, -⟩ := arr_at hA2.1 hX.2.2.2.2.2.1 hib h14 h18
  have k' := k _ u2 H2 locs2 cells2 slots2 (okv_g q7) hA2 hq2 h3
  rw [h2, enc_g] at k'
  rw [enc_2 _ (by have := hib.1.1; omega), enc_0]
  exact hr p l e R s m args below meth c cc H2 locs2 cells2 slots2 Qf (pcOf cs2) ls st _ cell _ _ hX.1 hX.2.1 h1 q1 q2 (by rw [q3]; exact fun h => by cases h) q4 (by rw [q5]; exact q6) k'
theorem ald_d (K : Nat) (ins : Instr) (a b : XE) (ha : DecE a) (hb : DecE b) : DecE (aldP K ins a b) := by
  intro ga d cs t cs' cc hc hD
  simp only [aldP] at hc
  split at hc
  case h_2 => cases hc
  rename_i h0
  split at hc
  case h_2 => cases hc
  rename_i h00
  exact map_nx hc (hb _ _ _ _ _ _ h00 (ha _ _ _ _ _ _ h0 hD))
theorem aldi_r : AldR 14 .iaload := fun p l e R s m args below meth c cc H locs cells slots Q pc ls rest a cell j v hx hb hd h1 h2 h3 h4 h5 k => W.iald hx hb h1 h2 h3 h4 h5 rfl rfl hd k
theorem aldj_r : AldR 15 .laload := fun p l e R s m args below meth c cc H locs cells slots Q pc ls rest a cell j v hx hb hd h1 h2 h3 h4 h5 k => W.lald hx hb h1 h2 h3 h4 h5 rfl rfl hd k
theorem aldz_r : AldR 16 .baload := fun p l e R s m args below meth c cc H locs cells slots Q pc ls rest a cell j v hx hb hd h1 h2 h3 h4 h5 k => W.zald hx hb h1 h2 h3 h4 h5 rfl rfl hd k
theorem aldc_r : AldR 17 .caload := fun p l e R s m args below meth c cc H locs cells slots Q pc ls rest a cell j v hx hb hd h1 h2 h3 h4 h5 k => W.cald hx hb h1 h2 h3 h4 h5 rfl rfl hd k
theorem alda_r : AldR 18 .aaload := fun p l e R s m args below meth c cc H locs cells slots Q pc ls rest a cell j v hx hb hd h1 h2 h3 h4 h5 k => W.aald hx hb h1 h2 rfl h3 h4 h5 rfl rfl hd k
def aldi {ow : Nat} (a b : EX ow) : EX ow := ⟨aldP 14 .iaload a.1 b.1, ald_ok ow 14 (by decide) (by decide) .iaload aldi_r a.1 b.1 a.2.1 b.2.1, ald_d _ _ a.1 b.1 a.2.2 b.2.2⟩
def aldj {ow : Nat} (a b : EX ow) : EX ow := ⟨aldP 15 .laload a.1 b.1, ald_ok ow 15 (by decide) (by decide) .laload aldj_r a.1 b.1 a.2.1 b.2.1, ald_d _ _ a.1 b.1 a.2.2 b.2.2⟩
def aldz {ow : Nat} (a b : EX ow) : EX ow := ⟨aldP 16 .baload a.1 b.1, ald_ok ow 16 (by decide) (by decide) .baload aldz_r a.1 b.1 a.2.1 b.2.1, ald_d _ _ a.1 b.1 a.2.2 b.2.2⟩
def aldc {ow : Nat} (a b : EX ow) : EX ow := ⟨aldP 17 .caload a.1 b.1, ald_ok ow 17 (by decide) (by decide) .caload aldc_r a.1 b.1 a.2.1 b.2.1, ald_d _ _ a.1 b.1 a.2.2 b.2.2⟩
def alda {ow : Nat} (a b : EX ow) : EX ow := ⟨aldP 18 .aaload a.1 b.1, ald_ok ow 18 (by decide) (by decide) .aaload alda_r a.1 b.1 a.2.1 b.2.1, ald_d _ _ a.1 b.1 a.2.2 b.2.2⟩
abbrev XC : Type := (Gam → Nat → Bool → Nat → Cds → Option Cds) × (ClT → (Sto → Prop) → (Sto → Prop) → Rho → Sto → Prop)
def SndC (ow : Nat) (x : XC) : Prop :=
  ∀ (p : Program) (l : Launch) (e : Env) (R : Room) (s : State) (m : MethodId) (args : Array Value) (below : List Frame) (meth : Method) (c : Code) (cc : ByteArray) (nL : Nat) (G : Geo) (Qf : State → Prop) (cl : ClT),
  MX p R s m args c cc nL ow G → ClOK l R G cl → ∀ (ga : Gam) (d : Nat) (b : Bool) (L : Nat) (cs cs' : Cds), x.1 ga d b L cs = some cs' → Dec cc cs →
  ∀ (r : Rho) (u : Sto) (H : Heap) (locs : List Loc) (cells slots : Nat) (ls : Array Slot) (st : List Value) (Qt Qn : Sto → Prop),
  LR G nL ga r ls → At G R s.heap u H locs cells slots → cats st ≤ d → x.2 cl Qt Qn r u →
  (∀ (u' : Sto) (H' : Heap) (locs' : List Loc) (cells' slots' : Nat), At G R s.heap u' H' locs' cells' slots' → Qt u' → Dec cc cs' → W p l e R s m args below meth c H' locs' cells' slots' Qf (F0 m (if b then pcOf cs' else L) ls st)) →
  (∀ (u' : Sto) (H' : Heap) (locs' : List Loc) (cells' slots' : Nat), At G R s.heap u' H' locs' cells' slots' → Qn u' → Dec cc cs' → W p l e R s m args below meth c H' locs' cells' slots' Qf (F0 m (if b then L else pcOf cs') ls st)) →
  W p l e R s m args below meth c H locs cells slots Qf (F0 m (pcOf cs) ls st)
def DecC (x : XC) : Prop := ∀ (ga : Gam) (d : Nat) (f : Bool) (L : Nat) (cs cs' : Cds) (cc : ByteArray), x.1 ga d f L cs = some cs' → Dec cc cs → Dec cc cs'
abbrev CX (ow : Nat) : Type := { x : XC // SndC ow x ∧ DecC x }
/-- 0 =, 1 not =, 2 <, 3 not <, 4 >, 5 not > -/
def sem (o : Nat) (a b : Int) : Prop := if o = 0 then a = b else if o = 1 then ¬ a = b else if o = 2 then a < b else if o = 3 then b ≤ a else if o = 4 then b < a else a ≤ b
def ngo (o : Nat) : Nat := if o = 0 then 1 else if o = 1 then 0 else if o = 2 then 3 else if o = 3 then 2 else if o = 4 then 5 else 4
def icI (o : Nat) (off : Int) : Instr := if o = 0 then .if_icmp .eq off else if o = 1 then .if_icmp .ne off else if o = 2 then .if_icmp .lt off else if o = 3 then .if_icmp .ge off else if o = 4 then .if_icmp .gt off else .if_icmp .le off
def izI (o : Nat) (off : Int) : Instr := if o = 0 then .ifCond .eq off else if o = 1 then .ifCond .ne off else if o = 2 then .ifCond .lt off else if o = 3 then .ifCond .ge off else if o = 4 then .ifCond .gt off else .ifCond .le off
theorem sem_ngo {o : Nat} (h : o ≤ 5) (a b : Int) : sem (ngo o) a b ↔ ¬ sem o a b := by
  have : o = 0 ∨ o = 1 ∨ o = 2 ∨ o = 3 ∨ o = 4 ∨ o = 5 := by omega
  rcases this with rfl | rfl | rfl | rfl | rfl | rfl <;> simp [sem, ngo] <;> omega
theorem icmp_row {o : Nat} (ho : o ≤ 5) {p : Program} {l : Launch} {e : Env} {R : Room} {s : State} {m : MethodId} {args : Array Value} {below : List Frame} {meth : Method} {c : Code} {cc : ByteArray} {H : Heap} {locs : List Loc} {cells slots : Nat} {Q : State → Prop} {pc : Nat} {ls : Array Slot} {rest : List Value} {x y : Int} {off : Int} {tgt : Nat}
    (hx : p.tables.exec = Jvm.exec) (hb : c.code = cc) (hd : decode cc pc = .ok (icI o off, 3)) (ht : (pc : Int) + off = (tgt : Int)) (hix : inI x) (hiy : inI y)
    (kt : sem o x y → W p l e R s m args below meth c H locs cells slots Q (F0 m tgt ls rest)) (kf : ¬ sem o x y → W p l e R s m args below meth c H locs cells slots Q (F0 m (pc + 3) ls rest)) :
    W p l e R s m args below meth c H locs cells slots Q (F0 m pc ls (.int (Int32.ofInt y) :: .int (Int32.ofInt x) :: rest)) := by
  have : o = 0 ∨ o = 1 ∨ o = 2 ∨ o = 3 ∨ o = 4 ∨ o = 5 := by omega
  rcases this with rfl | rfl | rfl | rfl | rfl | rfl
  · exact lv_icmp_eq hx hb hd ht (fun q => kt ((ofI_inj hix hiy).mp q)) (fun q => kf (fun z => q ((ofI_inj hix hiy).mpr z)))
  · exact lv_icmp_ne hx hb hd ht (fun q => kt (fun z => q ((ofI_inj hix hiy).mpr z))) (fun q => kf (fun z => z ((ofI_inj hix hiy).mp q)))
  · exact lv_icmp_lt hx hb hd ht (fun q => kt ((ofI_lt hix hiy).mp q)) (fun q => kf (fun z => q ((ofI_lt hix hiy).mpr z)))
  · exact lv_icmp_ge hx hb hd ht (fun q => kt ((ofI_le hiy hix).mp q)) (fun q => kf (fun z => q ((ofI_le hiy hix).mpr z)))
  · exact lv_icmp_gt hx hb hd ht (fun q => kt ((ofI_lt hiy hix).mp q)) (fun q => kf (fun z => q ((ofI_lt hiy hix).mpr z)))
  · exact lv_icmp_le hx hb hd ht (fun q => kt ((ofI_le hix hiy).mp q)) (fun q => kf (fun z => q ((ofI_le hix hiy).mpr z)))
theorem ifz_row {o : Nat} (ho : o ≤ 5) {p : Program} {l : Launch} {e : Env} {R : Room} {s : State} {m : MethodId} {args : Array Value} {below : List Frame} {meth : Method} {c : Code} {cc : ByteArray} {H : Heap} {locs : List Loc} {cells slots : Nat} {Q : State → Prop} {pc : Nat} {ls : Array Slot} {rest : List Value} {x : Int} {off : Int} {tgt : Nat}
    (hx : p.tables.exec = Jvm.exec) (hb : c.code = cc) (hd : decode cc pc = .ok (izI o off, 3)) (ht : (pc : Int) + off = (tgt : Int)) (hix : inI x)
    (kt : sem o x 0 → W p l e R s m args below meth c H locs cells slots Q (F0 m tgt ls rest)) (kf : ¬ sem o x 0 → W p l e R s m args below meth c H locs cells slots Q (F0 m (pc + 3) ls rest)) :
    W p l e R s m args below meth c H locs cells slots Q (F0 m pc ls (.int (Int32.ofInt x) :: rest)) := by
  have hiy := inI_0
  have : o = 0 ∨ o = 1 ∨ o = 2 ∨ o = 3 ∨ o = 4 ∨ o = 5 := by omega
  rcases this with rfl | rfl | rfl | rfl | rfl | rfl
  · exact lv_if_eq hx hb hd ht (fun q => kt ((ofI_inj hix hiy).mp q)) (fun q => kf (fun z => q ((ofI_inj hix hiy).mpr z)))
  · exact lv_if_ne hx hb hd ht (fun q => kt (fun z => q ((ofI_inj hix hiy).mpr z))) (fun q => kf (fun z => z ((ofI_inj hix hiy).mp q)))
  · exact lv_if_lt hx hb hd ht (fun q => kt ((ofI_lt hix hiy).mp q)) (fun q => kf (fun z => q ((ofI_lt hix hiy).mpr z)))
  · exact lv_if_ge hx hb hd ht (fun q => kt ((ofI_le hiy hix).mp q)) (fun q => kf (fun z => q ((ofI_le hiy hix).mpr z)))
  · exact lv_if_gt hx hb hd ht (fun q => kt ((ofI_lt hiy hix).mp q)) (fun q => kf (fun z => q ((ofI_lt hiy hix).mpr z)))
  · exact lv_if_le hx hb hd ht (fun q => kt ((ofI_le hix hiy).mp q)) (fun q => kf (fun z => q ((ofI_le hix hiy).mpr z)))
def nxc (o : Nat) (L : Nat) (cs : Cds) : Option Cds := nx (icI o ((L : Int) - (pcOf cs : Int))) 3 cs
def nxz (o : Nat) (L : Nat) (cs : Cds) : Option Cds := nx (izI o ((L : Int) - (pcOf cs : Int))) 3 cs
def cmpP (o : Nat) (a b : XE) : XC := (fun ga d f L cs => match a.1 ga d cs with
    | some (0, cs1) => match b.1 ga (d + 1) cs1 with
      | some (0, cs2) => nxc (if f then ngo o else o) L cs2
      | _ => none
    | _ => none, fun cl Qt Qn r u => a.2 cl (fun v u' => b.2 cl (fun w u2 => (sem o v w → Qt u2) ∧ (¬ sem o v w → Qn u2)) r u') r u)
theorem ngo5 {o : Nat} (h : o ≤ 5) : ngo o ≤ 5 := by
  have : o = 0 ∨ o = 1 ∨ o = 2 ∨ o = 3 ∨ o = 4 ∨ o = 5 := by omega
  rcases this with rfl | rfl | rfl | rfl | rfl | rfl <;> decide
theorem cmp_ok (ow o : Nat) (ho : o ≤ 5) (a b : XE) (ha : SndE ow a) (hb : SndE ow b) : SndC ow (cmpP o a b) := by
  intro p l e R s m args below meth c cc nL G Qf cl hX hC ga d f L cs cs' hc hD r u H locs cells slots ls st Qt Qn hL hA hs hw kt kn
  simp only [cmpP] at hc hw
  split at hc
  case h_2 => cases hc
  rename_i cs1 h0
  split at hc
  case h_2 => cases hc
  rename_i cs2 h00
  refine ha p l e R s m args below meth c cc nL G Qf cl hX hC ga d cs 0 cs1 h0 hD r u H locs cells slots ls st _ hL hA hs hw ?_
  intro v u' H' locs' cells' slots' hv hA' hq hD1
  refine hb p l e R s m args below meth c cc nL G Qf cl hX hC ga (d + 1) cs1 0 cs2 h00 hD1 r u' H' locs' cells' slots' ls _ _ hL hA' ?_ hq ?_
  · rw [cats_cons, cat_enc]; simp; omega
  intro w u2 H2 locs2 cells2 slots2 hv2 hA2 hq2 hD2
  obtain ⟨h1, h2, h3⟩ := nx_ok hc hD2
  have hv : inI v := hv
  have hv2 : inI w := hv2
  have kt' := fun q => kt u2 H2 locs2 cells2 slots2 hA2 (hq2.1 q) h3
  have kn' := fun q => kn u2 H2 locs2 cells2 slots2 hA2 (hq2.2 q) h3
  rw [enc_0, enc_0]
  cases f
  · simp only [Bool.false_eq_true, if_false] at h1 kt' kn'
    rw [h2] at kn'
    exact icmp_row ho hX.1 hX.2.1 h1 (by omega) hv hv2 kt' kn'
  · simp only [if_true] at h1 kt' kn'
    rw [h2] at kt'
    exact icmp_row (ngo5 ho) hX.1 hX.2.1 h1 (by omega) hv hv2 (fun q => kn' ((sem_ngo ho v w).mp q)) (fun q => kt' (Classical.not_not.mp (fun z => q ((sem_ngo ho v w).mpr z))))
theorem cmp_d (o : Nat) (a b : XE) (ha : DecE a) (hb : DecE b) : DecC (cmpP o a b) := by
  intro ga d f L cs cs' cc hc hD
  simp only [cmpP] at hc
  split at hc
  case h_2 => cases hc
  rename_i h0
  split at hc
  case h_2 => cases hc
  rename_i h00
  exact (nx_ok hc (hb _ _ _ _ _ _ h00 (ha _ _ _ _ _ _ h0 hD))).2.2
def cmp {ow : Nat} (o : Nat) (ho : o ≤ 5) (a b : EX ow) : CX ow := ⟨cmpP o a.1 b.1, cmp_ok ow o ho a.1 b.1 a.2.1 b.2.1, cmp_d o a.1 b.1 a.2.2 b.2.2⟩
def czP (o : Nat) (a : XE) : XC := (fun ga d f L cs => match a.1 ga d cs with
    | some (0, cs1) => nxz (if f then ngo o else o) L cs1
    | _ => none, fun cl Qt Qn r u => a.2 cl (fun v u2 => (sem o v 0 → Qt u2) ∧ (¬ sem o v 0 → Qn u2)) r u)
theorem cz_ok (ow o : Nat) (ho : o ≤ 5) (a : XE) (ha : SndE ow a) : SndC ow (czP o a) := by
  intro p l e R s m args below meth c cc nL G Qf cl hX hC ga d f L cs cs' hc hD r u H locs cells slots ls st Qt Qn hL hA hs hw kt kn
  simp only [czP] at hc hw
  split at hc
  case h_2 => cases hc
  rename_i cs2 h0
  refine ha p l e R s m args below meth c cc nL G Qf cl hX hC ga d cs 0 cs2 h0 hD r u H locs cells slots ls st _ hL hA hs hw ?_
  intro v u2 H2 locs2 cells2 slots2 hv hA2 hq2 hD2
  obtain ⟨h1, h2, h3⟩ := nx_ok hc hD2
  have hv : inI v := hv
  have kt' := fun q => kt u2 H2 locs2 cells2 slots2 hA2 (hq2.1 q) h3
  have kn' := fun q => kn u2 H2 locs2 cells2 slots2 hA2 (hq2.2 q) h3
  rw [enc_0]
  cases f
  · simp only [Bool.false_eq_true, if_false] at h1 kt' kn'
    rw [h2] at kn'
    exact ifz_row ho hX.1 hX.2.1 h1 (by omega) hv kt' kn'
  · simp only [if_true] at h1 kt' kn'
    rw [h2] at kt'
    exact ifz_row (ngo5 ho) hX.1 hX.2.1 h1 (by omega) hv (fun q => kn' ((sem_ngo ho v 0).mp q)) (fun q => kt' (Classical.not_not.mp (fun z => q ((sem_ngo ho v 0).mpr z))))
theorem cz_d (o : Nat) (a : XE) (ha : DecE a) : DecC (czP o a) := by
  intro ga d f L cs cs' cc hc hD
  simp only [czP] at hc
  split at hc
  case h_2 => cases hc
  rename_i h0
  exact (nx_ok hc (ha _ _ _ _ _ _ h0 hD)).2.2
def cz {ow : Nat} (o : Nat) (ho : o ≤ 5) (a : EX ow) : CX ow := ⟨czP o a.1, cz_ok ow o ho a.1 a.2.1, cz_d o a.1 a.2.2⟩
theorem lcm_sem {o : Nat} (ho : o ≤ 5) {x y : Int} (hx : inL x) (hy : inL y) : ∃ z : Int, inI z ∧ lg_cmp (Int64.ofInt x) (Int64.ofInt y) = Int32.ofInt z ∧ (sem o z 0 ↔ sem o x y) := by
  have e1 : (Int64.ofInt x > Int64.ofInt y) ↔ y < x := by rw [gt_iff_lt, Int64.lt_iff_toInt_lt, ofL_toInt hx, ofL_toInt hy]
  have e2 : (Int64.ofInt x = Int64.ofInt y) ↔ x = y := by rw [← Int64.toInt_inj, ofL_toInt hx, ofL_toInt hy]
  have ho : o = 0 ∨ o = 1 ∨ o = 2 ∨ o = 3 ∨ o = 4 ∨ o = 5 := by omega
  unfold lg_cmp
  by_cases q : y < x
  · rw [if_pos (e1.mpr q)]
    refine ⟨1, ⟨by omega, by omega⟩, rfl, ?_⟩
    rcases ho with rfl | rfl | rfl | rfl | rfl | rfl <;> simp [sem] <;> omega
  · rw [if_neg (fun z => q (e1.mp z))]
    by_cases q2 : x = y
    · rw [if_pos (e2.mpr q2)]
      refine ⟨0, inI_0, rfl, ?_⟩
      rcases ho with rfl | rfl | rfl | rfl | rfl | rfl <;> simp [sem] <;> omega
    · rw [if_neg (fun z => q2 (e2.mp z))]
      refine ⟨-1, ⟨by omega, by omega⟩, rfl, ?_⟩
      rcases ho with rfl | rfl | rfl | rfl | rfl | rfl <;> simp [sem] <;> omega
def cmjP (o : Nat) (a b : XE) : XC := (fun ga d f L cs => match a.1 ga d cs with
    | some (1, cs1) => match b.1 ga (d + 2) cs1 with
      | some (1, cs2) => match nx .lcmp 1 cs2 with
        | some cs3 => nxz (if f then ngo o else o) L cs3
        | _ => none
      | _ => none
    | _ => none, fun cl Qt Qn r u => a.2 cl (fun v u' => b.2 cl (fun w u2 => (sem o v w → Qt u2) ∧ (¬ sem o v w → Qn u2)) r u') r u)
theorem cmj_ok (ow o : Nat) (ho : o ≤ 5) (a b : XE) (ha : SndE ow a) (hb : SndE ow b) : SndC ow (cmjP o a b) := by
  intro p l e R s m args below meth c cc nL G Qf cl hX hC ga d f L cs cs' hc hD r u H locs cells slots ls st Qt Qn hL hA hs hw kt kn
  simp only [cmjP] at hc hw
  split at hc
  case h_2 => cases hc
  rename_i cs1 h0
  split at hc
  case h_2 => cases hc
  rename_i cs2 h00
  split at hc
  case h_2 => cases hc
  rename_i cs3 h000
  refine ha p l e R s m args below meth c cc nL G Qf cl hX hC ga d cs 1 cs1 h0 hD r u H locs cells slots ls st _ hL hA hs hw ?_
  intro v u' H' locs' cells' slots' hv hA' hq hD1
  refine hb p l e R s m args below meth c cc nL G Qf cl hX hC ga (d + 2) cs1 1 cs2 h00 hD1 r u' H' locs' cells' slots' ls _ _ hL hA' ?_ hq ?_
  · rw [cats_cons, cat_enc]; simp; omega
  intro w u2 H2 locs2 cells2 slots2 hv2 hA2 hq2 hD2
  obtain ⟨h4, h5, h6⟩ := nx_ok h000 hD2
  obtain ⟨h1, h2, h3⟩ := nx_ok hc h6
  have hv : inL v := hv
  have hv2 : inL w := hv2
  have kt' := fun q => kt u2 H2 locs2 cells2 slots2 hA2 (hq2.1 q) h3
  have kn' := fun q => kn u2 H2 locs2 cells2 slots2 hA2 (hq2.2 q) h3
  rw [enc_1, enc_1]
  refine W.lcmp hX.1 hX.2.1 h4 ?_
  rw [← h5]
  cases f
  · simp only [Bool.false_eq_true, if_false] at h1 kt' kn'
    rw [h2] at kn'
    obtain ⟨z, z1, z2, z3⟩ := lcm_sem ho hv hv2
    rw [z2]
    exact ifz_row ho hX.1 hX.2.1 h1 (by omega) z1 (fun q => kt' (z3.mp q)) (fun q => kn' (fun z => q (z3.mpr z)))
  · simp only [if_true] at h1 kt' kn'
    rw [h2] at kt'
    obtain ⟨z, z1, z2, z3⟩ := lcm_sem (ngo5 ho) hv hv2
    rw [z2]
    exact ifz_row (ngo5 ho) hX.1 hX.2.1 h1 (by omega) z1 (fun q => kn' ((sem_ngo ho v w).mp (z3.mp q))) (fun q => kt' (Classical.not_not.mp (fun y => q (z3.mpr ((sem_ngo ho v w).mpr y)))))
theorem cmj_d (o : Nat) (a b : XE) (ha : DecE a) (hb : DecE b) : DecC (cmjP o a b) := by
  intro ga d f L cs cs' cc hc hD
  simp only [cmjP] at hc
  split at hc
  case h_2 => cases hc
  rename_i h0
  split at hc
  case h_2 => cases hc
  rename_i h00
  split at hc
  case h_2 => cases hc
  rename_i h000
  exact (nx_ok hc (nx_ok h000 (hb _ _ _ _ _ _ h00 (ha _ _ _ _ _ _ h0 hD))).2.2).2.2
def cmj {ow : Nat} (o : Nat) (ho : o ≤ 5) (a b : EX ow) : CX ow := ⟨cmjP o a.1 b.1, cmj_ok ow o ho a.1 b.1 a.2.1 b.2.1, cmj_d o a.1 b.1 a.2.2 b.2.2⟩
def notP (a : XC) : XC := (fun ga d f L cs => a.1 ga d (!f) L cs, fun cl Qt Qn r u => a.2 cl Qn Qt r u)
theorem not_ok (ow : Nat) (a : XC) (ha : SndC ow a) : SndC ow (notP a) := by
  intro p l e R s m args below meth c cc nL G Qf cl hX hC ga d f L cs cs' hc hD r u H locs cells slots ls st Qt Qn hL hA hs hw kt kn
  refine ha p l e R s m args below meth c cc nL G Qf cl hX hC ga d (!f) L cs cs' hc hD r u H locs cells slots ls st _ _ hL hA hs hw ?_ ?_
  · intro u' H' locs' cells' slots' hA' hq hD'
    have := kn u' H' locs' cells' slots' hA' hq hD'
    cases f <;> exact this
  · intro u' H' locs' cells' slots' hA' hq hD'
    have := kt u' H' locs' cells' slots' hA' hq hD'
    cases f <;> exact this
def cnot {ow : Nat} (a : CX ow) : CX ow := ⟨notP a.1, not_ok ow a.1 a.2.1, fun ga d f L cs cs' cc hc hD => a.2.2 ga d (!f) L cs cs' cc hc hD⟩
def andP (X : Nat) (a b : XC) : XC := (fun ga d f L cs => match a.1 ga d true (if f then L else X) cs with
    | some cs1 => match b.1 ga d f L cs1 with
      | some cs2 => if f = true ∨ pcOf cs2 = X then some cs2 else none
      | _ => none
    | _ => none, fun cl Qt Qn r u => a.2 cl (fun u' => b.2 cl Qt Qn r u') Qn r u)

theorem and_ok (ow X : Nat) (a b : XC) (ha : SndC ow a) (hb : SndC ow b) (hbd : DecC b) : SndC ow (andP X a b) := by
  intro p l e R s m args below meth c cc nL G Qf cl hX hC ga d f L cs cs' hc hD r u H locs cells slots ls st Qt Qn hL hA hs hw kt kn
  simp only [andP] at hc hw
  split at hc
  case h_2 => cases hc
  rename_i cs1 h0
  split at hc
  case h_2 => cases hc
  rename_i cs2 h00
  split at hc
  case isFalse => cases hc
  rename_i hX2
  cases hc
  refine ha p l e R s m args below meth c cc nL G Qf cl hX hC ga d true _ cs cs1 h0 hD r u H locs cells slots ls st _ _ hL hA hs hw ?_ ?_
  · intro u' H' locs' cells' slots' hA' hq hD'
    exact hb p l e R s m args below meth c cc nL G Qf cl hX hC ga d f L cs1 _ h00 hD' r u' H' locs' cells' slots' ls st _ _ hL hA' hs hq kt kn
  · intro u' H' locs' cells' slots' hA' hq hD'
    have := kn u' H' locs' cells' slots' hA' hq (hbd _ _ _ _ _ _ _ h00 hD')
    cases f
    · simp only [Bool.false_eq_true, if_false, false_or, if_true] at *
      rw [← hX2]; exact this
    · simpa using this
theorem and_d (X : Nat) (a b : XC) (ha : DecC a) (hb : DecC b) : DecC (andP X a b) := by
  intro ga d f L cs cs' cc hc hD
  simp only [andP] at hc
  split at hc
  case h_2 => cases hc
  rename_i h0
  split at hc
  case h_2 => cases hc
  rename_i h00
  split at hc
  case isFalse => cases hc
  cases hc
  exact hb _ _ _ _ _ _ _ h00 (ha _ _ _ _ _ _ _ h0 hD)
def cand {ow : Nat} (X : Nat) (a b : CX ow) : CX ow := ⟨andP X a.1 b.1, and_ok ow X a.1 b.1 a.2.1 b.2.1 b.2.2, and_d X a.1 b.1 a.2.2 b.2.2⟩
def orP (X : Nat) (a b : XC) : XC := (fun ga d f L cs => match a.1 ga d false (if f then X else L) cs with
    | some cs1 => match b.1 ga d f L cs1 with
      | some cs2 => if f = false ∨ pcOf cs2 = X then some cs2 else none
      | _ => none
    | _ => none, fun cl Qt Qn r u => a.2 cl Qt (fun u' => b.2 cl Qt Qn r u') r u)
theorem or_ok (ow X : Nat) (a b : XC) (ha : SndC ow a) (hb : SndC ow b) (hbd : DecC b) : SndC ow (orP X a b) := by
  intro p l e R s m args below meth c cc nL G Qf cl hX hC ga d f L cs cs' hc hD r u H locs cells slots ls st Qt Qn hL hA hs hw kt kn
  simp only [orP] at hc hw
  split at hc
  case h_2 => cases hc
  rename_i cs1 h0
  split at hc
  case h_2 => cases hc
  rename_i cs2 h00
  split at hc
  case isFalse => cases hc
  rename_i hX2
  cases hc
  refine ha p l e R s m args below meth c cc nL G Qf cl hX hC ga d false _ cs cs1 h0 hD r u H locs cells slots ls st _ _ hL hA hs hw ?_ ?_
  · intro u' H' locs' cells' slots' hA' hq hD'
    have := kt u' H' locs' cells' slots' hA' hq (hbd _ _ _ _ _ _ _ h00 hD')
    cases f
    · simpa using this
    · simp only [Bool.true_eq_false, Bool.false_eq_true, if_false, false_or, if_true] at *
      rw [← hX2]; exact this
  · intro u' H' locs' cells' slots' hA' hq hD'
    exact hb p l e R s m args below meth c cc nL G Qf cl hX hC ga d f L cs1 _ h00 hD' r u' H' locs' cells' slots' ls st _ _ hL hA' hs hq kt kn
theorem or_d (X : Nat) (a b : XC) (ha : DecC a) (hb : DecC b) : DecC (orP X a b) := by
  intro ga d f L cs cs' cc hc hD
  simp only [orP] at hc
  split at hc
  case h_2 => cases hc
  rename_i h0
  split at hc
  case h_2 => cases hc
  rename_i h00
  split at hc
  case isFalse => cases hc
  cases hc
  exact hb _ _ _ _ _ _ _ h00 (ha _ _ _ _ _ _ _ h0 hD)
def cor {ow : Nat} (X : Nat) (a b : CX ow) : CX ow := ⟨orP X a.1 b.1, or_ok ow X a.1 b.1 a.2.1 b.2.1 b.2.2, or_d X a.1 b.1 a.2.2 b.2.2⟩
end
section
/-! trees: choice, arguments, calls -/
def nxg (L : Nat) (cs : Cds) : Option Cds := nxe (.goto ((L : Int) - (pcOf cs : Int))) 3 cs
def iteP (A X : Nat) (c : XC) (a b : XE) : XE := (fun ga d cs => match c.1 ga d true A cs with
    | some cs1 => match a.1 ga d cs1 with
      | some (t, cs2) => match nxg X cs2 with
        | some cs3 => match b.1 ga d cs3 with
          | some (t2, cs4) => if pcOf cs3 = A ∧ pcOf cs4 = X ∧ t2 = t then some (t, cs4) else none
          | _ => none
        | _ => none
      | _ => none
    | _ => none, fun cl Q r u => c.2 cl (fun u' => a.2 cl Q r u') (fun u' => b.2 cl Q r u') r u)
theorem ite_d (A X : Nat) (c : XC) (a b : XE) (hc0 : DecC c) (ha : DecE a) (hb : DecE b) : DecE (iteP A X c a b) := by
  intro ga d cs t cs' cc hc hD
  simp only [iteP] at hc
  split at hc
  case h_2 => cases hc
  rename_i h0
  split at hc
  case h_2 => cases hc
  rename_i h1
  split at hc
  case h_2 => cases hc
  rename_i h2
  split at hc
  case h_2 => cases hc
  rename_i h3
  split at hc
  case isFalse => cases hc
  cases hc
  exact hb _ _ _ _ _ _ h3 (nxe_ok h2 (ha _ _ _ _ _ _ h1 (hc0 _ _ _ _ _ _ _ h0 hD))).2
theorem ite_ok (ow A X : Nat) (c0 : XC) (a b : XE) (hc0 : SndC ow c0) (ha : SndE ow a) (hb : SndE ow b) (dc : DecC c0) (da : DecE a) (db : DecE b) : SndE ow (iteP A X c0 a b) := by
  intro p l e R s m args below meth c cc nL G Qf cl hX hC ga d cs t cs' hc hD r u H locs cells slots ls st Q hL hA hs hw k
  have hD9 := ite_d A X c0 a b dc da db ga d cs t cs' cc hc hD
  simp only [iteP] at hc hw
  split at hc
  case h_2 => cases hc
  rename_i cs1 h0
  split at hc
  case h_2 => cases hc
  rename_i t1 cs2 h1
  split at hc
  case h_2 => cases hc
  rename_i cs3 h2
  split at hc
  case h_2 => cases hc
  rename_i t2 cs4 h3
  split at hc
  case isFalse => cases hc
  rename_i he
  obtain ⟨he1, he2, he3⟩ := he
  cases hc
  subst he3
  have D1 := dc _ _ _ _ _ _ _ h0 hD
  have D2 := da _ _ _ _ _ _ h1 D1
  obtain ⟨g1, D3⟩ := nxe_ok h2 D2
  refine hc0 p l e R s m args below meth c cc nL G Qf cl hX hC ga d true A cs cs1 h0 hD r u H locs cells slots ls st _ _ hL hA hs hw ?_ ?_
  · intro u' H' locs' cells' slots' hA' hq _
    refine ha p l e R s m args below meth c cc nL G Qf cl hX hC ga d cs1 _ cs2 h1 D1 r u' H' locs' cells' slots' ls st _ hL hA' hs hq ?_
    intro v u2 H2 locs2 cells2 slots2 hv hA2 hq2 _
    refine lv_goto (tgt := X) hX.1 hX.2.1 g1 (by omega) ?_
    have := k v u2 H2 locs2 cells2 slots2 hv hA2 hq2 hD9
    rw [he2] at this
    exact this
  · intro u' H' locs' cells' slots' hA' hq _
    simp only [if_true]
    rw [← he1]
    exact hb p l e R s m args below meth c cc nL G Qf cl hX hC ga d cs3 _ cs' h3 D3 r u' H' locs' cells' slots' ls st _ hL hA' hs hq k
def ite {ow : Nat} (A X : Nat) (c : CX ow) (a b : EX ow) : EX ow := ⟨iteP A X c.1 a.1 b.1, ite_ok ow A X c.1 a.1 b.1 c.2.1 a.2.1 b.2.1 c.2.2 a.2.2 b.2.2, ite_d A X c.1 a.1 b.1 c.2.2 a.2.2 b.2.2⟩
abbrev XL : Type := (Gam → Nat → Cds → Option (List Nat × Cds)) × (ClT → (List Int → Sto → Prop) → Rho → Sto → Prop)
def SndL (ow : Nat) (x : XL) : Prop :=
  ∀ (p : Program) (l : Launch) (e : Env) (R : Room) (s : State) (m : MethodId) (args : Array Value) (below : List Frame) (meth : Method) (c : Code) (cc : ByteArray) (nL : Nat) (G : Geo) (Qf : State → Prop) (cl : ClT),
  MX p R s m args c cc nL ow G → ClOK l R G cl → ∀ (ga : Gam) (d : Nat) (cs : Cds) (t : List Nat) (cs' : Cds), x.1 ga d cs = some (t, cs') → Dec cc cs →
  ∀ (r : Rho) (u : Sto) (H : Heap) (locs : List Loc) (cells slots : Nat) (ls : Array Slot) (st : List Value) (Q : List Int → Sto → Prop),
  LR G nL ga r ls → At G R s.heap u H locs cells slots → cats st ≤ d → x.2 cl Q r u →
  (∀ (v : List Int) (u' : Sto) (H' : Heap) (locs' : List Loc) (cells' slots' : Nat), okA t v → At G R s.heap u' H' locs' cells' slots' → Q v u' → Dec cc cs' → W p l e R s m args below meth c H' locs' cells' slots' Qf (F0 m (pcOf cs') ls ((encA G.1 t v).reverse ++ st))) →
  W p l e R s m args below meth c H locs cells slots Qf (F0 m (pcOf cs) ls st)
def DecL (x : XL) : Prop := ∀ (ga : Gam) (d : Nat) (cs : Cds) (t : List Nat) (cs' : Cds) (cc : ByteArray), x.1 ga d cs = some (t, cs') → Dec cc cs → Dec cc cs'
abbrev LX (ow : Nat) : Type := { x : XL // SndL ow x ∧ DecL x }
def nilP : XL := (fun _ _ cs => some ([], cs), fun _ Q _ u => Q [] u)
theorem nil_ok (ow : Nat) : SndL ow nilP := by
  intro p l e R s m args below meth c cc nL G Qf cl hX hC ga d cs t cs' hc hD r u H locs cells slots ls st Q hL hA hs hw k
  simp only [nilP] at hc hw
  cases hc
  exact k [] u H locs cells slots trivial hA hw hD
def anil {ow : Nat} : LX ow := ⟨nilP, nil_ok ow, fun ga d cs t cs' cc hc hD => by simp only [nilP] at hc; cases hc; exact hD⟩
def consP (a : XE) (b : XL) : XL := (fun ga d cs => match a.1 ga d cs with
    | some (t, cs1) => match b.1 ga (d + if t = 1 then 2 else 1) cs1 with
      | some (ts, cs2) => some (t :: ts, cs2)
      | _ => none
    | _ => none, fun cl Q r u => a.2 cl (fun v u' => b.2 cl (fun vs u2 => Q (v :: vs) u2) r u') r u)
theorem cons_d (a : XE) (b : XL) (ha : DecE a) (hb : DecL b) : DecL (consP a b) := by
  intro ga d cs t cs' cc hc hD
  simp only [consP] at hc
  split at hc
  case h_2 => cases hc
  rename_i h0
  split at hc
  case h_2 => cases hc
  rename_i h1
  cases hc
  exact hb _ _ _ _ _ _ h1 (ha _ _ _ _ _ _ h0 hD)
theorem cons_ok (ow : Nat) (a : XE) (b : XL) (ha : SndE ow a) (hb : SndL ow b) : SndL ow (consP a b) := by
  intro p l e R s m args below meth c cc nL G Qf cl hX hC ga d cs t cs' hc hD r u H locs cells slots ls st Q hL hA hs hw k
  simp only [consP] at hc hw
  split at hc
  case h_2 => cases hc
  rename_i t1 cs1 h0
  split at hc
  case h_2 => cases hc
  rename_i ts cs2 h1
  cases hc
  refine ha p l e R s m args below meth c cc nL G Qf cl hX hC ga d cs _ cs1 h0 hD r u H locs cells slots ls st _ hL hA hs hw ?_
  intro v u' H' locs' cells' slots' hv hA' hq hD1
  refine hb p l e R s m args below meth c cc nL G Qf cl hX hC ga _ cs1 ts cs' h1 hD1 r u' H' locs' cells' slots' ls _ _ hL hA' ?_ hq ?_
  · rw [cats_cons, cat_enc]; omega
  intro vs u2 H2 locs2 cells2 slots2 hv2 hA2 hq2 hD2
  have := k (v :: vs) u2 H2 locs2 cells2 slots2 ⟨hv, hv2⟩ hA2 hq2 hD2
  simpa [encA] using this
def acons {ow : Nat} (a : EX ow) (b : LX ow) : LX ow := ⟨consP a.1 b.1, cons_ok ow a.1 b.1 a.2.1 b.2.1, cons_d a.1 b.1 a.2.2 b.2.2⟩
def MthOK (K : Nat) : Prop := mWor K ∈ gTbl ∧ Cond.initialized (mNam K).cls ∈ gTbl ∧ ((mNam K).cls ≠ "java/lang/invoke/MethodHandle" ∧ (mNam K).cls ≠ "java/lang/invoke/VarHandle")
def VirtAt (ow cp K kk : Nat) : Prop := MthOK K ∧ Cond.methodLink (kC ow) cp (mNam K) ∈ gTbl ∧ Cond.instanceMethod (mNam K) ∈ gTbl ∧ Cond.selects (mNam K).cls (mNam K) (mNam K) ∈ gTbl ∧ kC kk = (mNam K).cls ∧ 1 ≤ kk ∧ kk ≤ 13 ∧
  (parseMethodDescriptor (mNam K).desc).map (fun d => d.parameters.length + 1) = some (mArg K).length ∧ (mArg K).head? = some 2
def StatAt (ow cp K : Nat) : Prop := MthOK K ∧ Cond.methodLink (kC ow) cp (mNam K) ∈ gTbl ∧ Cond.static (mNam K) ∈ gTbl ∧ (parseMethodDescriptor (mNam K).desc).map (fun d => d.parameters.length) = some (mArg K).length
theorem encA_len (al : Int → Nat) : ∀ (ts : List Nat) (vs : List Int), okA ts vs → (encA al ts vs).length = ts.length
  | [], [], _ => rfl
  | t :: ts, v :: vs, h => by
    simp only [encA, List.length_cons]
    rw [encA_len al ts vs h.2]
  | [], _ :: _, h => h.elim
  | _ :: _, [], h => h.elim
theorem SOK.same {G : Geo} {U : State} {g : JFrame} {mk : MethodId} {a : Array Value} (h : SOK G U) : SOK G (U.calling g mk a) := by
  obtain ⟨⟨adV, h1⟩, h2, h3, h4, h5, h6⟩ := h
  have hv : U.vm.Alike (U.calling g mk a).vm := Vm.Alike.refl U.vm
  exact ⟨⟨adV, h1.moved hv⟩, fun i hi => vk_R.same (u := U) rfl (h2 i hi), h3.moved hv, h4.moved hv, h5.moved hv, h6.moved hv⟩
theorem pc_blind (G : Geo) (K : Nat) (vs : List Int) (u : Sto) : FrameBlind (PcOf G K vs u) := fun a U g mk q =>
  ⟨q.1, q.2.1, q.2.2.1, KOK.moved (u := U) (U := U.calling g mk a) (Vm.Alike.refl U.vm) q.2.2.2.1, q.2.2.2.2.1, SOK.same q.2.2.2.2.2⟩
theorem after_call {G : Geo} {R : Room} {H0 H H' : Heap} {u u' : Sto} {locs L : List Loc} {cells slots mc ms : Nat} (hA : At G R H0 u H locs cells slots) (hr : Rel G u' H') (hz : H.size ≤ H'.size) (hk : ∀ q : Nat, q < G.2.2.2 → H'[q]? = H[q]?) (hL : ∀ q ∈ L, G.2.2.2 ≤ q.base) (h1 : mc ≤ sbc u) (h2 : ms ≤ sbw u) :
    At G R H0 (bud u' (sbc u - mc) (sbw u - ms)) H' (locs ++ L) (cells + mc) (slots + ms) := by
  obtain ⟨a1, ⟨a2, a3, a4⟩, a5, a6⟩ := hA
  refine ⟨hr, ⟨by omega, fun q hq => (hk q hq).trans (a3 q hq), fun q hq => ?_⟩, ?_, ?_⟩
  · rcases List.mem_append.mp hq with h | h
    · exact a4 q h
    · exact hL q h
  · show cells + mc + (sbc u - mc) ≤ R.cells
    omega
  · show slots + ms + (sbw u - ms) ≤ R.slots
    omega
theorem run_on {G : Geo} {p : Program} {l : Launch} {e : Env} {R : Room} {s : State} {m : MethodId} {args : Array Value} {below : List Frame} {meth : Method} {c : Code} {H : Heap} {locs : List Loc} {cells slots : Nat} {Q : State → Prop} {pc : Nat} {ls : Array Slot} {st st0 : List Value} {a : Array Value} {K : Nat} {Q' : Int → Sto → Prop} {u : Sto}
    (hr : va_Run p l e R s m args below meth c H locs cells slots (mCel K) (mSlo K) (F0 m pc ls st0) st (QcOf G K Q' a) (fun q => G.2.2.2 ≤ q)) (hA : At G R s.heap u H locs cells slots) (hb : mCel K ≤ sbc u ∧ mSlo K ≤ sbw u)
    (kk : ∀ (v : Int) (u' : Sto) (H' : Heap) (locs' : List Loc), okv (mRty K) v → Q' v u' → At G R s.heap (bud u' (sbc u - mCel K) (sbw u - mSlo K)) H' locs' (cells + mCel K) (slots + mSlo K) → W p l e R s m args below meth c H' locs' (cells + mCel K) (slots + mSlo K) Q (F0 m (pc + 3) ls ((encR G.1 (mRty K) v).toList ++ st))) :
    W p l e R s m args below meth c H locs cells slots Q (F0 m pc ls st0) := by
  intro T hT X
  obtain ⟨v, st₀, t, T', L, h0, X', hL, e1, e2, ⟨⟨w, u', hv, hok, hq, hrel⟩, hz, hk⟩, go⟩ := hr T hT X
  cases hv
  rw [h0] at hz hk
  obtain ⟨t2, a1, b1⟩ := kk w u' T'.heap (locs ++ L) hok hq (after_call hA (by rw [e1]; exact hrel) (by rw [e1]; exact hz) (by rw [e1]; exact hk) hL hb.1 hb.2) T' rfl X'
  exact ⟨t2, go t2 a1, b1⟩
theorem callB_at {p : Program} {l : Launch} {R : Room} {s : State} {m : MethodId} {args : Array Value} {c : Code} {cc : ByteArray} {nL ow cp K n : Nat} {G : Geo} {rm : Room} (hX : MX p R s m args c cc nL ow G) (hM : MthOK K) (hl : Cond.methodLink (kC ow) cp (mNam K) ∈ gTbl) (hn : ∀ sig, parseMethodDescriptor (mNam K).desc = some sig → n = sig.parameters.length)
    (h1 : rm.cells = mCel K) (h2 : rm.slots = mSlo K) (h3 : rm.frames + 1 ≤ R.frames) (h4 : 8 + (mMax K + 11) + rm.locals ≤ R.locals) : CallB R s args (kC ow) cp (mNam K) (mCod K) (mMax K) (mRet K) (wsOf K) rm (mCel K) (mSlo K) n := by
  have hts := hX.2.2.2.2.1
  obtain ⟨g1, g2, g3⟩ := hM
  refine ⟨h1, h2, h3, h4, fun w hw => ?_, List.mem_cons_self, hts _ g1, hts _ g2, g3, hn, hts _ hl⟩
  rcases List.mem_cons.mp hw with rfl | hw
  · exact gt_pay hts _ g1
  · exact gt_pay hts _ hw
theorem pc_pre {p : Program} {R : Room} {s : State} {m : MethodId} {args : Array Value} {c : Code} {cc : ByteArray} {nL ow : Nat} {G : Geo} {u : Sto} {H : Heap} {locs : List Loc} {cells slots : Nat} (hX : MX p R s m args c cc nL ow G) (hA : At G R s.heap u H locs cells slots) {K : Nat} {vs : List Int} (hok : okA (mArg K) vs) (x y : Nat) (U : State) (hU : U.heap = H) (hW : s.WarmedH U.vm) : PcOf G K vs (bud u x y) (encA G.1 (mArg K) vs).toArray U :=
  ⟨rfl, hok, by rw [hU]; exact hA.1, KOK.moved hW.alike hX.2.2.2.2.2.1, by rw [hU]; exact Nat.le_trans hX.2.2.2.2.2.2.1 hA.2.1.1, hX.2.2.2.2.2.2.2.2.2.1.on hW (by rw [hU]; exact hA.2.1.2.1)⟩
section CR
variable {p : Program} {l : Launch} {e : Env} {R : Room} {s : State} {m : MethodId} {args : Array Value} {below : List Frame} {meth : Method} {c : Code} {cc : ByteArray} {nL ow cp K : Nat} {G : Geo} {H : Heap} {locs : List Loc} {cells slots : Nat} {Q : State → Prop} {pc : Nat} {ls : Array Slot} {st : List Value} {cl : ClT} {u : Sto} {vs : List Int} {Q' : Int → Sto → Prop}
theorem call_virt {kk : Nat} (hX : MX p R s m args c cc nL ow G) (hC : ClOK l R G cl) (hv : VirtAt ow cp K kk) (hd : decode cc pc = .ok (.invokevirtual cp, 3)) (hA : At G R s.heap u H locs cells slots) (hok : okA (mArg K) vs) (hcat : cats st ≤ 8) (hlive : ∀ v, vs.head? = some v → live u v kk) (hls : ls.size = nL) (hb : mCel K ≤ sbc u ∧ mSlo K ≤ sbw u) (hcl : cl K vs Q' (bud u (mCel K) (mSlo K)))
    (k : ∀ (v : Int) (u' : Sto) (H' : Heap) (locs' : List Loc), okv (mRty K) v → Q' v u' → At G R s.heap (bud u' (sbc u - mCel K) (sbw u - mSlo K)) H' locs' (cells + mCel K) (slots + mSlo K) → W p l e R s m args below meth c H' locs' (cells + mCel K) (slots + mSlo K) Q (F0 m (pc + 3) ls ((encR G.1 (mRty K) v).toList ++ st))) :
    W p l e R s m args below meth c H locs cells slots Q (F0 m pc ls ((encA G.1 (mArg K) vs).reverse ++ st)) := by
  obtain ⟨g1, g2, g3, g4, g5, g6, g7, g8, g9⟩ := hv
  have hts := hX.2.2.2.2.1
  obtain ⟨rm, r1, r2, r3, r4, hM⟩ := hC K vs Q' _ hcl (Nat.le_refl _) (Nat.le_refl _)
  match hm : mArg K, vs, hok with
  | [], _, _ => rw [hm] at g9; cases g9
  | t :: ts, [], hok => exact hok.elim
  | t :: ts, v0 :: vt, hok' =>
    rw [hm] at g9 g8
    cases g9
    have lv := hlive v0 rfl
    have hv0 : v0 ≠ 0 := by have := lv.1; omega
    have e0 : encA G.1 (2 :: ts) (v0 :: vt) = .ref (G.1 v0) :: encA G.1 ts vt := by simp only [encA]; rw [enc_2 _ hv0]
    have hp := pc_pre (K := K) (vs := v0 :: vt) hX hA (by rw [hm]; exact hok') (mCel K) (mSlo K)
    rw [hm, e0] at hp
    obtain ⟨cell, q1, q2, q3, -⟩ := hA.1.1 v0 lv.1 lv.2.1 (by rw [lv.2.2]; omega)
    rw [lv.2.2] at q3
    have hn : ∀ sig, parseMethodDescriptor (mNam K).desc = some sig → ts.length = sig.parameters.length := fun sig h => by
      rw [h] at g8; simp at g8; omega
    rw [e0, List.reverse_cons, List.append_assoc]
    refine run_on (u := u) (va_runV (As := encA G.1 ts vt) (rest := st) (b := G.1 v0) (n := ts.length) (Ts := gTbl) (own := kC ow) (C := (mNam K).cls) ⟨hX.1, hX.2.1, hX.2.2.1, hX.2.2.2.1, hts⟩ hM ⟨callB_at (l := l) hX g1 g2 hn r1 r2 r3 r4, hts _ g3, hts _ g4⟩
      ⟨pc_blind G K _ _, ⟨cell, q1, by rw [q2]; rfl, ?_⟩, hp⟩ rfl (encA_len _ _ _ hok'.2) hls rfl (lv_room hcat) hd ⟨by have := hA.2.2.1; omega, by have := hA.2.2.2; omega⟩) hA hb k
    rw [← g5, q3]
    exact (hX.2.2.2.2.2.1.2.1 kk g6 g7).2.1
theorem call_stat (hX : MX p R s m args c cc nL ow G) (hC : ClOK l R G cl) (hv : StatAt ow cp K) (hd : decode cc pc = .ok (.invokestatic cp, 3)) (hA : At G R s.heap u H locs cells slots) (hok : okA (mArg K) vs) (hcat : cats st ≤ 8) (hls : ls.size = nL) (hb : mCel K ≤ sbc u ∧ mSlo K ≤ sbw u) (hcl : cl K vs Q' (bud u (mCel K) (mSlo K)))
    (k : ∀ (v : Int) (u' : Sto) (H' : Heap) (locs' : List Loc), okv (mRty K) v → Q' v u' → At G R s.heap (bud u' (sbc u - mCel K) (sbw u - mSlo K)) H' locs' (cells + mCel K) (slots + mSlo K) → W p l e R s m args below meth c H' locs' (cells + mCel K) (slots + mSlo K) Q (F0 m (pc + 3) ls ((encR G.1 (mRty K) v).toList ++ st))) :
    W p l e R s m args below meth c H locs cells slots Q (F0 m pc ls ((encA G.1 (mArg K) vs).reverse ++ st)) := by
  obtain ⟨g1, g2, g3, g8⟩ := hv
  have hts := hX.2.2.2.2.1
  obtain ⟨rm, r1, r2, r3, r4, hM⟩ := hC K vs Q' _ hcl (Nat.le_refl _) (Nat.le_refl _)
  have hp := pc_pre (K := K) (vs := vs) hX hA hok (mCel K) (mSlo K)
  have hn : ∀ sig, parseMethodDescriptor (mNam K).desc = some sig → (mArg K).length = sig.parameters.length := fun sig h => by
    rw [h] at g8; simp at g8; omega
  exact run_on (u := u) (va_runS (As := encA G.1 (mArg K) vs) (rest := st) (n := (mArg K).length) (Ts := gTbl) (own := kC ow) ⟨hX.1, hX.2.1, hX.2.2.1, hX.2.2.2.1, hts⟩ hM ⟨callB_at (l := l) hX g1 g2 hn r1 r2 r3 r4, hts _ g3⟩
      ⟨pc_blind G K _ _, hp⟩ rfl (encA_len _ _ _ hok) hls rfl (lv_room hcat) hd ⟨by have := hA.2.2.1; omega, by have := hA.2.2.2; omega⟩) hA hb k
end CR
/-- what a call asks and gives -/
def wcl (cl : ClT) (K : Nat) (Q : Int → Sto → Prop) (vs : List Int) (u : Sto) : Prop := (mCel K ≤ sbc u ∧ mSlo K ≤ sbw u) ∧ cl K vs (fun v u' => Q v (bud u' (sbc u - mCel K) (sbw u - mSlo K))) (bud u (mCel K) (mSlo K))
def hdl (vs : List Int) (u : Sto) (kk : Nat) : Prop := live u (vs.headD 0) kk
theorem hdl_v {vs : List Int} {u : Sto} {kk : Nat} (h : hdl vs u kk) : ∀ v, vs.head? = some v → live u v kk := by
  intro v hv
  cases vs with
  | nil => cases hv
  | cons a t => cases hv; exact h
theorem encR_g {t : Nat} (h : t ≠ 9) (al : Int → Nat) (v : Int) : encR al t v = some (enc al (gty t) v) := by unfold encR; rw [if_neg h, enc_g]
def cviP (cp K kk : Nat) (a : XL) : XE := (fun ga d cs => match a.1 ga d cs with
    | some (ts, cs1) => if ts = mArg K ∧ d ≤ 8 ∧ mRty K ≠ 9 then (nx (.invokevirtual cp) 3 cs1).map (fun x => (gty (mRty K), x)) else none
    | _ => none, fun cl Q r u => a.2 cl (fun vs u' => hdl vs u' kk ∧ wcl cl K Q vs u') r u)
def cstaP (cp K : Nat) (a : XL) : XE := (fun ga d cs => match a.1 ga d cs with
    | some (ts, cs1) => if ts = mArg K ∧ d ≤ 8 ∧ mRty K ≠ 9 then (nx (.invokestatic cp) 3 cs1).map (fun x => (gty (mRty K), x)) else none
    | _ => none, fun cl Q r u => a.2 cl (fun vs u' => wcl cl K Q vs u') r u)

theorem cvi_d (cp K kk : Nat) (a : XL) (ha : DecL a) : DecE (cviP cp K kk a) := by
  intro ga d cs t cs' cc hc hD
  simp only [cviP] at hc
  split at hc
  case h_2 => cases hc
  rename_i h0
  split at hc
  case isFalse => cases hc
  exact map_nx hc (ha _ _ _ _ _ _ h0 hD)
theorem cvi_ok (ow : Nat) (cp K kk : Nat) (hf : VirtAt ow cp K kk) (a : XL) (ha : SndL ow a) : SndE ow (cviP cp K kk a) := by
  intro p l e R s m args below meth c cc nL G Qf cl hX hC ga d cs t cs' hc hD r u H locs cells slots ls st Q hL hA hs hw k
  simp only [cviP] at hc hw
  split at hc
  case h_2 => cases hc
  rename_i ts cs1 h0
  split at hc
  case isFalse => cases hc
  rename_i hcond
  obtain ⟨rfl, hd8, h9⟩ := hcond
  obtain ⟨x, hx, e1⟩ := Option.map_eq_some_iff.mp hc
  cases e1
  refine ha p l e R s m args below meth c cc nL G Qf cl hX hC ga d cs _ cs1 h0 hD r u H locs cells slots ls st _ hL hA hs hw ?_
  intro vs u' H' locs' cells' slots' hv hA' hq hD1
  obtain ⟨h1, h2, h3⟩ := nx_ok hx hD1
  refine call_virt hX hC hf h1 hA' hv (by omega) (hdl_v hq.1) hL.1.1 hq.2.1 hq.2.2 ?_
  intro w u2 H2 locs2 hw2 hQ2 hA2
  have k' := k w _ H2 locs2 _ _ (okv_g hw2) hA2 hQ2 h3
  rw [h2] at k'
  rw [encR_g h9]
  exact k'
def cvi {ow : Nat} {cp K kk : Nat} (hf : VirtAt ow cp K kk) (a : LX ow) : EX ow := ⟨cviP cp K kk a.1, cvi_ok ow cp K kk hf a.1 a.2.1, cvi_d cp K kk a.1 a.2.2⟩

theorem csta_d (cp K : Nat) (a : XL) (ha : DecL a) : DecE (cstaP cp K a) := by
  intro ga d cs t cs' cc hc hD
  simp only [cstaP] at hc
  split at hc
  case h_2 => cases hc
  rename_i h0
  split at hc
  case isFalse => cases hc
  exact map_nx hc (ha _ _ _ _ _ _ h0 hD)
theorem csta_ok (ow : Nat) (cp K : Nat) (hf : StatAt ow cp K) (a : XL) (ha : SndL ow a) : SndE ow (cstaP cp K a) := by
  intro p l e R s m args below meth c cc nL G Qf cl hX hC ga d cs t cs' hc hD r u H locs cells slots ls st Q hL hA hs hw k
  simp only [cstaP] at hc hw
  split at hc
  case h_2 => cases hc
  rename_i ts cs1 h0
  split at hc
  case isFalse => cases hc
  rename_i hcond
  obtain ⟨rfl, hd8, h9⟩ := hcond
  obtain ⟨x, hx, e1⟩ := Option.map_eq_some_iff.mp hc
  cases e1
  refine ha p l e R s m args below meth c cc nL G Qf cl hX hC ga d cs _ cs1 h0 hD r u H locs cells slots ls st _ hL hA hs hw ?_
  intro vs u' H' locs' cells' slots' hv hA' hq hD1
  obtain ⟨h1, h2, h3⟩ := nx_ok hx hD1
  refine call_stat hX hC hf h1 hA' hv (by omega) hL.1.1 hq.1 hq.2 ?_
  intro w u2 H2 locs2 hw2 hQ2 hA2
  have k' := k w _ H2 locs2 _ _ (okv_g hw2) hA2 hQ2 h3
  rw [h2] at k'
  rw [encR_g h9]
  exact k'
def csta {ow : Nat} {cp K : Nat} (hf : StatAt ow cp K) (a : LX ow) : EX ow := ⟨cstaP cp K a.1, csta_ok ow cp K hf a.1 a.2.1, csta_d cp K a.1 a.2.2⟩
end
section
/-! trees of statements -/
/-- no value of any type: thrown -/
def XV : Int := 9223372036854775808
def retI (rt : Nat) : Instr := if rt = 9 then .return_ else if rt = 1 then .lreturn else .ireturn
abbrev XS : Type := (Gam → Nat → Nat → Nat → Gam → Nat → Cds → Option (Gam × Cds)) × (ClT → (Rho → Sto → Prop) → (Rho → Sto → Prop) → (Int → Sto → Prop) → Rho → Sto → Prop)
def SndS (ow : Nat) (x : XS) : Prop :=
  ∀ (p : Program) (l : Launch) (e : Env) (R : Room) (s : State) (m : MethodId) (args : Array Value) (below : List Frame) (meth : Method) (c : Code) (cc : ByteArray) (nL : Nat) (G : Geo) (Qf : State → Prop) (cl : ClT),
  MX p R s m args c cc nL ow G → ClOK l R G cl → ∀ (ga : Gam) (nx lb : Nat) (gb : Gam) (rt : Nat) (cs : Cds) (ga' : Gam) (cs' : Cds), x.1 ga nL nx lb gb rt cs = some (ga', cs') → Dec cc cs →
  ∀ (r : Rho) (u : Sto) (H : Heap) (locs : List Loc) (cells slots : Nat) (ls : Array Slot) (Kn Kb : Rho → Sto → Prop) (Kr : Int → Sto → Prop),
  LR G nL ga r ls → At G R s.heap u H locs cells slots → x.2 cl Kn Kb Kr r u →
  (∀ (r' : Rho) (u' : Sto) (H' : Heap) (locs' : List Loc) (cells' slots' : Nat) (ls' : Array Slot), LR G nL ga' r' ls' → At G R s.heap u' H' locs' cells' slots' → Kn r' u' → W p l e R s m args below meth c H' locs' cells' slots' Qf (F0 m nx ls' [])) →
  (∀ (r' : Rho) (u' : Sto) (H' : Heap) (locs' : List Loc) (cells' slots' : Nat) (ls' : Array Slot), LR G nL gb r' ls' → At G R s.heap u' H' locs' cells' slots' → Kb r' u' → W p l e R s m args below meth c H' locs' cells' slots' Qf (F0 m lb ls' [])) →
  (∀ (v : Int) (u' : Sto) (H' : Heap) (locs' : List Loc) (cells' slots' : Nat) (ls' : Array Slot) (pc : Nat), okv (rt % 20) v → At G R s.heap u' H' locs' cells' slots' → Kr v u' → decode cc pc = .ok (retI (rt % 20), 1) → W p l e R s m args below meth c H' locs' cells' slots' Qf (F0 m pc ls' (encR G.1 (rt % 20) v).toList)) →
  (20 ≤ rt → ∀ (u' : Sto) (H' : Heap) (locs' : List Loc) (cells' slots' : Nat) (ls' : Array Slot) (pc ik ic : Nat), ls'.size = nL → At G R s.heap u' H' locs' cells' slots' → Kr XV u' → decode cc pc = .ok (.new ik, 3) → decode cc (pc + 3) = .ok (.dup, 1) → decode cc (pc + 4) = .ok (.invokespecial ic, 3) → decode cc (pc + 7) = .ok (.athrow, 1) → W p l e R s m args below meth c H' locs' cells' slots' Qf (F0 m pc ls' [])) →
  W p l e R s m args below meth c H locs cells slots Qf (F0 m (pcOf cs) ls [])
def DecS (x : XS) : Prop := ∀ (ga : Gam) (nL nx lb : Nat) (gb : Gam) (rt : Nat) (cs : Cds) (ga' : Gam) (cs' : Cds) (cc : ByteArray), x.1 ga nL nx lb gb rt cs = some (ga', cs') → Dec cc cs → Dec cc cs'
abbrev SX (ow : Nat) : Type := { x : XS // SndS ow x ∧ DecS x }
def okt (L : Nat) : Cds → Bool
  | [] => false
  | q :: _ => (q.1 == L) || (decide (q.2.1 = .goto ((L : Int) - (q.1 : Int))) && (q.2.2 == 3))
theorem okt_W {L : Nat} {cs : Cds} {cc : ByteArray} {p : Program} {l : Launch} {e : Env} {R : Room} {s : State} {m : MethodId} {args : Array Value} {below : List Frame} {meth : Method} {c : Code} {H : Heap} {locs : List Loc} {cells slots : Nat} {Q : State → Prop} {ls : Array Slot} {st : List Value}
    (h : okt L cs = true) (hx : p.tables.exec = Jvm.exec) (hb : c.code = cc) (hD : Dec cc cs) (k : W p l e R s m args below meth c H locs cells slots Q (F0 m L ls st)) : W p l e R s m args below meth c H locs cells slots Q (F0 m (pcOf cs) ls st) := by
  match cs, h, hD with
  | [], h, _ => cases h
  | q :: t, h, hD =>
    rcases Bool.or_eq_true_iff.mp h with h | h
    · have := eq_of_beq h
      show W p l e R s m args below meth c H locs cells slots Q (F0 m q.1 ls st)
      rw [this]; exact k
    · have h1 := of_decide_eq_true (Bool.and_eq_true_iff.mp h).1
      have h2 := eq_of_beq (Bool.and_eq_true_iff.mp h).2
      have h3 := hD.1
      rw [h1, h2] at h3
      exact lv_goto (pc := q.1) (tgt := L) hx hb h3 (by omega) k
def upg (ga : Gam) (i t : Nat) : Gam := (i, t) :: ga.filter (fun q => !(q.1 == i) && !(q.1 + 1 == i && q.2 == 1))
def upj (ga : Gam) (i : Nat) : Gam := (i, 1) :: ga.filter (fun q => !(q.1 == i) && (!(q.1 == i + 1) && !(q.1 + 1 == i && q.2 == 1)))
theorem cat2 (al : Int → Nat) (t : Nat) (v : Int) : ((enc al t v).category == 2) = (t == 1) := by
  rw [cat_enc]
  by_cases h : t = 1
  · subst h; rfl
  · rw [if_neg h]
    have : (t == 1) = false := by simpa using h
    rw [this]; rfl
theorem LR_up {G : Geo} {nL : Nat} {ga : Gam} {r : Rho} {ls ls' : Array Slot} {i t : Nat} {v : Int} (hL : LR G nL ga r ls) (hv : okv t v)
    (h : lv_has ls' nL ((i, enc G.1 t v) :: (ga.map fun q => (q.1, enc G.1 q.2 (r q.1))).filter (fun q => !(q.1 == i) && !(q.1 + 1 == i && q.2.category == 2)))) : LR G nL (upg ga i t) (upr r i v) ls' := by
  have key : ∀ q ∈ ga.filter (fun q => !(q.1 == i) && !(q.1 + 1 == i && q.2 == 1)), upr r i v q.1 = r q.1 := fun q hq => by
    have := (List.mem_filter.mp hq).2
    simp at this
    unfold upr
    rw [if_neg this.1]
  refine ⟨⟨h.1, h.2.1, fun q hq => ?_⟩, fun q hq => ?_⟩
  · obtain ⟨z, hz, rfl⟩ := List.mem_map.mp hq
    rcases List.mem_cons.mp hz with rfl | hz
    · have := h.2.2 _ List.mem_cons_self
      simpa [upr] using this
    · refine h.2.2 _ (List.mem_cons_of_mem _ (List.mem_filter.mpr ⟨List.mem_map.mpr ⟨z, (List.mem_filter.mp hz).1, ?_⟩, ?_⟩))
      · rw [key z hz]
      · have h2 := (List.mem_filter.mp hz).2
        dsimp only
        rw [cat2]
        exact h2
  · rcases List.mem_cons.mp hq with rfl | hq
    · simpa [upr] using hv
    · rw [key q hq]
      exact hL.2 q (List.mem_filter.mp hq).1
theorem LR_upj {G : Geo} {nL : Nat} {ga : Gam} {r : Rho} {ls ls' : Array Slot} {i : Nat} {v : Int} (hL : LR G nL ga r ls) (hv : okv 1 v)
    (h : lv_has ls' nL ((i, enc G.1 1 v) :: (ga.map fun q => (q.1, enc G.1 q.2 (r q.1))).filter (fun q => !(q.1 == i) && (!(q.1 == i + 1) && !(q.1 + 1 == i && q.2.category == 2))))) : LR G nL (upj ga i) (upr r i v) ls' := by
  have key : ∀ q ∈ ga.filter (fun q => !(q.1 == i) && (!(q.1 == i + 1) && !(q.1 + 1 == i && q.2 == 1))), upr r i v q.1 = r q.1 := fun q hq => by
    have := (List.mem_filter.mp hq).2
    simp at this
    unfold upr
    rw [if_neg this.1]
  refine ⟨⟨h.1, h.2.1, fun q hq => ?_⟩, fun q hq => ?_⟩
  · obtain ⟨z, hz, rfl⟩ := List.mem_map.mp hq
    rcases List.mem_cons.mp hz with rfl | hz
    · have := h.2.2 _ List.mem_cons_self
      simpa [upr] using this
    · refine h.2.2 _ (List.mem_cons_of_mem _ (List.mem_filter.mpr ⟨List.mem_map.mpr ⟨z, (List.mem_filter.mp hz).1, ?_⟩, ?_⟩))
      · rw [key z hz]
      · have h2 := (List.mem_filter.mp hz).2
        dsimp only
        rw [cat2]
        exact h2
  · rcases List.mem_cons.mp hq with rfl | hq
    · simpa [upr] using hv
    · rw [key q hq]
      exact hL.2 q (List.mem_filter.mp hq).1
def inSI (i : Nat) : Instr × Nat := if h : i < 4 then (.istore_n ⟨i, h⟩, 1) else (.istore i, 2)
def inSA (i : Nat) : Instr × Nat := if h : i < 4 then (.astore_n ⟨i, h⟩, 1) else (.astore i, 2)
def inSJ (i : Nat) : Instr × Nat := if h : i < 4 then (.lstore_n ⟨i, h⟩, 1) else (.lstore i, 2)

def asiP (i : Nat) (a : XE) : XS := (fun ga nL nx9 _ _ _ cs => match a.1 ga 0 cs with
    | some (0, cs1) => match nx (inSI i).1 (inSI i).2 cs1 with
      | some cs2 => if okt nx9 cs2 = true ∧ i < nL then some (upg ga i 0, cs2) else none
      | _ => none
    | _ => none, fun cl Kn _ _ r u => a.2 cl (fun v u' => Kn (upr r i v) u') r u)
theorem asi_d (i : Nat) (a : XE) (ha : DecE a) : DecS (asiP i a) := by
  intro ga nL nx9 lb gb rt cs ga' cs' cc hc hD
  simp only [asiP] at hc
  split at hc
  case h_2 => cases hc
  rename_i h0
  split at hc
  case h_2 => cases hc
  rename_i h1
  split at hc
  case isFalse => cases hc
  cases hc
  exact (nx_ok h1 (ha _ _ _ _ _ _ h0 hD)).2.2
theorem asi_ok (ow i : Nat) (a : XE) (ha : SndE ow a) : SndS ow (asiP i a) := by
  intro p l e R s m args below meth c cc nL G Qf cl hX hC ga nx9 lb gb rt cs ga' cs' hc hD r u H locs cells slots ls Kn Kb Kr hL hA hw hn hb hr hx9
  simp only [asiP] at hc hw
  split at hc
  case h_2 => cases hc
  rename_i cs1 h0
  split at hc
  case h_2 => cases hc
  rename_i cs2 h1
  split at hc
  case isFalse => cases hc
  rename_i hcond
  cases hc
  refine ha p l e R s m args below meth c cc nL G Qf cl hX hC ga 0 cs 0 cs1 h0 hD r u H locs cells slots ls [] _ hL hA (Nat.le_refl _) hw ?_
  intro v u' H' locs' cells' slots' hv hA' hq hD1
  obtain ⟨g1, g2, g3⟩ := nx_ok h1 hD1
  rw [enc_0]
  have fin : ∀ ls' : Array Slot, LR G nL (upg ga i 0) (upr r i v) ls' → W p l e R s m args below meth c H' locs' cells' slots' Qf (F0 m (pcOf cs') ls' []) := fun ls' h =>
    okt_W hcond.1 hX.1 hX.2.1 g3 (hn _ u' H' locs' cells' slots' ls' h hA' hq)
  rw [g2] at fin
  unfold inSI at g1 fin
  split at g1
  · rename_i q
    rw [dif_pos q] at fin
    exact lv_istore_n hX.1 hX.2.1 g1 rfl hL.1 hcond.2 rfl (fun ls' h => fin ls' (LR_up hL hv h))
  · rename_i q
    rw [dif_neg q] at fin
    exact lv_istore hX.1 hX.2.1 g1 hL.1 hcond.2 rfl (fun ls' h => fin ls' (LR_up hL hv h))
def asi {ow : Nat} (i : Nat) (a : EX ow) : SX ow := ⟨asiP i a.1, asi_ok ow i a.1 a.2.1, asi_d i a.1 a.2.2⟩

def asaP (i : Nat) (a : XE) : XS := (fun ga nL nx9 _ _ _ cs => match a.1 ga 0 cs with
    | some (2, cs1) => match nx (inSA i).1 (inSA i).2 cs1 with
      | some cs2 => if okt nx9 cs2 = true ∧ i < nL then some (upg ga i 2, cs2) else none
      | _ => none
    | _ => none, fun cl Kn _ _ r u => a.2 cl (fun v u' => v ≠ 0 ∧ Kn (upr r i v) u') r u)
theorem asa_d (i : Nat) (a : XE) (ha : DecE a) : DecS (asaP i a) := by
  intro ga nL nx9 lb gb rt cs ga' cs' cc hc hD
  simp only [asaP] at hc
  split at hc
  case h_2 => cases hc
  rename_i h0
  split at hc
  case h_2 => cases hc
  rename_i h1
  split at hc
  case isFalse => cases hc
  cases hc
  exact (nx_ok h1 (ha _ _ _ _ _ _ h0 hD)).2.2
theorem asa_ok (ow i : Nat) (a : XE) (ha : SndE ow a) : SndS ow (asaP i a) := by
  intro p l e R s m args below meth c cc nL G Qf cl hX hC ga nx9 lb gb rt cs ga' cs' hc hD r u H locs cells slots ls Kn Kb Kr hL hA hw hn hb hr hx9
  simp only [asaP] at hc hw
  split at hc
  case h_2 => cases hc
  rename_i cs1 h0
  split at hc
  case h_2 => cases hc
  rename_i cs2 h1
  split at hc
  case isFalse => cases hc
  rename_i hcond
  cases hc
  refine ha p l e R s m args below meth c cc nL G Qf cl hX hC ga 0 cs 2 cs1 h0 hD r u H locs cells slots ls [] _ hL hA (Nat.le_refl _) hw ?_
  intro v u' H' locs' cells' slots' hv hA' hq hD1
  obtain ⟨g1, g2, g3⟩ := nx_ok h1 hD1
  obtain ⟨hne, hq⟩ := hq
  rw [enc_2 _ hne]
  have fin : ∀ ls' : Array Slot, LR G nL (upg ga i 2) (upr r i v) ls' → W p l e R s m args below meth c H' locs' cells' slots' Qf (F0 m (pcOf cs') ls' []) := fun ls' h =>
    okt_W hcond.1 hX.1 hX.2.1 g3 (hn _ u' H' locs' cells' slots' ls' h hA' hq)
  rw [g2] at fin
  unfold inSA at g1 fin
  split at g1
  · rename_i q
    rw [dif_pos q] at fin
    exact lv_astore_n hX.1 hX.2.1 g1 rfl hL.1 hcond.2 rfl (fun ls' h => fin ls' (LR_up hL hv (by rw [enc_2 _ hne]; exact h)))
  · rename_i q
    rw [dif_neg q] at fin
    exact lv_astore hX.1 hX.2.1 g1 hL.1 hcond.2 rfl (fun ls' h => fin ls' (LR_up hL hv (by rw [enc_2 _ hne]; exact h)))
def asa {ow : Nat} (i : Nat) (a : EX ow) : SX ow := ⟨asaP i a.1, asa_ok ow i a.1 a.2.1, asa_d i a.1 a.2.2⟩

def asjP (i : Nat) (a : XE) : XS := (fun ga nL nx9 _ _ _ cs => match a.1 ga 0 cs with
    | some (1, cs1) => match nx (inSJ i).1 (inSJ i).2 cs1 with
      | some cs2 => if okt nx9 cs2 = true ∧ i + 1 < nL then some (upj ga i, cs2) else none
      | _ => none
    | _ => none, fun cl Kn _ _ r u => a.2 cl (fun v u' => Kn (upr r i v) u') r u)
theorem asj_d (i : Nat) (a : XE) (ha : DecE a) : DecS (asjP i a) := by
  intro ga nL nx9 lb gb rt cs ga' cs' cc hc hD
  simp only [asjP] at hc
  split at hc
  case h_2 => cases hc
  rename_i h0
  split at hc
  case h_2 => cases hc
  rename_i h1
  split at hc
  case isFalse => cases hc
  cases hc
  exact (nx_ok h1 (ha _ _ _ _ _ _ h0 hD)).2.2
theorem asj_ok (ow i : Nat) (a : XE) (ha : SndE ow a) : SndS ow (asjP i a) := by
  intro p l e R s m args below meth c cc nL G Qf cl hX hC ga nx9 lb gb rt cs ga' cs' hc hD r u H locs cells slots ls Kn Kb Kr hL hA hw hn hb hr hx9
  simp only [asjP] at hc hw
  split at hc
  case h_2 => cases hc
  rename_i cs1 h0
  split at hc
  case h_2 => cases hc
  rename_i cs2 h1
  split at hc
  case isFalse => cases hc
  rename_i hcond
  cases hc
  refine ha p l e R s m args below meth c cc nL G Qf cl hX hC ga 0 cs 1 cs1 h0 hD r u H locs cells slots ls [] _ hL hA (Nat.le_refl _) hw ?_
  intro v u' H' locs' cells' slots' hv hA' hq hD1
  obtain ⟨g1, g2, g3⟩ := nx_ok h1 hD1
  rw [enc_1]
  have fin : ∀ ls' : Array Slot, LR G nL (upj ga i) (upr r i v) ls' → W p l e R s m args below meth c H' locs' cells' slots' Qf (F0 m (pcOf cs') ls' []) := fun ls' h =>
    okt_W hcond.1 hX.1 hX.2.1 g3 (hn _ u' H' locs' cells' slots' ls' h hA' hq)
  rw [g2] at fin
  unfold inSJ at g1 fin
  split at g1
  · rename_i q
    rw [dif_pos q] at fin
    exact lv_lstore_n hX.1 hX.2.1 g1 rfl hL.1 hcond.2 rfl (fun ls' h => fin ls' (LR_upj hL hv h))
  · rename_i q
    rw [dif_neg q] at fin
    exact lv_lstore hX.1 hX.2.1 g1 hL.1 hcond.2 rfl (fun ls' h => fin ls' (LR_upj hL hv h))
def asj {ow : Nat} (i : Nat) (a : EX ow) : SX ow := ⟨asjP i a.1, asj_ok ow i a.1 a.2.1, asj_d i a.1 a.2.2⟩

def incP (i : Nat) (n : Int) : XS := (fun ga nL nx9 _ _ _ cs => match nx (.iinc i n) 3 cs with
    | some cs2 => if okt nx9 cs2 = true ∧ i < nL ∧ (i, 0) ∈ ga then some (upg ga i 0, cs2) else none
    | _ => none, fun _ Kn _ _ r u => Kn (upr r i (w32 (r i + n))) u)
theorem inc_d (i : Nat) (n : Int) : DecS (incP i n) := by
  intro ga nL nx9 lb gb rt cs ga' cs' cc hc hD
  simp only [incP] at hc
  split at hc
  case h_2 => cases hc
  rename_i h1
  split at hc
  case isFalse => cases hc
  cases hc
  exact (nx_ok h1 hD).2.2
theorem inc_ok (ow i : Nat) (n : Int) : SndS ow (incP i n) := by
  intro p l e R s m args below meth c cc nL G Qf cl hX hC ga nx9 lb gb rt cs ga' cs' hc hD r u H locs cells slots ls Kn Kb Kr hL hA hw hn hb hr hx9
  simp only [incP] at hc hw
  split at hc
  case h_2 => cases hc
  rename_i cs2 h1
  split at hc
  case isFalse => cases hc
  rename_i hcond
  cases hc
  obtain ⟨g1, g2, g3⟩ := nx_ok h1 hD
  obtain ⟨c1, c2, c3⟩ := hcond
  have hm : (i, Value.int (Int32.ofInt (r i))) ∈ ga.map (fun q => (q.1, enc G.1 q.2 (r q.1))) := List.mem_map.mpr ⟨(i, 0), c3, rfl⟩
  obtain ⟨k, hk⟩ := List.getElem?_of_mem hm
  have e9 : Int32.ofInt (r i) + Int32.ofInt n = Int32.ofInt (w32 (r i + n)) := by rw [ofI_bmod, Int32.ofInt_add]
  refine lv_iinc (v := Int32.ofInt (w32 (r i + n))) hX.1 hX.2.1 g1 hL.1 hk e9 c2 rfl (fun ls' h => ?_)
  rw [← g2]
  exact okt_W c1 hX.1 hX.2.1 g3 (hn _ u H locs cells slots ls' (LR_up (t := 0) hL (w32_in _) h) hA hw)
def inc {ow : Nat} (i : Nat) (n : Int) : SX ow := ⟨incP i n, inc_ok ow i n, inc_d i n⟩
def seqP (N : Nat) (a b : XS) : XS := (fun ga nL nx9 lb gb rt cs => match a.1 ga nL N lb gb rt cs with
    | some (ga1, cs1) => if pcOf cs1 = N ∧ cs1 ≠ [] then b.1 ga1 nL nx9 lb gb rt cs1 else none
    | _ => none, fun cl Kn Kb Kr r u => a.2 cl (fun r' u' => b.2 cl Kn Kb Kr r' u') Kb Kr r u)
theorem seq_d (N : Nat) (a b : XS) (ha : DecS a) (hb : DecS b) : DecS (seqP N a b) := by
  intro ga nL nx9 lb gb rt cs ga' cs' cc hc hD
  simp only [seqP] at hc
  split at hc
  case h_2 => cases hc
  rename_i h1
  split at hc
  case isFalse => cases hc
  exact hb _ _ _ _ _ _ _ _ _ _ hc (ha _ _ _ _ _ _ _ _ _ _ h1 hD)
theorem seq_ok (ow N : Nat) (a b : XS) (ha : SndS ow a) (hb0 : SndS ow b) (da : DecS a) : SndS ow (seqP N a b) := by
  intro p l e R s m args below meth c cc nL G Qf cl hX hC ga nx9 lb gb rt cs ga' cs' hc hD r u H locs cells slots ls Kn Kb Kr hL hA hw hn hb hr hx9
  simp only [seqP] at hc hw
  split at hc
  case h_2 => cases hc
  rename_i ga1 cs1 h1
  split at hc
  case isFalse => cases hc
  rename_i hcond
  have D1 := da _ _ _ _ _ _ _ _ _ _ h1 hD
  refine ha p l e R s m args below meth c cc nL G Qf cl hX hC ga N lb gb rt cs ga1 cs1 h1 hD r u H locs cells slots ls _ _ _ hL hA hw ?_ hb hr hx9
  intro r' u' H' locs' cells' slots' ls' hL' hA' hq
  have := hb0 p l e R s m args below meth c cc nL G Qf cl hX hC ga1 nx9 lb gb rt cs1 ga' cs' hc D1 r' u' H' locs' cells' slots' ls' Kn Kb Kr hL' hA' hq hn hb hr hx9
  rw [hcond.1] at this
  exact this
def seq {ow : Nat} (N : Nat) (a b : SX ow) : SX ow := ⟨seqP N a.1 b.1, seq_ok ow N a.1 b.1 a.2.1 b.2.1 a.2.2, seq_d N a.1 b.1 a.2.2 b.2.2⟩
/-- a, then out of the switch -/
def sbrP (a : XS) : XS := (fun ga nL _ lb gb rt cs => match a.1 ga nL lb lb gb rt cs with
    | some (ga1, cs1) => if gb.all (fun q => ga1.contains q) = true then (nxg lb cs1).map (fun x => (ga, x)) else none
    | _ => none, fun cl _ Kb Kr r u => a.2 cl Kb Kb Kr r u)
theorem mapg {a : Gam} {L : Nat} {cs : Cds} {ga' : Gam} {cs' : Cds} {cc : ByteArray} (h : (nxg L cs).map (fun x => (a, x)) = some (ga', cs')) (hD : Dec cc cs) : ga' = a ∧ decode cc (pcOf cs) = .ok (.goto ((L : Int) - (pcOf cs : Int)), 3) ∧ Dec cc cs' := by
  obtain ⟨x, hx, e1⟩ := Option.map_eq_some_iff.mp h
  cases e1
  exact ⟨rfl, nxe_ok hx hD⟩
theorem sbr_d (a : XS) (ha : DecS a) : DecS (sbrP a) := by
  intro ga nL nx9 lb gb rt cs ga' cs' cc hc hD
  simp only [sbrP] at hc
  split at hc
  case h_2 => cases hc
  rename_i h1
  split at hc
  case isFalse => cases hc
  exact (mapg hc (ha _ _ _ _ _ _ _ _ _ _ h1 hD)).2.2
theorem sub_all {ga gb : Gam} (h : gb.all (fun q => ga.contains q) = true) : ∀ q ∈ gb, q ∈ ga := fun q hq => by
  have := List.all_eq_true.mp h q hq
  simpa using this
theorem sbr_ok (ow : Nat) (a : XS) (ha : SndS ow a) : SndS ow (sbrP a) := by
  intro p l e R s m args below meth c cc nL G Qf cl hX hC ga nx9 lb gb rt cs ga' cs' hc hD r u H locs cells slots ls Kn Kb Kr hL hA hw hn hb hr hx9
  simp only [sbrP] at hc hw
  split at hc
  case h_2 => cases hc
  rename_i ga1 cs1 h1
  split at hc
  case isFalse => cases hc
  rename_i hcond
  refine ha p l e R s m args below meth c cc nL G Qf cl hX hC ga lb lb gb rt cs ga1 cs1 h1 hD r u H locs cells slots ls _ _ _ hL hA hw ?_ hb hr hx9
  intro r' u' H' locs' cells' slots' ls' hL' hA' hq
  exact hb r' u' H' locs' cells' slots' ls' (hL'.sub (sub_all hcond)) hA' hq
def sbr {ow : Nat} (a : SX ow) : SX ow := ⟨sbrP a.1, sbr_ok ow a.1 a.2.1, sbr_d a.1 a.2.2⟩
/-- nothing but 'break' -/
def brkP : XS := (fun ga _ _ lb gb _ cs => if gb.all (fun q => ga.contains q) = true then (nxg lb cs).map (fun x => (ga, x)) else none, fun _ _ Kb _ r u => Kb r u)
theorem brk_ok (ow : Nat) : SndS ow brkP := by
  intro p l e R s m args below meth c cc nL G Qf cl hX hC ga nx9 lb gb rt cs ga' cs' hc hD r u H locs cells slots ls Kn Kb Kr hL hA hw hn hb hr hx9
  simp only [brkP] at hc hw
  split at hc
  case isFalse => cases hc
  rename_i hcond
  obtain ⟨-, g1, -⟩ := mapg hc hD
  exact lv_goto (tgt := lb) hX.1 hX.2.1 g1 (by omega) (hb r u H locs cells slots ls (hL.sub (sub_all hcond)) hA hw)
def brk {ow : Nat} : SX ow := ⟨brkP, brk_ok ow, by
  intro ga nL nx9 lb gb rt cs ga' cs' cc hc hD
  simp only [brkP] at hc
  split at hc
  case isFalse => cases hc
  exact (mapg hc hD).2.2⟩
def int9 (ga gb : Gam) : Gam := ga.filter (fun q => gb.contains q)
theorem int9_l {ga gb : Gam} : ∀ q ∈ int9 ga gb, q ∈ ga := fun q hq => (List.mem_filter.mp hq).1
theorem int9_r {ga gb : Gam} : ∀ q ∈ int9 ga gb, q ∈ gb := fun q hq => by
  have := (List.mem_filter.mp hq).2
  simpa using this
def ifsP (c : XC) (a : XS) : XS := (fun ga nL nx9 lb gb rt cs => match c.1 ga 0 true nx9 cs with
    | some cs1 => match a.1 ga nL nx9 lb gb rt cs1 with
      | some (ga1, cs2) => some (int9 ga ga1, cs2)
      | _ => none
    | _ => none, fun cl Kn Kb Kr r u => c.2 cl (fun u' => a.2 cl Kn Kb Kr r u') (fun u' => Kn r u') r u)
theorem ifs_d (c : XC) (a : XS) (hc0 : DecC c) (ha : DecS a) : DecS (ifsP c a) := by
  intro ga nL nx9 lb gb rt cs ga' cs' cc hc hD
  simp only [ifsP] at hc
  split at hc
  case h_2 => cases hc
  rename_i h0
  split at hc
  case h_2 => cases hc
  rename_i h1
  cases hc
  exact ha _ _ _ _ _ _ _ _ _ _ h1 (hc0 _ _ _ _ _ _ _ h0 hD)
theorem ifs_ok (ow : Nat) (c0 : XC) (a : XS) (hc0 : SndC ow c0) (ha : SndS ow a) : SndS ow (ifsP c0 a) := by
  intro p l e R s m args below meth c cc nL G Qf cl hX hC ga nx9 lb gb rt cs ga' cs' hc hD r u H locs cells slots ls Kn Kb Kr hL hA hw hn hb hr hx9
  simp only [ifsP] at hc hw
  split at hc
  case h_2 => cases hc
  rename_i cs1 h0
  split at hc
  case h_2 => cases hc
  rename_i ga1 cs2 h1
  cases hc
  refine hc0 p l e R s m args below meth c cc nL G Qf cl hX hC ga 0 true nx9 cs cs1 h0 hD r u H locs cells slots ls [] _ _ hL hA (Nat.le_refl _) hw ?_ ?_
  · intro u' H' locs' cells' slots' hA' hq D1
    exact ha p l e R s m args below meth c cc nL G Qf cl hX hC ga nx9 lb gb rt cs1 ga1 cs' h1 D1 r u' H' locs' cells' slots' ls Kn Kb Kr hL hA' hq (fun r' u2 H2 locs2 cells2 slots2 ls2 hL2 hA2 hq2 => hn r' u2 H2 locs2 cells2 slots2 ls2 (hL2.sub int9_r) hA2 hq2) hb hr hx9
  · intro u' H' locs' cells' slots' hA' hq D1
    exact hn r u' H' locs' cells' slots' ls (hL.sub int9_l) hA' hq
def ifs {ow : Nat} (c : CX ow) (a : SX ow) : SX ow := ⟨ifsP c.1 a.1, ifs_ok ow c.1 a.1 c.2.1 a.2.1, ifs_d c.1 a.1 c.2.2 a.2.2⟩
/-- if, else; g: the first one comes to its end (a goto behind it) -/
def ifeP (g : Bool) (E : Nat) (c : XC) (a b : XS) : XS := (fun ga nL nx9 lb gb rt cs => match c.1 ga 0 true E cs with
    | some cs1 => match a.1 ga nL nx9 lb gb rt cs1 with
      | some (ga1, cs2) => match (if g then nxg nx9 cs2 else some cs2) with
        | some cs3 => if pcOf cs3 = E ∧ cs3 ≠ [] then match b.1 ga nL nx9 lb gb rt cs3 with
            | some (ga2, cs4) => some (int9 ga1 ga2, cs4)
            | _ => none
          else none
        | _ => none
      | _ => none
    | _ => none, fun cl Kn Kb Kr r u => c.2 cl (fun u' => a.2 cl Kn Kb Kr r u') (fun u' => b.2 cl Kn Kb Kr r u') r u)
theorem ife_g {g : Bool} {L : Nat} {cs cs' : Cds} {cc : ByteArray} (h : (if g then nxg L cs else some cs) = some cs') (hD : Dec cc cs) : Dec cc cs' := by
  cases g
  · cases h; exact hD
  · exact (nxe_ok h hD).2
theorem ife_d (g : Bool) (E : Nat) (c : XC) (a b : XS) (hc0 : DecC c) (ha : DecS a) (hb : DecS b) : DecS (ifeP g E c a b) := by
  intro ga nL nx9 lb gb rt cs ga' cs' cc hc hD
  simp only [ifeP] at hc
  split at hc
  case h_2 => cases hc
  rename_i h0
  split at hc
  case h_2 => cases hc
  rename_i h1
  split at hc
  case h_2 => cases hc
  rename_i h2
  split at hc
  case isFalse => cases hc
  split at hc
  case h_2 => cases hc
  rename_i h3
  cases hc
  exact hb _ _ _ _ _ _ _ _ _ _ h3 (ife_g h2 (ha _ _ _ _ _ _ _ _ _ _ h1 (hc0 _ _ _ _ _ _ _ h0 hD)))
theorem ife_ok (ow : Nat) (g : Bool) (E : Nat) (c0 : XC) (a b : XS) (hc0 : SndC ow c0) (ha : SndS ow a) (hb0 : SndS ow b) (dc : DecC c0) (da : DecS a) : SndS ow (ifeP g E c0 a b) := by
  intro p l e R s m args below meth c cc nL G Qf cl hX hC ga nx9 lb gb rt cs ga' cs' hc hD r u H locs cells slots ls Kn Kb Kr hL hA hw hn hb hr hx9
  simp only [ifeP] at hc hw
  split at hc
  case h_2 => cases hc
  rename_i cs1 h0
  split at hc
  case h_2 => cases hc
  rename_i ga1 cs2 h1
  split at hc
  case h_2 => cases hc
  rename_i cs3 h2
  split at hc
  case isFalse => cases hc
  rename_i hE
  split at hc
  case h_2 => cases hc
  rename_i ga2 cs4 h3
  cases hc
  have D1 := dc _ _ _ _ _ _ _ h0 hD
  have D2 := da _ _ _ _ _ _ _ _ _ _ h1 D1
  have D3 := ife_g h2 D2
  refine hc0 p l e R s m args below meth c cc nL G Qf cl hX hC ga 0 true E cs cs1 h0 hD r u H locs cells slots ls [] _ _ hL hA (Nat.le_refl _) hw ?_ ?_
  · intro u' H' locs' cells' slots' hA' hq _
    exact ha p l e R s m args below meth c cc nL G Qf cl hX hC ga nx9 lb gb rt cs1 ga1 cs2 h1 D1 r u' H' locs' cells' slots' ls Kn Kb Kr hL hA' hq (fun r' u2 H2 locs2 cells2 slots2 ls2 hL2 hA2 hq2 => hn r' u2 H2 locs2 cells2 slots2 ls2 (hL2.sub int9_l) hA2 hq2) hb hr hx9
  · intro u' H' locs' cells' slots' hA' hq _
    simp only [if_true]
    rw [← hE.1]
    exact hb0 p l e R s m args below meth c cc nL G Qf cl hX hC ga nx9 lb gb rt cs3 ga2 cs' h3 D3 r u' H' locs' cells' slots' ls Kn Kb Kr hL hA' hq (fun r' u2 H2 locs2 cells2 slots2 ls2 hL2 hA2 hq2 => hn r' u2 H2 locs2 cells2 slots2 ls2 (hL2.sub int9_r) hA2 hq2) hb hr hx9
def ife {ow : Nat} (g : Bool) (E : Nat) (c : CX ow) (a b : SX ow) : SX ow := ⟨ifeP g E c.1 a.1 b.1, ife_ok ow g E c.1 a.1 b.1 c.2.1 a.2.1 b.2.1 c.2.2 a.2.2, ife_d g E c.1 a.1 b.1 c.2.2 a.2.2 b.2.2⟩
/-- only some places of the frame are used from here on -/
def wkP (ks : List Nat) (a : XS) : XS := (fun ga nL nx9 lb gb rt cs => a.1 (ga.filter (fun q => ks.contains q.1)) nL nx9 lb gb rt cs, a.2)
theorem wk_ok (ow : Nat) (ks : List Nat) (a : XS) (ha : SndS ow a) : SndS ow (wkP ks a) := by
  intro p l e R s m args below meth c cc nL G Qf cl hX hC ga nx9 lb gb rt cs ga' cs' hc hD r u H locs cells slots ls Kn Kb Kr hL hA hw hn hb hr hx9
  exact ha p l e R s m args below meth c cc nL G Qf cl hX hC _ nx9 lb gb rt cs ga' cs' hc hD r u H locs cells slots ls Kn Kb Kr (hL.sub (fun q hq => (List.mem_filter.mp hq).1)) hA hw hn hb hr hx9
def wk {ow : Nat} (ks : List Nat) (a : SX ow) : SX ow := ⟨wkP ks a.1, wk_ok ow ks a.1 a.2.1, fun ga nL nx9 lb gb rt cs ga' cs' cc hc hD => a.2.2 _ nL nx9 lb gb rt cs ga' cs' cc hc hD⟩
/-- while: C the place of the step (the head, where there is none) -/
def whlP (hs : Bool) (C : Nat) (c : XC) (a b : XS) : XS := (fun ga nL nx9 lb gb rt cs => match c.1 ga 0 true nx9 cs with
    | some cs1 => match a.1 ga nL C lb gb rt cs1 with
      | some (ga1, cs2) => match (if hs then (if pcOf cs2 = C ∧ cs2 ≠ [] then b.1 ga1 nL (pcOf cs) lb gb rt cs2 else none) else (if C = pcOf cs then some (ga1, cs2) else none)) with
        | some (ga2, cs3) => if ga.all (fun q => ga2.contains q) = true then (nxg (pcOf cs) cs3).map (fun x => (ga, x)) else none
        | _ => none
      | _ => none
    | _ => none, fun cl Kn Kb Kr r u => ∃ I : Nat → Rho → Sto → Prop, (∃ n, I n r u) ∧ ∀ n r u, I n r u →
      c.2 cl (fun u' => a.2 cl (fun r2 u2 => if hs then b.2 cl (fun r3 u3 => ∃ n', n' < n ∧ I n' r3 u3) Kb Kr r2 u2 else ∃ n', n' < n ∧ I n' r2 u2) Kb Kr r u') (fun u' => Kn r u') r u)
theorem whl_s {hs : Bool} {C : Nat} {b : XS} {ga1 ga2 : Gam} {nL h lb : Nat} {gb : Gam} {rt : Nat} {cs2 cs3 : Cds} {cc : ByteArray} (db : DecS b)
    (q : (if hs then (if pcOf cs2 = C ∧ cs2 ≠ [] then b.1 ga1 nL h lb gb rt cs2 else none) else (if C = h then some (ga1, cs2) else none)) = some (ga2, cs3)) (hD : Dec cc cs2) : Dec cc cs3 := by
  cases hs
  · simp only [Bool.false_eq_true, if_false] at q
    split at q
    · cases q; exact hD
    · cases q
  · simp only [if_true] at q
    split at q
    · exact db _ _ _ _ _ _ _ _ _ _ q hD
    · cases q
theorem whl_d (hs : Bool) (C : Nat) (c : XC) (a b : XS) (hc0 : DecC c) (ha : DecS a) (hb : DecS b) : DecS (whlP hs C c a b) := by
  intro ga nL nx9 lb gb rt cs ga' cs' cc hc hD
  simp only [whlP] at hc
  split at hc
  case h_2 => cases hc
  rename_i h0
  split at hc
  case h_2 => cases hc
  rename_i h1
  split at hc
  case h_2 => cases hc
  rename_i h2
  split at hc
  case isFalse => cases hc
  exact (mapg hc (whl_s hb h2 (ha _ _ _ _ _ _ _ _ _ _ h1 (hc0 _ _ _ _ _ _ _ h0 hD)))).2.2
theorem whl_ok (ow : Nat) (hs : Bool) (C : Nat) (c0 : XC) (a b : XS) (hc0 : SndC ow c0) (ha : SndS ow a) (hb0 : SndS ow b) (dc : DecC c0) (da : DecS a) (db : DecS b) : SndS ow (whlP hs C c0 a b) := by
  intro p l e R s m args below meth c cc nL G Qf cl hX hC ga nx9 lb gb rt cs ga' cs' hc hD r u H locs cells slots ls Kn Kb Kr hL hA hw hn hb hr hx9
  simp only [whlP] at hc hw
  split at hc
  case h_2 => cases hc
  rename_i cs1 h0
  split at hc
  case h_2 => cases hc
  rename_i ga1 cs2 h1
  split at hc
  case h_2 => cases hc
  rename_i ga2 cs3 h2
  split at hc
  case isFalse => cases hc
  rename_i hsub
  have D1 := dc _ _ _ _ _ _ _ h0 hD
  have D2 := da _ _ _ _ _ _ _ _ _ _ h1 D1
  have D3 := whl_s db h2 D2
  obtain ⟨rfl, g1, -⟩ := mapg hc D3
  obtain ⟨I, ⟨n, hI⟩, hstep⟩ := hw
  have main : ∀ n r u H locs cells slots ls, I n r u → LR G nL ga' r ls → At G R s.heap u H locs cells slots → W p l e R s m args below meth c H locs cells slots Qf (F0 m (pcOf cs) ls []) := by
    intro n
    induction n using Nat.strongRecOn with
    | _ n ih =>
      intro r u H locs cells slots ls hI hL hA
      refine hc0 p l e R s m args below meth c cc nL G Qf cl hX hC ga' 0 true nx9 cs cs1 h0 hD r u H locs cells slots ls [] _ _ hL hA (Nat.le_refl _) (hstep n r u hI) ?_ ?_
      · intro u' H' locs' cells' slots' hA' hq _
        simp only [if_true]
        refine ha p l e R s m args below meth c cc nL G Qf cl hX hC ga' C lb gb rt cs1 ga1 cs2 h1 D1 r u' H' locs' cells' slots' ls _ _ _ hL hA' hq ?_ hb hr hx9
        intro r2 u2 H2 locs2 cells2 slots2 ls2 hL2 hA2 hq2
        have back : ∀ (r3 : Rho) (u3 : Sto) (H3 : Heap) (locs3 : List Loc) (cells3 slots3 : Nat) (ls3 : Array Slot), LR G nL ga2 r3 ls3 → At G R s.heap u3 H3 locs3 cells3 slots3 → (∃ n', n' < n ∧ I n' r3 u3) → W p l e R s m args below meth c H3 locs3 cells3 slots3 Qf (F0 m (pcOf cs) ls3 []) := by
          intro r3 u3 H3 locs3 cells3 slots3 ls3 hL3 hA3 hq3
          obtain ⟨n', hlt, hI'⟩ := hq3
          exact ih n' hlt r3 u3 H3 locs3 cells3 slots3 ls3 hI' (hL3.sub (sub_all hsub)) hA3
        cases hs
        · simp only [Bool.false_eq_true, if_false] at h2 hq2
          split at h2
          case isFalse => cases h2
          rename_i hC
          cases h2
          rw [hC]
          exact back r2 u2 H2 locs2 cells2 slots2 ls2 hL2 hA2 hq2
        · simp only [if_true] at h2 hq2
          split at h2
          case isFalse => cases h2
          rename_i hCC
          have := hb0 p l e R s m args below meth c cc nL G Qf cl hX hC ga1 (pcOf cs) lb gb rt cs2 ga2 cs3 h2 D2 r2 u2 H2 locs2 cells2 slots2 ls2 _ _ _ hL2 hA2 hq2 back hb hr hx9
          rw [hCC.1] at this
          exact this
      · intro u' H' locs' cells' slots' hA' hq _
        simp only [if_true]
        exact hn r u' H' locs' cells' slots' ls hL hA' hq
  exact main n r u H locs cells slots ls hI hL hA
def whl {ow : Nat} (hs : Bool) (C : Nat) (c : CX ow) (a b : SX ow) : SX ow := ⟨whlP hs C c.1 a.1 b.1, whl_ok ow hs C c.1 a.1 b.1 c.2.1 a.2.1 b.2.1 c.2.2 a.2.2 b.2.2, whl_d hs C c.1 a.1 b.1 c.2.2 a.2.2 b.2.2⟩
end
section
/-! trees of statements: stores, ends, calls -/
theorem rel_wr {G : Geo} {u : Sto} {H H' : Heap} {U : State} (h : Rel G u H) (hK : KOK G U) {a : Int} {k j : Nat} (hl : live u a k) (h1 : 1 ≤ k) (hj : (j : Int) < klen a) {v : Int} (hv : okv (ety k j) v) {cell : Cell} (hc : H[G.1 a]? = some cell) (e1 : H'[G.1 a]? = some (cell.setSlot (G.2.2.1 k j) (enc G.1 (ety k j) v))) (e2 : H'.size = H.size) (e3 : ∀ q, q ≠ G.1 a → H'[q]? = H[q]?) : Rel G (wr u (ety k j) a j v) H' := by
  obtain ⟨r1, r2, r3, r4, r5⟩ := h
  obtain ⟨l1, l2, l3⟩ := hl
  have hs : stn (wr u (ety k j) a j v) = stn u := by unfold wr; split <;> rfl
  have hx : sex (wr u (ety k j) a j v) = sex u := by unfold wr; split <;> rfl
  have h18 := (kl_18 a).1
  rw [l3] at h18
  have inj : ∀ j' : Nat, (j' : Int) < klen a → j' ≠ j → G.2.2.1 k j' ≠ G.2.2.1 k j := by
    intro j' hj' hne
    by_cases h13 : k ≤ 13
    · rw [kl_obj l3 h1 h13] at hj hj'
      exact hK.2.2.1 k j' j h1 h13 (by omega) (by omega) hne
    · by_cases h14 : 14 ≤ k
      · rw [hK.2.2.2.2.1 k j' h14, hK.2.2.2.2.1 k j h14]; exact hne
      · omega
  refine ⟨fun b b1 b2 b3 => ?_, fun b b1 b2 i hi ht => ?_, by rw [hs]; exact r3, by rw [hs, e2]; exact r4, by rw [hs, hx, e2]; exact r5⟩
  · rw [hs] at b2
    obtain ⟨cl', q1, q2, q3, q4, q5⟩ := r1 b b1 b2 b3
    by_cases hba : b = a
    · subst hba
      rw [l3] at q3 q4 q5
      cases hc.symm.trans q1
      have hlt : G.2.2.1 k j < cell.slots.size := k2_hasslot (q5 j hj)
      refine ⟨_, e1, q2, by rw [l3]; exact q3, ?_, ?_⟩
      · rw [l3]
        intro h14
        show (cell.slots.setIfInBounds _ _).size = _
        rw [Array.size_setIfInBounds]
        exact q4 h14
      · intro j' hj'
        rw [l3]
        by_cases hjj : j' = j
        · subst hjj
          rw [Cell.slots_setSlot_self _ hlt]
          congr 2
          unfold rd wr upm
          by_cases ht : ety k j' = 2
          · simp [ht]
          · simp [ht]
        · rw [slot_ne _ _ (Ne.symm (inj j' hj' hjj)), q5 j' hj']
          congr 2
          have hji : ¬ ((j' : Int) = (j : Int)) := by omega
          unfold rd wr upm
          by_cases ht : ety k j = 2 <;> by_cases ht' : ety k j' = 2 <;> simp [ht, ht', hji]
    · have hne : G.1 b ≠ G.1 a := by
        rw [hK.1 b b1, hK.1 a l1]; omega
      refine ⟨cl', by rw [e3 _ hne]; exact q1, q2, q3, q4, fun j' hj' => ?_⟩
      rw [q5 j' hj']
      congr 2
      unfold rd wr upm
      by_cases ht : ety k j = 2 <;> by_cases ht' : ety (kcls b) j' = 2 <;> simp [ht, ht', hba]
  · rw [hs] at b2
    have := r2 b b1 b2 i hi ht
    unfold wr upm
    by_cases ht2 : ety k j = 2
    · simp only [ht2, if_true]; exact this
    · simp only [ht2, if_false]
      by_cases hba : b = a ∧ (i : Int) = j
      · rw [if_pos hba]
        obtain ⟨rfl, hij⟩ := hba
        have : i = j := by omega
        subst this
        rw [l3]; exact hv
      · rw [if_neg hba]; exact this
theorem wr_t (u : Sto) (t : Nat) (a j v : Int) : stn (wr u t a j v) = stn u ∧ sex (wr u t a j v) = sex u ∧ sbc (wr u t a j v) = sbc u ∧ sbw (wr u t a j v) = sbw u := by
  unfold wr; split <;> exact ⟨rfl, rfl, rfl, rfl⟩
theorem at_put {G : Geo} {R : Room} {H0 H H' : Heap} {u u' : Sto} {locs : List Loc} {cells slots A i : Nat} (hA : At G R H0 u H locs cells slots) (hr : Rel G u' H') (e2 : H'.size = H.size) (e3 : ∀ q, q ≠ A → H'[q]? = H[q]?) (hA2 : G.2.2.2 ≤ A) (h1 : sbc u' = sbc u) (h2 : sbw u' = sbw u) : At G R H0 u' H' (locs ++ [⟨A, i⟩]) cells slots := by
  obtain ⟨a1, ⟨a2, a3, a4⟩, a5, a6⟩ := hA
  refine ⟨hr, ⟨by omega, fun q hq => (e3 q (by omega)).trans (a3 q hq), fun q hq => ?_⟩, by rw [h1]; exact a5, by rw [h2]; exact a6⟩
  rcases List.mem_append.mp hq with h | h
  · exact a4 q h
  · cases List.mem_singleton.mp h; exact hA2
theorem al_ge {G : Geo} {U : State} (hK : KOK G U) {a : Int} (h : 0 < a) : G.2.2.2 ≤ G.1 a := by rw [hK.1 a h]; omega
section PR
variable {p : Program} {l : Launch} {e : Env} {R : Room} {s : State} {m : MethodId} {args : Array Value} {below : List Frame} {meth : Method} {c : Code} {cc : ByteArray} {nL ow cp k j : Nat} {G : Geo} {H : Heap} {locs : List Loc} {cells slots : Nat} {Q : State → Prop} {pc : Nat} {ls : Array Slot} {st : List Value} {u : Sto} {a v : Int}
theorem put_row (hX : MX p R s m args c cc nL ow G) (hf : FldAt ow cp k j) (hnf : (kF k j).2.2.2 = false) (hd : decode cc pc = .ok (.putfield cp, 3)) (hA : At G R s.heap u H locs cells slots) (hl : live u a k) (hv : okv (ety k j) v)
    (kk : ∀ (H' : Heap) (locs' : List Loc), At G R s.heap (wr u (ety k j) a j v) H' locs' cells slots → W p l e R s m args below meth c H' locs' cells slots Q (F0 m (pc + 3) ls st)) :
    W p l e R s m args below meth c H locs cells slots Q (F0 m pc ls (enc G.1 (ety k j) v :: .ref (G.1 a) :: st)) := by
  obtain ⟨f1, f2, f3, f4, f5, f6, f7⟩ := hf
  have hj : (j : Int) < klen a := by rw [kl_obj hl.2.2 f3 f4]; exact_mod_cast f5
  obtain ⟨cell, q1, q2, q3, q4, q5⟩ := hA.1.1 a hl.1 hl.2.1 (by rw [hl.2.2]; omega)
  rw [hl.2.2] at q3 q5
  have hts := hX.2.2.2.2.1
  have hK := hX.2.2.2.2.2.1
  obtain ⟨hS, hfc, kC', hkC, hkind⟩ := hK.2.1 k f3 f4
  obtain ⟨cf, kf, fi, f, hi, hsl⟩ := hS j f5
  have hlay := hts _ f2
  have hst := (u_facts hfc hkC (u_lay1 hlay) hi).1
  unfold u_lay at hlay
  rw [if_neg (by rw [hnf]; decide)] at hlay
  have h6 := u_store hfc hkC hkind hlay hi f6 (f7 G.1 v hv).1 (f7 G.1 v hv).2
  refine W.putK hX.1 hX.2.1 (f := f) ⟨hX.2.2.2.1, hts _ f1, ⟨_, _, _, hi⟩, hst⟩ (by rw [q3]; exact h6) q1 q2 (by rw [hsl]; exact k2_hasslot (q5 j hj)) rfl rfl hd fun H' e1 e2 e3 => ?_
  rw [hsl] at e1
  have t4 := wr_t u (ety k j) a j v
  exact kk H' _ (at_put hA (rel_wr hA.1 hK hl f3 hj hv q1 e1 e2 e3) e2 e3 (al_ge hK hl.1) t4.2.2.1 t4.2.2.2)
def AstR (K : Nat) (ins : Instr) : Prop := ∀ (p : Program) (l : Launch) (e : Env) (R : Room) (s : State) (m : MethodId) (args : Array Value) (below : List Frame) (meth : Method) (c : Code) (cc : ByteArray) (H : Heap) (locs : List Loc) (cells slots : Nat) (Q : State → Prop) (pc : Nat) (ls : Array Slot) (rest : List Value) (a : Nat) (cell : Cell) (j : Int32) (v : Int) (al : Int → Nat), p.tables.exec = Jvm.exec → c.code = cc → decode cc pc = .ok (ins, 1) →
  H[a]? = some cell → s.isArrayOf cell (aT K) → cell.vm ≠ .unknown → ¬ (j < 0 ∨ cell.slots.size ≤ j.toNatClampNeg) → okv (ety K 0) v →
  (∀ H' : Heap, H'[a]? = some (cell.setSlot j.toNatClampNeg (enc al (ety K 0) v)) → H'.size = H.size → (∀ q, q ≠ a → H'[q]? = H[q]?) → W p l e R s m args below meth c H' (locs ++ [⟨a, j.toNatClampNeg⟩]) cells slots Q (F0 m (pc + 1) ls rest)) → W p l e R s m args below meth c H locs cells slots Q (F0 m pc ls (enc al (ety K 0) v :: .int j :: .ref a :: rest))
theorem asti_r : AstR 14 .iastore := fun p l e R s m args below meth c cc H locs cells slots Q pc ls rest a cell j v al hx hb hd h1 h2 h3 h4 h5 k => W.iast hx hb h1 h2 h3 h4 rfl rfl hd k
theorem astj_r : AstR 15 .lastore := fun p l e R s m args below meth c cc H locs cells slots Q pc ls rest a cell j v al hx hb hd h1 h2 h3 h4 h5 k => W.last hx hb h1 h2 h3 h4 rfl rfl hd k
theorem astz_r : AstR 16 .bastore := fun p l e R s m args below meth c cc H locs cells slots Q pc ls rest a cell j v al hx hb hd h1 h2 h3 h4 h5 k => W.zast hx hb h1 h2 h3 h4 rfl rfl hd (fun H' e1 e2 e3 => k H' (by
  have h5 : 0 ≤ v ∧ v ≤ 1 := h5
  have : v = 0 ∨ v = 1 := by omega
  rcases this with rfl | rfl <;> exact e1) e2 e3)
theorem nar_c {v : Int} (h : 0 ≤ v ∧ v < 65536) : narrow .char (.int (Int32.ofInt v)) = .int (Int32.ofInt v) := by
  obtain ⟨n, rfl⟩ := Int.eq_ofNat_of_zero_le h.1
  exact (pk_charN (q := n) (by omega)).1
theorem astc_r : AstR 17 .castore := fun p l e R s m args below meth c cc H locs cells slots Q pc ls rest a cell j v al hx hb hd h1 h2 h3 h4 h5 k => W.cast hx hb h1 h2 h3 h4 rfl rfl hd (fun H' e1 e2 e3 => k H' (by
  rw [nar_c h5] at e1
  exact e1) e2 e3)
theorem ast_row {K : Nat} {ins : Instr} {i : Int} (hX : MX p R s m args c cc nL ow G) (h14 : 14 ≤ K) (h18 : K ≤ 18) (hrow : AstR K ins) (hd : decode cc pc = .ok (ins, 1)) (hA : At G R s.heap u H locs cells slots) (hl : inb u a K i) (hv : okv (ety K 0) v)
    (kk : ∀ (H' : Heap) (locs' : List Loc), At G R s.heap (wr u (ety K 0) a i v) H' locs' cells slots → W p l e R s m args below meth c H' locs' cells slots Q (F0 m (pc + 1) ls st)) :
    W p l e R s m args below meth c H locs cells slots Q (F0 m pc ls (enc G.1 (ety K 0) v :: .int (Int32.ofInt i) :: .ref (G.1 a) :: st)) := by
  have hK := hX.2.2.2.2.2.1
  obtain ⟨cell, q1, q2, q3, q4, q5, q6, q7, -⟩ := arr_at hA.1 hK hl h14 h18
  refine hrow p l e R s m args below meth c cc H locs cells slots Q pc ls st _ cell _ v G.1 hX.1 hX.2.1 hd q1 q2 (by rw [q3]; exact fun h => by cases h) q4 hv (fun H' e1 e2 e3 => ?_)
  rw [q5] at e1
  have t4 := wr_t u (ety K 0) a i v
  have e0 : ((i.toNat : Nat) : Int) = i := Int.toNat_of_nonneg hl.2.1
  refine kk H' _ (at_put hA ?_ e2 e3 (al_ge hK hl.1.1) t4.2.2.1 t4.2.2.2)
  have := rel_wr (j := i.toNat) (v := v) (H' := H') hA.1 hK hl.1 (by omega) (by have := hl.2.2; omega) (by rw [ety_arr h14 h18]; exact hv) q1 (by rw [hK.2.2.2.2.1 K _ h14, ety_arr h14 h18]; exact e1) e2 e3
  rw [ety_arr h14 h18, e0] at this
  exact this
end PR
def FldPut (ow cp k j : Nat) : Prop := FldAt ow cp k j ∧ (kF k j).2.2.2 = false
/-- what a field of that type asks of a value that fits the stack -/
def tyq (t : Nat) (v : Int) : Prop := (t = 3 → 0 ≤ v ∧ v ≤ 1) ∧ (t = 4 → 0 ≤ v ∧ v < 65536)
theorem okv_q {t : Nat} {v : Int} (h : okv (gty t) v) (hq : tyq t v) : okv t v := by
  unfold okv gty at *
  by_cases h1 : t = 1
  · simp only [h1] at *; exact h
  · by_cases h2 : t = 2
    · simp [h2]
    · simp only [h1, h2, if_false] at *
      by_cases h3 : t = 3
      · simp only [h3, if_true]; exact hq.1 h3
      · by_cases h4 : t = 4
        · simp only [h4, if_true]; simpa using hq.2 h4
        · simp only [h3, h4, if_false]; simpa using h
theorem tyq_0 (v : Int) : tyq 0 v := ⟨(fun h => absurd h (by decide)), (fun h => absurd h (by decide))⟩
theorem tyq_1 (v : Int) : tyq 1 v := ⟨(fun h => absurd h (by decide)), (fun h => absurd h (by decide))⟩
theorem tyq_2 (v : Int) : tyq 2 v := ⟨(fun h => absurd h (by decide)), (fun h => absurd h (by decide))⟩
def putP (cp k j : Nat) (a b : XE) : XS := (fun ga _ nx9 _ _ _ cs => match a.1 ga 0 cs with
    | some (2, cs1) => match b.1 ga 1 cs1 with
      | some (t, cs2) => match nx (.putfield cp) 3 cs2 with
        | some cs3 => if okt nx9 cs3 = true ∧ t = gty (ety k j) then some (ga, cs3) else none
        | _ => none
      | _ => none
    | _ => none, fun cl Kn _ _ r u => a.2 cl (fun o u' => b.2 cl (fun v u2 => live u2 o k ∧ tyq (ety k j) v ∧ Kn r (wr u2 (ety k j) o j v)) r u') r u)
theorem put_d (cp k j : Nat) (a b : XE) (ha : DecE a) (hb : DecE b) : DecS (putP cp k j a b) := by
  intro ga nL nx9 lb gb rt cs ga' cs' cc hc hD
  simp only [putP] at hc
  split at hc
  case h_2 => cases hc
  rename_i h0
  split at hc
  case h_2 => cases hc
  rename_i h1
  split at hc
  case h_2 => cases hc
  rename_i h2
  split at hc
  case isFalse => cases hc
  cases hc
  exact (nx_ok h2 (hb _ _ _ _ _ _ h1 (ha _ _ _ _ _ _ h0 hD))).2.2
theorem put_ok (ow cp k j : Nat) (hf : FldPut ow cp k j) (a b : XE) (ha : SndE ow a) (hb0 : SndE ow b) : SndS ow (putP cp k j a b) := by
  intro p l e R s m args below meth c cc nL G Qf cl hX hC ga nx9 lb gb rt cs ga' cs' hc hD r u H locs cells slots ls Kn Kb Kr hL hA hw hn hb hr hx9
  simp only [putP] at hc hw
  split at hc
  case h_2 => cases hc
  rename_i cs1 h0
  split at hc
  case h_2 => cases hc
  rename_i t cs2 h1
  split at hc
  case h_2 => cases hc
  rename_i cs3 h2
  split at hc
  case isFalse => cases hc
  rename_i hcond
  obtain ⟨hk9, rfl⟩ := hcond
  cases hc
  refine ha p l e R s m args below meth c cc nL G Qf cl hX hC ga 0 cs 2 cs1 h0 hD r u H locs cells slots ls [] _ hL hA (Nat.le_refl _) hw ?_
  intro o u' H' locs' cells' slots' ho hA' hq hD1
  refine hb0 p l e R s m args below meth c cc nL G Qf cl hX hC ga 1 cs1 _ cs2 h1 hD1 r u' H' locs' cells' slots' ls _ _ hL hA' ?_ hq ?_
  · rw [cats_cons, cat_enc]; simp [cats]
  intro v u2 H2 locs2 cells2 slots2 hv hA2 hq2 hD2
  obtain ⟨g1, g2, g3⟩ := nx_ok h2 hD2
  obtain ⟨hl, htq, hq2⟩ := hq2
  rw [enc_g, enc_2 _ (by have := hl.1; omega)]
  refine put_row hX hf.1 hf.2 g1 hA2 hl (okv_q hv htq) (fun H3 locs3 hA3 => ?_)
  rw [← g2]
  exact okt_W hk9 hX.1 hX.2.1 g3 (hn r _ H3 locs3 _ _ ls hL hA3 hq2)
def put {ow : Nat} {cp k j : Nat} (hf : FldPut ow cp k j) (a b : EX ow) : SX ow := ⟨putP cp k j a.1 b.1, put_ok ow cp k j hf a.1 b.1 a.2.1 b.2.1, put_d cp k j a.1 b.1 a.2.2 b.2.2⟩
/-- x.f op= e: the row of the binary instruction is handed in -/
def popP (ins : Instr) (f : Int → Int → Int) (cp k j : Nat) (a b : XE) : XS := (fun ga _ nx9 _ _ _ cs => match a.1 ga 0 cs with
    | some (2, cs1) => match nx .dup 1 cs1 with
      | some cs2 => match nx (.getfield cp) 3 cs2 with
        | some cs3 => match b.1 ga 2 cs3 with
          | some (0, cs4) => match nx ins 1 cs4 with
            | some cs5 => match nx (.putfield cp) 3 cs5 with
              | some cs6 => if okt nx9 cs6 = true ∧ ety k j = 0 then some (ga, cs6) else none
              | _ => none
            | _ => none
          | _ => none
        | _ => none
      | _ => none
    | _ => none, fun cl Kn _ _ r u => a.2 cl (fun o u' => live u' o k ∧ b.2 cl (fun v u2 => live u2 o k ∧ Kn r (wr u2 (ety k j) o j (f (rd u' (ety k j) o j) v))) r u') r u)
theorem pop_d (ins : Instr) (f : Int → Int → Int) (cp k j : Nat) (a b : XE) (ha : DecE a) (hb : DecE b) : DecS (popP ins f cp k j a b) := by
  intro ga nL nx9 lb gb rt cs ga' cs' cc hc hD
  simp only [popP] at hc
  split at hc
  case h_2 => cases hc
  rename_i h0
  split at hc
  case h_2 => cases hc
  rename_i h1
  split at hc
  case h_2 => cases hc
  rename_i h2
  split at hc
  case h_2 => cases hc
  rename_i h3
  split at hc
  case h_2 => cases hc
  rename_i h4
  split at hc
  case h_2 => cases hc
  rename_i h5
  split at hc
  case isFalse => cases hc
  cases hc
  exact (nx_ok h5 (nx_ok h4 (hb _ _ _ _ _ _ h3 (nx_ok h2 (nx_ok h1 (ha _ _ _ _ _ _ h0 hD)).2.2).2.2)).2.2).2.2
theorem pop_ok (ow : Nat) (ins : Instr) (f : Int → Int → Int) (ok : Int → Prop) (g : Int32 → Int32 → Int32) (hrow : BinR ins g ok) (hok : ∀ y, ok y) (hfi : ∀ x y, inI (f x y)) (hg : ∀ x y, inI x → inI y → Int32.ofInt (f x y) = g (Int32.ofInt x) (Int32.ofInt y)) (cp k j : Nat) (hf : FldPut ow cp k j) (a b : XE) (ha : SndE ow a) (hb0 : SndE ow b) : SndS ow (popP ins f cp k j a b) := by
  intro p l e R s m args below meth c cc nL G Qf cl hX hC ga nx9 lb gb rt cs ga' cs' hc hD r u H locs cells slots ls Kn Kb Kr hL hA hw hn hb hr hx9
  simp only [popP] at hc hw
  split at hc
  case h_2 => cases hc
  rename_i cs1 h0
  split at hc
  case h_2 => cases hc
  rename_i cs2 h1
  split at hc
  case h_2 => cases hc
  rename_i cs3 h2
  split at hc
  case h_2 => cases hc
  rename_i cs4 h3
  split at hc
  case h_2 => cases hc
  rename_i cs5 h4
  split at hc
  case h_2 => cases hc
  rename_i cs6 h5
  split at hc
  case isFalse => cases hc
  rename_i hcond
  obtain ⟨hk9, ht0⟩ := hcond
  cases hc
  refine ha p l e R s m args below meth c cc nL G Qf cl hX hC ga 0 cs 2 cs1 h0 hD r u H locs cells slots ls [] _ hL hA (Nat.le_refl _) hw ?_
  intro o u' H' locs' cells' slots' ho hA' hq hD1
  obtain ⟨hl, hq⟩ := hq
  obtain ⟨a1, a2, a3⟩ := nx_ok h1 hD1
  obtain ⟨b1, b2, b3⟩ := nx_ok h2 a3
  rw [enc_2 _ (by have := hl.1; omega)]
  refine lv_dup hX.1 hX.2.1 a1 rfl ?_
  rw [← a2]
  have hff := hf
  obtain ⟨⟨f1, f2, f3, f4, f5, f6, f7⟩, hnf⟩ := hff
  have hj : (j : Int) < klen o := by rw [kl_obj hl.2.2 f3 f4]; exact_mod_cast f5
  obtain ⟨cell, q1, q2, q3, q4, q5⟩ := hA'.1.1 o hl.1 hl.2.1 (by rw [hl.2.2]; omega)
  have hts := hX.2.2.2.2.1
  obtain ⟨hS, hfc, kC', hkC, hkind⟩ := hX.2.2.2.2.2.1.2.1 k f3 f4
  obtain ⟨cf, kf, fi, fd, hi, hsl⟩ := hS j f5
  refine W.getf hX.1 hX.2.1 hX.2.2.2.1 (hts _ f1) hi (u_facts hfc hkC (u_lay1 (hts _ f2)) hi).1 q1 (by rw [q2]; exact fun h => by cases h) (v := enc G.1 (ety k j) (rd u' (ety k j) o j)) ?_ rfl rfl b1 ?_
  · rw [hsl]
    have := q5 j hj
    rw [hl.2.2] at this
    exact this
  have hx9 : inI (rd u' (ety k j) o j) := by
    have := rd_ok hA'.1 hl hj
    rw [ht0] at this ⊢
    exact this
  show W p l e R s m args below meth c H' locs' cells' slots' Qf (F0 m (pcOf cs2 + 3) ls (enc G.1 (ety k j) (rd u' (ety k j) o j) :: .ref (G.1 o) :: []))
  rw [← b2, ht0, enc_0]
  rw [ht0] at hx9 hq
  refine hb0 p l e R s m args below meth c cc nL G Qf cl hX hC ga 2 cs3 _ cs4 h3 b3 r u' H' locs' cells' slots' ls _ _ hL hA' ?_ hq ?_
  · exact Nat.le_refl _
  intro v u2 H2 locs2 cells2 slots2 hv hA2 hq2 hD2
  obtain ⟨c1, c2, c3⟩ := nx_ok h4 hD2
  obtain ⟨d1, d2, d3⟩ := nx_ok h5 c3
  have hv : inI v := hv
  rw [enc_0]
  refine hrow p l e R s m args below meth c cc H2 locs2 cells2 slots2 Qf (pcOf cs4) ls _ _ v hX.1 hX.2.1 c1 (hok v) hv ?_
  rw [← c2, ← hg _ _ hx9 hv]
  have := put_row (l := l) (e := e) (below := below) (meth := meth) (Q := Qf) (ls := ls) (st := []) (v := f (rd u' 0 o j) v) hX hf.1 hf.2 d1 hA2 hq2.1 (by rw [ht0]; exact hfi _ _) (fun H3 locs3 hA3 => by
    rw [← d2]
    rw [ht0] at hA3
    exact okt_W hk9 hX.1 hX.2.1 d3 (hn r _ H3 locs3 _ _ ls hL hA3 hq2.2))
  rw [ht0, enc_0] at this
  exact this

def popadd {ow : Nat} {cp k j : Nat} (hf : FldPut ow cp k j) (a b : EX ow) : SX ow := ⟨popP .iadd (fun a b => w32 (a + b)) cp k j a.1 b.1, pop_ok ow _ _ _ _ add_r (fun _ => trivial) (fun _ _ => w32_in _) (fun x y _ _ => by rw [ofI_bmod, Int32.ofInt_add]) cp k j hf a.1 b.1 a.2.1 b.2.1, pop_d _ _ cp k j a.1 b.1 a.2.2 b.2.2⟩
def popsub {ow : Nat} {cp k j : Nat} (hf : FldPut ow cp k j) (a b : EX ow) : SX ow := ⟨popP .isub (fun a b => w32 (a - b)) cp k j a.1 b.1, pop_ok ow _ _ _ _ sub_r (fun _ => trivial) (fun _ _ => w32_in _) (fun x y _ _ => by rw [ofI_bmod, Int32.ofInt_sub]) cp k j hf a.1 b.1 a.2.1 b.2.1, pop_d _ _ cp k j a.1 b.1 a.2.2 b.2.2⟩
def popor {ow : Nat} {cp k j : Nat} (hf : FldPut ow cp k j) (a b : EX ow) : SX ow := ⟨popP .ior ior cp k j a.1 b.1, pop_ok ow _ _ _ _ bor_r (fun _ => trivial) (fun _ _ => toInt_in _) (fun x y _ _ => Int32.ofInt_toInt _) cp k j hf a.1 b.1 a.2.1 b.2.1, pop_d _ _ cp k j a.1 b.1 a.2.2 b.2.2⟩
def popand {ow : Nat} {cp k j : Nat} (hf : FldPut ow cp k j) (a b : EX ow) : SX ow := ⟨popP .iand iand cp k j a.1 b.1, pop_ok ow _ _ _ _ ban_r (fun _ => trivial) (fun _ _ => toInt_in _) (fun x y _ _ => Int32.ofInt_toInt _) cp k j hf a.1 b.1 a.2.1 b.2.1, pop_d _ _ cp k j a.1 b.1 a.2.2 b.2.2⟩
def astP (K : Nat) (ins : Instr) (a b v : XE) : XS := (fun ga _ nx9 _ _ _ cs => match a.1 ga 0 cs with
    | some (2, cs1) => match b.1 ga 1 cs1 with
      | some (0, cs2) => match v.1 ga 2 cs2 with
        | some (t, cs3) => match nx ins 1 cs3 with
          | some cs4 => if okt nx9 cs4 = true ∧ t = gty (ety K 0) then some (ga, cs4) else none
          | _ => none
        | _ => none
      | _ => none
    | _ => none, fun cl Kn _ _ r u => a.2 cl (fun o u' => b.2 cl (fun i u2 => v.2 cl (fun x u3 => inb u3 o K i ∧ tyq (ety K 0) x ∧ Kn r (wr u3 (ety K 0) o i x)) r u2) r u') r u)
theorem ast_d (K : Nat) (ins : Instr) (a b v : XE) (ha : DecE a) (hb : DecE b) (hv : DecE v) : DecS (astP K ins a b v) := by
  intro ga nL nx9 lb gb rt cs ga' cs' cc hc hD
  simp only [astP] at hc
  split at hc
  case h_2 => cases hc
  rename_i h0
  split at hc
  case h_2 => cases hc
  rename_i h1
  split at hc
  case h_2 => cases hc
  rename_i h2
  split at hc
  case h_2 => cases hc
  rename_i h3
  split at hc
  case isFalse => cases hc
  cases hc
  exact (nx_ok h3 (hv _ _ _ _ _ _ h2 (hb _ _ _ _ _ _ h1 (ha _ _ _ _ _ _ h0 hD)))).2.2
theorem ast_ok (ow K : Nat) (h14 : 14 ≤ K) (h18 : K ≤ 18) (ins : Instr) (hrow : AstR K ins) (a b v0 : XE) (ha : SndE ow a) (hb0 : SndE ow b) (hv0 : SndE ow v0) : SndS ow (astP K ins a b v0) := by
  intro p l e R s m args below meth c cc nL G Qf cl hX hC ga nx9 lb gb rt cs ga' cs' hc hD r u H locs cells slots ls Kn Kb Kr hL hA hw hn hb hr hx9
  simp only [astP] at hc hw
  split at hc
  case h_2 => cases hc
  rename_i cs1 h0
  split at hc
  case h_2 => cases hc
  rename_i cs2 h1
  split at hc
  case h_2 => cases hc
  rename_i t cs3 h2
  split at hc
  case h_2 => cases hc
  rename_i cs4 h3
  split at hc
  case isFalse => cases hc
  rename_i hcond
  obtain ⟨hk9, rfl⟩ := hcond
  cases hc
  refine ha p l e R s m args below meth c cc nL G Qf cl hX hC ga 0 cs 2 cs1 h0 hD r u H locs cells slots ls [] _ hL hA (Nat.le_refl _) hw ?_
  intro o u' H' locs' cells' slots' ho hA' hq hD1
  refine hb0 p l e R s m args below meth c cc nL G Qf cl hX hC ga 1 cs1 _ cs2 h1 hD1 r u' H' locs' cells' slots' ls _ _ hL hA' ?_ hq ?_
  · rw [cats_cons, cat_enc]; simp [cats]
  intro i u2 H2 locs2 cells2 slots2 hi hA2 hq2 hD2
  refine hv0 p l e R s m args below meth c cc nL G Qf cl hX hC ga 2 cs2 _ cs3 h2 hD2 r u2 H2 locs2 cells2 slots2 ls _ _ hL hA2 ?_ hq2 ?_
  · rw [cats_cons, cats_cons, cat_enc, cat_enc]; simp [cats]
  intro v u3 H3 locs3 cells3 slots3 hv hA3 hq3 hD3
  obtain ⟨g1, g2, g3⟩ := nx_ok h3 hD3
  obtain ⟨hl, htq, hq3⟩ := hq3
  rw [enc_g, enc_0, enc_2 _ (by have := hl.1.1; omega)]
  refine ast_row hX h14 h18 hrow g1 hA3 hl (okv_q hv htq) (fun H4 locs4 hA4 => ?_)
  rw [← g2]
  exact okt_W hk9 hX.1 hX.2.1 g3 (hn r _ H4 locs4 _ _ ls hL hA4 hq3)

def asti {ow : Nat} (a b v : EX ow) : SX ow := ⟨astP 14 .iastore a.1 b.1 v.1, ast_ok ow 14 (by decide) (by decide) .iastore asti_r a.1 b.1 v.1 a.2.1 b.2.1 v.2.1, ast_d _ _ a.1 b.1 v.1 a.2.2 b.2.2 v.2.2⟩
def astj {ow : Nat} (a b v : EX ow) : SX ow := ⟨astP 15 .lastore a.1 b.1 v.1, ast_ok ow 15 (by decide) (by decide) .lastore astj_r a.1 b.1 v.1 a.2.1 b.2.1 v.2.1, ast_d _ _ a.1 b.1 v.1 a.2.2 b.2.2 v.2.2⟩
def astz {ow : Nat} (a b v : EX ow) : SX ow := ⟨astP 16 .bastore a.1 b.1 v.1, ast_ok ow 16 (by decide) (by decide) .bastore astz_r a.1 b.1 v.1 a.2.1 b.2.1 v.2.1, ast_d _ _ a.1 b.1 v.1 a.2.2 b.2.2 v.2.2⟩
def astc {ow : Nat} (a b v : EX ow) : SX ow := ⟨astP 17 .castore a.1 b.1 v.1, ast_ok ow 17 (by decide) (by decide) .castore astc_r a.1 b.1 v.1 a.2.1 b.2.1 v.2.1, ast_d _ _ a.1 b.1 v.1 a.2.2 b.2.2 v.2.2⟩
def aopP (ins : Instr) (f : Int → Int → Int) (a b v : XE) : XS := (fun ga _ nx9 _ _ _ cs => match a.1 ga 0 cs with
    | some (2, cs1) => match b.1 ga 1 cs1 with
      | some (0, cs2) => match nx .dup2 1 cs2 with
        | some cs3 => match nx .iaload 1 cs3 with
          | some cs4 => match v.1 ga 3 cs4 with
            | some (0, cs5) => match nx ins 1 cs5 with
              | some cs6 => match nx .iastore 1 cs6 with
                | some cs7 => if okt nx9 cs7 = true then some (ga, cs7) else none
                | _ => none
              | _ => none
            | _ => none
          | _ => none
        | _ => none
      | _ => none
    | _ => none, fun cl Kn _ _ r u => a.2 cl (fun o u' => b.2 cl (fun i u2 => inb u2 o 14 i ∧ v.2 cl (fun x u3 => inb u3 o 14 i ∧ Kn r (wr u3 (ety 14 0) o i (f (rd u2 (ety 14 0) o i) x))) r u2) r u') r u)
theorem aop_d (ins : Instr) (f : Int → Int → Int) (a b v : XE) (ha : DecE a) (hb : DecE b) (hv : DecE v) : DecS (aopP ins f a b v) := by
  intro ga nL nx9 lb gb rt cs ga' cs' cc hc hD
  simp only [aopP] at hc
  split at hc
  case h_2 => cases hc
  rename_i h0
  split at hc
  case h_2 => cases hc
  rename_i h1
  split at hc
  case h_2 => cases hc
  rename_i h2
  split at hc
  case h_2 => cases hc
  rename_i h3
  split at hc
  case h_2 => cases hc
  rename_i h4
  split at hc
  case h_2 => cases hc
  rename_i h5
  split at hc
  case h_2 => cases hc
  rename_i h6
  split at hc
  case isFalse => cases hc
  cases hc
  exact (nx_ok h6 (nx_ok h5 (hv _ _ _ _ _ _ h4 (nx_ok h3 (nx_ok h2 (hb _ _ _ _ _ _ h1 (ha _ _ _ _ _ _ h0 hD))).2.2).2.2)).2.2).2.2
theorem aop_ok (ow : Nat) (ins : Instr) (f : Int → Int → Int) (ok : Int → Prop) (g : Int32 → Int32 → Int32) (hrow : BinR ins g ok) (hok : ∀ y, ok y) (hfi : ∀ x y, inI (f x y)) (hg : ∀ x y, inI x → inI y → Int32.ofInt (f x y) = g (Int32.ofInt x) (Int32.ofInt y)) (a b v0 : XE) (ha : SndE ow a) (hb0 : SndE ow b) (hv0 : SndE ow v0) : SndS ow (aopP ins f a b v0) := by
  intro p l e R s m args below meth c cc nL G Qf cl hX hC ga nx9 lb gb rt cs ga' cs' hc hD r u H locs cells slots ls Kn Kb Kr hL hA hw hn hb hr hx9
  simp only [aopP] at hc hw
  split at hc
  case h_2 => cases hc
  rename_i cs1 h0
  split at hc
  case h_2 => cases hc
  rename_i cs2 h1
  split at hc
  case h_2 => cases hc
  rename_i cs3 h2
  split at hc
  case h_2 => cases hc
  rename_i cs4 h3
  split at hc
  case h_2 => cases hc
  rename_i cs5 h4
  split at hc
  case h_2 => cases hc
  rename_i cs6 h5
  split at hc
  case h_2 => cases hc
  rename_i cs7 h6
  split at hc
  case isFalse => cases hc
  rename_i hk9
  cases hc
  refine ha p l e R s m args below meth c cc nL G Qf cl hX hC ga 0 cs 2 cs1 h0 hD r u H locs cells slots ls [] _ hL hA (Nat.le_refl _) hw ?_
  intro o u' H' locs' cells' slots' ho hA' hq hD1
  refine hb0 p l e R s m args below meth c cc nL G Qf cl hX hC ga 1 cs1 _ cs2 h1 hD1 r u' H' locs' cells' slots' ls _ _ hL hA' ?_ hq ?_
  · rw [cats_cons, cat_enc]; simp [cats]
  intro i u2 H2 locs2 cells2 slots2 hi hA2 hq2 hD2
  obtain ⟨hl, hq2⟩ := hq2
  obtain ⟨a1, a2, a3⟩ := nx_ok h2 hD2
  obtain ⟨b1, b2, b3⟩ := nx_ok h3 a3
  rw [enc_0, enc_2 _ (by have := hl.1.1; omega)]
  refine lv_dup2_11 hX.1 hX.2.1 a1 rfl rfl ?_
  rw [← a2]
  obtain ⟨cell, q1, q2, q3, q4, q5, q6, q7, -⟩ := arr_at hA2.1 hX.2.2.2.2.2.1 hl (by decide) (by decide)
  refine aldi_r p l e R s m args below meth c cc H2 locs2 cells2 slots2 Qf (pcOf cs3) ls _ _ cell _ _ hX.1 hX.2.1 b1 q1 q2 (by rw [q3]; exact fun h => by cases h) q4 (by rw [q5]; exact q6) ?_
  have hx9 : inI (rd u2 (ety 14 0) o i) := q7
  rw [← b2]
  refine hv0 p l e R s m args below meth c cc nL G Qf cl hX hC ga 3 cs4 _ cs5 h4 b3 r u2 H2 locs2 cells2 slots2 ls _ _ hL hA2 ?_ hq2 ?_
  · exact Nat.le_refl _
  intro v u3 H3 locs3 cells3 slots3 hv hA3 hq3 hD3
  obtain ⟨c1, c2, c3⟩ := nx_ok h5 hD3
  obtain ⟨d1, d2, d3⟩ := nx_ok h6 c3
  have hv : inI v := hv
  refine hrow p l e R s m args below meth c cc H3 locs3 cells3 slots3 Qf (pcOf cs5) ls _ _ v hX.1 hX.2.1 c1 (hok v) hv ?_
  rw [← c2, ← hg _ _ hx9 hv]
  exact ast_row (K := 14) (v := f (rd u2 (ety 14 0) o i) v) hX (by decide) (by decide) asti_r d1 hA3 hq3.1 (hfi _ _) (fun H4 locs4 hA4 => by
    rw [← d2]
    exact okt_W hk9 hX.1 hX.2.1 d3 (hn r _ H4 locs4 _ _ ls hL hA4 hq3.2))

def aopadd {ow : Nat} (a b v : EX ow) : SX ow := ⟨aopP .iadd (fun a b => w32 (a + b)) a.1 b.1 v.1, aop_ok ow _ _ _ _ add_r (fun _ => trivial) (fun _ _ => w32_in _) (fun x y _ _ => by rw [ofI_bmod, Int32.ofInt_add]) a.1 b.1 v.1 a.2.1 b.2.1 v.2.1, aop_d _ _ a.1 b.1 v.1 a.2.2 b.2.2 v.2.2⟩
def aopsub {ow : Nat} (a b v : EX ow) : SX ow := ⟨aopP .isub (fun a b => w32 (a - b)) a.1 b.1 v.1, aop_ok ow _ _ _ _ sub_r (fun _ => trivial) (fun _ _ => w32_in _) (fun x y _ _ => by rw [ofI_bmod, Int32.ofInt_sub]) a.1 b.1 v.1 a.2.1 b.2.1 v.2.1, aop_d _ _ a.1 b.1 v.1 a.2.2 b.2.2 v.2.2⟩
/-- the end, with a value of type t -/
def retP (t : Nat) (a : XE) : XS := (fun ga _ _ _ _ rt cs => match a.1 ga 0 cs with
    | some (t1, cs1) => if t1 = gty t ∧ rt % 20 = t ∧ t ≠ 9 then (nxe (retI t) 1 cs1).map (fun x => (ga, x)) else none
    | _ => none, fun cl _ _ Kr r u => a.2 cl (fun v u' => tyq t v ∧ Kr v u') r u)
theorem ret_d (t : Nat) (a : XE) (ha : DecE a) : DecS (retP t a) := by
  intro ga nL nx9 lb gb rt cs ga' cs' cc hc hD
  simp only [retP] at hc
  split at hc
  case h_2 => cases hc
  rename_i h0
  split at hc
  case isFalse => cases hc
  obtain ⟨x, hx, e1⟩ := Option.map_eq_some_iff.mp hc
  cases e1
  exact (nxe_ok hx (ha _ _ _ _ _ _ h0 hD)).2
theorem ret_ok (ow t : Nat) (a : XE) (ha : SndE ow a) : SndS ow (retP t a) := by
  intro p l e R s m args below meth c cc nL G Qf cl hX hC ga nx9 lb gb rt cs ga' cs' hc hD r u H locs cells slots ls Kn Kb Kr hL hA hw hn hb hr hx9
  simp only [retP] at hc hw
  split at hc
  case h_2 => cases hc
  rename_i t1 cs1 h0
  split at hc
  case isFalse => cases hc
  rename_i hcond
  obtain ⟨rfl, rfl, h9⟩ := hcond
  obtain ⟨x, hx, e1⟩ := Option.map_eq_some_iff.mp hc
  cases e1
  refine ha p l e R s m args below meth c cc nL G Qf cl hX hC ga 0 cs _ cs1 h0 hD r u H locs cells slots ls [] _ hL hA (Nat.le_refl _) hw ?_
  intro v u' H' locs' cells' slots' hv hA' hq hD1
  have := hr v u' H' locs' cells' slots' ls (pcOf cs1) (okv_q hv hq.1) hA' hq.2 (nxe_ok hx hD1).1
  rw [encR_g h9] at this
  exact this
def rets {ow : Nat} (t : Nat) (a : EX ow) : SX ow := ⟨retP t a.1, ret_ok ow t a.1 a.2.1, ret_d t a.1 a.2.2⟩
def rtvP : XS := (fun ga _ _ _ _ rt cs => if rt % 20 = 9 then (nxe .return_ 1 cs).map (fun x => (ga, x)) else none, fun _ _ _ Kr _ u => Kr 0 u)
theorem rtv_ok (ow : Nat) : SndS ow rtvP := by
  intro p l e R s m args below meth c cc nL G Qf cl hX hC ga nx9 lb gb rt cs ga' cs' hc hD r u H locs cells slots ls Kn Kb Kr hL hA hw hn hb hr hx9
  simp only [rtvP] at hc hw
  split at hc
  case isFalse => cases hc
  rename_i hcond
  obtain ⟨x, hx, e1⟩ := Option.map_eq_some_iff.mp hc
  cases e1
  rw [hcond] at hr
  exact hr 0 u H locs cells slots ls (pcOf cs) inI_0 hA hw (nxe_ok hx hD).1
def rtv {ow : Nat} : SX ow := ⟨rtvP, rtv_ok ow, by
  intro ga nL nx9 lb gb rt cs ga' cs' cc hc hD
  simp only [rtvP] at hc
  split at hc
  case isFalse => cases hc
  obtain ⟨x, hx, e1⟩ := Option.map_eq_some_iff.mp hc
  cases e1
  exact (nxe_ok hx hD).2⟩
/-- throw new, of the one kind -/
def thrP (ik ic : Nat) : XS := (fun ga _ _ _ _ rt cs => if 20 ≤ rt then match nx (.new ik) 3 cs with
    | some cs1 => match nx .dup 1 cs1 with
      | some cs2 => match nx (.invokespecial ic) 3 cs2 with
        | some cs3 => (nxe .athrow 1 cs3).map (fun x => (ga, x))
        | _ => none
      | _ => none
    | _ => none
  else none, fun _ _ _ Kr _ u => Kr XV u)
theorem thr_d (ik ic : Nat) : DecS (thrP ik ic) := by
  intro ga nL nx9 lb gb rt cs ga' cs' cc hc hD
  simp only [thrP] at hc
  split at hc
  case isFalse => cases hc
  split at hc
  case h_2 => cases hc
  rename_i h1
  split at hc
  case h_2 => cases hc
  rename_i h2
  split at hc
  case h_2 => cases hc
  rename_i h3
  obtain ⟨x, hx, e1⟩ := Option.map_eq_some_iff.mp hc
  cases e1
  exact (nxe_ok hx (nx_ok h3 (nx_ok h2 (nx_ok h1 hD).2.2).2.2).2.2).2
theorem thr_ok (ow ik ic : Nat) : SndS ow (thrP ik ic) := by
  intro p l e R s m args below meth c cc nL G Qf cl hX hC ga nx9 lb gb rt cs ga' cs' hc hD r u H locs cells slots ls Kn Kb Kr hL hA hw hn hb hr hx9
  simp only [thrP] at hc hw
  split at hc
  case isFalse => cases hc
  rename_i hrt
  split at hc
  case h_2 => cases hc
  rename_i cs1 h1
  split at hc
  case h_2 => cases hc
  rename_i cs2 h2
  split at hc
  case h_2 => cases hc
  rename_i cs3 h3
  obtain ⟨x, hx, e1⟩ := Option.map_eq_some_iff.mp hc
  cases e1
  obtain ⟨a1, a2, a3⟩ := nx_ok h1 hD
  obtain ⟨b1, b2, b3⟩ := nx_ok h2 a3
  obtain ⟨c1, c2, c3⟩ := nx_ok h3 b3
  obtain ⟨d1, -⟩ := nxe_ok hx c3
  rw [a2] at b1
  rw [b2, a2] at c1
  rw [c2, b2, a2] at d1
  exact hx9 hrt u H locs cells slots ls (pcOf cs) ik ic hL.1.1 hA hw a1 b1 c1 d1
def thr {ow : Nat} (ik ic : Nat) : SX ow := ⟨thrP ik ic, thr_ok ow ik ic, thr_d ik ic⟩
/-- a value that nobody wants -/
def exsP (a : XE) : XS := (fun ga _ nx9 _ _ _ cs => match a.1 ga 0 cs with
    | some (0, cs1) => match nx .pop 1 cs1 with
      | some cs2 => if okt nx9 cs2 = true then some (ga, cs2) else none
      | _ => none
    | _ => none, fun cl Kn _ _ r u => a.2 cl (fun _ u' => Kn r u') r u)
theorem exs_d (a : XE) (ha : DecE a) : DecS (exsP a) := by
  intro ga nL nx9 lb gb rt cs ga' cs' cc hc hD
  simp only [exsP] at hc
  split at hc
  case h_2 => cases hc
  rename_i h0
  split at hc
  case h_2 => cases hc
  rename_i h1
  split at hc
  case isFalse => cases hc
  cases hc
  exact (nx_ok h1 (ha _ _ _ _ _ _ h0 hD)).2.2
theorem exs_ok (ow : Nat) (a : XE) (ha : SndE ow a) : SndS ow (exsP a) := by
  intro p l e R s m args below meth c cc nL G Qf cl hX hC ga nx9 lb gb rt cs ga' cs' hc hD r u H locs cells slots ls Kn Kb Kr hL hA hw hn hb hr hx9
  simp only [exsP] at hc hw
  split at hc
  case h_2 => cases hc
  rename_i cs1 h0
  split at hc
  case h_2 => cases hc
  rename_i cs2 h1
  split at hc
  case isFalse => cases hc
  rename_i hk9
  cases hc
  refine ha p l e R s m args below meth c cc nL G Qf cl hX hC ga 0 cs 0 cs1 h0 hD r u H locs cells slots ls [] _ hL hA (Nat.le_refl _) hw ?_
  intro v u' H' locs' cells' slots' hv hA' hq hD1
  obtain ⟨g1, g2, g3⟩ := nx_ok h1 hD1
  refine lv_pop hX.1 hX.2.1 g1 rfl ?_
  rw [← g2]
  exact okt_W hk9 hX.1 hX.2.1 g3 (hn r u' H' locs' cells' slots' ls hL hA' hq)
def exs {ow : Nat} (a : EX ow) : SX ow := ⟨exsP a.1, exs_ok ow a.1 a.2.1, exs_d a.1 a.2.2⟩
/-- a call that answers nothing -/
def cvvP (cp K kk : Nat) (a : XL) : XS := (fun ga _ nx9 _ _ _ cs => match a.1 ga 0 cs with
    | some (ts, cs1) => match nx (.invokevirtual cp) 3 cs1 with
      | some cs2 => if ts = mArg K ∧ mRty K = 9 ∧ okt nx9 cs2 = true then some (ga, cs2) else none
      | _ => none
    | _ => none, fun cl Kn _ _ r u => a.2 cl (fun vs u' => hdl vs u' kk ∧ wcl cl K (fun _ u2 => Kn r u2) vs u') r u)
theorem cvv_d (cp K kk : Nat) (a : XL) (ha : DecL a) : DecS (cvvP cp K kk a) := by
  intro ga nL nx9 lb gb rt cs ga' cs' cc hc hD
  simp only [cvvP] at hc
  split at hc
  case h_2 => cases hc
  rename_i h0
  split at hc
  case h_2 => cases hc
  rename_i h1
  split at hc
  case isFalse => cases hc
  cases hc
  exact (nx_ok h1 (ha _ _ _ _ _ _ h0 hD)).2.2
theorem cvv_ok (ow cp K kk : Nat) (hf : VirtAt ow cp K kk) (a : XL) (ha : SndL ow a) : SndS ow (cvvP cp K kk a) := by
  intro p l e R s m args below meth c cc nL G Qf cl hX hC ga nx9 lb gb rt cs ga' cs' hc hD r u H locs cells slots ls Kn Kb Kr hL hA hw hn hb hr hx9
  simp only [cvvP] at hc hw
  split at hc
  case h_2 => cases hc
  rename_i ts cs1 h0
  split at hc
  case h_2 => cases hc
  rename_i cs2 h1
  split at hc
  case isFalse => cases hc
  rename_i hcond
  obtain ⟨rfl, h9, hk9⟩ := hcond
  cases hc
  refine ha p l e R s m args below meth c cc nL G Qf cl hX hC ga 0 cs _ cs1 h0 hD r u H locs cells slots ls [] _ hL hA (Nat.le_refl _) hw ?_
  intro vs u' H' locs' cells' slots' hv hA' hq hD1
  obtain ⟨g1, g2, g3⟩ := nx_ok h1 hD1
  refine call_virt hX hC hf g1 hA' hv (Nat.zero_le _) (hdl_v hq.1) hL.1.1 hq.2.1 hq.2.2 ?_
  intro w u2 H2 locs2 hw2 hQ2 hA2
  rw [← g2, h9]
  exact okt_W hk9 hX.1 hX.2.1 g3 (hn r _ H2 locs2 _ _ ls hL hA2 hQ2)
def cvv {ow : Nat} {cp K kk : Nat} (hf : VirtAt ow cp K kk) (a : LX ow) : SX ow := ⟨cvvP cp K kk a.1, cvv_ok ow cp K kk hf a.1 a.2.1, cvv_d cp K kk a.1 a.2.2⟩
end
section
/-! trees: switches, written constants -/
/-- a, then out of the switch, nothing written for it -/
def sbnP (a : XS) : XS := (fun ga nL _ lb gb rt cs => match a.1 ga nL lb lb gb rt cs with
    | some (ga1, cs1) => if gb.all (fun q => ga1.contains q) = true then some (ga, cs1) else none
    | _ => none, fun cl _ Kb Kr r u => a.2 cl Kb Kb Kr r u)
theorem sbn_d (a : XS) (ha : DecS a) : DecS (sbnP a) := by
  intro ga nL nx9 lb gb rt cs ga' cs' cc hc hD
  simp only [sbnP] at hc
  split at hc
  case h_2 => cases hc
  rename_i h1
  split at hc
  case isFalse => cases hc
  cases hc
  exact ha _ _ _ _ _ _ _ _ _ _ h1 hD
theorem sbn_ok (ow : Nat) (a : XS) (ha : SndS ow a) : SndS ow (sbnP a) := by
  intro p l e R s m args below meth c cc nL G Qf cl hX hC ga nx9 lb gb rt cs ga' cs' hc hD r u H locs cells slots ls Kn Kb Kr hL hA hw hn hb hr hx9
  simp only [sbnP] at hc hw
  split at hc
  case h_2 => cases hc
  rename_i ga1 cs1 h1
  split at hc
  case isFalse => cases hc
  rename_i hcond
  refine ha p l e R s m args below meth c cc nL G Qf cl hX hC ga lb lb gb rt cs ga1 cs1 h1 hD r u H locs cells slots ls _ _ _ hL hA hw ?_ hb hr hx9
  intro r' u' H' locs' cells' slots' ls' hL' hA' hq
  exact hb r' u' H' locs' cells' slots' ls' (hL'.sub (sub_all hcond)) hA' hq
def sbn {ow : Nat} (a : SX ow) : SX ow := ⟨sbnP a.1, sbn_ok ow a.1 a.2.1, sbn_d a.1 a.2.2⟩
abbrev SW (ow : Nat) : Type := List (List Int × SX ow)
def swW {ow : Nat} (d : ClT → (Rho → Sto → Prop) → (Rho → Sto → Prop) → (Int → Sto → Prop) → Rho → Sto → Prop) (v : Int) : SW ow → ClT → (Rho → Sto → Prop) → (Rho → Sto → Prop) → (Int → Sto → Prop) → Rho → Sto → Prop
  | [] => d
  | q :: t => fun cl Kn Kb Kr r u => (v ∈ q.1 → q.2.1.2 cl Kn Kb Kr r u) ∧ (¬ v ∈ q.1 → swW d v t cl Kn Kb Kr r u)
def swL {ow : Nat} (ga : Gam) (nL nx9 : Nat) (rt : Nat) : SW ow → Cds → Option (List (List Int × Nat) × Cds)
  | [], cs => some ([], cs)
  | q :: t, cs => match q.2.1.1 ga nL nx9 nx9 ga rt cs with
    | some (ga1, cs1) => if ga.all (fun z => ga1.contains z) = true then match swL ga nL nx9 rt t cs1 with
        | some (ls, cs2) => some ((q.1, pcOf cs) :: ls, cs2)
        | _ => none
      else none
    | _ => none
def labOf (dl : Nat) (v : Int) : List (List Int × Nat) → Nat
  | [] => dl
  | q :: t => if v ∈ q.1 then q.2 else labOf dl v t
def tgtOK (i : Instr) (pc dl : Nat) (ls : List (List Int × Nat)) : Bool := match i with
  | .tableswitch d lo hi offs => decide ((pc : Int) + d = dl) && (List.range (hi - lo + 1).toNat).all (fun k => decide (offs[k]? = some ((labOf dl (lo + k) ls : Int) - pc))) && ls.all (fun q => q.1.all (fun x => decide (lo ≤ x ∧ x ≤ hi)))
  | .lookupswitch d ps => decide ((pc : Int) + d = dl) && (ps.toList.zip (ps.toList.drop 1)).all (fun (a, next) => a.1 < next.1) && ps.toList.all (fun q => decide ((pc : Int) + q.2 = labOf dl q.1 ls)) && ls.all (fun q => q.1.all (fun x => (ps.toList.map (fun z => z.1)).contains x))
  | _ => false
theorem labOf_out {dl : Nat} {v : Int} : ∀ {ls : List (List Int × Nat)}, (∀ q ∈ ls, ¬ v ∈ q.1) → labOf dl v ls = dl
  | [], _ => rfl
  | q :: t, h => by
    unfold labOf
    rw [if_neg (h q List.mem_cons_self)]
    exact labOf_out (fun z hz => h z (List.mem_cons_of_mem _ hz))
theorem look_off {d pc : Int} {dl : Nat} {ls : List (List Int × Nat)} {v : Int} : ∀ {ps : List (Int × Int)}, (∀ q ∈ ps, pc + q.2 = labOf dl q.1 ls) → (pc + d = dl) → ((¬ v ∈ ps.map (fun z => z.1)) → labOf dl v ls = dl) → pc + Op.lookupswitch.offset ps d v = labOf dl v ls
  | [], _, h2, h3 => by
    rw [h3 (by simp)]
    simpa [Op.lookupswitch.offset] using h2
  | q :: t, h1, h2, h3 => by
    rw [Op.lookupswitch.offset_cons]
    by_cases hq : q.1 = v
    · rw [if_pos (by first | exact hq | exact hq.symm)]
      rw [← hq]
      exact h1 q List.mem_cons_self
    · rw [if_neg (by first | exact hq | exact fun z => hq z.symm)]
      refine look_off (fun z hz => h1 z (List.mem_cons_of_mem _ hz)) h2 (fun hn => h3 ?_)
      intro hz
      simp only [List.map_cons, List.mem_cons] at hz
      rcases hz with hz | hz
      · exact hq hz.symm
      · exact hn hz
section SWR
variable {p : Program} {l : Launch} {e : Env} {R : Room} {s : State} {m : MethodId} {args : Array Value} {below : List Frame} {meth : Method} {c : Code} {cc : ByteArray} {H : Heap} {locs : List Loc} {cells slots : Nat} {Q : State → Prop} {pc : Nat} {ls : Array Slot} {st : List Value}
theorem sw_row {i : Instr} {len dl : Nat} {lbs : List (List Int × Nat)} {v : Int} (hx : p.tables.exec = Jvm.exec) (hb : c.code = cc) (hd : decode cc pc = .ok (i, len)) (ht : tgtOK i pc dl lbs = true) (hv : inI v)
    (k : W p l e R s m args below meth c H locs cells slots Q (F0 m (labOf dl v lbs) ls st)) : W p l e R s m args below meth c H locs cells slots Q (F0 m pc ls (.int (Int32.ofInt v) :: st)) := by
  unfold tgtOK at ht
  split at ht
  · rename_i d lo hi offs
    simp only [Bool.and_eq_true, decide_eq_true_eq, List.all_eq_true, List.mem_range] at ht
    obtain ⟨⟨h1, h2⟩, h3⟩ := ht
    by_cases hin : lo ≤ v ∧ v ≤ hi
    · have := h2 (v - lo).toNat (by omega)
      rw [show lo + ((v - lo).toNat : Int) = v by omega] at this
      exact lv_tableIn (off := (labOf dl v lbs : Int) - pc) hx hb hd (by rw [ofI_toInt hv]; omega) (by rw [ofI_toInt hv]; omega) (by rw [ofI_toInt hv]; exact this) (by omega) k
    · rw [labOf_out (fun q hq hm => hin (h3 q hq v hm))] at k
      exact lv_tableOut hx hb hd (by rw [ofI_toInt hv]; omega) h1 k
  · rename_i d ps
    simp only [Bool.and_eq_true, decide_eq_true_eq, List.all_eq_true] at ht
    obtain ⟨⟨⟨h1, h2⟩, h3⟩, h4⟩ := ht
    refine lv_lookup hx hb hd (List.all_eq_true.mpr (fun x hx => by simpa using h2 x hx)) rfl ?_ k
    rw [ofI_toInt hv]
    refine look_off h3 h1 (fun hn => labOf_out (fun q hq hm => hn ?_))
    have := h4 q hq v hm
    simpa using this
  · cases ht
end SWR
def swD {ow : Nat} (g : Bool) (b : SX ow) (ga : Gam) (nL nx9 rt : Nat) (cs : Cds) : Option (Gam × Cds) := if g then b.1.1 ga nL nx9 nx9 ga rt cs else some (ga, cs)
def swE (g : Bool) (cs : Cds) (n : Nat) : Nat := if g then pcOf cs else n
/-- g: there is a default, laid last -/
def swP {ow : Nat} (g : Bool) (a : XE) (bs : SW ow) (b : SX ow) : XS := (fun ga nL nx9 _ _ rt cs => match a.1 ga 0 cs with
    | some (0, (pc, i, len) :: cs1) => match swL ga nL nx9 rt bs cs1 with
      | some (lbs, cs2) => match swD g b ga nL nx9 rt cs2 with
        | some (ga9, cs3) => if tgtOK i pc (swE g cs2 nx9) lbs = true ∧ ga.all (fun z => ga9.contains z) = true then some (ga, cs3) else none
        | _ => none
      | _ => none
    | _ => none, fun cl Kn Kb Kr r u => a.2 cl (fun v u' => swW (if g then fun cl Kn Kb Kr r u => b.1.2 cl Kn Kb Kr r u else fun _ Kn _ _ r u => Kn r u) v bs cl Kn Kn Kr r u') r u)
theorem swL_d {ow : Nat} {ga : Gam} {nL nx9 rt : Nat} {cc : ByteArray} : ∀ (bs : SW ow) {cs : Cds} {lbs : List (List Int × Nat)} {cs' : Cds}, swL ga nL nx9 rt bs cs = some (lbs, cs') → Dec cc cs → Dec cc cs'
  | [], cs, lbs, cs', h, hD => by simp only [swL] at h; cases h; exact hD
  | q :: t, cs, lbs, cs', h, hD => by
    simp only [swL] at h
    split at h
    case h_2 => cases h
    rename_i h0
    split at h
    case isFalse => cases h
    split at h
    case h_2 => cases h
    rename_i h1
    cases h
    exact swL_d t h1 (q.2.2.2 _ _ _ _ _ _ _ _ _ _ h0 hD)
theorem sw_d {ow : Nat} (g : Bool) (a : XE) (bs : SW ow) (b : SX ow) (ha : DecE a) : DecS (swP g a bs b) := by
  intro ga nL nx9 lb gb rt cs ga' cs' cc hc hD
  simp only [swP] at hc
  split at hc
  case h_2 => cases hc
  rename_i h0
  split at hc
  case h_2 => cases hc
  rename_i h1
  split at hc
  case h_2 => cases hc
  rename_i h2
  split at hc
  case isFalse => cases hc
  cases hc
  have D1 := swL_d bs h1 (ha _ _ _ _ _ _ h0 hD).2.2
  unfold swD at h2
  cases g
  · simp only [Bool.false_eq_true, if_false] at h2
    cases h2; exact D1
  · simp only [if_true] at h2
    exact b.2.2 _ _ _ _ _ _ _ _ _ _ h2 D1
theorem sw_ok {ow : Nat} (g : Bool) (a : XE) (bs : SW ow) (b : SX ow) (ha : SndE ow a) : SndS ow (swP g a bs b) := by
  intro p l e R s m args below meth c cc nL G Qf cl hX hC ga nx9 lb gb rt cs ga' cs' hc hD r u H locs cells slots ls Kn Kb Kr hL hA hw hn hb hr hx9
  simp only [swP] at hc hw
  split at hc
  case h_2 => cases hc
  rename_i pc i len cs1 h0
  split at hc
  case h_2 => cases hc
  rename_i lbs cs2 h1
  split at hc
  case h_2 => cases hc
  rename_i ga9 cs3 h2
  split at hc
  case isFalse => cases hc
  rename_i hcond
  cases hc
  unfold swD at h2
  unfold swE at hcond
  refine ha p l e R s m args below meth c cc nL G Qf cl hX hC ga 0 cs 0 _ h0 hD r u H locs cells slots ls [] _ hL hA (Nat.le_refl _) hw ?_
  intro v u' H' locs' cells' slots' hv hA' hq hD1
  have hv : inI v := hv
  have D1 := hD1.2.2
  have D2 := swL_d bs h1 D1
  have hn' : ∀ (ga1 : Gam), ga.all (fun z => ga1.contains z) = true → ∀ (r' : Rho) (u' : Sto) (H' : Heap) (locs' : List Loc) (cells' slots' : Nat) (ls' : Array Slot), LR G nL ga1 r' ls' → At G R s.heap u' H' locs' cells' slots' → Kn r' u' → W p l e R s m args below meth c H' locs' cells' slots' Qf (F0 m nx9 ls' []) :=
    fun ga1 hs r' u2 H2 locs2 cells2 slots2 ls2 hL2 hA2 hq2 => hn r' u2 H2 locs2 cells2 slots2 ls2 (hL2.sub (sub_all hs)) hA2 hq2
  have hn0 := hn
  rw [enc_0]
  refine sw_row (dl := if g then pcOf cs2 else nx9) hX.1 hX.2.1 hD1.1 hcond.1 hv ?_
  have dflt : (if g then fun cl Kn Kb Kr r u => b.1.2 cl Kn Kb Kr r u else fun _ Kn _ _ r u => Kn r u : ClT → (Rho → Sto → Prop) → (Rho → Sto → Prop) → (Int → Sto → Prop) → Rho → Sto → Prop) cl Kn Kn Kr r u' → W p l e R s m args below meth c H' locs' cells' slots' Qf (F0 m (if g then pcOf cs2 else nx9) ls []) := by
    intro hq
    cases g
    · simp only [Bool.false_eq_true, if_false] at hq ⊢
      exact hn r u' H' locs' cells' slots' ls hL hA' hq
    · simp only [if_true] at hq h2 ⊢
      exact b.2.1 p l e R s m args below meth c cc nL G Qf cl hX hC ga nx9 nx9 ga rt cs2 ga9 cs' h2 D2 r u' H' locs' cells' slots' ls Kn Kn Kr hL hA' hq (hn' ga9 hcond.2) hn0 hr hx9
  clear h2
  generalize (if g then pcOf cs2 else nx9) = dl at dflt ⊢
  generalize (if g then fun cl Kn Kb Kr r u => b.1.2 cl Kn Kb Kr r u else fun _ Kn _ _ r u => Kn r u : ClT → (Rho → Sto → Prop) → (Rho → Sto → Prop) → (Int → Sto → Prop) → Rho → Sto → Prop) = dw at hq dflt
  clear hcond hD1 h0 D2 hw
  induction bs generalizing cs1 lbs with
  | nil =>
    simp only [swL] at h1
    cases h1
    exact dflt hq
  | cons q t ih =>
    simp only [swL] at h1
    split at h1
    case h_2 => cases h1
    rename_i ga1 cs4 g0
    split at h1
    case isFalse => cases h1
    rename_i gs
    split at h1
    case h_2 => cases h1
    rename_i lbs2 cs5 g1
    cases h1
    unfold labOf
    by_cases hm : v ∈ q.1
    · rw [if_pos hm]
      exact q.2.2.1 p l e R s m args below meth c cc nL G Qf cl hX hC ga nx9 nx9 ga rt cs1 ga1 cs4 g0 D1 r u' H' locs' cells' slots' ls Kn Kn Kr hL hA' (hq.1 hm) (hn' ga1 gs) hn0 hr hx9
    · rw [if_neg hm]
      exact ih cs4 lbs2 g1 (q.2.2.2 _ _ _ _ _ _ _ _ _ _ g0 D1) (hq.2 hm)
def sw {ow : Nat} (g : Bool) (a : EX ow) (bs : SW ow) (b : SX ow) : SX ow := ⟨swP g a.1 bs b, sw_ok g a.1 bs b a.2.1, sw_d g a.1 bs b a.2.2⟩
def ljkP (n : Fin 2) : XE := (fun _ _ cs => if 0 ≤ (n : Nat) then (nx (.lconst n) 1 cs).map (fun x => (1, x)) else none, fun _ Q _ u => Q (n : Nat) u)
theorem ljk_ok (ow : Nat) (n : Fin 2) : SndE ow (ljkP n) := by
  intro p l e R s m args below meth c cc nL G Qf cl hX hC ga d cs t cs' hc hD r u H locs cells slots ls st Q hL hA hs hw k
  simp only [ljkP] at hc hw
  split at hc
  case isFalse => cases hc
  obtain ⟨x, hx, e1⟩ := Option.map_eq_some_iff.mp hc
  cases e1
  obtain ⟨h1, h2, h3⟩ := nx_ok hx hD
  have hi : inL ((n : Nat) : Int) := by have := n.isLt; unfold inL; omega
  have k' := k _ u H locs cells slots hi hA hw h3
  rw [h2] at k'
  exact lv_lconst hX.1 hX.2.1 h1 rfl k'
def ljk {ow : Nat} (n : Fin 2) : EX ow := ⟨ljkP n, ljk_ok ow n, by
  intro ga d cs t cs' cc hc hD
  simp only [ljkP] at hc
  split at hc
  case isFalse => cases hc
  exact map_nx hc hD⟩
def KonAt (ow cp : Nat) (v : Int) : Prop := Cond.constant (kC ow) cp (Int32.ofInt v) ∈ gTbl ∧ inI v
def KojAt (ow cp : Nat) (v : Int) : Prop := Cond.constantLong (kC ow) cp (Int64.ofInt v) ∈ gTbl ∧ inL v

def ldkP (cp : Nat) (v : Int) : XE := (fun _ _ cs => if 0 ≤ cp then (nx (.ldc cp) 2 cs).map (fun x => (0, x)) else none, fun _ Q _ u => Q v u)
theorem ldk_ok (ow cp : Nat) (v : Int) (hf : KonAt ow cp v) : SndE ow (ldkP cp v) := by
  intro p l e R s m args below meth c cc nL G Qf cl hX hC ga d cs t cs' hc hD r u H locs cells slots ls st Q hL hA hs hw k
  simp only [ldkP] at hc hw
  split at hc
  case isFalse => cases hc
  obtain ⟨x, hx, e1⟩ := Option.map_eq_some_iff.mp hc
  cases e1
  obtain ⟨h1, h2, h3⟩ := nx_ok hx hD
  have k' := k _ u H locs cells slots hf.2 hA hw h3
  rw [h2] at k'
  exact lv_ldc hX.1 hX.2.1 hX.2.2.2.1 (hX.2.2.2.2.1 _ hf.1) h1 k'
def ldk {ow cp : Nat} {v : Int} (hf : KonAt ow cp v) : EX ow := ⟨ldkP cp v, ldk_ok ow cp v hf, by
  intro ga d cs t cs' cc hc hD
  simp only [ldkP] at hc
  split at hc
  case isFalse => cases hc
  exact map_nx hc hD⟩
def ldwP (cp : Nat) (v : Int) : XE := (fun _ _ cs => if 0 ≤ cp then (nx (.ldc_w cp) 3 cs).map (fun x => (0, x)) else none, fun _ Q _ u => Q v u)
theorem ldw_ok (ow cp : Nat) (v : Int) (hf : KonAt ow cp v) : SndE ow (ldwP cp v) := by
  intro p l e R s m args below meth c cc nL G Qf cl hX hC ga d cs t cs' hc hD r u H locs cells slots ls st Q hL hA hs hw k
  simp only [ldwP] at hc hw
  split at hc
  case isFalse => cases hc
  obtain ⟨x, hx, e1⟩ := Option.map_eq_some_iff.mp hc
  cases e1
  obtain ⟨h1, h2, h3⟩ := nx_ok hx hD
  have k' := k _ u H locs cells slots hf.2 hA hw h3
  rw [h2] at k'
  exact lv_ldcw hX.1 hX.2.1 hX.2.2.2.1 (hX.2.2.2.2.1 _ hf.1) h1 k'
def ldw {ow cp : Nat} {v : Int} (hf : KonAt ow cp v) : EX ow := ⟨ldwP cp v, ldw_ok ow cp v hf, by
  intro ga d cs t cs' cc hc hD
  simp only [ldwP] at hc
  split at hc
  case isFalse => cases hc
  exact map_nx hc hD⟩
def ldk2P (cp : Nat) (v : Int) : XE := (fun _ _ cs => if 0 ≤ cp then (nx (.ldc2_w cp) 3 cs).map (fun x => (1, x)) else none, fun _ Q _ u => Q v u)
theorem ldk2_ok (ow cp : Nat) (v : Int) (hf : KojAt ow cp v) : SndE ow (ldk2P cp v) := by
  intro p l e R s m args below meth c cc nL G Qf cl hX hC ga d cs t cs' hc hD r u H locs cells slots ls st Q hL hA hs hw k
  simp only [ldk2P] at hc hw
  split at hc
  case isFalse => cases hc
  obtain ⟨x, hx, e1⟩ := Option.map_eq_some_iff.mp hc
  cases e1
  obtain ⟨h1, h2, h3⟩ := nx_ok hx hD
  have k' := k _ u H locs cells slots hf.2 hA hw h3
  rw [h2] at k'
  exact lv_ldc2 hX.1 hX.2.1 hX.2.2.2.1 (hX.2.2.2.2.1 _ hf.1) h1 k'
def ldk2 {ow cp : Nat} {v : Int} (hf : KojAt ow cp v) : EX ow := ⟨ldk2P cp v, ldk2_ok ow cp v hf, by
  intro ga d cs t cs' cc hc hD
  simp only [ldk2P] at hc
  split at hc
  case isFalse => cases hc
  exact map_nx hc hD⟩
end
section
/-! trees: texts, copies, what constructors do -/
theorem ldcwS9 {p : Program} {l : Launch} {e : Env} {R : Room} {s : State} {m : MethodId} {args : Array Value} {below : List Frame} {meth : Method} {c : Code} {T : State} {locs : List Loc} {cells slots : Nat}
    (X : Stand p l e R s m args below meth c T locs cells slots) (hexec : p.tables.exec = Jvm.exec) {own text : String} {index : Nat} {a : Addr} (hown : s.vm.findClass own = some m.cls)
    (hconst : (Cond.stringRef own index text).before args s = true) (hev : (Term.string own index).eval args s none [] s = some (.ref a)) {g : JFrame} (hg : g.method = m) (hdg : decode c.code g.pc = .ok (.ldc_w index, 3)) :
    ∀ target, Steps p.tables e below (T.setTop { g with pc := g.pc + 3, stack := .ref a :: g.stack }) target → Steps p.tables e below (T.setTop g) target := by
  obtain ⟨k, cf, i, a', hk, hcf, hcp, -, hr, hev'⟩ := Cond.stringRef_spec hown hconst
  cases hev.symm.trans hev'
  obtain ⟨k', hk', he⟩ := X.warmed.alike.2.2 _ _ hk
  have hr' : k'.resolved[index]? = some (some (.string a)) := by
    rcases X.warmed.entry hk hk' index with h | ⟨h, -⟩
    · rw [h]; exact hr
    · rw [hr] at h; cases h
  intro target hrest
  subst hg
  jvm_step X.here [hexec, hdg, ldc_w.wp_string (e := e) (s := T) (f := g) X.here.top hk' (by rw [he]; exact hcf) hcp hr']
  exact hrest
theorem W.ldcwS {p : Program} {l : Launch} {e : Env} {R : Room} {s : State} {m : MethodId} {args : Array Value} {below : List Frame} {meth : Method} {c : Code} {H : Heap} {locs : List Loc} {cells slots : Nat} {Q : State → Prop} {cc : ByteArray} {pc : Nat} {ls : Array Slot} {rest : List Value}
    (hexec : p.tables.exec = Jvm.exec) (hb : c.code = cc) {own tx : String} {index q : Nat} (hown : s.vm.findClass own = some m.cls) (hZ : vk_R own index tx q s) (hdg : decode cc pc = .ok (.ldc_w index, 3))
    (k : W p l e R s m args below meth c H locs cells slots Q (F0 m (pc + 3) ls (.ref q :: rest))) : W p l e R s m args below meth c H locs cells slots Q (F0 m pc ls rest) := by
  intro T hT X
  obtain ⟨t, a1, b1⟩ := k T hT X
  exact ⟨t, ldcwS9 X hexec hown (text := tx) (a := q) hZ.1 hZ.2 (g := F0 m pc ls rest) rfl (by rw [hb]; exact hdg) t a1, b1⟩
def TexAt (ow cp i : Nat) : Prop := kC ow = "HotThroughModel" ∧ i < 8 ∧ sCp.getD i 0 = cp

def ldtP (cp i : Nat) : XE := (fun _ _ cs => if 0 ≤ cp then (nx (.ldc cp) 2 cs).map (fun x => (2, x)) else none, fun _ Q _ u => Q (-1 - (i : Int)) u)
theorem ldt_ok (ow cp i : Nat) (hf : TexAt ow cp i) : SndE ow (ldtP cp i) := by
  intro p l e R s m args below meth c cc nL G Qf cl hX hC ga d cs t cs' hc hD r u H locs cells slots ls st Q hL hA hs hw k
  simp only [ldtP] at hc hw
  split at hc
  case isFalse => cases hc
  obtain ⟨x, hx, e1⟩ := Option.map_eq_some_iff.mp hc
  cases e1
  obtain ⟨h1, h2, h3⟩ := nx_ok hx hD
  have k' := k _ u H locs cells slots trivial hA hw h3
  rw [h2, enc_2 _ (by omega)] at k'
  obtain ⟨g1, g2, g3⟩ := hf
  have hR := hX.2.2.2.2.2.2.2.2.2.1.2.1 i g2
  rw [g3] at hR
  exact va_ldcS hX.1 hX.2.1 (by rw [← g1]; exact hX.2.2.2.1) hR h1 k'
def ldt {ow cp i : Nat} (hf : TexAt ow cp i) : EX ow := ⟨ldtP cp i, ldt_ok ow cp i hf, by
  intro ga d cs t cs' cc hc hD
  simp only [ldtP] at hc
  split at hc
  case isFalse => cases hc
  exact map_nx hc hD⟩
def ldtwP (cp i : Nat) : XE := (fun _ _ cs => if 0 ≤ cp then (nx (.ldc_w cp) 3 cs).map (fun x => (2, x)) else none, fun _ Q _ u => Q (-1 - (i : Int)) u)
theorem ldtw_ok (ow cp i : Nat) (hf : TexAt ow cp i) : SndE ow (ldtwP cp i) := by
  intro p l e R s m args below meth c cc nL G Qf cl hX hC ga d cs t cs' hc hD r u H locs cells slots ls st Q hL hA hs hw k
  simp only [ldtwP] at hc hw
  split at hc
  case isFalse => cases hc
  obtain ⟨x, hx, e1⟩ := Option.map_eq_some_iff.mp hc
  cases e1
  obtain ⟨h1, h2, h3⟩ := nx_ok hx hD
  have k' := k _ u H locs cells slots trivial hA hw h3
  rw [h2, enc_2 _ (by omega)] at k'
  obtain ⟨g1, g2, g3⟩ := hf
  have hR := hX.2.2.2.2.2.2.2.2.2.1.2.1 i g2
  rw [g3] at hR
  exact W.ldcwS hX.1 hX.2.1 (by rw [← g1]; exact hX.2.2.2.1) hR h1 k'
def ldtw {ow cp i : Nat} (hf : TexAt ow cp i) : EX ow := ⟨ldtwP cp i, ldtw_ok ow cp i hf, by
  intro ga d cs t cs' cc hc hD
  simp only [ldtwP] at hc
  split at hc
  case isFalse => cases hc
  exact map_nx hc hD⟩
/-- a call on a written text -/
def StrAt (ow cp K : Nat) : Prop := MthOK K ∧ Cond.methodLink (kC ow) cp (mNam K) ∈ gTbl ∧ Cond.instanceMethod (mNam K) ∈ gTbl ∧ Cond.selects (mNam K).cls (mNam K) (mNam K) ∈ gTbl ∧ (mNam K).cls = "java/lang/String" ∧
  (parseMethodDescriptor (mNam K).desc).map (fun d => d.parameters.length + 1) = some (mArg K).length ∧ (mArg K).head? = some 2
def stx (v : Int) : Prop := -8 ≤ v ∧ v ≤ -1
def cvtP (cp K : Nat) (a : XL) : XE := (fun ga d cs => match a.1 ga d cs with
    | some (ts, cs1) => if ts = mArg K ∧ d ≤ 8 ∧ mRty K ≠ 9 then (nx (.invokevirtual cp) 3 cs1).map (fun x => (gty (mRty K), x)) else none
    | _ => none, fun cl Q r u => a.2 cl (fun vs u' => stx (vs.headD 0) ∧ wcl cl K Q vs u') r u)
theorem cvt_d (cp K : Nat) (a : XL) (ha : DecL a) : DecE (cvtP cp K a) := by
  intro ga d cs t cs' cc hc hD
  simp only [cvtP] at hc
  split at hc
  case h_2 => cases hc
  rename_i h0
  split at hc
  case isFalse => cases hc
  exact map_nx hc (ha _ _ _ _ _ _ h0 hD)
theorem cvt_ok (ow cp K : Nat) (hf : StrAt ow cp K) (a : XL) (ha : SndL ow a) : SndE ow (cvtP cp K a) := by
  intro p l e R s m args below meth c cc nL G Qf cl hX hC ga d cs t cs' hc hD r u H locs cells slots ls st Q hL hA hs hw k
  simp only [cvtP] at hc hw
  split at hc
  case h_2 => cases hc
  rename_i ts cs1 h0
  split at hc
  case isFalse => cases hc
  rename_i hcond
  obtain ⟨rfl, hd8, h9⟩ := hcond
  obtain ⟨x, hx, e1⟩ := Option.map_eq_some_iff.mp hc
  cases e1
  refine ha p l e R s m args below meth c cc nL G Qf cl hX hC ga d cs _ cs1 h0 hD r u H locs cells slots ls st _ hL hA hs hw ?_
  intro vs u' H' locs' cells' slots' hok hA' hq hD1
  obtain ⟨h1, h2, h3⟩ := nx_ok hx hD1
  obtain ⟨hst, hb, hcl⟩ := hq
  obtain ⟨g1, g2, g3, g4, g5, g8, g9⟩ := hf
  have hts := hX.2.2.2.2.1
  obtain ⟨rm, r1, r2, r3, r4, hM⟩ := hC K vs _ _ hcl (Nat.le_refl _) (Nat.le_refl _)
  match hm : mArg K, vs, hok with
  | [], _, _ => rw [hm] at g9; cases g9
  | t :: ts, [], hok => exact hok.elim
  | t :: ts, v0 :: vt, hok' =>
    rw [hm] at g9 g8
    cases g9
    have lv : stx v0 := hst
    have hv0 : v0 ≠ 0 := by have := lv.2; omega
    have e0 : encA G.1 (2 :: ts) (v0 :: vt) = .ref (G.1 v0) :: encA G.1 ts vt := by simp only [encA]; rw [enc_2 _ hv0]
    have hp := pc_pre (K := K) (vs := v0 :: vt) hX hA' (by rw [hm]; exact hok') (mCel K) (mSlo K)
    rw [hm, e0] at hp
    have hn : ∀ sig, parseMethodDescriptor (mNam K).desc = some sig → ts.length = sig.parameters.length := fun sig h => by
      rw [h] at g8; simp at g8; omega
    obtain ⟨⟨adV, hS9⟩, -⟩ := hX.2.2.2.2.2.2.2.2.2.1
    have hi9 : (-1 - v0).toNat < 8 := by have := lv.1; have := lv.2; omega
    have hrecv := vk_recv (H := H') (locs := []) hS9 hi9 ⟨hA'.2.1.1, fun q _ h => hA'.2.1.2.1 q (by omega), fun _ h => by cases h⟩
    have e8 : (-1 - (((-1 - v0).toNat : Nat) : Int)) = v0 := by have := lv.2; omega
    have e9 : G.1 (-1 - (((-1 - v0).toNat : Nat) : Int)) = G.1 v0 := by rw [e8]
    rw [e9, ← g5] at hrecv
    rw [e0, List.reverse_cons, List.append_assoc]
    refine run_on (u := u') (va_runV (As := encA G.1 ts vt) (rest := st) (b := G.1 v0) (n := ts.length) (Ts := gTbl) (own := kC ow) (C := (mNam K).cls) ⟨hX.1, hX.2.1, hX.2.2.1, hX.2.2.2.1, hts⟩ hM ⟨callB_at (l := l) hX g1 g2 hn r1 r2 r3 r4, hts _ g3, hts _ g4⟩
      ⟨pc_blind G K _ _, hrecv, hp⟩ rfl (encA_len _ _ _ hok'.2) hL.1.1 rfl (lv_room (show cats st ≤ 8 by omega)) h1 ⟨by have := hA'.2.2.1; omega, by have := hA'.2.2.2; omega⟩) hA' hb ?_
    intro w u2 H2 locs2 hw2 hQ2 hA2
    have k' := k w _ H2 locs2 _ _ (okv_g hw2) hA2 hQ2 h3
    rw [h2] at k'
    rw [encR_g h9]
    exact k'
def cvt {ow cp K : Nat} (hf : StrAt ow cp K) (a : LX ow) : EX ow := ⟨cvtP cp K a.1, cvt_ok ow cp K hf a.1 a.2.1, cvt_d cp K a.1 a.2.2⟩
/-- copied: n from place i of a, to place j of b -/
def cpm (u : Sto) (a i b j n : Int) : Sto := (u.1, (fun x y => if x = b ∧ j ≤ y ∧ y < j + n then u.2.1 a (y - j + i) else u.2.1 x y), u.2.2)
def cpok (u : Sto) (a i b j n : Int) : Prop := live u a 14 ∧ live u b 14 ∧ 0 ≤ i ∧ 0 ≤ j ∧ 0 ≤ n ∧ i + n ≤ klen a ∧ j + n ≤ klen b
theorem cell_len {G : Geo} {u : Sto} {H : Heap} {U : State} (h : Rel G u H) (hK : KOK G U) {a : Int} {K : Nat} (hl : live u a K) (h14 : 14 ≤ K) (h18 : K ≤ 18) :
    ∃ cell : Cell, H[G.1 a]? = some cell ∧ U.isArrayOf cell (aT K) ∧ cell.vm = .none ∧ cell.cls = G.2.1 K ∧ cell.slots.size = (klen a).toNat ∧ ∀ i : Nat, (i : Int) < klen a → cell.slots[i]? = some (enc G.1 (ety K 0) (rd u (ety K 0) a i)) := by
  obtain ⟨l1, l2, l3⟩ := hl
  obtain ⟨cell, q1, q2, q3, q4, q5⟩ := h.1 a l1 l2 (by omega)
  rw [l3] at q3 q5
  refine ⟨cell, q1, arr_is (hK.2.2.2.1 K h14 h18) q3 q2, q2, q3, q4 (by omega), fun i hi => ?_⟩
  have := q5 i hi
  rw [hK.2.2.2.2.1 K i h14, ety_arr h14 h18] at this
  exact this
theorem copy_row {p : Program} {l : Launch} {e : Env} {R : Room} {s : State} {m : MethodId} {args : Array Value} {below : List Frame} {meth : Method} {c : Code} {cc : ByteArray} {nL ow cp : Nat} {G : Geo} {H : Heap} {locs : List Loc} {cells slots : Nat} {Q : State → Prop} {pc : Nat} {ls : Array Slot} {u : Sto} {a i b j n : Int}
    (hX : MX p R s m args c cc nL ow G) (hls : ls.size = nL) (hl : Cond.methodLink (kC ow) cp arraycopyName ∈ gTbl) (hnat : Cond.native arraycopyName ∈ gTbl) (hst : Cond.static arraycopyName ∈ gTbl) (hini : Cond.initialized "java/lang/System" ∈ gTbl)
    (hd : decode cc pc = .ok (.invokestatic cp, 3)) (hA : At G R s.heap u H locs cells slots) (hok : cpok u a i b j n)
    (kk : ∀ (H' : Heap) (locs' : List Loc), At G R s.heap (cpm u a i b j n) H' locs' cells slots → W p l e R s m args below meth c H' locs' cells slots Q (F0 m (pc + 3) ls [])) :
    W p l e R s m args below meth c H locs cells slots Q (F0 m pc ls [.int (Int32.ofInt n), .int (Int32.ofInt j), .ref (G.1 b), .int (Int32.ofInt i), .ref (G.1 a)]) := by
  obtain ⟨la, lb, h1, h2, h3, h4, h5⟩ := hok
  have hK := hX.2.2.2.2.2.1
  have hts := hX.2.2.2.2.1
  obtain ⟨cs, s1, s2, s3, s4, s5, s6⟩ := cell_len hA.1 hK la (by decide) (by decide)
  obtain ⟨cd, d1, d2, d3, d4, d5, d6⟩ := cell_len hA.1 hK lb (by decide) (by decide)
  have ba := kl_18 a
  have bb := kl_18 b
  have i1 : inI i := ⟨by omega, by omega⟩
  have i2 : inI j := ⟨by omega, by omega⟩
  have i3 : inI n := ⟨by omega, by omega⟩
  have e1 : (Int32.ofInt i).toNatClampNeg = i.toNat := ofI_idx h1 (by omega)
  have e2 : (Int32.ofInt j).toNatClampNeg = j.toNat := ofI_idx h2 (by omega)
  have e3 : (Int32.ofInt n).toNatClampNeg = n.toNat := ofI_idx h3 (by omega)
  have nn : ∀ {x : Int}, inI x → 0 ≤ x → ¬ Int32.ofInt x < 0 := fun {x} hx h0 q => by
    rw [show (0 : Int32) = Int32.ofInt 0 from rfl, ofI_lt hx inI_0] at q; omega
  have vals : ∀ k : Nat, k < n.toNat → cs.slots.getD (i.toNat + k) .null = .int (Int32.ofInt (u.2.1 a (i + k))) := fun k hk => by
    rw [Array.getD_eq_getD_getElem?, s6 (i.toNat + k) (by omega)]
    show Value.int (Int32.ofInt (u.2.1 a ((i.toNat + k : Nat) : Int))) = _
    rw [show ((i.toNat + k : Nat) : Int) = i + k by omega]
  intro T hT X
  obtain ⟨-, k0, hk0, cm0, hkk0⟩ := s2
  obtain ⟨-, k1, hk1, cm1, hkk1⟩ := d2
  obtain ⟨vm', X', step⟩ := X.arraycopy hX.1 hX.2.2.2.1 (hts _ hl) (hts _ hnat) (hts _ hst) (hts _ hini) (src := G.1 a) (dst := G.1 b) (cs := cs) (cd := cd) (srcPos := Int32.ofInt i) (destPos := Int32.ofInt j) (n := Int32.ofInt n) (by rw [hT]; exact s1) (by rw [hT]; exact d1)
    (fun _ h => by rw [s3] at h; cases h) (fun _ h => by rw [d3] at h; cases h) (fun h => by rw [s3] at h; cases h) (fun h => by rw [d3] at h; cases h) hk0 hk1 hkk0 hkk1 (by decide) (nn i1 h1) (nn i2 h2) (nn i3 h3)
    (by rw [ofI_toInt i1, ofI_toInt i3, s5]; omega) (by rw [ofI_toInt i2, ofI_toInt i3, d5]; omega)
    (fun vm₁ _ k hk => by
      rw [e3] at hk
      rw [e1, vals k hk]
      exact ⟨rfl, trivial⟩)
    (g := F0 m pc ls [.int (Int32.ofInt n), .int (Int32.ofInt j), .ref (G.1 b), .int (Int32.ofInt i), .ref (G.1 a)]) rfl (by rw [hX.2.2.1]; exact hls) (rest := []) rfl (by rw [hX.2.1]; exact hd) hX.2.2.2.2.2.2.2.1 (by have := hX.2.2.2.2.2.2.2.2.1; show 2 * 0 + 0 + ((5 + 2) + 11) ≤ _; omega)
  unfold copied at X' step
  rw [e1, e2, e3] at X'
  rw [e1, e2, e3] at step
  have stl : (cs.stretch i.toNat n.toNat).length = n.toNat := by simp [Cell.stretch]
  obtain ⟨z1, z2, z3, -⟩ := Cell.storeRun_facts cd j.toNat (cs.stretch i.toNat n.toNat)
  have zg : ∀ k : Nat, (cd.storeRun j.toNat (cs.stretch i.toNat n.toNat)).slots[k]? = if j.toNat ≤ k ∧ k < j.toNat + n.toNat then some (.int (Int32.ofInt (u.2.1 a ((k : Int) - j + i)))) else cd.slots[k]? := fun k => by
    rw [Cell.storeRun_get _ _ _ _ (by rw [stl, d5]; omega), stl]
    by_cases hk : j.toNat ≤ k ∧ k < j.toNat + n.toNat
    · rw [if_pos hk, if_pos hk]
      unfold Cell.stretch
      rw [List.getElem?_map, List.getElem?_range (by omega)]
      show some (cs.slots.getD (i.toNat + (k - j.toNat)) .null) = _
      rw [vals _ (by omega), show i + ((k - j.toNat : Nat) : Int) = (k : Int) - j + i by omega]
    · rw [if_neg hk, if_neg hk]
  generalize hcd : cd.storeRun j.toNat (cs.stretch i.toNat n.toNat) = cd2 at X' step z1 z2 z3 zg
  have hlt : G.1 b < H.size := (Array.getElem?_eq_some_iff.mp d1).1
  have hheap : ((T.setVm vm').setCell (G.1 b) cd2).heap = H.setIfInBounds (G.1 b) cd2 := by rw [← hT]; rfl
  have oq : ∀ q : Nat, q ≠ G.1 b → (H.setIfInBounds (G.1 b) cd2)[q]? = H[q]? := fun q hq => by simp [Array.getElem?_setIfInBounds, Ne.symm hq]
  have ob : (H.setIfInBounds (G.1 b) cd2)[G.1 b]? = some cd2 := by simp [Array.getElem?_setIfInBounds, hlt]
  have hAt : At G R s.heap (cpm u a i b j n) (H.setIfInBounds (G.1 b) cd2) (locs ++ (cs.stretch i.toNat n.toNat).zipIdx.map fun q => ⟨G.1 b, j.toNat + q.2⟩) cells slots := by
    obtain ⟨⟨r1, r2, r3, r4, r5⟩, ⟨f1, f2, f3⟩, b1, b2⟩ := hA
    have hge : G.2.2.2 ≤ G.1 b := al_ge hK lb.1
    have hsz : (H.setIfInBounds (G.1 b) cd2).size = H.size := by simp
    refine ⟨⟨fun x x1 x2 x3 => ?_, fun x x1 x2 k hk ht => ?_, r3, by rw [hsz]; exact r4, by rw [hsz]; exact r5⟩, ⟨by rw [hsz]; exact f1, fun q hq => (oq q (by omega)).trans (f2 q hq), fun q hq => ?_⟩, b1, b2⟩
    · by_cases hxb : x = b
      · subst hxb
        refine ⟨cd2, ob, z2.trans d3, by rw [lb.2.2]; exact z1.trans d4, fun _ => z3.trans d5, fun k hk => ?_⟩
        rw [lb.2.2, hK.2.2.2.2.1 14 k (by decide), zg k, ety_arr (by decide) (by decide)]
        by_cases hkk : j.toNat ≤ k ∧ k < j.toNat + n.toNat
        · rw [if_pos hkk]
          show _ = some (Value.int (Int32.ofInt (if x = x ∧ j ≤ (k : Int) ∧ (k : Int) < j + n then u.2.1 a ((k : Int) - j + i) else u.2.1 x k)))
          rw [if_pos ⟨rfl, by omega, by omega⟩]
        · rw [if_neg hkk, d6 k hk]
          show some (Value.int (Int32.ofInt (u.2.1 x k))) = some (Value.int (Int32.ofInt (if x = x ∧ j ≤ (k : Int) ∧ (k : Int) < j + n then u.2.1 a ((k : Int) - j + i) else u.2.1 x k)))
          rw [if_neg (fun z => hkk ⟨by omega, by omega⟩)]
      · obtain ⟨cl', q1, q2, q3, q4, q5⟩ := r1 x x1 x2 x3
        have hne : G.1 x ≠ G.1 b := by rw [hK.1 x x1, hK.1 b lb.1]; have := lb.1; omega
        refine ⟨cl', by rw [oq _ hne]; exact q1, q2, q3, q4, fun k hk => ?_⟩
        rw [q5 k hk]
        congr 2
        unfold rd cpm
        by_cases ht : ety (kcls x) k = 2 <;> simp [ht, hxb]
    · have := r2 x x1 x2 k hk ht
      unfold cpm
      dsimp only
      by_cases hxb : x = b ∧ j ≤ (k : Int) ∧ (k : Int) < j + n
      · rw [if_pos hxb]
        obtain ⟨rfl, hx2, hx3⟩ := hxb
        have := r2 a la.1 la.2.1 ((k : Int) - j + i).toNat (by omega) (by rw [la.2.2]; exact (by decide : (0 : Nat) ≠ 2))
        rw [la.2.2, show ((((k : Int) - j + i).toNat : Nat) : Int) = (k : Int) - j + i by omega] at this
        rw [lb.2.2]
        exact this
      · rw [if_neg hxb]; exact this
    · rcases List.mem_append.mp hq with h | h
      · exact f3 q h
      · obtain ⟨z, -, rfl⟩ := List.mem_map.mp h
        exact hge
  obtain ⟨t, a1, b1⟩ := kk _ _ hAt _ hheap X'
  exact ⟨t, step t a1, b1⟩
def CpyAt (ow cp : Nat) : Prop := Cond.methodLink (kC ow) cp arraycopyName ∈ gTbl ∧ Cond.native arraycopyName ∈ gTbl ∧ Cond.static arraycopyName ∈ gTbl ∧ Cond.initialized "java/lang/System" ∈ gTbl
def cpyP (cp : Nat) (a : XL) : XS := (fun ga _ nx9 _ _ _ cs => match a.1 ga 0 cs with
    | some (ts, cs1) => match nx (.invokestatic cp) 3 cs1 with
      | some cs2 => if ts = [2, 0, 2, 0, 0] ∧ okt nx9 cs2 = true then some (ga, cs2) else none
      | _ => none
    | _ => none, fun cl Kn _ _ r u => a.2 cl (fun vs u' => cpok u' (vs.getD 0 0) (vs.getD 1 0) (vs.getD 2 0) (vs.getD 3 0) (vs.getD 4 0) ∧ Kn r (cpm u' (vs.getD 0 0) (vs.getD 1 0) (vs.getD 2 0) (vs.getD 3 0) (vs.getD 4 0))) r u)
theorem cpy_d (cp : Nat) (a : XL) (ha : DecL a) : DecS (cpyP cp a) := by
  intro ga nL nx9 lb gb rt cs ga' cs' cc hc hD
  simp only [cpyP] at hc
  split at hc
  case h_2 => cases hc
  rename_i h0
  split at hc
  case h_2 => cases hc
  rename_i h1
  split at hc
  case isFalse => cases hc
  cases hc
  exact (nx_ok h1 (ha _ _ _ _ _ _ h0 hD)).2.2
theorem cpy_ok (ow cp : Nat) (hf : CpyAt ow cp) (a : XL) (ha : SndL ow a) : SndS ow (cpyP cp a) := by
  intro p l e R s m args below meth c cc nL G Qf cl hX hC ga nx9 lb gb rt cs ga' cs' hc hD r u H locs cells slots ls Kn Kb Kr hL hA hw hn hb hr hx9
  simp only [cpyP] at hc hw
  split at hc
  case h_2 => cases hc
  rename_i ts cs1 h0
  split at hc
  case h_2 => cases hc
  rename_i cs2 h1
  split at hc
  case isFalse => cases hc
  rename_i hcond
  obtain ⟨rfl, hk9⟩ := hcond
  cases hc
  refine ha p l e R s m args below meth c cc nL G Qf cl hX hC ga 0 cs _ cs1 h0 hD r u H locs cells slots ls [] _ hL hA (Nat.le_refl _) hw ?_
  intro vs u' H' locs' cells' slots' hv hA' hq hD1
  obtain ⟨g1, g2, g3⟩ := nx_ok h1 hD1
  match vs, hv with
  | [v0, v1, v2, v3, v4], _ =>
    obtain ⟨hok, hq⟩ := hq
    have e0 : (encA G.1 [2, 0, 2, 0, 0] [v0, v1, v2, v3, v4]).reverse ++ [] = [.int (Int32.ofInt v4), .int (Int32.ofInt v3), .ref (G.1 v2), .int (Int32.ofInt v1), .ref (G.1 v0)] := by
      have a0 : v0 ≠ 0 := by have : 0 < v0 := hok.1.1; omega
      have a2 : v2 ≠ 0 := by have : 0 < v2 := hok.2.1.1; omega
      simp only [encA, enc_2 _ a0, enc_2 _ a2, enc_0]
      rfl
    rw [e0]
    refine copy_row hX hL.1.1 hf.1 hf.2.1 hf.2.2.1 hf.2.2.2 g1 hA' hok (fun H2 locs2 hA2 => ?_)
    rw [← g2]
    exact okt_W hk9 hX.1 hX.2.1 g3 (hn r _ H2 locs2 _ _ ls hL hA2 hq)
def cpy {ow cp : Nat} (hf : CpyAt ow cp) (a : LX ow) : SX ow := ⟨cpyP cp a.1, cpy_ok ow cp hf a.1 a.2.1, cpy_d cp a.1 a.2.2⟩
end
section
/-! trees: what constructors do -/
def clr (f : Mem) (a : Int) : Mem := fun x y => if x = a then 0 else f x y
def alc (u : Sto) (w : Nat) : Sto := (clr u.1 (stn u), clr u.2.1 (stn u), stn u + 1, sex u, sbc u - 1, sbw u - w)
def alcok (u : Sto) (k : Nat) (w : Nat) : Prop := kcls (stn u) = k ∧ sex u = 1 ∧ 1 ≤ sbc u ∧ w ≤ sbw u
theorem okv_0 (t : Nat) : okv t 0 := by
  unfold okv inL inI
  split
  · omega
  · split
    · trivial
    · split
      · omega
      · split <;> omega
theorem at_alc {G : Geo} {R : Room} {H0 H H' : Heap} {u : Sto} {locs : List Loc} {cells slots k w : Nat} {U : State} (hA : At G R H0 u H locs cells slots) (hK : KOK G U) (hok : alcok u k w) (h1 : 1 ≤ k) {cell : Cell} (hc : H'[H.size]? = some cell) (hz : H'.size = H.size + 1) (hq : ∀ q, q < H.size → H'[q]? = H[q]?)
    (c1 : cell.vm = .none) (c2 : cell.cls = G.2.1 k) (c3 : 14 ≤ k → cell.slots.size = (klen (stn u)).toNat) (c4 : ∀ j : Nat, (j : Int) < klen (stn u) → cell.slots[G.2.2.1 k j]? = some (enc G.1 (ety k j) 0)) (hbase : G.2.2.2 ≤ H.size) :
    At G R H0 (alc u w) H' locs (cells + 1) (slots + w) ∧ G.1 (stn u) = H.size ∧ live (alc u w) (stn u) k := by
  obtain ⟨⟨r1, r2, r3, r4, r5⟩, ⟨f1, f2, f3⟩, b1, b2⟩ := hA
  obtain ⟨k1, k2, k3, k4⟩ := hok
  have hsz := r5 k2
  have ha : G.1 (stn u) = H.size := by rw [hK.1 _ (by omega)]; omega
  have hlt : ∀ x : Int, 0 < x → x < stn u → G.1 x < H.size := fun x x1 x2 => by rw [hK.1 x x1]; omega
  refine ⟨⟨⟨fun x x1 x2 x3 => ?_, fun x x1 x2 j hj ht => ?_, ?_, ?_, ?_⟩, ⟨by omega, fun q hq2 => (hq q (by omega)).trans (f2 q hq2), f3⟩, ?_, ?_⟩, ha, ?_⟩
  · have x2 : x < stn u + 1 := x2
    by_cases hx : x = stn u
    · subst hx
      refine ⟨cell, by rw [ha]; exact hc, c1, by rw [k1]; exact c2, fun h14 => c3 (by rw [k1] at h14; exact h14), fun j hj => ?_⟩
      rw [k1, c4 j hj]
      congr 2
      unfold rd alc clr
      by_cases ht : ety k j = 2 <;> simp [ht]
    · obtain ⟨cl', q1, q2, q3, q4, q5⟩ := r1 x x1 (by omega) x3
      refine ⟨cl', by rw [hq _ (hlt x x1 (by omega))]; exact q1, q2, q3, q4, fun j hj => ?_⟩
      rw [q5 j hj]
      congr 2
      unfold rd alc clr
      by_cases ht : ety (kcls x) j = 2 <;> simp [ht, hx]
  · have x2 : x < stn u + 1 := x2
    by_cases hx : x = stn u
    · subst hx
      show okv _ (clr u.2.1 (stn u) (stn u) j)
      unfold clr
      rw [if_pos rfl]
      exact okv_0 _
    · show okv _ (clr u.2.1 (stn u) x j)
      unfold clr
      rw [if_neg hx]
      exact r2 x x1 (by omega) j hj ht
  · show 1 ≤ stn u + 1; omega
  · show G.2.2.2 + (stn u + 1).toNat ≤ H'.size + 1; omega
  · intro _; show H'.size + 1 = G.2.2.2 + (stn u + 1).toNat; omega
  · show cells + 1 + (sbc u - 1) ≤ R.cells; omega
  · show slots + w + (sbw u - w) ≤ R.slots; omega
  · exact ⟨by omega, by show stn u < stn u + 1; omega, k1⟩
/-- super() -/
def oiniP (cp : Nat) (a : XE) : XS := (fun ga _ nx9 _ _ _ cs => match a.1 ga 0 cs with
    | some (2, cs1) => match nx (.invokespecial cp) 3 cs1 with
      | some cs2 => if okt nx9 cs2 = true then some (ga, cs2) else none
      | _ => none
    | _ => none, fun cl Kn _ _ r u => a.2 cl (fun v u' => v ≠ 0 ∧ Kn r u') r u)
theorem oini_d (cp : Nat) (a : XE) (ha : DecE a) : DecS (oiniP cp a) := by
  intro ga nL nx9 lb gb rt cs ga' cs' cc hc hD
  simp only [oiniP] at hc
  split at hc
  case h_2 => cases hc
  rename_i h0
  split at hc
  case h_2 => cases hc
  rename_i h1
  split at hc
  case isFalse => cases hc
  cases hc
  exact (nx_ok h1 (ha _ _ _ _ _ _ h0 hD)).2.2
def ObjAt (ow cp : Nat) : Prop := Cond.methodLink (kC ow) cp objectInit ∈ gTbl ∧ Cond.instanceMethod objectInit ∈ gTbl ∧ Cond.code objectInit ⟨#[0xb1]⟩ 1 none ∈ gTbl
theorem oini_ok (ow cp : Nat) (hf : ObjAt ow cp) (a : XE) (ha : SndE ow a) : SndS ow (oiniP cp a) := by
  intro p l e R s m args below meth c cc nL G Qf cl hX hC ga nx9 lb gb rt cs ga' cs' hc hD r u H locs cells slots ls Kn Kb Kr hL hA hw hn hb hr hx9
  simp only [oiniP] at hc hw
  split at hc
  case h_2 => cases hc
  rename_i cs1 h0
  split at hc
  case h_2 => cases hc
  rename_i cs2 h1
  split at hc
  case isFalse => cases hc
  rename_i hk9
  cases hc
  have hts := hX.2.2.2.2.1
  refine ha p l e R s m args below meth c cc nL G Qf cl hX hC ga 0 cs _ cs1 h0 hD r u H locs cells slots ls [] _ hL hA (Nat.le_refl _) hw ?_
  intro v u' H' locs' cells' slots' hv hA' hq hD1
  obtain ⟨g1, g2, g3⟩ := nx_ok h1 hD1
  rw [enc_2 _ hq.1]
  refine W.objInit hX.1 hX.2.1 hX.2.2.2.1 (hts _ hf.1) (hts _ hf.2.1) (hts _ hf.2.2) rfl (by rw [hX.2.2.1]; exact hL.1.1) rfl g1 hX.2.2.2.2.2.2.2.1 (by have := hX.2.2.2.2.2.2.2.2.1; show 2 * 0 + 0 + 12 ≤ _; omega) ?_
  refine W.eq (g2 := F0 m (pcOf cs') ls []) (by rw [g2]) ?_
  exact okt_W hk9 hX.1 hX.2.1 g3 (hn r u' H' locs' cells' slots' ls hL hA' hq.2)
def oini {ow cp : Nat} (hf : ObjAt ow cp) (a : EX ow) : SX ow := ⟨oiniP cp a.1, oini_ok ow cp hf a.1 a.2.1, oini_d cp a.1 a.2.2⟩
/-- a final field, in its own constructor -/
def FldFin (ow cp k j : Nat) : Prop := FldAt ow cp k j ∧ (kF k j).2.2.2 = true ∧ (kF k j).1 = kC ow
def pfiP (cp k j : Nat) (a b : XE) : XS := (fun ga _ nx9 _ _ rt cs => match a.1 ga 0 cs with
    | some (2, cs1) => match b.1 ga 1 cs1 with
      | some (t, cs2) => match nx (.putfield cp) 3 cs2 with
        | some cs3 => if okt nx9 cs3 = true ∧ t = gty (ety k j) then some (ga, cs3) else none
        | _ => none
      | _ => none
    | _ => none, fun cl Kn _ _ r u => a.2 cl (fun o u' => b.2 cl (fun v u2 => live u2 o k ∧ tyq (ety k j) v ∧ Kn r (wr u2 (ety k j) o j v)) r u') r u)

def defOK (t : Nat) (ft : FieldType) : Prop := ∀ al : Int → Nat, defaultValue ft = enc al t 0
theorem put_fin {p : Program} {l : Launch} {e : Env} {R : Room} {s : State} {m : MethodId} {args : Array Value} {below : List Frame} {meth : Method} {c : Code} {cc : ByteArray} {nL ow cp k j : Nat} {G : Geo} {H : Heap} {locs : List Loc} {cells slots : Nat} {Q : State → Prop} {pc : Nat} {ls : Array Slot} {st : List Value} {u : Sto} {a v : Int}
    (hX : MX p R s m args c cc nL ow G) (h100 : 100 ≤ ow) (hf : FldFin ow cp k j) (hd : decode cc pc = .ok (.putfield cp, 3)) (hA : At G R s.heap u H locs cells slots) (hl : live u a k) (hv : okv (ety k j) v)
    (kk : ∀ (H' : Heap) (locs' : List Loc), At G R s.heap (wr u (ety k j) a j v) H' locs' cells slots → W p l e R s m args below meth c H' locs' cells slots Q (F0 m (pc + 3) ls st)) :
    W p l e R s m args below meth c H locs cells slots Q (F0 m pc ls (enc G.1 (ety k j) v :: .ref (G.1 a) :: st)) := by
  obtain ⟨⟨f1, f2, f3, f4, f5, f6, f7⟩, hfin, hdecl⟩ := hf
  have hj : (j : Int) < klen a := by rw [kl_obj hl.2.2 f3 f4]; exact_mod_cast f5
  obtain ⟨cell, q1, q2, q3, q4, q5⟩ := hA.1.1 a hl.1 hl.2.1 (by rw [hl.2.2]; omega)
  rw [hl.2.2] at q3 q5
  have hts := hX.2.2.2.2.1
  have hK := hX.2.2.2.2.2.1
  have hown := hX.2.2.2.1
  obtain ⟨hS, hfc, kC', hkC, hkind⟩ := hK.2.1 k f3 f4
  obtain ⟨cf, kf, fi, f, hi, hsl⟩ := hS j f5
  have hlay := hts _ f2
  have hst := (u_facts hfc hkC (u_lay1 hlay) hi).1
  unfold u_lay at hlay
  rw [if_pos hfin] at hlay
  have hcf : m.cls = cf := by
    obtain ⟨_, _, c', _, _, _, -, -, hf', -, -, -, hown2, -⟩ := Cond.laysFinal_spec hlay
    have e1 : c' = cf := by have := hi.symm.trans hf'; simp at this; exact this.1.symm
    rw [hdecl] at hown2
    rw [← e1]; exact Option.some.inj (hown.symm.trans hown2)
  have h6 := u_fits hfc hkC hkind (Or.inr hlay) hi f6 (f7 G.1 v hv).1 (f7 G.1 v hv).2
  intro T hT X
  have hname : meth.name = "<init>" := hX.2.2.2.2.2.2.2.2.2.2 h100 meth X.method
  have key : W p l e R s m args below meth c H locs cells slots Q (F0 m pc ls (enc G.1 (ety k j) v :: .ref (G.1 a) :: st)) := by
    refine W.putFinK hX.1 hX.2.1 hown (hts _ f1) hi hst hcf hname (by rw [q3]; exact h6) q1 q2 (by rw [hsl]; exact k2_hasslot (q5 j hj)) rfl rfl hd fun H' e1 e2 e3 => ?_
    rw [hsl] at e1
    have t4 := wr_t u (ety k j) a j v
    exact kk H' _ (at_put hA (rel_wr hA.1 hK hl f3 hj hv q1 e1 e2 e3) e2 e3 (al_ge hK hl.1) t4.2.2.1 t4.2.2.2)
  exact key T hT X
theorem pfi_d (cp k j : Nat) (a b : XE) (ha : DecE a) (hb : DecE b) : DecS (pfiP cp k j a b) := by
  intro ga nL nx9 lb gb rt cs ga' cs' cc hc hD
  simp only [pfiP] at hc
  split at hc
  case h_2 => cases hc
  rename_i h0
  split at hc
  case h_2 => cases hc
  rename_i h1
  split at hc
  case h_2 => cases hc
  rename_i h2
  split at hc
  case isFalse => cases hc
  cases hc
  exact (nx_ok h2 (hb _ _ _ _ _ _ h1 (ha _ _ _ _ _ _ h0 hD))).2.2
theorem pfi_ok (ow cp k j : Nat) (h100 : 100 ≤ ow) (hf : FldFin ow cp k j) (a b : XE) (ha : SndE ow a) (hb0 : SndE ow b) : SndS ow (pfiP cp k j a b) := by
  intro p l e R s m args below meth c cc nL G Qf cl hX hC ga nx9 lb gb rt cs ga' cs' hc hD r u H locs cells slots ls Kn Kb Kr hL hA hw hn hb hr hx9
  simp only [pfiP] at hc hw
  split at hc
  case h_2 => cases hc
  rename_i cs1 h0
  split at hc
  case h_2 => cases hc
  rename_i t cs2 h1
  split at hc
  case h_2 => cases hc
  rename_i cs3 h2
  split at hc
  case isFalse => cases hc
  rename_i hcond
  obtain ⟨hk9, rfl⟩ := hcond
  cases hc
  refine ha p l e R s m args below meth c cc nL G Qf cl hX hC ga 0 cs 2 cs1 h0 hD r u H locs cells slots ls [] _ hL hA (Nat.le_refl _) hw ?_
  intro o u' H' locs' cells' slots' ho hA' hq hD1
  refine hb0 p l e R s m args below meth c cc nL G Qf cl hX hC ga 1 cs1 _ cs2 h1 hD1 r u' H' locs' cells' slots' ls _ _ hL hA' ?_ hq ?_
  · rw [cats_cons, cat_enc]; simp [cats]
  intro v u2 H2 locs2 cells2 slots2 hv hA2 hq2 hD2
  obtain ⟨g1, g2, g3⟩ := nx_ok h2 hD2
  obtain ⟨hl, htq, hq2⟩ := hq2
  rw [enc_g, enc_2 _ (by have := hl.1; omega)]
  refine put_fin hX h100 hf g1 hA2 hl (okv_q hv htq) (fun H3 locs3 hA3 => ?_)
  rw [← g2]
  exact okt_W hk9 hX.1 hX.2.1 g3 (hn r _ H3 locs3 _ _ ls hL hA3 hq2)
def pfi {ow : Nat} {cp k j : Nat} (h100 : 100 ≤ ow) (hf : FldFin ow cp k j) (a b : EX ow) : SX ow := ⟨pfiP cp k j a.1 b.1, pfi_ok ow cp k j h100 hf a.1 b.1 a.2.1 b.2.1, pfi_d cp k j a.1 b.1 a.2.2 b.2.2⟩
/-- new array of n -/
def arT (K : Nat) : ArrayType := if K = 14 then .int else if K = 15 then .long else if K = 16 then .boolean else .char
def nwaP (K : Nat) (a : XE) : XE := (fun ga d cs => match a.1 ga d cs with
    | some (0, cs1) => (nx (.newarray (arT K)) 2 cs1).map (fun x => (2, x))
    | _ => none, fun cl Q r u => a.2 cl (fun n u' => (0 ≤ n ∧ klen (stn u') = n ∧ alcok u' K n.toNat) ∧ Q (stn u') (alc u' n.toNat)) r u)
def ArrAt9 (K : Nat) : Prop := 14 ≤ K ∧ K ≤ 17 ∧ Cond.arrayClass (newarray.typeOf (arT K)) ∈ gTbl
theorem nwa_ok (ow K : Nat) (hf : ArrAt9 K) (a : XE) (ha : SndE ow a) : SndE ow (nwaP K a) := by
  intro p l e R s m args below meth c cc nL G Qf cl hX hC ga d cs t cs' hc hD r u H locs cells slots ls st Q hL hA hs hw k
  simp only [nwaP] at hc hw
  split at hc
  case h_2 => cases hc
  rename_i cs1 h0
  obtain ⟨x, hx, e1⟩ := Option.map_eq_some_iff.mp hc
  cases e1
  refine ha p l e R s m args below meth c cc nL G Qf cl hX hC ga d cs 0 cs1 h0 hD r u H locs cells slots ls st _ hL hA hs hw ?_
  intro n u' H' locs' cells' slots' hv hA' hq hD1
  obtain ⟨h1, h2, h3⟩ := nx_ok hx hD1
  obtain ⟨⟨n0, n1, n2⟩, hq⟩ := hq
  obtain ⟨f1, f2, f3⟩ := hf
  have hts := hX.2.2.2.2.1
  have hK := hX.2.2.2.2.2.1
  have bl := kl_18 (stn u')
  have eT : newarray.typeOf (arT K) = aT K := by
    have : K = 14 ∨ K = 15 ∨ K = 16 ∨ K = 17 := by omega
    rcases this with rfl | rfl | rfl | rfl <;> rfl
  have hn : ¬ Int32.ofInt n < 0 := fun q => by
    rw [show (0 : Int32) = Int32.ofInt 0 from rfl, ofI_lt ⟨by omega, by omega⟩ inI_0] at q; omega
  have en : (Int32.ofInt n).toNatClampNeg = n.toNat := ofI_idx n0 (by omega)
  obtain ⟨k1, k2, k3, k4⟩ := n2
  rw [enc_0]
  refine va_newaK hX.1 hX.2.1 (hts _ f3) rfl h1 rfl hn en ?_ ?_ ?_ rfl ?_
  · have : componentBytes (newarray.typeOf (arT K)) ≤ 8 := by
      have : K = 14 ∨ K = 15 ∨ K = 16 ∨ K = 17 := by omega
      rcases this with rfl | rfl | rfl | rfl <;> decide
    have := Nat.mul_le_mul (Nat.le_refl n.toNat) this
    omega
  · have := hA'.2.2.1; omega
  · have := hA'.2.2.2; omega
  intro H2 cA e1 e2 e3 e4 e5
  rw [eT] at e1 e5
  have hcA : cA = G.2.1 K := by
    have h9 := hK.2.2.2.2.2 K f1 (by omega)
    have : s.vm.findClass ("[" ++ (aT K).toString) = some (G.2.1 K) := by
      have : K = 14 ∨ K = 15 ∨ K = 16 ∨ K = 17 := by omega
      rcases this with rfl | rfl | rfl | rfl <;> exact h9
    exact Option.some.inj (e5.symm.trans this)
  obtain ⟨hA2, ha2, hl2⟩ := at_alc (U := s) hA' hK ⟨k1, k2, k3, k4⟩ (by omega) e1 e2 e3 rfl hcA (fun _ => by rw [n1]; exact arrV_size _ _ _) (fun j hj => by
    rw [hK.2.2.2.2.1 K j f1, arrV_read _ _ (by omega)]
    congr 1
    have : K = 14 ∨ K = 15 ∨ K = 16 ∨ K = 17 := by omega
    rcases this with rfl | rfl | rfl | rfl <;> rfl) (Nat.le_trans hX.2.2.2.2.2.2.1 hA'.2.1.1)
  have k' := k (stn u') _ H2 locs' _ _ trivial hA2 hq h3
  rw [h2, enc_2 _ (by have := hl2.1; omega), ha2] at k'
  exact k'
def nwa {ow K : Nat} (hf : ArrAt9 K) (a : EX ow) : EX ow := ⟨nwaP K a.1, nwa_ok ow K hf a.1 a.2.1, by
  intro ga d cs t cs' cc hc hD
  simp only [nwaP] at hc
  split at hc
  case h_2 => cases hc
  rename_i h0
  exact map_nx hc (a.2.2 _ _ _ _ _ _ h0 hD)⟩
/-- new array of references to the states -/
def nwqP (cp : Nat) (a : XE) : XE := (fun ga d cs => match a.1 ga d cs with
    | some (0, cs1) => (nx (.anewarray cp) 3 cs1).map (fun x => (2, x))
    | _ => none, fun cl Q r u => a.2 cl (fun n u' => (0 ≤ n ∧ klen (stn u') = n ∧ alcok u' 18 n.toNat) ∧ Q (stn u') (alc u' n.toNat)) r u)
def QarAt (ow cp : Nat) : Prop := Cond.classLink (kC ow) cp "HotThrough$State" ∈ gTbl ∧ Cond.arrayOver (.object "HotThrough$State") ∈ gTbl
theorem nwq_ok (ow cp : Nat) (hf : QarAt ow cp) (a : XE) (ha : SndE ow a) : SndE ow (nwqP cp a) := by
  intro p l e R s m args below meth c cc nL G Qf cl hX hC ga d cs t cs' hc hD r u H locs cells slots ls st Q hL hA hs hw k
  simp only [nwqP] at hc hw
  split at hc
  case h_2 => cases hc
  rename_i cs1 h0
  obtain ⟨x, hx, e1⟩ := Option.map_eq_some_iff.mp hc
  cases e1
  refine ha p l e R s m args below meth c cc nL G Qf cl hX hC ga d cs 0 cs1 h0 hD r u H locs cells slots ls st _ hL hA hs hw ?_
  intro n u' H' locs' cells' slots' hv hA' hq hD1
  obtain ⟨h1, h2, h3⟩ := nx_ok hx hD1
  obtain ⟨⟨n0, n1, n2⟩, hq⟩ := hq
  have hts := hX.2.2.2.2.1
  have hK := hX.2.2.2.2.2.1
  have bl := kl_18 (stn u')
  have hn : ¬ Int32.ofInt n < 0 := fun q => by
    rw [show (0 : Int32) = Int32.ofInt 0 from rfl, ofI_lt ⟨by omega, by omega⟩ inI_0] at q; omega
  have en : (Int32.ofInt n).toNatClampNeg = n.toNat := ofI_idx n0 (by omega)
  obtain ⟨k1, k2, k3, k4⟩ := n2
  rw [enc_0]
  refine W.anew hX.1 hX.2.1 hX.2.2.2.1 (hts _ hf.1) (hts _ hf.2) rfl h1 rfl hn (by rw [en]; omega) (by have := hA'.2.2.1; omega) (by rw [en]; have := hA'.2.2.2; omega) ?_
  intro cA kA comp e1 e2 e3 e4
  rw [en]
  have hcA : cA = G.2.1 18 := by
    obtain ⟨_, _, _, _, _, h9⟩ := hK.2.2.2.2.2 18 (by decide) (by decide)
    exact Option.some.inj (e1.symm.trans h9)
  obtain ⟨hA2, ha2, hl2⟩ := at_alc (U := s) (cell := { cls := cA, slots := Array.replicate n.toNat .null, vm := .none }) hA' hK ⟨k1, k2, k3, k4⟩ (by omega) (H' := H'.push { cls := cA, slots := Array.replicate n.toNat .null, vm := .none }) (by simp) (by simp) (fun q hq => by rw [Array.getElem?_push, if_neg (Nat.ne_of_lt hq)]) rfl hcA (fun _ => by rw [n1]; simp) (fun j hj => by
    rw [hK.2.2.2.2.1 18 j (by decide)]
    have : j < n.toNat := by omega
    simp [this, enc]
    rfl) (Nat.le_trans hX.2.2.2.2.2.2.1 hA'.2.1.1)
  have k' := k (stn u') _ _ locs' _ _ trivial hA2 hq h3
  rw [h2, enc_2 _ (by have := hl2.1; omega), ha2] at k'
  exact k'
def nwq {ow cp : Nat} (hf : QarAt ow cp) (a : EX ow) : EX ow := ⟨nwqP cp a.1, nwq_ok ow cp hf a.1 a.2.1, by
  intro ga d cs t cs' cc hc hD
  simp only [nwqP] at hc
  split at hc
  case h_2 => cases hc
  rename_i h0
  exact map_nx hc (a.2.2 _ _ _ _ _ _ h0 hD)⟩
/-- a state put into such a row -/
def asqP (a b v : XE) : XS := (fun ga _ nx9 _ _ _ cs => match a.1 ga 0 cs with
    | some (2, cs1) => match b.1 ga 1 cs1 with
      | some (0, cs2) => match v.1 ga 2 cs2 with
        | some (2, cs3) => match nx .aastore 1 cs3 with
          | some cs4 => if okt nx9 cs4 = true then some (ga, cs4) else none
          | _ => none
        | _ => none
      | _ => none
    | _ => none, fun cl Kn _ _ r u => a.2 cl (fun o u' => b.2 cl (fun i u2 => v.2 cl (fun x u3 => inb u3 o 18 i ∧ live u3 x 5 ∧ Kn r (wr u3 2 o i x)) r u2) r u') r u)
theorem asq_d (a b v : XE) (ha : DecE a) (hb : DecE b) (hv : DecE v) : DecS (asqP a b v) := by
  intro ga nL nx9 lb gb rt cs ga' cs' cc hc hD
  simp only [asqP] at hc
  split at hc
  case h_2 => cases hc
  rename_i h0
  split at hc
  case h_2 => cases hc
  rename_i h1
  split at hc
  case h_2 => cases hc
  rename_i h2
  split at hc
  case h_2 => cases hc
  rename_i h3
  split at hc
  case isFalse => cases hc
  cases hc
  exact (nx_ok h3 (hv _ _ _ _ _ _ h2 (hb _ _ _ _ _ _ h1 (ha _ _ _ _ _ _ h0 hD)))).2.2
theorem asq_ok (ow : Nat) (a b v0 : XE) (ha : SndE ow a) (hb0 : SndE ow b) (hv0 : SndE ow v0) : SndS ow (asqP a b v0) := by
  intro p l e R s m args below meth c cc nL G Qf cl hX hC ga nx9 lb gb rt cs ga' cs' hc hD r u H locs cells slots ls Kn Kb Kr hL hA hw hn hb hr hx9
  simp only [asqP] at hc hw
  split at hc
  case h_2 => cases hc
  rename_i cs1 h0
  split at hc
  case h_2 => cases hc
  rename_i cs2 h1
  split at hc
  case h_2 => cases hc
  rename_i cs3 h2
  split at hc
  case h_2 => cases hc
  rename_i cs4 h3
  split at hc
  case isFalse => cases hc
  rename_i hk9
  cases hc
  refine ha p l e R s m args below meth c cc nL G Qf cl hX hC ga 0 cs 2 cs1 h0 hD r u H locs cells slots ls [] _ hL hA (Nat.le_refl _) hw ?_
  intro o u' H' locs' cells' slots' ho hA' hq hD1
  refine hb0 p l e R s m args below meth c cc nL G Qf cl hX hC ga 1 cs1 _ cs2 h1 hD1 r u' H' locs' cells' slots' ls _ _ hL hA' ?_ hq ?_
  · rw [cats_cons, cat_enc]; simp [cats]
  intro i u2 H2 locs2 cells2 slots2 hi hA2 hq2 hD2
  refine hv0 p l e R s m args below meth c cc nL G Qf cl hX hC ga 2 cs2 _ cs3 h2 hD2 r u2 H2 locs2 cells2 slots2 ls _ _ hL hA2 ?_ hq2 ?_
  · rw [cats_cons, cats_cons, cat_enc, cat_enc]; simp [cats]
  intro v u3 H3 locs3 cells3 slots3 hv hA3 hq3 hD3
  obtain ⟨g1, g2, g3⟩ := nx_ok h3 hD3
  obtain ⟨hl, hlv, hq3⟩ := hq3
  have hK := hX.2.2.2.2.2.1
  obtain ⟨cell, q1, q2, q3, q4, q5, q6, q7, q8, -⟩ := arr_at hA3.1 hK hl (by decide) (by decide)
  obtain ⟨cv, v1, v2, v3, -⟩ := hA3.1.1 v hlv.1 hlv.2.1 (by rw [hlv.2.2]; decide)
  rw [hlv.2.2] at v3
  obtain ⟨kA, comp, w1, w2, w3, -⟩ := hK.2.2.2.2.2 18 (by decide) (by decide)
  have hcls := (hK.2.1 5 (by decide) (by decide)).2
  have hcomp : comp = G.2.1 5 := Option.some.inj (w3.symm.trans hcls.1)
  subst hcomp
  obtain ⟨-, kC', hkC, -⟩ := id hcls
  rw [enc_0, enc_2 G.1 (v := o) (by have := hl.1.1; omega), enc_2 G.1 (v := v) (by have := hlv.1; omega)]
  refine W.aast hX.1 hX.2.1 q1 (fun q h => by rw [q3] at h; cases h) (fun h => by rw [q3] at h; cases h) (by rw [q8]; exact w1) w2 rfl hkC ⟨fun q => q4 (Or.inl q), Nat.not_le.mp fun q => q4 (Or.inr q)⟩ v1 (fun q h => by rw [v2] at h; cases h) (by rw [v3]; exact hkC) (by rw [v3]; exact va_assign hcls) rfl rfl g1 (fun H4 e1 e2 e3 => ?_)
  rw [q5] at e1
  have e0 : ((i.toNat : Nat) : Int) = i := Int.toNat_of_nonneg hl.2.1
  have t4 := wr_t u3 2 o i v
  have hr9 := rel_wr (j := i.toNat) (v := v) (H' := H4) (k := 18) hA3.1 hK hl.1 (by decide) (by have := hl.2.2; omega) trivial q1 (by rw [hK.2.2.2.2.1 18 _ (by decide)]; show _ = some (cell.setSlot i.toNat (enc G.1 2 v)); rw [enc_2 _ (by have := hlv.1; omega)]; exact e1) e2 e3
  rw [e0] at hr9
  refine W.eq (g2 := F0 m (pcOf cs') ls []) (by rw [g2]) ?_
  exact okt_W hk9 hX.1 hX.2.1 g3 (hn r _ H4 _ _ _ ls hL (at_put hA3 hr9 e2 e3 (al_ge hK hl.1.1) t4.2.2.1 t4.2.2.2) hq3)
def asq {ow : Nat} (a b v : EX ow) : SX ow := ⟨asqP a.1 b.1 v.1, asq_ok ow a.1 b.1 v.1 a.2.1 b.2.1 v.2.1, asq_d a.1 b.1 v.1 a.2.2 b.2.2 v.2.2⟩
end
section
/-! trees: new -/
def dfl : Nat → FieldType → Bool
  | 0, .int => true
  | 1, .long => true
  | 2, .object _ => true
  | 2, .array _ => true
  | 3, .boolean => true
  | _, _ => false
theorem dfl_ok {t : Nat} {ft : FieldType} (h : dfl t ft = true) (al : Int → Nat) : defaultValue ft = enc al t 0 := by
  unfold dfl at h
  split at h <;> first | rfl | cases h
def KlsAt (k : Nat) : Prop := (∀ w ∈ u_ws (kC k) (kF k) (kN k), w ∈ gTbl) ∧ (∀ j, j < kN k → parseFieldDescriptor (kF k j).2.2.1 = some (kT k j)) ∧ (∀ j, j < kN k → dfl (ety k j) (kT k j) = true)
def NewAt (ow cp k : Nat) : Prop := Cond.classLink (kC ow) cp (kC k) ∈ gTbl ∧ Cond.instantiable (kC k) (kN k) ∈ gTbl ∧ Cond.initialized (kC k) ∈ gTbl ∧ 1 ≤ k ∧ k ≤ 13 ∧ KlsAt k
def SpecAt (ow cp K : Nat) : Prop := MthOK K ∧ (Cond.methodLink (kC ow) cp (mNam K) ∈ gTbl ∨ ∃ host, Cond.methodLinkNest (kC ow) cp (mNam K) host ∈ gTbl) ∧ Cond.instanceMethod (mNam K) ∈ gTbl ∧ (mNam K).name = "<init>" ∧ mRet K = none ∧ mRty K = 9 ∧
  (parseMethodDescriptor (mNam K).desc).map (fun d => d.parameters.length + 1) = some (mArg K).length ∧ (mArg K).head? = some 2
section CI
variable {p : Program} {l : Launch} {e : Env} {R : Room} {s : State} {m : MethodId} {args : Array Value} {below : List Frame} {meth : Method} {c : Code} {cc : ByteArray} {nL ow cp K : Nat} {G : Geo} {H : Heap} {locs : List Loc} {cells slots : Nat} {Q : State → Prop} {pc : Nat} {ls : Array Slot} {st : List Value} {cl : ClT} {u : Sto} {vs : List Int} {Q' : Int → Sto → Prop}
theorem call_init (hX : MX p R s m args c cc nL ow G) (hC : ClOK l R G cl) (hv : SpecAt ow cp K) (hd : decode cc pc = .ok (.invokespecial cp, 3)) (hA : At G R s.heap u H locs cells slots) (hok : okA (mArg K) vs) (hcat : cats st ≤ 8) (hlive : ∀ v, vs.head? = some v → v ≠ 0) (hls : ls.size = nL) (hb : mCel K ≤ sbc u ∧ mSlo K ≤ sbw u) (hcl : cl K vs Q' (bud u (mCel K) (mSlo K)))
    (k : ∀ (v : Int) (u' : Sto) (H' : Heap) (locs' : List Loc), Q' v u' → At G R s.heap (bud u' (sbc u - mCel K) (sbw u - mSlo K)) H' locs' (cells + mCel K) (slots + mSlo K) → W p l e R s m args below meth c H' locs' (cells + mCel K) (slots + mSlo K) Q (F0 m (pc + 3) ls st)) :
    W p l e R s m args below meth c H locs cells slots Q (F0 m pc ls ((encA G.1 (mArg K) vs).reverse ++ st)) := by
  obtain ⟨g1, g2, g3, g4, g5, g6, g8, g9⟩ := hv
  have hts := hX.2.2.2.2.1
  obtain ⟨rm, r1, r2, r3, r4, hM⟩ := hC K vs Q' _ hcl (Nat.le_refl _) (Nat.le_refl _)
  have k9 : ∀ (v : Int) (u' : Sto) (H' : Heap) (locs' : List Loc), okv (mRty K) v → Q' v u' → At G R s.heap (bud u' (sbc u - mCel K) (sbw u - mSlo K)) H' locs' (cells + mCel K) (slots + mSlo K) → W p l e R s m args below meth c H' locs' (cells + mCel K) (slots + mSlo K) Q (F0 m (pc + 3) ls ((encR G.1 (mRty K) v).toList ++ st)) := fun v u' H' locs' _ hq hA' => by
    rw [g6]; exact k v u' H' locs' hq hA'
  match hm : mArg K, vs, hok with
  | [], _, _ => rw [hm] at g9; cases g9
  | t :: ts, [], hok => exact hok.elim
  | t :: ts, v0 :: vt, hok' =>
    rw [hm] at g9 g8
    cases g9
    have hv0 : v0 ≠ 0 := hlive v0 rfl
    have e0 : encA G.1 (2 :: ts) (v0 :: vt) = .ref (G.1 v0) :: encA G.1 ts vt := by simp only [encA]; rw [enc_2 _ hv0]
    have hp := pc_pre (K := K) (vs := v0 :: vt) hX hA (by rw [hm]; exact hok') (mCel K) (mSlo K)
    rw [hm, e0] at hp
    have hn : ∀ sig, parseMethodDescriptor (mNam K).desc = some sig → ts.length = sig.parameters.length := fun sig h => by
      rw [h] at g8; simp at g8; omega
    rw [e0, List.reverse_cons, List.append_assoc]
    rcases g2 with g2 | ⟨host, g2⟩
    · have hB := callB_at (l := l) hX g1 g2 hn r1 r2 r3 r4
      rw [g5] at hB
      exact run_on (u := u) (va_runI (As := encA G.1 ts vt) (rest := st) (b := G.1 v0) (n := ts.length) (Ts := gTbl) (own := kC ow) ⟨hX.1, hX.2.1, hX.2.2.1, hX.2.2.2.1, hts⟩ hM ⟨hB, g4, hts _ g3⟩
        ⟨pc_blind G K _ _, hp⟩ rfl (encA_len _ _ _ hok'.2) hls rfl (lv_room hcat) hd ⟨by have := hA.2.2.1; omega, by have := hA.2.2.2; omega⟩) hA hb k9
    · obtain ⟨m1, m2, m3⟩ := id g1
      have hws : ∀ w ∈ wsOf K, ∀ (a' : Array Value) (U : State), s.WarmedH U.vm → w.before a' U = true := fun w hw => by
        rcases List.mem_cons.mp hw with rfl | hw
        · exact gt_pay hts _ m1
        · exact gt_pay hts _ hw
      have hcode := hts _ m1
      have hin9 : mWor K ∈ wsOf K := List.mem_cons_self
      unfold mWor at hcode hin9
      rw [g5] at hcode hin9
      exact run_on (u := u) (va_runIN (As := encA G.1 ts vt) (rest := st) (b := G.1 v0) (n := ts.length) (Ts := gTbl) (own := kC ow) (host := host) ⟨hX.1, hX.2.1, hX.2.2.1, hX.2.2.2.1, hts⟩ hM ⟨⟨⟨r1, r2, r3, r4, hws, hin9⟩, hcode, hts _ m2, m3, hn, hts _ g2⟩, g4, hts _ g3⟩
        ⟨pc_blind G K _ _, hp⟩ rfl (encA_len _ _ _ hok'.2) hls rfl (lv_room hcat) hd ⟨by have := hA.2.2.1; omega, by have := hA.2.2.2; omega⟩) hA hb k9
end CI
def nwoP (cp cp2 k K : Nat) (a : XL) : XE := (fun ga d cs => match nx (.new cp) 3 cs with
    | some cs1 => match nx .dup 1 cs1 with
      | some cs2 => match a.1 ga (d + 2) cs2 with
        | some (ts, cs3) => if 2 :: ts = mArg K ∧ d ≤ 7 then (nx (.invokespecial cp2) 3 cs3).map (fun x => (2, x)) else none
        | _ => none
      | _ => none
    | _ => none, fun cl Q r u => alcok u k (kN k) ∧ a.2 cl (fun vs u2 => wcl cl K (fun _ u3 => Q (stn u) u3) (stn u :: vs) u2) r (alc u (kN k)))
theorem nwo_d (cp cp2 k K : Nat) (a : XL) (ha : DecL a) : DecE (nwoP cp cp2 k K a) := by
  intro ga d cs t cs' cc hc hD
  simp only [nwoP] at hc
  split at hc
  case h_2 => cases hc
  rename_i h0
  split at hc
  case h_2 => cases hc
  rename_i h1
  split at hc
  case h_2 => cases hc
  rename_i h2
  split at hc
  case isFalse => cases hc
  exact map_nx hc (ha _ _ _ _ _ _ h2 (nx_ok h1 (nx_ok h0 hD).2.2).2.2)
theorem nwo_ok (ow cp cp2 k K : Nat) (hf : NewAt ow cp k) (hf2 : SpecAt ow cp2 K) (a : XL) (ha : SndL ow a) : SndE ow (nwoP cp cp2 k K a) := by
  intro p l e R s m args below meth c cc nL G Qf cl hX hC ga d cs t cs' hc hD r u H locs cells slots ls st Q hL hA hs hw kz
  simp only [nwoP] at hc hw
  split at hc
  case h_2 => cases hc
  rename_i cs1 h0
  split at hc
  case h_2 => cases hc
  rename_i cs2 h1
  split at hc
  case h_2 => cases hc
  rename_i ts cs3 h2
  split at hc
  case isFalse => cases hc
  rename_i hcond
  obtain ⟨hts9, hd7⟩ := hcond
  obtain ⟨x, hx, e1⟩ := Option.map_eq_some_iff.mp hc
  cases e1
  obtain ⟨a1, a2, a3⟩ := nx_ok h0 hD
  obtain ⟨b1, b2, b3⟩ := nx_ok h1 a3
  obtain ⟨hok, hw⟩ := hw
  obtain ⟨f1, f2, f3, f4, f5, f6, f7, f8⟩ := hf
  have hts := hX.2.2.2.2.1
  have hK := hX.2.2.2.2.2.1
  have hkn := hK.2.1 k f4 f5
  have hfc : s.vm.findClass (kC k) = some (G.2.1 k) := hkn.2.1
  have hpos : 0 < stn u := by have := hA.1.2.2.1; omega
  refine W.newcK hX.1 hX.2.1 hX.2.2.2.1 (hts _ f1) (hts _ f2) (hts _ f3) rfl a1 (by have := hA.2.2.1; have := hok.2.2.1; omega) (by have := hA.2.2.2; have := hok.2.2.2; omega) hfc rfl ?_
  intro H1 kCl e1 e2 e3 e4
  obtain ⟨cell, q1, q2, q3, q4⟩ := u_born (kT k) hts f6 hkn e1 e2 f7
  obtain ⟨hA1, ha1, hl1⟩ := at_alc (U := s) hA hK hok f4 q1 e3 e4 q3 q2 (fun h => by omega) (fun j hj => by
    rw [kl_obj hok.1 f4 f5] at hj
    rw [q4 j (by omega)]
    exact congrArg some (dfl_ok (f8 j (by omega)) G.1)) (Nat.le_trans hX.2.2.2.2.2.2.1 hA.2.1.1)
  show W p l e R s m args below meth c H1 locs (cells + 1) (slots + kN k) Qf (F0 m (pcOf cs + 3) ls (.ref H.size :: st))
  rw [← a2, ← ha1]
  refine lv_dup hX.1 hX.2.1 b1 rfl ?_
  rw [← b2]
  refine ha p l e R s m args below meth c cc nL G Qf cl hX hC ga (d + 2) cs2 ts cs3 h2 b3 r (alc u (kN k)) H1 locs (cells + 1) (slots + kN k) ls (.ref (G.1 (stn u)) :: .ref (G.1 (stn u)) :: st) _ hL hA1 ?_ hw ?_
  · rw [cats_cons, cats_cons]; show 1 + (1 + cats st) ≤ d + 2; omega
  intro vs u2 H2 locs2 cells2 slots2 hv hA2 hq2 hD2
  obtain ⟨c1, c2, c3⟩ := nx_ok hx hD2
  have e9 : (encA G.1 ts vs).reverse ++ (Value.ref (G.1 (stn u)) :: Value.ref (G.1 (stn u)) :: st) = (encA G.1 (mArg K) (stn u :: vs)).reverse ++ (Value.ref (G.1 (stn u)) :: st) := by
    rw [← hts9]
    simp only [encA, List.reverse_cons, List.append_assoc]
    rw [enc_2 _ (by omega)]
    rfl
  rw [e9]
  refine call_init hX hC hf2 c1 hA2 (by rw [← hts9]; exact ⟨trivial, hv⟩) (by rw [cats_cons]; show 1 + cats st ≤ 8; omega) (fun v hv => by cases hv; omega) hL.1.1 hq2.1 hq2.2 ?_
  intro v u3 H3 locs3 hQ3 hA3
  have k' := kz (stn u) _ H3 locs3 _ _ trivial hA3 hQ3 c3
  rw [c2, enc_2 _ (by omega)] at k'
  exact k'
def nwo {ow cp cp2 k K : Nat} (hf : NewAt ow cp k) (hf2 : SpecAt ow cp2 K) (a : LX ow) : EX ow := ⟨nwoP cp cp2 k K a.1, nwo_ok ow cp cp2 k K hf hf2 a.1 a.2.1, nwo_d cp cp2 k K a.1 a.2.2⟩
end
section
/-! a method's contract out of its tree -/
def decB (cc : ByteArray) : Cds → Bool
  | [] => true
  | q :: t => decide (decode cc q.1 = .ok (q.2.1, q.2.2)) && (t.isEmpty || pcOf t == q.1 + q.2.2) && decB cc t
theorem decB_ok {cc : ByteArray} : ∀ {cs : Cds}, decB cc cs = true → Dec cc cs
  | [], _ => trivial
  | q :: t, h => by
    simp only [decB, Bool.and_eq_true, Bool.or_eq_true, decide_eq_true_eq, beq_iff_eq, List.isEmpty_iff] at h
    exact ⟨h.1.1, h.1.2, decB_ok h.2⟩
def gam0 : Nat → List Nat → Gam
  | _, [] => []
  | i, t :: ts => (i, t) :: gam0 (if t = 1 then i + 2 else i + 1) ts
def slv : List Nat → List Int → List Int
  | t :: ts, v :: vs => if t = 1 then v :: 0 :: slv ts vs else v :: slv ts vs
  | _, _ => []
def rho0 (ts : List Nat) (vs : List Int) : Rho := fun i => (slv ts vs).getD i 0
def wid : List Nat → Nat
  | [] => 0
  | t :: ts => (if t = 1 then 2 else 1) + wid ts
theorem gam0_lv (al : Int → Nat) : ∀ (ts : List Nat) (vs : List Int) (i : Nat) (r : Rho), okA ts vs → (∀ j, r (i + j) = (slv ts vs).getD j 0) →
    (gam0 i ts).map (fun q => (q.1, enc al q.2 (r q.1))) = lv_args i (encA al ts vs) ∧ ∀ q ∈ gam0 i ts, okv q.2 (r q.1)
  | [], [], i, r, _, _ => ⟨rfl, fun q hq => by cases hq⟩
  | [], _ :: _, _, _, h, _ => h.elim
  | _ :: _, [], _, _, h, _ => h.elim
  | t :: ts, v :: vs, i, r, h, hr => by
    have h0 : r i = v := by
      have := hr 0
      rw [Nat.add_zero] at this
      rw [this]
      unfold slv
      split <;> rfl
    by_cases ht : t = 1
    · have ih := gam0_lv al ts vs (i + 2) r h.2 (fun j => by
        have := hr (j + 2)
        rw [show i + 2 + j = i + (j + 2) by omega, this]
        simp [slv, ht])
      subst ht
      refine ⟨?_, fun q hq => ?_⟩
      · show (i, enc al 1 (r i)) :: (gam0 (i + 2) ts).map _ = (i, enc al 1 v) :: lv_args (i + 2) _
        rw [h0, ih.1]
      · rcases List.mem_cons.mp hq with rfl | hq
        · show okv 1 (r i); rw [h0]; exact h.1
        · exact ih.2 q hq
    · have ih := gam0_lv al ts vs (i + 1) r h.2 (fun j => by
        have := hr (j + 1)
        rw [show i + 1 + j = i + (j + 1) by omega, this]
        simp [slv, ht])
      have hc : ¬ (enc al t v).category = 2 := by rw [cat_enc, if_neg ht]; decide
      refine ⟨?_, fun q hq => ?_⟩
      · simp only [gam0, encA, lv_args, List.map_cons, if_neg ht, if_neg hc]
        rw [h0, ih.1]
      · simp only [gam0, if_neg ht] at hq
        rcases List.mem_cons.mp hq with rfl | hq
        · show okv t (r i); rw [h0]; exact h.1
        · exact ih.2 q hq
theorem sl_wid (al : Int → Nat) : ∀ (ts : List Nat) (vs : List Int), okA ts vs → (lg_sl (encA al ts vs)).length = wid ts
  | [], [], _ => rfl
  | [], _ :: _, h => h.elim
  | _ :: _, [], h => h.elim
  | t :: ts, v :: vs, h => by
    have ih := sl_wid al ts vs h.2
    unfold lg_sl at ih ⊢
    simp only [encA, wid, List.flatMap_cons, List.length_append, ih, cat_enc]
    by_cases ht : t = 1
    · simp [ht]
    · simp [ht]
def rtOK (K : Nat) : Prop := (mRty K = 0 ∧ mRet K = some .int) ∨ (mRty K = 1 ∧ mRet K = some .long) ∨ (mRty K = 3 ∧ mRet K = some .boolean) ∨ (mRty K = 9 ∧ mRet K = none)
def rmD (d K : Nat) : Room := { frames := d, cells := mCel K, slots := mSlo K, locals := 70 * d }
abbrev BT : Type := ClT → List Int → (Int → Sto → Prop) → Sto → Prop
theorem ofWF {l : Launch} {y : MethodName} {ws ws' : List Cond} {rm : Room} {Pc : Array Value → State → Prop} {Qc : Array Value → State → Outcome → State → Prop} {mc ms : Nat} {free : Addr → Prop} {cc : ByteArray} {maxL : Nat} {ret : Option FieldType}
    (hy : plainFor y = true) (hw : ws = Cond.code y cc maxL ret :: ws')
    (body : ∀ p e s m args below meth c s₁, BodyLoose p l y (headSpec ws rm) cc maxL ret e s m args below meth c s₁ → c.maxLocals = maxL → Pc args s →
      W p l e (headSpec ws rm).room s m args below meth c s.heap [] 0 0 (MQ below Qc args s mc ms free) (entryFrame m args maxL)) : Met l y ws rm Pc Qc mc ms free := by
  refine MetFree.of_bodySF (code := cc) (maxLocals := maxL) (ret := ret) hy ?_ ?_
  · intro args s m h hn
    obtain ⟨meth, c, h1, h2, h3, h4, h5, h6, -, -⟩ := Cond.code_spec hn (atoms_spec (ws := ws) h _ (by rw [hw]; exact List.mem_cons_self))
    exact ⟨meth, c, h1, h2, h3, h4, h5, h6⟩
  · intro p e s m args below meth c s₁ B hml hP _
    have hh0 : s₁.heap = s.heap := by rw [B.state]; rfl
    obtain ⟨t, a1, o, b1, b2, b3⟩ := body p e s m args below meth c s₁ B hml hP s₁ hh0 (Stand.of_body B)
    exact ⟨t, o, a1, b1, b2, ⟨b3.1, b3.2⟩⟩
def runB {ow : Nat} (K : Nat) (b : SX ow) : BT := fun cl vs Q u => b.1.2 cl (fun _ _ => False) (fun _ _ => False) Q (rho0 (mArg K) vs) u
def BodyOK (K : Nat) (f : BT) : Prop := ∀ (l : Launch) (G : Geo) (cl : ClT) (d : Nat) (vs : List Int) (Q : Int → Sto → Prop) (u : Sto), l.flags = flags0 → ClOK l (rmD (d + 1) K) G cl → f cl vs Q u → sbc u ≤ mCel K → sbw u ≤ mSlo K →
  Met l (mNam K) (wsOf K) (rmD (d + 1) K) (PcOf G K vs u) (QcOf G K Q) (mCel K) (mSlo K) (fun q => G.2.2.2 ≤ q)
def chkB {ow : Nat} (K : Nat) (b : SX ow) (code : Cds) : Bool := match b.1.1 (gam0 0 (mArg K)) (mMax K) 0 0 [] (mRty K) code with
  | some (_, []) => true
  | _ => false
theorem body_ok (ow K : Nat) (b : SX ow) (code : Cds) (hown : kC ow = (mNam K).cls) (hini : 100 ≤ ow → (mNam K).name = "<init>") (hchk : chkB K b code = true) (hdec : Dec (mCod K) code) (hpc : pcOf code = 0) (hret : rtOK K) (hpl : plainFor (mNam K) = true) (hwid : wid (mArg K) ≤ mMax K) : BodyOK K (runB K b) := by
  intro l G cl d vs Q u hfl hC hf hbc hbw
  refine ofWF (cc := mCod K) (maxL := mMax K) (ret := mRet K) hpl rfl ?_
  intro p e s m args below meth c s₁ B hml hv
  obtain ⟨rfl, hok, hrel, hK, hbase, hSO⟩ := hv
  have hts := atoms_spec (ws := wsOf K) B.pre
  have hX : MX p (rmD (d + 1) K) s m (encA G.1 (mArg K) vs).toArray c (mCod K) (mMax K) ow G :=
    ⟨B.exec, B.bytes, hml, by rw [hown]; exact findClass_of_methodNamed B.named, fun w hw => hts w (List.mem_cons_of_mem _ hw), hK, hbase, Nat.succ_le_succ (Nat.zero_le d), by show 40 ≤ 70 * (d + 1); omega, hSO, fun h mt hmt => (name_of_methodNamed B.named hmt).1.trans (hini h)⟩
  rw [lg_entry_eq]
  have hl := lv_entry (encA G.1 (mArg K) vs) (n := mMax K) (by rw [sl_wid _ _ _ hok]; exact hwid)
  generalize (lg_sl (encA G.1 (mArg K) vs) ++ List.replicate (mMax K - (lg_sl (encA G.1 (mArg K) vs)).length) Slot.unset).toArray = ls at hl ⊢
  have hg := gam0_lv G.1 (mArg K) vs 0 (rho0 (mArg K) vs) hok (fun j => by rw [Nat.zero_add]; rfl)
  have hL : LR G (mMax K) (gam0 0 (mArg K)) (rho0 (mArg K) vs) ls := ⟨by rw [hg.1]; exact hl, hg.2⟩
  have hA : At G (rmD (d + 1) K) s.heap u s.heap [] 0 0 := ⟨hrel, ⟨Nat.le_refl _, fun _ _ => rfl, fun _ h => by cases h⟩, by rw [Nat.zero_add]; exact hbc, by rw [Nat.zero_add]; exact hbw⟩
  have hrt9 : mRty K % 20 = mRty K := by rcases hret with h | h | h | h <;> rw [h.1]
  have hrt8 : mRty K < 20 := by rcases hret with h | h | h | h <;> rw [h.1] <;> decide
  unfold chkB at hchk
  split at hchk
  case h_2 => cases hchk
  rename_i ga9 h0
  have hlocks := B.notSynchronized
  suffices h9 : W p l e (rmD (d + 1) K) s m (encA G.1 (mArg K) vs).toArray below meth c s.heap [] 0 0 (MQ below (QcOf G K Q) (encA G.1 (mArg K) vs).toArray s (mCel K) (mSlo K) fun q => G.2.2.2 ≤ q) (F0 m (pcOf code) ls []) by
    rw [hpc] at h9
    exact h9
  refine b.2.1 p l e (rmD (d + 1) K) s m _ below meth c (mCod K) (mMax K) G _ cl hX hC (gam0 0 (mArg K)) 0 0 [] (mRty K) code ga9 [] h0 hdec (rho0 (mArg K) vs) u s.heap [] 0 0 ls _ _ Q hL hA hf ?_ ?_ ?_ ?_
  · intro _ _ _ _ _ _ _ _ _ h; exact h.elim
  · intro _ _ _ _ _ _ _ _ _ h; exact h.elim
  · intro v u' H' locs' cells' slots' ls' pc hv hA' hq hd
    rw [hrt9] at hv hd ⊢
    obtain ⟨hrel', ⟨f1, f2, f3⟩, b1, b2⟩ := hA'
    have fin : ∀ o, o = encR G.1 (mRty K) v → ∀ t : State, t.heap = H' → s.WarmedH t.vm → QcOf G K Q (encA G.1 (mArg K) vs).toArray s (.returned o) t := fun o ho t ht _ =>
      ⟨⟨v, u', by rw [ho], hv, hq, by rw [ht]; exact hrel'⟩, by rw [ht]; exact f1, fun q hq => by rw [ht]; exact f2 q hq⟩
    have c1 : cells' ≤ mCel K := by have : cells' + sbc u' ≤ mCel K := b1; omega
    have c2 : slots' ≤ mSlo K := by have : slots' + sbw u' ≤ mSlo K := b2; omega
    refine W.widen c1 c2 ?_
    have hrr := B.returns
    rcases hret with ⟨e1, e2⟩ | ⟨e1, e2⟩ | ⟨e1, e2⟩ | ⟨e1, e2⟩
    · rw [e1] at hd fin hv ⊢
      exact W.iret hX.1 hX.2.1 (hrr.trans e2) (fin _ rfl) f3 hd
    · rw [e1] at hd fin hv ⊢
      exact W.lret hX.1 hX.2.1 (hrr.trans e2) (fin _ rfl) f3 hd
    · rw [e1] at hd fin hv ⊢
      refine W.zret (ty := .boolean) hX.1 hX.2.1 (hrr.trans e2) ?_ (fin _ rfl) f3 hd
      have hv : 0 ≤ v ∧ v ≤ 1 := hv
      have : v = 0 ∨ v = 1 := by omega
      rcases this with rfl | rfl <;> rfl
    · rw [e1] at hd fin hv ⊢
      exact W.vret hX.1 hX.2.1 (hrr.trans e2) (fin _ rfl) f3 hd
  · intro h; omega
end
section
/-! places of the pools (by program) -/
theorem mo_0 : MthOK 0 := ⟨gw1 29 rfl rfl, gw1 1 (by decide +kernel) rfl, by decide +kernel⟩
theorem mo_1 : MthOK 1 := ⟨gw1 37 rfl rfl, gw1 2 (by decide +kernel) rfl, by decide +kernel⟩
theorem mo_2 : MthOK 2 := ⟨gw1 68 rfl rfl, gw1 3 (by decide +kernel) rfl, by decide +kernel⟩
theorem mo_3 : MthOK 3 := ⟨gw1 91 rfl rfl, gw1 4 (by decide +kernel) rfl, by decide +kernel⟩
theorem mo_4 : MthOK 4 := ⟨gw1 161 rfl rfl, gw1 5 (by decide +kernel) rfl, by decide +kernel⟩
theorem mo_5 : MthOK 5 := ⟨gw2 1 rfl rfl, gw1 6 (by decide +kernel) rfl, by decide +kernel⟩
theorem mo_6 : MthOK 6 := ⟨gw2 60 rfl rfl, gw1 7 (by decide +kernel) rfl, by decide +kernel⟩
theorem mo_7 : MthOK 7 := ⟨gw2 113 rfl rfl, gw1 8 (by decide +kernel) rfl, by decide +kernel⟩
theorem mo_8 : MthOK 8 := ⟨gw2 158 rfl rfl, gw1 9 (by decide +kernel) rfl, by decide +kernel⟩
theorem mo_9 : MthOK 9 := ⟨gw2 199 rfl rfl, gw1 10 (by decide +kernel) rfl, by decide +kernel⟩
theorem mo_10 : MthOK 10 := ⟨gw2 228 rfl rfl, gw1 11 (by decide +kernel) rfl, by decide +kernel⟩
theorem mo_11 : MthOK 11 := ⟨gw3 36 rfl rfl, gw1 12 (by decide +kernel) rfl, by decide +kernel⟩
theorem mo_12 : MthOK 12 := ⟨gw3 125 rfl rfl, gw1 1 (by decide +kernel) rfl, by decide +kernel⟩
theorem mo_13 : MthOK 13 := ⟨gw3 129 rfl rfl, gw1 2 (by decide +kernel) rfl, by decide +kernel⟩
theorem mo_14 : MthOK 14 := ⟨gw3 133 rfl rfl, gw1 1 (by decide +kernel) rfl, by decide +kernel⟩
theorem mo_15 : MthOK 15 := ⟨gw3 137 rfl rfl, gw1 2 (by decide +kernel) rfl, by decide +kernel⟩
theorem mo_16 : MthOK 16 := ⟨gw3 141 rfl rfl, gw1 1 (by decide +kernel) rfl, by decide +kernel⟩
theorem mo_17 : MthOK 17 := ⟨gw3 145 rfl rfl, gw1 4 (by decide +kernel) rfl, by decide +kernel⟩
theorem mo_18 : MthOK 18 := ⟨gw3 149 rfl rfl, gw1 2 (by decide +kernel) rfl, by decide +kernel⟩
theorem mo_19 : MthOK 19 := ⟨gw3 152 rfl rfl, gw1 14 (by decide +kernel) rfl, by decide +kernel⟩
theorem mo_20 : MthOK 20 := ⟨gw3 156 rfl rfl, gw1 4 (by decide +kernel) rfl, by decide +kernel⟩
theorem mo_21 : MthOK 21 := ⟨gw3 160 rfl rfl, gw1 2 (by decide +kernel) rfl, by decide +kernel⟩
theorem mo_22 : MthOK 22 := ⟨gw3 164 rfl rfl, gw1 4 (by decide +kernel) rfl, by decide +kernel⟩
theorem mo_23 : MthOK 23 := ⟨gw3 168 rfl rfl, gw1 2 (by decide +kernel) rfl, by decide +kernel⟩
theorem mo_24 : MthOK 24 := ⟨gw3 172 rfl rfl, gw1 2 (by decide +kernel) rfl, by decide +kernel⟩
theorem mo_25 : MthOK 25 := ⟨gw3 176 rfl rfl, gw1 4 (by decide +kernel) rfl, by decide +kernel⟩
theorem mo_26 : MthOK 26 := ⟨gw3 180 rfl rfl, gw1 2 (by decide +kernel) rfl, by decide +kernel⟩
theorem mo_27 : MthOK 27 := ⟨gw3 185 rfl rfl, gw1 2 (by decide +kernel) rfl, by decide +kernel⟩
theorem mo_28 : MthOK 28 := ⟨gw3 189 rfl rfl, gw1 2 (by decide +kernel) rfl, by decide +kernel⟩
theorem mo_29 : MthOK 29 := ⟨gw3 193 rfl rfl, gw1 4 (by decide +kernel) rfl, by decide +kernel⟩
theorem mo_30 : MthOK 30 := ⟨gw3 197 rfl rfl, gw1 2 (by decide +kernel) rfl, by decide +kernel⟩
theorem mo_31 : MthOK 31 := ⟨gw3 202 rfl rfl, gw1 2 (by decide +kernel) rfl, by decide +kernel⟩
theorem mo_32 : MthOK 32 := ⟨gw3 206 rfl rfl, gw1 2 (by decide +kernel) rfl, by decide +kernel⟩
theorem mo_33 : MthOK 33 := ⟨gw3 211 rfl rfl, gw1 4 (by decide +kernel) rfl, by decide +kernel⟩
theorem mo_34 : MthOK 34 := ⟨gw3 215 rfl rfl, gw1 2 (by decide +kernel) rfl, by decide +kernel⟩
theorem mo_35 : MthOK 35 := ⟨gw3 219 rfl rfl, gw1 5 (by decide +kernel) rfl, by decide +kernel⟩
theorem mo_36 : MthOK 36 := ⟨gw3 223 rfl rfl, gw1 4 (by decide +kernel) rfl, by decide +kernel⟩
theorem mo_37 : MthOK 37 := ⟨gw3 227 rfl rfl, gw1 5 (by decide +kernel) rfl, by decide +kernel⟩
theorem mo_38 : MthOK 38 := ⟨gw3 231 rfl rfl, gw1 4 (by decide +kernel) rfl, by decide +kernel⟩
theorem mo_39 : MthOK 39 := ⟨gw3 235 rfl rfl, gw1 2 (by decide +kernel) rfl, by decide +kernel⟩
theorem mo_40 : MthOK 40 := ⟨gw3 239 rfl rfl, gw1 7 (by decide +kernel) rfl, by decide +kernel⟩
theorem mo_41 : MthOK 41 := ⟨gw4 3 rfl rfl, gw1 1 (by decide +kernel) rfl, by decide +kernel⟩
theorem mo_42 : MthOK 42 := ⟨gw4 7 rfl rfl, gw1 3 (by decide +kernel) rfl, by decide +kernel⟩
theorem mo_43 : MthOK 43 := ⟨gw4 12 rfl rfl, gw1 2 (by decide +kernel) rfl, by decide +kernel⟩
theorem mo_44 : MthOK 44 := ⟨gw4 16 rfl rfl, gw1 3 (by decide +kernel) rfl, by decide +kernel⟩
theorem mo_45 : MthOK 45 := ⟨gw4 20 rfl rfl, gw1 3 (by decide +kernel) rfl, by decide +kernel⟩
theorem mo_46 : MthOK 46 := ⟨gw4 24 rfl rfl, gw1 3 (by decide +kernel) rfl, by decide +kernel⟩
theorem mo_47 : MthOK 47 := ⟨gw4 28 rfl rfl, gw1 3 (by decide +kernel) rfl, by decide +kernel⟩
theorem mo_48 : MthOK 48 := ⟨gw4 33 rfl rfl, gw1 3 (by decide +kernel) rfl, by decide +kernel⟩
theorem mo_49 : MthOK 49 := ⟨gw4 42 rfl rfl, gw1 3 (by decide +kernel) rfl, by decide +kernel⟩
theorem mo_50 : MthOK 50 := ⟨gw4 45 rfl rfl, gw1 3 (by decide +kernel) rfl, by decide +kernel⟩
theorem mo_51 : MthOK 51 := ⟨gw4 54 rfl rfl, gw1 1 (by decide +kernel) rfl, by decide +kernel⟩
theorem mo_52 : MthOK 52 := ⟨gw4 58 rfl rfl, gw1 4 (by decide +kernel) rfl, by decide +kernel⟩
theorem mo_53 : MthOK 53 := ⟨gw4 62 rfl rfl, gw1 5 (by decide +kernel) rfl, by decide +kernel⟩
theorem mo_54 : MthOK 54 := ⟨gw4 66 rfl rfl, gw1 1 (by decide +kernel) rfl, by decide +kernel⟩
theorem mo_55 : MthOK 55 := ⟨gw4 69 rfl rfl, gw1 1 (by decide +kernel) rfl, by decide +kernel⟩
theorem mo_56 : MthOK 56 := ⟨gw4 73 rfl rfl, gw1 14 (by decide +kernel) rfl, by decide +kernel⟩
theorem mo_57 : MthOK 57 := ⟨gw4 77 rfl rfl, gw1 1 (by decide +kernel) rfl, by decide +kernel⟩
theorem mo_58 : MthOK 58 := ⟨gw4 81 rfl rfl, gw1 7 (by decide +kernel) rfl, by decide +kernel⟩
theorem mo_59 : MthOK 59 := ⟨gw4 85 rfl rfl, gw1 7 (by decide +kernel) rfl, by decide +kernel⟩
theorem mo_60 : MthOK 60 := ⟨gw4 88 rfl rfl, gw1 14 (by decide +kernel) rfl, by decide +kernel⟩
theorem mo_61 : MthOK 61 := ⟨gw4 92 rfl rfl, gw1 5 (by decide +kernel) rfl, by decide +kernel⟩
theorem mo_62 : MthOK 62 := ⟨gw4 97 rfl rfl, gw1 7 (by decide +kernel) rfl, by decide +kernel⟩
theorem mo_63 : MthOK 63 := ⟨gw4 101 rfl rfl, gw1 4 (by decide +kernel) rfl, by decide +kernel⟩
theorem mo_64 : MthOK 64 := ⟨gw4 106 rfl rfl, gw1 7 (by decide +kernel) rfl, by decide +kernel⟩
theorem mo_65 : MthOK 65 := ⟨gw4 110 rfl rfl, gw1 1 (by decide +kernel) rfl, by decide +kernel⟩
theorem mo_66 : MthOK 66 := ⟨gw4 114 rfl rfl, gw1 7 (by decide +kernel) rfl, by decide +kernel⟩
theorem mo_67 : MthOK 67 := ⟨gw4 119 rfl rfl, gw1 1 (by decide +kernel) rfl, by decide +kernel⟩
theorem mo_68 : MthOK 68 := ⟨gw4 123 rfl rfl, gw1 7 (by decide +kernel) rfl, by decide +kernel⟩
theorem mo_69 : MthOK 69 := ⟨gw4 127 rfl rfl, gw1 4 (by decide +kernel) rfl, by decide +kernel⟩
theorem mo_70 : MthOK 70 := ⟨gw4 131 rfl rfl, gw1 4 (by decide +kernel) rfl, by decide +kernel⟩
theorem mo_71 : MthOK 71 := ⟨gw4 135 rfl rfl, gw1 4 (by decide +kernel) rfl, by decide +kernel⟩
theorem mo_72 : MthOK 72 := ⟨gw4 139 rfl rfl, gw1 4 (by decide +kernel) rfl, by decide +kernel⟩
theorem mo_73 : MthOK 73 := ⟨gw4 143 rfl rfl, gw1 7 (by decide +kernel) rfl, by decide +kernel⟩
theorem mo_74 : MthOK 74 := ⟨gw4 147 rfl rfl, gw1 7 (by decide +kernel) rfl, by decide +kernel⟩
theorem mo_75 : MthOK 75 := ⟨gw4 151 rfl rfl, gw1 6 (by decide +kernel) rfl, by decide +kernel⟩
theorem mo_76 : MthOK 76 := ⟨gw4 155 rfl rfl, gw1 6 (by decide +kernel) rfl, by decide +kernel⟩
theorem mo_77 : MthOK 77 := ⟨gw4 160 rfl rfl, gw1 6 (by decide +kernel) rfl, by decide +kernel⟩
theorem mo_78 : MthOK 78 := ⟨gw4 166 rfl rfl, gw1 3 (by decide +kernel) rfl, by decide +kernel⟩
theorem mo_79 : MthOK 79 := ⟨gw4 169 rfl rfl, gw1 3 (by decide +kernel) rfl, by decide +kernel⟩
theorem mo_80 : MthOK 80 := ⟨gw4 172 rfl rfl, gw1 3 (by decide +kernel) rfl, by decide +kernel⟩
theorem mo_81 : MthOK 81 := ⟨gw4 178 rfl rfl, gw1 6 (by decide +kernel) rfl, by decide +kernel⟩
theorem mo_82 : MthOK 82 := ⟨gw4 183 rfl rfl, gw1 7 (by decide +kernel) rfl, by decide +kernel⟩
theorem mo_83 : MthOK 83 := ⟨gw4 189 rfl rfl, gw1 1 (by decide +kernel) rfl, by decide +kernel⟩
theorem mo_84 : MthOK 84 := ⟨gw4 193 rfl rfl, gw1 1 (by decide +kernel) rfl, by decide +kernel⟩
theorem mo_85 : MthOK 85 := ⟨gw4 197 rfl rfl, gw1 1 (by decide +kernel) rfl, by decide +kernel⟩
theorem mo_86 : MthOK 86 := ⟨gw4 201 rfl rfl, gw1 7 (by decide +kernel) rfl, by decide +kernel⟩
theorem mo_87 : MthOK 87 := ⟨gw4 205 rfl rfl, gw1 1 (by decide +kernel) rfl, by decide +kernel⟩
theorem mo_88 : MthOK 88 := ⟨gw4 209 rfl rfl, gw1 7 (by decide +kernel) rfl, by decide +kernel⟩
theorem mo_89 : MthOK 89 := ⟨gw4 213 rfl rfl, gw1 1 (by decide +kernel) rfl, by decide +kernel⟩
theorem mo_90 : MthOK 90 := ⟨gw4 217 rfl rfl, gw1 7 (by decide +kernel) rfl, by decide +kernel⟩
theorem mo_91 : MthOK 91 := ⟨gw4 221 rfl rfl, gw1 1 (by decide +kernel) rfl, by decide +kernel⟩
theorem mo_92 : MthOK 92 := ⟨gw4 225 rfl rfl, gw1 7 (by decide +kernel) rfl, by decide +kernel⟩
theorem mo_93 : MthOK 93 := ⟨gw4 229 rfl rfl, gw1 1 (by decide +kernel) rfl, by decide +kernel⟩
theorem mo_94 : MthOK 94 := ⟨gw4 233 rfl rfl, gw1 7 (by decide +kernel) rfl, by decide +kernel⟩
theorem mo_95 : MthOK 95 := ⟨gw4 238 rfl rfl, gw1 24 (by decide +kernel) rfl, by decide +kernel⟩
theorem mo_96 : MthOK 96 := ⟨gw5 5 rfl rfl, gw1 1 (by decide +kernel) rfl, by decide +kernel⟩
theorem mo_97 : MthOK 97 := ⟨gw5 9 rfl rfl, gw1 7 (by decide +kernel) rfl, by decide +kernel⟩
theorem mo_98 : MthOK 98 := ⟨gw5 15 rfl rfl, gw1 7 (by decide +kernel) rfl, by decide +kernel⟩
theorem mo_99 : MthOK 99 := ⟨gw5 19 rfl rfl, gw1 7 (by decide +kernel) rfl, by decide +kernel⟩
theorem mo_100 : MthOK 100 := ⟨gw5 29 rfl rfl, gw1 7 (by decide +kernel) rfl, by decide +kernel⟩
theorem mo_101 : MthOK 101 := ⟨gw5 40 rfl rfl, gw1 1 (by decide +kernel) rfl, by decide +kernel⟩
theorem mo_102 : MthOK 102 := ⟨gw5 44 rfl rfl, gw1 7 (by decide +kernel) rfl, by decide +kernel⟩
theorem mo_103 : MthOK 103 := ⟨gw5 48 rfl rfl, gw1 1 (by decide +kernel) rfl, by decide +kernel⟩
theorem mo_104 : MthOK 104 := ⟨gw5 52 rfl rfl, gw1 1 (by decide +kernel) rfl, by decide +kernel⟩
theorem mo_105 : MthOK 105 := ⟨gw5 57 rfl rfl, gw1 6 (by decide +kernel) rfl, by decide +kernel⟩
theorem mo_106 : MthOK 106 := ⟨gw5 61 rfl rfl, gw1 6 (by decide +kernel) rfl, by decide +kernel⟩
theorem mo_107 : MthOK 107 := ⟨gw5 65 rfl rfl, gw1 6 (by decide +kernel) rfl, by decide +kernel⟩
theorem mo_108 : MthOK 108 := ⟨gw5 71 rfl rfl, gw1 1 (by decide +kernel) rfl, by decide +kernel⟩
theorem mo_109 : MthOK 109 := ⟨gw5 75 rfl rfl, gw1 1 (by decide +kernel) rfl, by decide +kernel⟩
theorem mo_110 : MthOK 110 := ⟨gw5 79 rfl rfl, gw1 1 (by decide +kernel) rfl, by decide +kernel⟩
theorem mo_111 : MthOK 111 := ⟨gw5 83 rfl rfl, gw1 1 (by decide +kernel) rfl, by decide +kernel⟩
theorem mo_112 : MthOK 112 := ⟨gw5 87 rfl rfl, gw1 6 (by decide +kernel) rfl, by decide +kernel⟩
theorem mo_113 : MthOK 113 := ⟨gw5 91 rfl rfl, gw1 1 (by decide +kernel) rfl, by decide +kernel⟩
theorem mo_114 : MthOK 114 := ⟨gw5 95 rfl rfl, gw1 1 (by decide +kernel) rfl, by decide +kernel⟩
theorem mo_115 : MthOK 115 := ⟨gw5 100 rfl rfl, gw1 8 (by decide +kernel) rfl, by decide +kernel⟩
theorem mo_116 : MthOK 116 := ⟨gw5 105 rfl rfl, gw1 8 (by decide +kernel) rfl, by decide +kernel⟩
theorem mo_117 : MthOK 117 := ⟨gw5 111 rfl rfl, gw1 8 (by decide +kernel) rfl, by decide +kernel⟩
theorem mo_118 : MthOK 118 := ⟨gw5 115 rfl rfl, gw1 8 (by decide +kernel) rfl, by decide +kernel⟩
theorem mo_119 : MthOK 119 := ⟨gw5 119 rfl rfl, gw1 8 (by decide +kernel) rfl, by decide +kernel⟩
theorem mo_120 : MthOK 120 := ⟨gw5 124 rfl rfl, gw1 1 (by decide +kernel) rfl, by decide +kernel⟩
theorem mo_121 : MthOK 121 := ⟨gw5 128 rfl rfl, gw1 8 (by decide +kernel) rfl, by decide +kernel⟩
theorem mo_122 : MthOK 122 := ⟨gw5 134 rfl rfl, gw1 1 (by decide +kernel) rfl, by decide +kernel⟩
theorem mo_123 : MthOK 123 := ⟨gw5 138 rfl rfl, gw1 1 (by decide +kernel) rfl, by decide +kernel⟩
theorem mo_124 : MthOK 124 := ⟨gw5 142 rfl rfl, gw1 9 (by decide +kernel) rfl, by decide +kernel⟩
theorem mo_125 : MthOK 125 := ⟨gw5 147 rfl rfl, gw1 9 (by decide +kernel) rfl, by decide +kernel⟩
theorem mo_126 : MthOK 126 := ⟨gw5 151 rfl rfl, gw1 9 (by decide +kernel) rfl, by decide +kernel⟩
theorem mo_127 : MthOK 127 := ⟨gw5 155 rfl rfl, gw1 9 (by decide +kernel) rfl, by decide +kernel⟩
theorem mo_128 : MthOK 128 := ⟨gw5 160 rfl rfl, gw1 9 (by decide +kernel) rfl, by decide +kernel⟩
theorem mo_129 : MthOK 129 := ⟨gw5 165 rfl rfl, gw1 6 (by decide +kernel) rfl, by decide +kernel⟩
theorem mo_130 : MthOK 130 := ⟨gw5 169 rfl rfl, gw1 1 (by decide +kernel) rfl, by decide +kernel⟩
theorem mo_131 : MthOK 131 := ⟨gw5 173 rfl rfl, gw1 1 (by decide +kernel) rfl, by decide +kernel⟩
theorem mo_132 : MthOK 132 := ⟨gw5 177 rfl rfl, gw1 1 (by decide +kernel) rfl, by decide +kernel⟩
theorem mo_133 : MthOK 133 := ⟨gw5 181 rfl rfl, gw1 10 (by decide +kernel) rfl, by decide +kernel⟩
theorem mo_134 : MthOK 134 := ⟨gw5 185 rfl rfl, gw1 10 (by decide +kernel) rfl, by decide +kernel⟩
theorem mo_135 : MthOK 135 := ⟨gw5 192 rfl rfl, gw1 10 (by decide +kernel) rfl, by decide +kernel⟩
theorem mo_136 : MthOK 136 := ⟨gw5 196 rfl rfl, gw1 1 (by decide +kernel) rfl, by decide +kernel⟩
theorem mo_137 : MthOK 137 := ⟨gw5 200 rfl rfl, gw1 1 (by decide +kernel) rfl, by decide +kernel⟩
theorem mo_138 : MthOK 138 := ⟨gw5 204 rfl rfl, gw1 11 (by decide +kernel) rfl, by decide +kernel⟩
theorem mo_139 : MthOK 139 := ⟨gw5 209 rfl rfl, gw1 11 (by decide +kernel) rfl, by decide +kernel⟩
theorem mo_140 : MthOK 140 := ⟨gw5 215 rfl rfl, gw1 11 (by decide +kernel) rfl, by decide +kernel⟩
theorem mo_141 : MthOK 141 := ⟨gw5 219 rfl rfl, gw1 11 (by decide +kernel) rfl, by decide +kernel⟩
theorem mo_142 : MthOK 142 := ⟨gw5 223 rfl rfl, gw1 11 (by decide +kernel) rfl, by decide +kernel⟩
theorem mo_143 : MthOK 143 := ⟨gw5 234 rfl rfl, gw1 1 (by decide +kernel) rfl, by decide +kernel⟩
theorem mo_144 : MthOK 144 := ⟨gw5 238 rfl rfl, gw1 12 (by decide +kernel) rfl, by decide +kernel⟩
theorem mo_145 : MthOK 145 := ⟨gw6 2 rfl rfl, gw1 1 (by decide +kernel) rfl, by decide +kernel⟩
theorem mo_146 : MthOK 146 := ⟨gw6 6 rfl rfl, gw1 1 (by decide +kernel) rfl, by decide +kernel⟩
theorem mo_147 : MthOK 147 := ⟨gw6 10 rfl rfl, gw1 12 (by decide +kernel) rfl, by decide +kernel⟩
theorem mo_148 : MthOK 148 := ⟨gw6 14 rfl rfl, gw1 12 (by decide +kernel) rfl, by decide +kernel⟩
theorem mo_149 : MthOK 149 := ⟨gw6 19 rfl rfl, gw1 12 (by decide +kernel) rfl, by decide +kernel⟩
theorem mo_150 : MthOK 150 := ⟨gw6 24 rfl rfl, gw1 12 (by decide +kernel) rfl, by decide +kernel⟩
theorem mo_151 : MthOK 151 := ⟨gw6 30 rfl rfl, gw1 1 (by decide +kernel) rfl, by decide +kernel⟩
theorem mo_152 : MthOK 152 := ⟨gw6 35 rfl rfl, gw1 1 (by decide +kernel) rfl, by decide +kernel⟩
theorem mo_153 : MthOK 153 := ⟨gw6 40 rfl rfl, gw1 1 (by decide +kernel) rfl, by decide +kernel⟩
theorem mo_154 : MthOK 154 := ⟨gw6 44 rfl rfl, gw1 1 (by decide +kernel) rfl, by decide +kernel⟩
theorem mo_155 : MthOK 155 := ⟨gw6 48 rfl rfl, gw1 5 (by decide +kernel) rfl, by decide +kernel⟩
theorem mo_156 : MthOK 156 := ⟨gw6 56 rfl rfl, gw1 1 (by decide +kernel) rfl, by decide +kernel⟩
theorem mo_157 : MthOK 157 := ⟨gw6 121 rfl rfl, gw1 5 (by decide +kernel) rfl, by decide +kernel⟩
theorem mo_158 : MthOK 158 := ⟨gw6 125 rfl rfl, gw1 5 (by decide +kernel) rfl, by decide +kernel⟩
theorem mo_159 : MthOK 159 := ⟨gw6 129 rfl rfl, gw1 4 (by decide +kernel) rfl, by decide +kernel⟩
theorem mo_160 : MthOK 160 := ⟨gw6 136 rfl rfl, gw1 1 (by decide +kernel) rfl, by decide +kernel⟩
theorem mo_161 : MthOK 161 := ⟨gw6 145 rfl rfl, gw1 1 (by decide +kernel) rfl, by decide +kernel⟩
theorem mo_162 : MthOK 162 := ⟨gw6 152 rfl rfl, gw1 1 (by decide +kernel) rfl, by decide +kernel⟩
theorem mo_163 : MthOK 163 := ⟨gw6 156 rfl rfl, gw1 1 (by decide +kernel) rfl, by decide +kernel⟩
theorem mo_164 : MthOK 164 := ⟨gw6 164 rfl rfl, gw1 1 (by decide +kernel) rfl, by decide +kernel⟩
theorem mo_165 : MthOK 165 := ⟨gw6 169 rfl rfl, gw1 13 (by decide +kernel) rfl, by decide +kernel⟩
theorem mo_166 : MthOK 166 := ⟨gw7 152 rfl rfl, gw1 13 (by decide +kernel) rfl, by decide +kernel⟩
theorem mo_167 : MthOK 167 := ⟨gw7 156 rfl rfl, gw1 13 (by decide +kernel) rfl, by decide +kernel⟩
theorem mo_168 : MthOK 168 := ⟨gw7 160 rfl rfl, gw1 13 (by decide +kernel) rfl, by decide +kernel⟩
theorem mo_169 : MthOK 169 := ⟨gw7 163 rfl rfl, gw1 13 (by decide +kernel) rfl, by decide +kernel⟩
theorem mo_170 : MthOK 170 := ⟨gw7 167 rfl rfl, gw1 13 (by decide +kernel) rfl, by decide +kernel⟩
theorem mo_171 : MthOK 171 := ⟨gw7 171 rfl rfl, gw1 13 (by decide +kernel) rfl, by decide +kernel⟩
theorem mo_172 : MthOK 172 := ⟨gw7 176 rfl rfl, gw1 13 (by decide +kernel) rfl, by decide +kernel⟩
theorem mo_173 : MthOK 173 := ⟨gw7 181 rfl rfl, gw1 13 (by decide +kernel) rfl, by decide +kernel⟩
theorem mo_174 : MthOK 174 := ⟨gw7 185 rfl rfl, gw1 15 (by decide +kernel) rfl, by decide +kernel⟩
theorem mo_175 : MthOK 175 := ⟨gw7 195 rfl rfl, gw1 15 (by decide +kernel) rfl, by decide +kernel⟩
theorem mo_176 : MthOK 176 := ⟨gw7 233 rfl rfl, gw1 13 (by decide +kernel) rfl, by decide +kernel⟩
theorem mo_177 : MthOK 177 := ⟨gw7 238 rfl rfl, gw1 13 (by decide +kernel) rfl, by decide +kernel⟩
theorem mo_178 : MthOK 178 := ⟨gw8 1 rfl rfl, gw1 13 (by decide +kernel) rfl, by decide +kernel⟩
theorem mo_179 : MthOK 179 := ⟨gw8 5 rfl rfl, gw1 13 (by decide +kernel) rfl, by decide +kernel⟩
theorem mo_180 : MthOK 180 := ⟨gw8 9 rfl rfl, gw1 13 (by decide +kernel) rfl, by decide +kernel⟩
theorem mo_181 : MthOK 181 := ⟨gw8 14 rfl rfl, gw1 13 (by decide +kernel) rfl, by decide +kernel⟩
theorem mo_182 : MthOK 182 := ⟨gw8 18 rfl rfl, gw1 13 (by decide +kernel) rfl, by decide +kernel⟩
theorem mo_183 : MthOK 183 := ⟨gw8 22 rfl rfl, gw1 13 (by decide +kernel) rfl, by decide +kernel⟩
theorem mo_184 : MthOK 184 := ⟨gw8 26 rfl rfl, gw1 13 (by decide +kernel) rfl, by decide +kernel⟩
theorem mo_185 : MthOK 185 := ⟨gw8 32 rfl rfl, gw1 13 (by decide +kernel) rfl, by decide +kernel⟩
theorem mo_186 : MthOK 186 := ⟨gw8 36 rfl rfl, gw1 13 (by decide +kernel) rfl, by decide +kernel⟩
theorem mo_187 : MthOK 187 := ⟨gw8 40 rfl rfl, gw1 13 (by decide +kernel) rfl, by decide +kernel⟩
theorem mo_188 : MthOK 188 := ⟨gw8 43 rfl rfl, gw1 13 (by decide +kernel) rfl, by decide +kernel⟩
theorem mo_189 : MthOK 189 := ⟨gw8 48 rfl rfl, gw1 13 (by decide +kernel) rfl, by decide +kernel⟩
theorem mo_190 : MthOK 190 := ⟨gw8 52 rfl rfl, gw1 13 (by decide +kernel) rfl, by decide +kernel⟩
theorem mo_191 : MthOK 191 := ⟨gw8 56 rfl rfl, gw1 13 (by decide +kernel) rfl, by decide +kernel⟩
theorem mo_192 : MthOK 192 := ⟨gw8 60 rfl rfl, gw1 13 (by decide +kernel) rfl, by decide +kernel⟩
theorem mo_193 : MthOK 193 := ⟨gw8 68 rfl rfl, gw1 13 (by decide +kernel) rfl, by decide +kernel⟩
theorem mo_194 : MthOK 194 := ⟨gw8 72 rfl rfl, gw1 13 (by decide +kernel) rfl, by decide +kernel⟩
theorem mo_195 : MthOK 195 := ⟨gw8 77 rfl rfl, gw1 13 (by decide +kernel) rfl, by decide +kernel⟩
theorem mo_196 : MthOK 196 := ⟨gw8 81 rfl rfl, gw1 13 (by decide +kernel) rfl, by decide +kernel⟩
theorem mo_197 : MthOK 197 := ⟨gw8 85 rfl rfl, gw1 13 (by decide +kernel) rfl, by decide +kernel⟩
theorem mo_198 : MthOK 198 := ⟨gw8 89 rfl rfl, gw1 13 (by decide +kernel) rfl, by decide +kernel⟩
theorem mo_199 : MthOK 199 := ⟨gw8 92 rfl rfl, gw1 13 (by decide +kernel) rfl, by decide +kernel⟩
theorem mo_200 : MthOK 200 := ⟨gw8 96 rfl rfl, gw1 13 (by decide +kernel) rfl, by decide +kernel⟩
theorem mo_201 : MthOK 201 := ⟨gw8 100 rfl rfl, gw1 13 (by decide +kernel) rfl, by decide +kernel⟩
theorem mo_202 : MthOK 202 := ⟨gw8 105 rfl rfl, gw1 13 (by decide +kernel) rfl, by decide +kernel⟩
theorem mo_203 : MthOK 203 := ⟨gw8 109 rfl rfl, gw1 13 (by decide +kernel) rfl, by decide +kernel⟩
theorem mo_204 : MthOK 204 := ⟨gw8 113 rfl rfl, gw1 13 (by decide +kernel) rfl, by decide +kernel⟩
theorem mo_205 : MthOK 205 := ⟨gw8 117 rfl rfl, gw1 13 (by decide +kernel) rfl, by decide +kernel⟩
theorem mo_206 : MthOK 206 := ⟨gw8 122 rfl rfl, gw1 13 (by decide +kernel) rfl, by decide +kernel⟩
theorem mo_207 : MthOK 207 := ⟨gw8 126 rfl rfl, gw1 13 (by decide +kernel) rfl, by decide +kernel⟩
theorem mo_208 : MthOK 208 := ⟨gw8 130 rfl rfl, gw1 13 (by decide +kernel) rfl, by decide +kernel⟩
theorem mo_209 : MthOK 209 := ⟨gw8 133 rfl rfl, gw1 13 (by decide +kernel) rfl, by decide +kernel⟩
theorem mo_210 : MthOK 210 := ⟨gw8 138 rfl rfl, gw1 13 (by decide +kernel) rfl, by decide +kernel⟩
theorem mo_211 : MthOK 211 := ⟨gw8 142 rfl rfl, gw1 13 (by decide +kernel) rfl, by decide +kernel⟩
theorem mo_212 : MthOK 212 := ⟨gw8 147 rfl rfl, gw1 13 (by decide +kernel) rfl, by decide +kernel⟩
theorem mo_213 : MthOK 213 := ⟨gw8 151 rfl rfl, gw1 13 (by decide +kernel) rfl, by decide +kernel⟩
theorem mo_214 : MthOK 214 := ⟨gw8 155 rfl rfl, gw1 13 (by decide +kernel) rfl, by decide +kernel⟩
theorem mo_215 : MthOK 215 := ⟨gw8 159 rfl rfl, gw1 13 (by decide +kernel) rfl, by decide +kernel⟩
theorem mo_216 : MthOK 216 := ⟨gw8 163 rfl rfl, gw1 13 (by decide +kernel) rfl, by decide +kernel⟩
theorem mo_217 : MthOK 217 := ⟨gw8 167 rfl rfl, gw1 13 (by decide +kernel) rfl, by decide +kernel⟩
theorem mo_218 : MthOK 218 := ⟨gw8 171 rfl rfl, gw1 13 (by decide +kernel) rfl, by decide +kernel⟩
theorem mo_219 : MthOK 219 := ⟨gw8 175 rfl rfl, gw1 13 (by decide +kernel) rfl, by decide +kernel⟩
theorem mo_220 : MthOK 220 := ⟨gw8 179 rfl rfl, gw1 13 (by decide +kernel) rfl, by decide +kernel⟩
theorem mo_221 : MthOK 221 := ⟨gw8 183 rfl rfl, gw1 13 (by decide +kernel) rfl, by decide +kernel⟩
theorem mo_222 : MthOK 222 := ⟨gw8 187 rfl rfl, gw1 13 (by decide +kernel) rfl, by decide +kernel⟩
theorem mo_223 : MthOK 223 := ⟨gw8 191 rfl rfl, gw1 13 (by decide +kernel) rfl, by decide +kernel⟩
theorem mo_224 : MthOK 224 := ⟨gw8 195 rfl rfl, gw1 13 (by decide +kernel) rfl, by decide +kernel⟩
theorem mo_225 : MthOK 225 := ⟨gw8 199 rfl rfl, gw1 13 (by decide +kernel) rfl, by decide +kernel⟩
theorem mo_226 : MthOK 226 := ⟨gw8 203 rfl rfl, gw1 13 (by decide +kernel) rfl, by decide +kernel⟩
theorem mo_227 : MthOK 227 := ⟨gw8 207 rfl rfl, gw1 13 (by decide +kernel) rfl, by decide +kernel⟩
theorem mo_228 : MthOK 228 := ⟨gw8 212 rfl rfl, gw1 13 (by decide +kernel) rfl, by decide +kernel⟩
theorem mo_229 : MthOK 229 := ⟨gw8 216 rfl rfl, gw1 13 (by decide +kernel) rfl, by decide +kernel⟩
theorem mo_230 : MthOK 230 := ⟨gw8 220 rfl rfl, gw1 13 (by decide +kernel) rfl, by decide +kernel⟩
theorem mo_231 : MthOK 231 := ⟨gw8 224 rfl rfl, gw1 13 (by decide +kernel) rfl, by decide +kernel⟩
theorem mo_232 : MthOK 232 := ⟨gw8 228 rfl rfl, gw1 13 (by decide +kernel) rfl, by decide +kernel⟩
theorem mo_233 : MthOK 233 := ⟨gw8 233 rfl rfl, gw1 13 (by decide +kernel) rfl, by decide +kernel⟩
theorem mo_234 : MthOK 234 := ⟨gw8 237 rfl rfl, gw1 13 (by decide +kernel) rfl, by decide +kernel⟩
theorem mo_235 : MthOK 235 := ⟨gw9 2 rfl rfl, gw1 13 (by decide +kernel) rfl, by decide +kernel⟩
theorem mo_236 : MthOK 236 := ⟨gw9 6 rfl rfl, gw1 13 (by decide +kernel) rfl, by decide +kernel⟩
theorem mo_237 : MthOK 237 := ⟨gw9 11 rfl rfl, gw1 13 (by decide +kernel) rfl, by decide +kernel⟩
theorem mo_238 : MthOK 238 := ⟨gw9 15 rfl rfl, gw1 13 (by decide +kernel) rfl, by decide +kernel⟩
theorem mo_239 : MthOK 239 := ⟨gw9 19 rfl rfl, gw1 13 (by decide +kernel) rfl, by decide +kernel⟩
theorem mo_240 : MthOK 240 := ⟨gw9 23 rfl rfl, gw1 13 (by decide +kernel) rfl, by decide +kernel⟩
theorem mo_241 : MthOK 241 := ⟨gw9 26 rfl rfl, gw1 13 (by decide +kernel) rfl, by decide +kernel⟩
theorem mo_242 : MthOK 242 := ⟨gw9 30 rfl rfl, gw1 13 (by decide +kernel) rfl, by decide +kernel⟩
theorem mo_243 : MthOK 243 := ⟨gw9 34 rfl rfl, gw1 13 (by decide +kernel) rfl, by decide +kernel⟩
theorem mo_244 : MthOK 244 := ⟨gw9 39 rfl rfl, gw1 13 (by decide +kernel) rfl, by decide +kernel⟩
theorem mo_245 : MthOK 245 := ⟨gw9 43 rfl rfl, gw1 13 (by decide +kernel) rfl, by decide +kernel⟩
theorem mo_246 : MthOK 246 := ⟨gw9 47 rfl rfl, gw1 13 (by decide +kernel) rfl, by decide +kernel⟩
theorem mo_247 : MthOK 247 := ⟨gw9 51 rfl rfl, gw1 13 (by decide +kernel) rfl, by decide +kernel⟩
theorem mo_248 : MthOK 248 := ⟨gw9 55 rfl rfl, gw1 13 (by decide +kernel) rfl, by decide +kernel⟩
theorem mo_249 : MthOK 249 := ⟨gw9 59 rfl rfl, gw1 13 (by decide +kernel) rfl, by decide +kernel⟩
theorem mo_250 : MthOK 250 := ⟨gw9 63 rfl rfl, gw1 13 (by decide +kernel) rfl, by decide +kernel⟩
theorem mo_251 : MthOK 251 := ⟨gw9 67 rfl rfl, gw1 13 (by decide +kernel) rfl, by decide +kernel⟩
theorem mo_252 : MthOK 252 := ⟨gw9 72 rfl rfl, gw1 13 (by decide +kernel) rfl, by decide +kernel⟩
theorem mo_253 : MthOK 253 := ⟨gw9 76 rfl rfl, gw1 13 (by decide +kernel) rfl, by decide +kernel⟩
theorem mo_254 : MthOK 254 := ⟨gw9 80 rfl rfl, gw1 13 (by decide +kernel) rfl, by decide +kernel⟩
theorem mo_255 : MthOK 255 := ⟨gw9 84 rfl rfl, gw1 13 (by decide +kernel) rfl, by decide +kernel⟩
theorem mo_256 : MthOK 256 := ⟨gw9 88 rfl rfl, gw1 13 (by decide +kernel) rfl, by decide +kernel⟩
theorem mo_257 : MthOK 257 := ⟨gw9 93 rfl rfl, gw1 13 (by decide +kernel) rfl, by decide +kernel⟩
theorem mo_258 : MthOK 258 := ⟨gw9 97 rfl rfl, gw1 13 (by decide +kernel) rfl, by decide +kernel⟩
theorem mo_259 : MthOK 259 := ⟨gw9 100 rfl rfl, gw1 24 (by decide +kernel) rfl, by decide +kernel⟩
theorem mo_260 : MthOK 260 := ⟨gw9 105 rfl rfl, gw1 13 (by decide +kernel) rfl, by decide +kernel⟩
theorem mo_261 : MthOK 261 := ⟨gw9 109 rfl rfl, gw1 13 (by decide +kernel) rfl, by decide +kernel⟩
theorem mo_262 : MthOK 262 := ⟨gw9 113 rfl rfl, gw1 13 (by decide +kernel) rfl, by decide +kernel⟩
theorem mo_263 : MthOK 263 := ⟨gw9 117 rfl rfl, gw1 13 (by decide +kernel) rfl, by decide +kernel⟩
theorem mo_264 : MthOK 264 := ⟨gw9 121 rfl rfl, gw1 13 (by decide +kernel) rfl, by decide +kernel⟩
theorem mo_265 : MthOK 265 := ⟨gw9 125 rfl rfl, gw1 13 (by decide +kernel) rfl, by decide +kernel⟩
theorem mo_266 : MthOK 266 := ⟨gw9 129 rfl rfl, gw1 13 (by decide +kernel) rfl, by decide +kernel⟩
theorem mo_267 : MthOK 267 := ⟨gw9 133 rfl rfl, gw1 13 (by decide +kernel) rfl, by decide +kernel⟩
theorem mo_268 : MthOK 268 := ⟨gw9 137 rfl rfl, gw1 13 (by decide +kernel) rfl, by decide +kernel⟩
theorem mo_269 : MthOK 269 := ⟨gw9 141 rfl rfl, gw1 13 (by decide +kernel) rfl, by decide +kernel⟩
theorem mo_270 : MthOK 270 := ⟨gw9 146 rfl rfl, gw1 13 (by decide +kernel) rfl, by decide +kernel⟩
theorem mo_271 : MthOK 271 := ⟨gw9 150 rfl rfl, gw1 13 (by decide +kernel) rfl, by decide +kernel⟩
theorem mo_272 : MthOK 272 := ⟨gw9 154 rfl rfl, gw1 13 (by decide +kernel) rfl, by decide +kernel⟩
theorem mo_273 : MthOK 273 := ⟨gw9 158 rfl rfl, gw1 13 (by decide +kernel) rfl, by decide +kernel⟩
theorem mo_274 : MthOK 274 := ⟨gw9 162 rfl rfl, gw1 13 (by decide +kernel) rfl, by decide +kernel⟩
theorem mo_275 : MthOK 275 := ⟨gw9 166 rfl rfl, gw1 13 (by decide +kernel) rfl, by decide +kernel⟩
theorem mo_276 : MthOK 276 := ⟨gw9 172 rfl rfl, gw1 13 (by decide +kernel) rfl, by decide +kernel⟩
theorem mo_277 : MthOK 277 := ⟨gw9 177 rfl rfl, gw1 13 (by decide +kernel) rfl, by decide +kernel⟩
theorem mo_278 : MthOK 278 := ⟨gw9 181 rfl rfl, gw1 13 (by decide +kernel) rfl, by decide +kernel⟩
theorem mo_279 : MthOK 279 := ⟨gw9 185 rfl rfl, gw1 13 (by decide +kernel) rfl, by decide +kernel⟩
theorem mo_280 : MthOK 280 := ⟨gw9 189 rfl rfl, gw1 13 (by decide +kernel) rfl, by decide +kernel⟩
theorem mo_281 : MthOK 281 := ⟨gw9 193 rfl rfl, gw1 13 (by decide +kernel) rfl, by decide +kernel⟩
theorem ly_1_0 : u_lay (kC 1) (kF 1) 0 ∈ gTbl := gw3 90 (by decide +kernel) rfl
theorem ly_1_1 : u_lay (kC 1) (kF 1) 1 ∈ gTbl := gw3 92 (by decide +kernel) rfl
theorem ly_1_2 : u_lay (kC 1) (kF 1) 2 ∈ gTbl := gw3 94 (by decide +kernel) rfl
theorem ly_1_3 : u_lay (kC 1) (kF 1) 3 ∈ gTbl := gw3 96 (by decide +kernel) rfl
theorem ly_1_4 : u_lay (kC 1) (kF 1) 4 ∈ gTbl := gw3 98 (by decide +kernel) rfl
theorem ly_1_5 : u_lay (kC 1) (kF 1) 5 ∈ gTbl := gw3 100 (by decide +kernel) rfl
theorem ly_1_6 : u_lay (kC 1) (kF 1) 6 ∈ gTbl := gw3 102 (by decide +kernel) rfl
theorem ly_1_7 : u_lay (kC 1) (kF 1) 7 ∈ gTbl := gw3 104 (by decide +kernel) rfl
theorem ly_1_8 : u_lay (kC 1) (kF 1) 8 ∈ gTbl := gw3 106 (by decide +kernel) rfl
theorem ly_1_9 : u_lay (kC 1) (kF 1) 9 ∈ gTbl := gw3 108 (by decide +kernel) rfl
theorem ly_1_10 : u_lay (kC 1) (kF 1) 10 ∈ gTbl := gw3 110 (by decide +kernel) rfl
theorem ly_1_11 : u_lay (kC 1) (kF 1) 11 ∈ gTbl := gw3 112 (by decide +kernel) rfl
theorem ly_1_12 : u_lay (kC 1) (kF 1) 12 ∈ gTbl := gw3 114 (by decide +kernel) rfl
theorem ly_1_13 : u_lay (kC 1) (kF 1) 13 ∈ gTbl := gw3 116 (by decide +kernel) rfl
theorem ly_1_14 : u_lay (kC 1) (kF 1) 14 ∈ gTbl := gw3 118 (by decide +kernel) rfl
theorem ly_2_0 : u_lay (kC 2) (kF 2) 0 ∈ gTbl := gw1 50 (by decide +kernel) rfl
theorem ly_2_1 : u_lay (kC 2) (kF 2) 1 ∈ gTbl := gw1 52 (by decide +kernel) rfl
theorem ly_2_2 : u_lay (kC 2) (kF 2) 2 ∈ gTbl := gw1 54 (by decide +kernel) rfl
end
section
/-! places of the pools (by program) -/
theorem ly_2_3 : u_lay (kC 2) (kF 2) 3 ∈ gTbl := gw1 56 (by decide +kernel) rfl
theorem ly_2_4 : u_lay (kC 2) (kF 2) 4 ∈ gTbl := gw1 58 (by decide +kernel) rfl
theorem ly_2_5 : u_lay (kC 2) (kF 2) 5 ∈ gTbl := gw1 60 (by decide +kernel) rfl
theorem ly_3_0 : u_lay (kC 3) (kF 3) 0 ∈ gTbl := gw1 75 (by decide +kernel) rfl
theorem ly_3_1 : u_lay (kC 3) (kF 3) 1 ∈ gTbl := gw1 77 (by decide +kernel) rfl
theorem ly_3_2 : u_lay (kC 3) (kF 3) 2 ∈ gTbl := gw1 79 (by decide +kernel) rfl
theorem ly_3_3 : u_lay (kC 3) (kF 3) 3 ∈ gTbl := gw1 81 (by decide +kernel) rfl
theorem ly_3_4 : u_lay (kC 3) (kF 3) 4 ∈ gTbl := gw1 83 (by decide +kernel) rfl
theorem ly_4_0 : u_lay (kC 4) (kF 4) 0 ∈ gTbl := gw1 134 (by decide +kernel) rfl
theorem ly_4_1 : u_lay (kC 4) (kF 4) 1 ∈ gTbl := gw1 136 (by decide +kernel) rfl
theorem ly_4_2 : u_lay (kC 4) (kF 4) 2 ∈ gTbl := gw1 138 (by decide +kernel) rfl
theorem ly_4_3 : u_lay (kC 4) (kF 4) 3 ∈ gTbl := gw1 140 (by decide +kernel) rfl
theorem ly_4_4 : u_lay (kC 4) (kF 4) 4 ∈ gTbl := gw1 142 (by decide +kernel) rfl
theorem ly_4_5 : u_lay (kC 4) (kF 4) 5 ∈ gTbl := gw1 144 (by decide +kernel) rfl
theorem ly_4_6 : u_lay (kC 4) (kF 4) 6 ∈ gTbl := gw1 146 (by decide +kernel) rfl
theorem ly_4_7 : u_lay (kC 4) (kF 4) 7 ∈ gTbl := gw1 148 (by decide +kernel) rfl
theorem ly_4_8 : u_lay (kC 4) (kF 4) 8 ∈ gTbl := gw1 150 (by decide +kernel) rfl
theorem ly_4_9 : u_lay (kC 4) (kF 4) 9 ∈ gTbl := gw1 152 (by decide +kernel) rfl
theorem ly_4_10 : u_lay (kC 4) (kF 4) 10 ∈ gTbl := gw1 154 (by decide +kernel) rfl
theorem ly_5_0 : u_lay (kC 5) (kF 5) 0 ∈ gTbl := gw1 212 (by decide +kernel) rfl
theorem ly_5_1 : u_lay (kC 5) (kF 5) 1 ∈ gTbl := gw1 214 (by decide +kernel) rfl
theorem ly_5_2 : u_lay (kC 5) (kF 5) 2 ∈ gTbl := gw1 216 (by decide +kernel) rfl
theorem ly_5_3 : u_lay (kC 5) (kF 5) 3 ∈ gTbl := gw1 218 (by decide +kernel) rfl
theorem ly_5_4 : u_lay (kC 5) (kF 5) 4 ∈ gTbl := gw1 220 (by decide +kernel) rfl
theorem ly_5_5 : u_lay (kC 5) (kF 5) 5 ∈ gTbl := gw1 222 (by decide +kernel) rfl
theorem ly_5_6 : u_lay (kC 5) (kF 5) 6 ∈ gTbl := gw1 224 (by decide +kernel) rfl
theorem ly_5_7 : u_lay (kC 5) (kF 5) 7 ∈ gTbl := gw1 226 (by decide +kernel) rfl
theorem ly_5_8 : u_lay (kC 5) (kF 5) 8 ∈ gTbl := gw1 228 (by decide +kernel) rfl
theorem ly_5_9 : u_lay (kC 5) (kF 5) 9 ∈ gTbl := gw1 230 (by decide +kernel) rfl
theorem ly_5_10 : u_lay (kC 5) (kF 5) 10 ∈ gTbl := gw1 232 (by decide +kernel) rfl
theorem ly_5_11 : u_lay (kC 5) (kF 5) 11 ∈ gTbl := gw1 234 (by decide +kernel) rfl
theorem ly_6_0 : u_lay (kC 6) (kF 6) 0 ∈ gTbl := gw2 29 (by decide +kernel) rfl
theorem ly_6_1 : u_lay (kC 6) (kF 6) 1 ∈ gTbl := gw2 31 (by decide +kernel) rfl
theorem ly_6_2 : u_lay (kC 6) (kF 6) 2 ∈ gTbl := gw2 33 (by decide +kernel) rfl
theorem ly_6_3 : u_lay (kC 6) (kF 6) 3 ∈ gTbl := gw2 35 (by decide +kernel) rfl
theorem ly_6_4 : u_lay (kC 6) (kF 6) 4 ∈ gTbl := gw2 37 (by decide +kernel) rfl
theorem ly_6_5 : u_lay (kC 6) (kF 6) 5 ∈ gTbl := gw2 39 (by decide +kernel) rfl
theorem ly_6_6 : u_lay (kC 6) (kF 6) 6 ∈ gTbl := gw2 41 (by decide +kernel) rfl
theorem ly_6_7 : u_lay (kC 6) (kF 6) 7 ∈ gTbl := gw2 43 (by decide +kernel) rfl
theorem ly_6_8 : u_lay (kC 6) (kF 6) 8 ∈ gTbl := gw2 45 (by decide +kernel) rfl
theorem ly_6_9 : u_lay (kC 6) (kF 6) 9 ∈ gTbl := gw2 47 (by decide +kernel) rfl
theorem ly_6_10 : u_lay (kC 6) (kF 6) 10 ∈ gTbl := gw2 49 (by decide +kernel) rfl
theorem ly_6_11 : u_lay (kC 6) (kF 6) 11 ∈ gTbl := gw2 51 (by decide +kernel) rfl
theorem ly_6_12 : u_lay (kC 6) (kF 6) 12 ∈ gTbl := gw2 53 (by decide +kernel) rfl
theorem ly_7_0 : u_lay (kC 7) (kF 7) 0 ∈ gTbl := gw2 82 (by decide +kernel) rfl
theorem ly_7_1 : u_lay (kC 7) (kF 7) 1 ∈ gTbl := gw2 84 (by decide +kernel) rfl
theorem ly_7_2 : u_lay (kC 7) (kF 7) 2 ∈ gTbl := gw2 86 (by decide +kernel) rfl
theorem ly_7_3 : u_lay (kC 7) (kF 7) 3 ∈ gTbl := gw2 88 (by decide +kernel) rfl
theorem ly_7_4 : u_lay (kC 7) (kF 7) 4 ∈ gTbl := gw2 90 (by decide +kernel) rfl
theorem ly_7_5 : u_lay (kC 7) (kF 7) 5 ∈ gTbl := gw2 92 (by decide +kernel) rfl
theorem ly_7_6 : u_lay (kC 7) (kF 7) 6 ∈ gTbl := gw2 94 (by decide +kernel) rfl
theorem ly_7_7 : u_lay (kC 7) (kF 7) 7 ∈ gTbl := gw2 96 (by decide +kernel) rfl
theorem ly_7_8 : u_lay (kC 7) (kF 7) 8 ∈ gTbl := gw2 98 (by decide +kernel) rfl
theorem ly_7_9 : u_lay (kC 7) (kF 7) 9 ∈ gTbl := gw2 100 (by decide +kernel) rfl
theorem ly_7_10 : u_lay (kC 7) (kF 7) 10 ∈ gTbl := gw2 102 (by decide +kernel) rfl
theorem ly_7_11 : u_lay (kC 7) (kF 7) 11 ∈ gTbl := gw2 104 (by decide +kernel) rfl
theorem ly_7_12 : u_lay (kC 7) (kF 7) 12 ∈ gTbl := gw2 106 (by decide +kernel) rfl
theorem ly_8_0 : u_lay (kC 8) (kF 8) 0 ∈ gTbl := gw2 135 (by decide +kernel) rfl
theorem ly_8_1 : u_lay (kC 8) (kF 8) 1 ∈ gTbl := gw2 137 (by decide +kernel) rfl
theorem ly_8_2 : u_lay (kC 8) (kF 8) 2 ∈ gTbl := gw2 139 (by decide +kernel) rfl
theorem ly_8_3 : u_lay (kC 8) (kF 8) 3 ∈ gTbl := gw2 141 (by decide +kernel) rfl
theorem ly_8_4 : u_lay (kC 8) (kF 8) 4 ∈ gTbl := gw2 143 (by decide +kernel) rfl
theorem ly_8_5 : u_lay (kC 8) (kF 8) 5 ∈ gTbl := gw2 145 (by decide +kernel) rfl
theorem ly_8_6 : u_lay (kC 8) (kF 8) 6 ∈ gTbl := gw2 147 (by decide +kernel) rfl
theorem ly_8_7 : u_lay (kC 8) (kF 8) 7 ∈ gTbl := gw2 149 (by decide +kernel) rfl
theorem ly_8_8 : u_lay (kC 8) (kF 8) 8 ∈ gTbl := gw2 151 (by decide +kernel) rfl
theorem ly_9_0 : u_lay (kC 9) (kF 9) 0 ∈ gTbl := gw2 172 (by decide +kernel) rfl
theorem ly_9_1 : u_lay (kC 9) (kF 9) 1 ∈ gTbl := gw2 174 (by decide +kernel) rfl
theorem ly_9_2 : u_lay (kC 9) (kF 9) 2 ∈ gTbl := gw2 176 (by decide +kernel) rfl
theorem ly_9_3 : u_lay (kC 9) (kF 9) 3 ∈ gTbl := gw2 178 (by decide +kernel) rfl
theorem ly_9_4 : u_lay (kC 9) (kF 9) 4 ∈ gTbl := gw2 180 (by decide +kernel) rfl
theorem ly_9_5 : u_lay (kC 9) (kF 9) 5 ∈ gTbl := gw2 182 (by decide +kernel) rfl
theorem ly_9_6 : u_lay (kC 9) (kF 9) 6 ∈ gTbl := gw2 184 (by decide +kernel) rfl
theorem ly_9_7 : u_lay (kC 9) (kF 9) 7 ∈ gTbl := gw2 186 (by decide +kernel) rfl
theorem ly_9_8 : u_lay (kC 9) (kF 9) 8 ∈ gTbl := gw2 188 (by decide +kernel) rfl
theorem ly_9_9 : u_lay (kC 9) (kF 9) 9 ∈ gTbl := gw2 190 (by decide +kernel) rfl
theorem ly_9_10 : u_lay (kC 9) (kF 9) 10 ∈ gTbl := gw2 192 (by decide +kernel) rfl
theorem ly_10_0 : u_lay (kC 10) (kF 10) 0 ∈ gTbl := gw2 209 (by decide +kernel) rfl
theorem ly_10_1 : u_lay (kC 10) (kF 10) 1 ∈ gTbl := gw2 211 (by decide +kernel) rfl
theorem ly_10_2 : u_lay (kC 10) (kF 10) 2 ∈ gTbl := gw2 213 (by decide +kernel) rfl
theorem ly_10_3 : u_lay (kC 10) (kF 10) 3 ∈ gTbl := gw2 215 (by decide +kernel) rfl
theorem ly_10_4 : u_lay (kC 10) (kF 10) 4 ∈ gTbl := gw2 217 (by decide +kernel) rfl
theorem ly_10_5 : u_lay (kC 10) (kF 10) 5 ∈ gTbl := gw2 219 (by decide +kernel) rfl
theorem ly_10_6 : u_lay (kC 10) (kF 10) 6 ∈ gTbl := gw2 221 (by decide +kernel) rfl
theorem ly_11_0 : u_lay (kC 11) (kF 11) 0 ∈ gTbl := gw3 5 (by decide +kernel) rfl
theorem ly_11_1 : u_lay (kC 11) (kF 11) 1 ∈ gTbl := gw3 7 (by decide +kernel) rfl
theorem ly_11_2 : u_lay (kC 11) (kF 11) 2 ∈ gTbl := gw3 9 (by decide +kernel) rfl
theorem ly_11_3 : u_lay (kC 11) (kF 11) 3 ∈ gTbl := gw3 11 (by decide +kernel) rfl
theorem ly_11_4 : u_lay (kC 11) (kF 11) 4 ∈ gTbl := gw3 13 (by decide +kernel) rfl
theorem ly_11_5 : u_lay (kC 11) (kF 11) 5 ∈ gTbl := gw3 15 (by decide +kernel) rfl
theorem ly_11_6 : u_lay (kC 11) (kF 11) 6 ∈ gTbl := gw3 17 (by decide +kernel) rfl
theorem ly_11_7 : u_lay (kC 11) (kF 11) 7 ∈ gTbl := gw3 19 (by decide +kernel) rfl
theorem ly_11_8 : u_lay (kC 11) (kF 11) 8 ∈ gTbl := gw3 21 (by decide +kernel) rfl
theorem ly_11_9 : u_lay (kC 11) (kF 11) 9 ∈ gTbl := gw3 23 (by decide +kernel) rfl
theorem ly_11_10 : u_lay (kC 11) (kF 11) 10 ∈ gTbl := gw3 25 (by decide +kernel) rfl
theorem ly_11_11 : u_lay (kC 11) (kF 11) 11 ∈ gTbl := gw3 27 (by decide +kernel) rfl
theorem ly_11_12 : u_lay (kC 11) (kF 11) 12 ∈ gTbl := gw3 29 (by decide +kernel) rfl
theorem ly_12_0 : u_lay (kC 12) (kF 12) 0 ∈ gTbl := gw3 52 (by decide +kernel) rfl
theorem ly_12_1 : u_lay (kC 12) (kF 12) 1 ∈ gTbl := gw3 54 (by decide +kernel) rfl
theorem ly_12_2 : u_lay (kC 12) (kF 12) 2 ∈ gTbl := gw3 56 (by decide +kernel) rfl
theorem ly_12_3 : u_lay (kC 12) (kF 12) 3 ∈ gTbl := gw3 58 (by decide +kernel) rfl
theorem ly_12_4 : u_lay (kC 12) (kF 12) 4 ∈ gTbl := gw3 60 (by decide +kernel) rfl
theorem ly_12_5 : u_lay (kC 12) (kF 12) 5 ∈ gTbl := gw3 62 (by decide +kernel) rfl
theorem ly_12_6 : u_lay (kC 12) (kF 12) 6 ∈ gTbl := gw3 64 (by decide +kernel) rfl
theorem ly_12_7 : u_lay (kC 12) (kF 12) 7 ∈ gTbl := gw3 66 (by decide +kernel) rfl
theorem ly_12_8 : u_lay (kC 12) (kF 12) 8 ∈ gTbl := gw3 68 (by decide +kernel) rfl
theorem ly_12_9 : u_lay (kC 12) (kF 12) 9 ∈ gTbl := gw3 70 (by decide +kernel) rfl
theorem ly_12_10 : u_lay (kC 12) (kF 12) 10 ∈ gTbl := gw3 72 (by decide +kernel) rfl
theorem ly_13_0 : u_lay (kC 13) (kF 13) 0 ∈ gTbl := gw7 3 (by decide +kernel) rfl
theorem ly_13_1 : u_lay (kC 13) (kF 13) 1 ∈ gTbl := gw7 5 (by decide +kernel) rfl
theorem ly_13_2 : u_lay (kC 13) (kF 13) 2 ∈ gTbl := gw7 7 (by decide +kernel) rfl
theorem ly_13_3 : u_lay (kC 13) (kF 13) 3 ∈ gTbl := gw7 9 (by decide +kernel) rfl
theorem ly_13_4 : u_lay (kC 13) (kF 13) 4 ∈ gTbl := gw7 11 (by decide +kernel) rfl
theorem ly_13_5 : u_lay (kC 13) (kF 13) 5 ∈ gTbl := gw7 13 (by decide +kernel) rfl
theorem ly_13_6 : u_lay (kC 13) (kF 13) 6 ∈ gTbl := gw7 15 (by decide +kernel) rfl
theorem ly_13_7 : u_lay (kC 13) (kF 13) 7 ∈ gTbl := gw7 17 (by decide +kernel) rfl
theorem ly_13_8 : u_lay (kC 13) (kF 13) 8 ∈ gTbl := gw7 19 (by decide +kernel) rfl
theorem ly_13_9 : u_lay (kC 13) (kF 13) 9 ∈ gTbl := gw7 21 (by decide +kernel) rfl
theorem ly_13_10 : u_lay (kC 13) (kF 13) 10 ∈ gTbl := gw7 23 (by decide +kernel) rfl
theorem ly_13_11 : u_lay (kC 13) (kF 13) 11 ∈ gTbl := gw7 25 (by decide +kernel) rfl
theorem ly_13_12 : u_lay (kC 13) (kF 13) 12 ∈ gTbl := gw7 27 (by decide +kernel) rfl
theorem ly_13_13 : u_lay (kC 13) (kF 13) 13 ∈ gTbl := gw7 29 (by decide +kernel) rfl
theorem ly_13_14 : u_lay (kC 13) (kF 13) 14 ∈ gTbl := gw7 31 (by decide +kernel) rfl
theorem ly_13_15 : u_lay (kC 13) (kF 13) 15 ∈ gTbl := gw7 33 (by decide +kernel) rfl
theorem ly_13_16 : u_lay (kC 13) (kF 13) 16 ∈ gTbl := gw7 35 (by decide +kernel) rfl
theorem ly_13_17 : u_lay (kC 13) (kF 13) 17 ∈ gTbl := gw7 37 (by decide +kernel) rfl
theorem ly_13_18 : u_lay (kC 13) (kF 13) 18 ∈ gTbl := gw7 39 (by decide +kernel) rfl
theorem ly_13_19 : u_lay (kC 13) (kF 13) 19 ∈ gTbl := gw7 41 (by decide +kernel) rfl
theorem ly_13_20 : u_lay (kC 13) (kF 13) 20 ∈ gTbl := gw7 43 (by decide +kernel) rfl
theorem ly_13_21 : u_lay (kC 13) (kF 13) 21 ∈ gTbl := gw7 45 (by decide +kernel) rfl
theorem ly_13_22 : u_lay (kC 13) (kF 13) 22 ∈ gTbl := gw7 47 (by decide +kernel) rfl
theorem ly_13_23 : u_lay (kC 13) (kF 13) 23 ∈ gTbl := gw7 49 (by decide +kernel) rfl
theorem ly_13_24 : u_lay (kC 13) (kF 13) 24 ∈ gTbl := gw7 51 (by decide +kernel) rfl
theorem ly_13_25 : u_lay (kC 13) (kF 13) 25 ∈ gTbl := gw7 53 (by decide +kernel) rfl
theorem ly_13_26 : u_lay (kC 13) (kF 13) 26 ∈ gTbl := gw7 55 (by decide +kernel) rfl
theorem ly_13_27 : u_lay (kC 13) (kF 13) 27 ∈ gTbl := gw7 57 (by decide +kernel) rfl
theorem ly_13_28 : u_lay (kC 13) (kF 13) 28 ∈ gTbl := gw7 59 (by decide +kernel) rfl
theorem ly_13_29 : u_lay (kC 13) (kF 13) 29 ∈ gTbl := gw7 61 (by decide +kernel) rfl
theorem ly_13_30 : u_lay (kC 13) (kF 13) 30 ∈ gTbl := gw7 63 (by decide +kernel) rfl
theorem ly_13_31 : u_lay (kC 13) (kF 13) 31 ∈ gTbl := gw7 65 (by decide +kernel) rfl
theorem ly_13_32 : u_lay (kC 13) (kF 13) 32 ∈ gTbl := gw7 67 (by decide +kernel) rfl
theorem ly_13_33 : u_lay (kC 13) (kF 13) 33 ∈ gTbl := gw7 69 (by decide +kernel) rfl
theorem ly_13_34 : u_lay (kC 13) (kF 13) 34 ∈ gTbl := gw7 71 (by decide +kernel) rfl
theorem ly_13_35 : u_lay (kC 13) (kF 13) 35 ∈ gTbl := gw7 73 (by decide +kernel) rfl
theorem ly_13_36 : u_lay (kC 13) (kF 13) 36 ∈ gTbl := gw7 75 (by decide +kernel) rfl
theorem ly_13_37 : u_lay (kC 13) (kF 13) 37 ∈ gTbl := gw7 77 (by decide +kernel) rfl
theorem ly_13_38 : u_lay (kC 13) (kF 13) 38 ∈ gTbl := gw7 79 (by decide +kernel) rfl
theorem ly_13_39 : u_lay (kC 13) (kF 13) 39 ∈ gTbl := gw7 81 (by decide +kernel) rfl
theorem ly_13_40 : u_lay (kC 13) (kF 13) 40 ∈ gTbl := gw7 83 (by decide +kernel) rfl
theorem ly_13_41 : u_lay (kC 13) (kF 13) 41 ∈ gTbl := gw7 85 (by decide +kernel) rfl
theorem ly_13_42 : u_lay (kC 13) (kF 13) 42 ∈ gTbl := gw7 87 (by decide +kernel) rfl
theorem ly_13_43 : u_lay (kC 13) (kF 13) 43 ∈ gTbl := gw7 89 (by decide +kernel) rfl
theorem ly_13_44 : u_lay (kC 13) (kF 13) 44 ∈ gTbl := gw7 91 (by decide +kernel) rfl
theorem ly_13_45 : u_lay (kC 13) (kF 13) 45 ∈ gTbl := gw7 93 (by decide +kernel) rfl
theorem ly_13_46 : u_lay (kC 13) (kF 13) 46 ∈ gTbl := gw7 95 (by decide +kernel) rfl
theorem ly_13_47 : u_lay (kC 13) (kF 13) 47 ∈ gTbl := gw7 97 (by decide +kernel) rfl
theorem ly_13_48 : u_lay (kC 13) (kF 13) 48 ∈ gTbl := gw7 99 (by decide +kernel) rfl
theorem ly_13_49 : u_lay (kC 13) (kF 13) 49 ∈ gTbl := gw7 101 (by decide +kernel) rfl
theorem ly_13_50 : u_lay (kC 13) (kF 13) 50 ∈ gTbl := gw7 103 (by decide +kernel) rfl
theorem ly_13_51 : u_lay (kC 13) (kF 13) 51 ∈ gTbl := gw7 105 (by decide +kernel) rfl
theorem ly_13_52 : u_lay (kC 13) (kF 13) 52 ∈ gTbl := gw7 107 (by decide +kernel) rfl
theorem ly_13_53 : u_lay (kC 13) (kF 13) 53 ∈ gTbl := gw7 109 (by decide +kernel) rfl
theorem ly_13_54 : u_lay (kC 13) (kF 13) 54 ∈ gTbl := gw7 111 (by decide +kernel) rfl
theorem ly_13_55 : u_lay (kC 13) (kF 13) 55 ∈ gTbl := gw7 113 (by decide +kernel) rfl
theorem ly_13_56 : u_lay (kC 13) (kF 13) 56 ∈ gTbl := gw7 115 (by decide +kernel) rfl
theorem ly_13_57 : u_lay (kC 13) (kF 13) 57 ∈ gTbl := gw7 117 (by decide +kernel) rfl
theorem ly_13_58 : u_lay (kC 13) (kF 13) 58 ∈ gTbl := gw7 119 (by decide +kernel) rfl
theorem ly_13_59 : u_lay (kC 13) (kF 13) 59 ∈ gTbl := gw7 121 (by decide +kernel) rfl
theorem ly_13_60 : u_lay (kC 13) (kF 13) 60 ∈ gTbl := gw7 123 (by decide +kernel) rfl
theorem ly_13_61 : u_lay (kC 13) (kF 13) 61 ∈ gTbl := gw7 125 (by decide +kernel) rfl
theorem ly_13_62 : u_lay (kC 13) (kF 13) 62 ∈ gTbl := gw7 127 (by decide +kernel) rfl
theorem ly_13_63 : u_lay (kC 13) (kF 13) 63 ∈ gTbl := gw7 129 (by decide +kernel) rfl
theorem ly_13_64 : u_lay (kC 13) (kF 13) 64 ∈ gTbl := gw7 131 (by decide +kernel) rfl
theorem ly_13_65 : u_lay (kC 13) (kF 13) 65 ∈ gTbl := gw7 133 (by decide +kernel) rfl
theorem ly_13_66 : u_lay (kC 13) (kF 13) 66 ∈ gTbl := gw7 135 (by decide +kernel) rfl
theorem ly_13_67 : u_lay (kC 13) (kF 13) 67 ∈ gTbl := gw7 137 (by decide +kernel) rfl
theorem ly_13_68 : u_lay (kC 13) (kF 13) 68 ∈ gTbl := gw7 139 (by decide +kernel) rfl
theorem ly_13_69 : u_lay (kC 13) (kF 13) 69 ∈ gTbl := gw7 141 (by decide +kernel) rfl
theorem ly_13_70 : u_lay (kC 13) (kF 13) 70 ∈ gTbl := gw7 143 (by decide +kernel) rfl
theorem ly_13_71 : u_lay (kC 13) (kF 13) 71 ∈ gTbl := gw7 145 (by decide +kernel) rfl
theorem f_101_10 : FldAt 101 10 1 0 := ⟨gw3 75 (by decide +kernel) rfl, ly_1_0, by decide, by decide, by decide +kernel, by decide +kernel, tyOK_2o _⟩
theorem f_101_100 : FldAt 101 100 1 13 := ⟨gw3 88 (by decide +kernel) rfl, ly_1_13, by decide, by decide, by decide +kernel, by decide +kernel, tyOK_2a _⟩
theorem f_101_19 : FldAt 101 19 1 1 := ⟨gw3 76 (by decide +kernel) rfl, ly_1_1, by decide, by decide, by decide +kernel, by decide +kernel, tyOK_2o _⟩
theorem f_101_26 : FldAt 101 26 1 2 := ⟨gw3 77 (by decide +kernel) rfl, ly_1_2, by decide, by decide, by decide +kernel, by decide +kernel, tyOK_2o _⟩
theorem f_101_33 : FldAt 101 33 1 3 := ⟨gw3 78 (by decide +kernel) rfl, ly_1_3, by decide, by decide, by decide +kernel, by decide +kernel, tyOK_2o _⟩
theorem f_101_42 : FldAt 101 42 1 4 := ⟨gw3 79 (by decide +kernel) rfl, ly_1_4, by decide, by decide, by decide +kernel, by decide +kernel, tyOK_2o _⟩
theorem f_101_51 : FldAt 101 51 1 5 := ⟨gw3 80 (by decide +kernel) rfl, ly_1_5, by decide, by decide, by decide +kernel, by decide +kernel, tyOK_2o _⟩
theorem f_101_60 : FldAt 101 60 1 6 := ⟨gw3 81 (by decide +kernel) rfl, ly_1_6, by decide, by decide, by decide +kernel, by decide +kernel, tyOK_2o _⟩
theorem f_101_69 : FldAt 101 69 1 7 := ⟨gw3 82 (by decide +kernel) rfl, ly_1_7, by decide, by decide, by decide +kernel, by decide +kernel, tyOK_2o _⟩
theorem f_101_78 : FldAt 101 78 1 8 := ⟨gw3 83 (by decide +kernel) rfl, ly_1_8, by decide, by decide, by decide +kernel, by decide +kernel, tyOK_2o _⟩
theorem f_101_85 : FldAt 101 85 1 9 := ⟨gw3 84 (by decide +kernel) rfl, ly_1_9, by decide, by decide, by decide +kernel, by decide +kernel, tyOK_2o _⟩
theorem f_101_92 : FldAt 101 92 1 10 := ⟨gw3 85 (by decide +kernel) rfl, ly_1_10, by decide, by decide, by decide +kernel, by decide +kernel, tyOK_2o _⟩
theorem f_101_96 : FldAt 101 96 1 11 := ⟨gw3 86 (by decide +kernel) rfl, ly_1_11, by decide, by decide, by decide +kernel, by decide +kernel, tyOK_2a _⟩
theorem f_102_9 : FldAt 102 9 2 0 := ⟨gw1 39 (by decide +kernel) rfl, ly_2_0, by decide, by decide, by decide +kernel, by decide +kernel, tyOK_2a _⟩
theorem f_103_15 : FldAt 103 15 3 2 := ⟨gw1 72 (by decide +kernel) rfl, ly_3_2, by decide, by decide, by decide +kernel, by decide +kernel, tyOK_2a _⟩
theorem f_103_18 : FldAt 103 18 3 4 := ⟨gw1 74 (by decide +kernel) rfl, ly_3_4, by decide, by decide, by decide +kernel, by decide +kernel, tyOK_2a _⟩
theorem f_103_9 : FldAt 103 9 3 0 := ⟨gw1 70 (by decide +kernel) rfl, ly_3_0, by decide, by decide, by decide +kernel, by decide +kernel, tyOK_2a _⟩
theorem f_104_15 : FldAt 104 15 4 5 := ⟨gw1 113 (by decide +kernel) rfl, ly_4_5, by decide, by decide, by decide +kernel, by decide +kernel, tyOK_2a _⟩
theorem f_104_18 : FldAt 104 18 4 6 := ⟨gw1 116 (by decide +kernel) rfl, ly_4_6, by decide, by decide, by decide +kernel, by decide +kernel, tyOK_2a _⟩
theorem f_104_21 : FldAt 104 21 4 7 := ⟨gw1 119 (by decide +kernel) rfl, ly_4_7, by decide, by decide, by decide +kernel, by decide +kernel, tyOK_2a _⟩
theorem f_104_24 : FldAt 104 24 4 9 := ⟨gw1 125 (by decide +kernel) rfl, ly_4_9, by decide, by decide, by decide +kernel, by decide +kernel, tyOK_2a _⟩
theorem f_104_27 : FldAt 104 27 4 10 := ⟨gw1 130 (by decide +kernel) rfl, ly_4_10, by decide, by decide, by decide +kernel, by decide +kernel, tyOK_2a _⟩
theorem f_104_9 : FldAt 104 9 4 4 := ⟨gw1 109 (by decide +kernel) rfl, ly_4_4, by decide, by decide, by decide +kernel, by decide +kernel, tyOK_2a _⟩
theorem f_105_15 : FldAt 105 15 5 1 := ⟨gw1 168 (by decide +kernel) rfl, ly_5_1, by decide, by decide, by decide +kernel, by decide +kernel, tyOK_2a _⟩
theorem f_105_18 : FldAt 105 18 5 2 := ⟨gw1 172 (by decide +kernel) rfl, ly_5_2, by decide, by decide, by decide +kernel, by decide +kernel, tyOK_2a _⟩
theorem f_105_21 : FldAt 105 21 5 4 := ⟨gw1 178 (by decide +kernel) rfl, ly_5_4, by decide, by decide, by decide +kernel, by decide +kernel, tyOK_2a _⟩
theorem f_105_24 : FldAt 105 24 5 5 := ⟨gw1 182 (by decide +kernel) rfl, ly_5_5, by decide, by decide, by decide +kernel, by decide +kernel, tyOK_2a _⟩
theorem f_105_27 : FldAt 105 27 5 6 := ⟨gw1 186 (by decide +kernel) rfl, ly_5_6, by decide, by decide, by decide +kernel, by decide +kernel, tyOK_2a _⟩
theorem f_105_30 : FldAt 105 30 5 7 := ⟨gw1 190 (by decide +kernel) rfl, ly_5_7, by decide, by decide, by decide +kernel, by decide +kernel, tyOK_2a _⟩
theorem f_105_33 : FldAt 105 33 5 8 := ⟨gw1 194 (by decide +kernel) rfl, ly_5_8, by decide, by decide, by decide +kernel, by decide +kernel, tyOK_2a _⟩
theorem f_105_36 : FldAt 105 36 5 9 := ⟨gw1 197 (by decide +kernel) rfl, ly_5_9, by decide, by decide, by decide +kernel, by decide +kernel, tyOK_2a _⟩
theorem f_105_9 : FldAt 105 9 5 0 := ⟨gw1 163 (by decide +kernel) rfl, ly_5_0, by decide, by decide, by decide +kernel, by decide +kernel, tyOK_2a _⟩
theorem f_106_15 : FldAt 106 15 6 1 := ⟨gw2 4 (by decide +kernel) rfl, ly_6_1, by decide, by decide, by decide +kernel, by decide +kernel, tyOK_2o _⟩
theorem f_106_19 : FldAt 106 19 6 2 := ⟨gw2 5 (by decide +kernel) rfl, ly_6_2, by decide, by decide, by decide +kernel, by decide +kernel, tyOK_2o _⟩
theorem f_106_9 : FldAt 106 9 6 0 := ⟨gw2 3 (by decide +kernel) rfl, ly_6_0, by decide, by decide, by decide +kernel, by decide +kernel, tyOK_2o _⟩
theorem f_107_11 : FldAt 107 11 7 7 := ⟨gw2 75 (by decide +kernel) rfl, ly_7_7, by decide, by decide, by decide +kernel, by decide +kernel, tyOK_2a _⟩
theorem f_107_17 : FldAt 107 17 7 10 := ⟨gw2 79 (by decide +kernel) rfl, ly_7_10, by decide, by decide, by decide +kernel, by decide +kernel, tyOK_2a _⟩
theorem f_107_21 : FldAt 107 21 7 11 := ⟨gw2 80 (by decide +kernel) rfl, ly_7_11, by decide, by decide, by decide +kernel, by decide +kernel, tyOK_2a _⟩
theorem f_107_24 : FldAt 107 24 7 12 := ⟨gw2 81 (by decide +kernel) rfl, ly_7_12, by decide, by decide, by decide +kernel, by decide +kernel, tyOK_2a _⟩
theorem f_107_27 : FldAt 107 27 7 0 := ⟨gw2 65 (by decide +kernel) rfl, ly_7_0, by decide, by decide, by decide +kernel, by decide +kernel, tyOK_2o _⟩
theorem f_107_31 : FldAt 107 31 7 1 := ⟨gw2 66 (by decide +kernel) rfl, ly_7_1, by decide, by decide, by decide +kernel, by decide +kernel, tyOK_2o _⟩
theorem f_107_35 : FldAt 107 35 7 2 := ⟨gw2 67 (by decide +kernel) rfl, ly_7_2, by decide, by decide, by decide +kernel, by decide +kernel, tyOK_2o _⟩
theorem f_107_39 : FldAt 107 39 7 3 := ⟨gw2 68 (by decide +kernel) rfl, ly_7_3, by decide, by decide, by decide +kernel, by decide +kernel, tyOK_2o _⟩
theorem f_108_11 : FldAt 108 11 8 2 := ⟨gw2 117 (by decide +kernel) rfl, ly_8_2, by decide, by decide, by decide +kernel, by decide +kernel, tyOK_2a _⟩
theorem f_108_15 : FldAt 108 15 8 3 := ⟨gw2 118 (by decide +kernel) rfl, ly_8_3, by decide, by decide, by decide +kernel, by decide +kernel, tyOK_2a _⟩
theorem f_108_18 : FldAt 108 18 8 4 := ⟨gw2 119 (by decide +kernel) rfl, ly_8_4, by decide, by decide, by decide +kernel, by decide +kernel, tyOK_2a _⟩
theorem f_108_21 : FldAt 108 21 8 5 := ⟨gw2 122 (by decide +kernel) rfl, ly_8_5, by decide, by decide, by decide +kernel, by decide +kernel, tyOK_2a _⟩
theorem f_108_24 : FldAt 108 24 8 0 := ⟨gw2 115 (by decide +kernel) rfl, ly_8_0, by decide, by decide, by decide +kernel, by decide +kernel, tyOK_2o _⟩
theorem f_108_28 : FldAt 108 28 8 1 := ⟨gw2 116 (by decide +kernel) rfl, ly_8_1, by decide, by decide, by decide +kernel, by decide +kernel, tyOK_2o _⟩
theorem f_109_15 : FldAt 109 15 9 4 := ⟨gw2 164 (by decide +kernel) rfl, ly_9_4, by decide, by decide, by decide +kernel, by decide +kernel, tyOK_2a _⟩
theorem f_109_18 : FldAt 109 18 9 5 := ⟨gw2 165 (by decide +kernel) rfl, ly_9_5, by decide, by decide, by decide +kernel, by decide +kernel, tyOK_2a _⟩
theorem f_109_21 : FldAt 109 21 9 6 := ⟨gw2 166 (by decide +kernel) rfl, ly_9_6, by decide, by decide, by decide +kernel, by decide +kernel, tyOK_2a _⟩
theorem f_109_24 : FldAt 109 24 9 7 := ⟨gw2 167 (by decide +kernel) rfl, ly_9_7, by decide, by decide, by decide +kernel, by decide +kernel, tyOK_2a _⟩
theorem f_109_27 : FldAt 109 27 9 0 := ⟨gw2 160 (by decide +kernel) rfl, ly_9_0, by decide, by decide, by decide +kernel, by decide +kernel, tyOK_2o _⟩
theorem f_109_31 : FldAt 109 31 9 1 := ⟨gw2 161 (by decide +kernel) rfl, ly_9_1, by decide, by decide, by decide +kernel, by decide +kernel, tyOK_2o _⟩
theorem f_109_35 : FldAt 109 35 9 2 := ⟨gw2 162 (by decide +kernel) rfl, ly_9_2, by decide, by decide, by decide +kernel, by decide +kernel, tyOK_2o _⟩
theorem f_109_9 : FldAt 109 9 9 3 := ⟨gw2 163 (by decide +kernel) rfl, ly_9_3, by decide, by decide, by decide +kernel, by decide +kernel, tyOK_2a _⟩
theorem f_10_15 : FldAt 10 15 10 5 := ⟨gw2 206 (by decide +kernel) rfl, ly_10_5, by decide, by decide, by decide +kernel, by decide +kernel, tyOK_2a _⟩
theorem f_10_18 : FldAt 10 18 10 0 := ⟨gw2 201 (by decide +kernel) rfl, ly_10_0, by decide, by decide, by decide +kernel, by decide +kernel, tyOK_2o _⟩
theorem f_10_22 : FldAt 10 22 10 1 := ⟨gw2 202 (by decide +kernel) rfl, ly_10_1, by decide, by decide, by decide +kernel, by decide +kernel, tyOK_2o _⟩
theorem f_10_26 : FldAt 10 26 10 2 := ⟨gw2 203 (by decide +kernel) rfl, ly_10_2, by decide, by decide, by decide +kernel, by decide +kernel, tyOK_2o _⟩
theorem f_10_30 : FldAt 10 30 10 3 := ⟨gw2 204 (by decide +kernel) rfl, ly_10_3, by decide, by decide, by decide +kernel, by decide +kernel, tyOK_2o _⟩
theorem f_10_34 : FldAt 10 34 10 6 := ⟨gw2 208 (by decide +kernel) rfl, ly_10_6, by decide, by decide, by decide +kernel, by decide +kernel, tyOK_0⟩
theorem f_10_38 : FldAt 10 38 4 3 := ⟨gw1 105 (by decide +kernel) rfl, ly_4_3, by decide, by decide, by decide +kernel, by decide +kernel, tyOK_0⟩
theorem f_10_51 : FldAt 10 51 8 6 := ⟨gw2 128 (by decide +kernel) rfl, ly_8_6, by decide, by decide, by decide +kernel, by decide +kernel, tyOK_0⟩
theorem f_10_62 : FldAt 10 62 5 11 := ⟨gw1 208 (by decide +kernel) rfl, ly_5_11, by decide, by decide, by decide +kernel, by decide +kernel, tyOK_0⟩
theorem f_10_67 : FldAt 10 67 6 12 := ⟨gw2 26 (by decide +kernel) rfl, ly_6_12, by decide, by decide, by decide +kernel, by decide +kernel, tyOK_0⟩
theorem f_10_71 : FldAt 10 71 8 5 := ⟨gw2 123 (by decide +kernel) rfl, ly_8_5, by decide, by decide, by decide +kernel, by decide +kernel, tyOK_2a _⟩
theorem f_10_9 : FldAt 10 9 10 4 := ⟨gw2 205 (by decide +kernel) rfl, ly_10_4, by decide, by decide, by decide +kernel, by decide +kernel, tyOK_2a _⟩
theorem f_110_15 : FldAt 110 15 10 5 := ⟨gw2 206 (by decide +kernel) rfl, ly_10_5, by decide, by decide, by decide +kernel, by decide +kernel, tyOK_2a _⟩
theorem f_110_18 : FldAt 110 18 10 0 := ⟨gw2 201 (by decide +kernel) rfl, ly_10_0, by decide, by decide, by decide +kernel, by decide +kernel, tyOK_2o _⟩
theorem f_110_22 : FldAt 110 22 10 1 := ⟨gw2 202 (by decide +kernel) rfl, ly_10_1, by decide, by decide, by decide +kernel, by decide +kernel, tyOK_2o _⟩
theorem f_110_26 : FldAt 110 26 10 2 := ⟨gw2 203 (by decide +kernel) rfl, ly_10_2, by decide, by decide, by decide +kernel, by decide +kernel, tyOK_2o _⟩
theorem f_110_30 : FldAt 110 30 10 3 := ⟨gw2 204 (by decide +kernel) rfl, ly_10_3, by decide, by decide, by decide +kernel, by decide +kernel, tyOK_2o _⟩
theorem f_110_9 : FldAt 110 9 10 4 := ⟨gw2 205 (by decide +kernel) rfl, ly_10_4, by decide, by decide, by decide +kernel, by decide +kernel, tyOK_2a _⟩
theorem f_111_15 : FldAt 111 15 11 5 := ⟨gw2 235 (by decide +kernel) rfl, ly_11_5, by decide, by decide, by decide +kernel, by decide +kernel, tyOK_2a _⟩
theorem f_111_18 : FldAt 111 18 11 6 := ⟨gw2 236 (by decide +kernel) rfl, ly_11_6, by decide, by decide, by decide +kernel, by decide +kernel, tyOK_2a _⟩
theorem f_111_21 : FldAt 111 21 11 7 := ⟨gw2 237 (by decide +kernel) rfl, ly_11_7, by decide, by decide, by decide +kernel, by decide +kernel, tyOK_2a _⟩
theorem f_111_24 : FldAt 111 24 11 8 := ⟨gw2 238 (by decide +kernel) rfl, ly_11_8, by decide, by decide, by decide +kernel, by decide +kernel, tyOK_2a _⟩
theorem f_111_27 : FldAt 111 27 11 0 := ⟨gw2 230 (by decide +kernel) rfl, ly_11_0, by decide, by decide, by decide +kernel, by decide +kernel, tyOK_2o _⟩
theorem f_111_31 : FldAt 111 31 11 1 := ⟨gw2 231 (by decide +kernel) rfl, ly_11_1, by decide, by decide, by decide +kernel, by decide +kernel, tyOK_2o _⟩
theorem f_111_35 : FldAt 111 35 11 2 := ⟨gw2 232 (by decide +kernel) rfl, ly_11_2, by decide, by decide, by decide +kernel, by decide +kernel, tyOK_2o _⟩
theorem f_111_39 : FldAt 111 39 11 3 := ⟨gw2 233 (by decide +kernel) rfl, ly_11_3, by decide, by decide, by decide +kernel, by decide +kernel, tyOK_2o _⟩
theorem f_111_9 : FldAt 111 9 11 4 := ⟨gw2 234 (by decide +kernel) rfl, ly_11_4, by decide, by decide, by decide +kernel, by decide +kernel, tyOK_2a _⟩
theorem f_112_15 : FldAt 112 15 12 3 := ⟨gw3 41 (by decide +kernel) rfl, ly_12_3, by decide, by decide, by decide +kernel, by decide +kernel, tyOK_2a _⟩
theorem f_112_18 : FldAt 112 18 12 5 := ⟨gw3 44 (by decide +kernel) rfl, ly_12_5, by decide, by decide, by decide +kernel, by decide +kernel, tyOK_2a _⟩
theorem f_112_21 : FldAt 112 21 12 6 := ⟨gw3 45 (by decide +kernel) rfl, ly_12_6, by decide, by decide, by decide +kernel, by decide +kernel, tyOK_2a _⟩
theorem f_112_24 : FldAt 112 24 12 7 := ⟨gw3 46 (by decide +kernel) rfl, ly_12_7, by decide, by decide, by decide +kernel, by decide +kernel, tyOK_2a _⟩
theorem f_112_27 : FldAt 112 27 12 0 := ⟨gw3 38 (by decide +kernel) rfl, ly_12_0, by decide, by decide, by decide +kernel, by decide +kernel, tyOK_2o _⟩
theorem f_112_31 : FldAt 112 31 12 1 := ⟨gw3 39 (by decide +kernel) rfl, ly_12_1, by decide, by decide, by decide +kernel, by decide +kernel, tyOK_2o _⟩
theorem f_112_9 : FldAt 112 9 12 2 := ⟨gw3 40 (by decide +kernel) rfl, ly_12_2, by decide, by decide, by decide +kernel, by decide +kernel, tyOK_2a _⟩
theorem f_113_102 : FldAt 113 102 13 61 := ⟨gw6 232 (by decide +kernel) rfl, ly_13_61, by decide, by decide, by decide +kernel, by decide +kernel, tyOK_2a _⟩
theorem f_113_105 : FldAt 113 105 13 63 := ⟨gw6 234 (by decide +kernel) rfl, ly_13_63, by decide, by decide, by decide +kernel, by decide +kernel, tyOK_2a _⟩
theorem f_113_108 : FldAt 113 108 13 64 := ⟨gw6 235 (by decide +kernel) rfl, ly_13_64, by decide, by decide, by decide +kernel, by decide +kernel, tyOK_2a _⟩
theorem f_113_111 : FldAt 113 111 13 67 := ⟨gw6 238 (by decide +kernel) rfl, ly_13_67, by decide, by decide, by decide +kernel, by decide +kernel, tyOK_2a _⟩
theorem f_113_114 : FldAt 113 114 13 68 := ⟨gw6 239 (by decide +kernel) rfl, ly_13_68, by decide, by decide, by decide +kernel, by decide +kernel, tyOK_2a _⟩
theorem f_113_117 : FldAt 113 117 13 69 := ⟨gw7 0 (by decide +kernel) rfl, ly_13_69, by decide, by decide, by decide +kernel, by decide +kernel, tyOK_2a _⟩
theorem f_113_120 : FldAt 113 120 13 70 := ⟨gw7 1 (by decide +kernel) rfl, ly_13_70, by decide, by decide, by decide +kernel, by decide +kernel, tyOK_2a _⟩
theorem f_113_123 : FldAt 113 123 13 71 := ⟨gw7 2 (by decide +kernel) rfl, ly_13_71, by decide, by decide, by decide +kernel, by decide +kernel, tyOK_2a _⟩
theorem f_113_13 : FldAt 113 13 13 8 := ⟨gw6 179 (by decide +kernel) rfl, ly_13_8, by decide, by decide, by decide +kernel, by decide +kernel, tyOK_2a _⟩
theorem f_113_17 : FldAt 113 17 13 9 := ⟨gw6 180 (by decide +kernel) rfl, ly_13_9, by decide, by decide, by decide +kernel, by decide +kernel, tyOK_2a _⟩
theorem f_113_20 : FldAt 113 20 13 10 := ⟨gw6 181 (by decide +kernel) rfl, ly_13_10, by decide, by decide, by decide +kernel, by decide +kernel, tyOK_2a _⟩
theorem f_113_23 : FldAt 113 23 13 11 := ⟨gw6 182 (by decide +kernel) rfl, ly_13_11, by decide, by decide, by decide +kernel, by decide +kernel, tyOK_2a _⟩
theorem f_113_26 : FldAt 113 26 13 12 := ⟨gw6 183 (by decide +kernel) rfl, ly_13_12, by decide, by decide, by decide +kernel, by decide +kernel, tyOK_2a _⟩
theorem f_113_30 : FldAt 113 30 13 13 := ⟨gw6 184 (by decide +kernel) rfl, ly_13_13, by decide, by decide, by decide +kernel, by decide +kernel, tyOK_2a _⟩
theorem f_113_33 : FldAt 113 33 13 14 := ⟨gw6 185 (by decide +kernel) rfl, ly_13_14, by decide, by decide, by decide +kernel, by decide +kernel, tyOK_2a _⟩
theorem f_113_36 : FldAt 113 36 13 15 := ⟨gw6 186 (by decide +kernel) rfl, ly_13_15, by decide, by decide, by decide +kernel, by decide +kernel, tyOK_2a _⟩
theorem f_113_39 : FldAt 113 39 13 16 := ⟨gw6 187 (by decide +kernel) rfl, ly_13_16, by decide, by decide, by decide +kernel, by decide +kernel, tyOK_2a _⟩
theorem f_113_42 : FldAt 113 42 13 17 := ⟨gw6 188 (by decide +kernel) rfl, ly_13_17, by decide, by decide, by decide +kernel, by decide +kernel, tyOK_2a _⟩
theorem f_113_45 : FldAt 113 45 13 22 := ⟨gw6 193 (by decide +kernel) rfl, ly_13_22, by decide, by decide, by decide +kernel, by decide +kernel, tyOK_2a _⟩
theorem f_113_48 : FldAt 113 48 13 23 := ⟨gw6 194 (by decide +kernel) rfl, ly_13_23, by decide, by decide, by decide +kernel, by decide +kernel, tyOK_2a _⟩
theorem f_113_51 : FldAt 113 51 13 24 := ⟨gw6 195 (by decide +kernel) rfl, ly_13_24, by decide, by decide, by decide +kernel, by decide +kernel, tyOK_2a _⟩
theorem f_113_54 : FldAt 113 54 13 25 := ⟨gw6 196 (by decide +kernel) rfl, ly_13_25, by decide, by decide, by decide +kernel, by decide +kernel, tyOK_2a _⟩
theorem f_113_57 : FldAt 113 57 13 30 := ⟨gw6 201 (by decide +kernel) rfl, ly_13_30, by decide, by decide, by decide +kernel, by decide +kernel, tyOK_2a _⟩
theorem f_113_60 : FldAt 113 60 13 31 := ⟨gw6 202 (by decide +kernel) rfl, ly_13_31, by decide, by decide, by decide +kernel, by decide +kernel, tyOK_2a _⟩
theorem f_113_63 : FldAt 113 63 13 34 := ⟨gw6 205 (by decide +kernel) rfl, ly_13_34, by decide, by decide, by decide +kernel, by decide +kernel, tyOK_2a _⟩
theorem f_113_66 : FldAt 113 66 13 35 := ⟨gw6 206 (by decide +kernel) rfl, ly_13_35, by decide, by decide, by decide +kernel, by decide +kernel, tyOK_2a _⟩
theorem f_113_69 : FldAt 113 69 13 40 := ⟨gw6 211 (by decide +kernel) rfl, ly_13_40, by decide, by decide, by decide +kernel, by decide +kernel, tyOK_2a _⟩
theorem f_113_72 : FldAt 113 72 13 41 := ⟨gw6 212 (by decide +kernel) rfl, ly_13_41, by decide, by decide, by decide +kernel, by decide +kernel, tyOK_2a _⟩
theorem f_113_75 : FldAt 113 75 13 42 := ⟨gw6 213 (by decide +kernel) rfl, ly_13_42, by decide, by decide, by decide +kernel, by decide +kernel, tyOK_2a _⟩
end
section
/-! places of the pools (by program) -/
theorem f_113_78 : FldAt 113 78 13 43 := ⟨gw6 214 (by decide +kernel) rfl, ly_13_43, by decide, by decide, by decide +kernel, by decide +kernel, tyOK_2a _⟩
theorem f_113_81 : FldAt 113 81 13 50 := ⟨gw6 221 (by decide +kernel) rfl, ly_13_50, by decide, by decide, by decide +kernel, by decide +kernel, tyOK_2a _⟩
theorem f_113_84 : FldAt 113 84 13 51 := ⟨gw6 222 (by decide +kernel) rfl, ly_13_51, by decide, by decide, by decide +kernel, by decide +kernel, tyOK_2a _⟩
theorem f_113_87 : FldAt 113 87 13 52 := ⟨gw6 223 (by decide +kernel) rfl, ly_13_52, by decide, by decide, by decide +kernel, by decide +kernel, tyOK_2a _⟩
theorem f_113_9 : FldAt 113 9 13 2 := ⟨gw6 173 (by decide +kernel) rfl, ly_13_2, by decide, by decide, by decide +kernel, by decide +kernel, tyOK_2a _⟩
theorem f_113_90 : FldAt 113 90 13 54 := ⟨gw6 225 (by decide +kernel) rfl, ly_13_54, by decide, by decide, by decide +kernel, by decide +kernel, tyOK_2a _⟩
theorem f_113_93 : FldAt 113 93 13 55 := ⟨gw6 226 (by decide +kernel) rfl, ly_13_55, by decide, by decide, by decide +kernel, by decide +kernel, tyOK_2a _⟩
theorem f_113_96 : FldAt 113 96 13 57 := ⟨gw6 228 (by decide +kernel) rfl, ly_13_57, by decide, by decide, by decide +kernel, by decide +kernel, tyOK_2a _⟩
theorem f_113_99 : FldAt 113 99 13 58 := ⟨gw6 229 (by decide +kernel) rfl, ly_13_58, by decide, by decide, by decide +kernel, by decide +kernel, tyOK_2a _⟩
theorem f_11_101 : FldAt 11 101 6 8 := ⟨gw2 16 (by decide +kernel) rfl, ly_6_8, by decide, by decide, by decide +kernel, by decide +kernel, tyOK_0⟩
theorem f_11_103 : FldAt 11 103 5 11 := ⟨gw1 209 (by decide +kernel) rfl, ly_5_11, by decide, by decide, by decide +kernel, by decide +kernel, tyOK_0⟩
theorem f_11_106 : FldAt 11 106 6 12 := ⟨gw2 28 (by decide +kernel) rfl, ly_6_12, by decide, by decide, by decide +kernel, by decide +kernel, tyOK_0⟩
theorem f_11_126 : FldAt 11 126 5 0 := ⟨gw1 165 (by decide +kernel) rfl, ly_5_0, by decide, by decide, by decide +kernel, by decide +kernel, tyOK_2a _⟩
theorem f_11_129 : FldAt 11 129 4 9 := ⟨gw1 127 (by decide +kernel) rfl, ly_4_9, by decide, by decide, by decide +kernel, by decide +kernel, tyOK_2a _⟩
theorem f_11_15 : FldAt 11 15 11 5 := ⟨gw2 235 (by decide +kernel) rfl, ly_11_5, by decide, by decide, by decide +kernel, by decide +kernel, tyOK_2a _⟩
theorem f_11_18 : FldAt 11 18 11 6 := ⟨gw2 236 (by decide +kernel) rfl, ly_11_6, by decide, by decide, by decide +kernel, by decide +kernel, tyOK_2a _⟩
theorem f_11_21 : FldAt 11 21 11 7 := ⟨gw2 237 (by decide +kernel) rfl, ly_11_7, by decide, by decide, by decide +kernel, by decide +kernel, tyOK_2a _⟩
theorem f_11_24 : FldAt 11 24 11 8 := ⟨gw2 238 (by decide +kernel) rfl, ly_11_8, by decide, by decide, by decide +kernel, by decide +kernel, tyOK_2a _⟩
theorem f_11_27 : FldAt 11 27 11 0 := ⟨gw2 230 (by decide +kernel) rfl, ly_11_0, by decide, by decide, by decide +kernel, by decide +kernel, tyOK_2o _⟩
theorem f_11_31 : FldAt 11 31 11 1 := ⟨gw2 231 (by decide +kernel) rfl, ly_11_1, by decide, by decide, by decide +kernel, by decide +kernel, tyOK_2o _⟩
theorem f_11_35 : FldAt 11 35 11 2 := ⟨gw2 232 (by decide +kernel) rfl, ly_11_2, by decide, by decide, by decide +kernel, by decide +kernel, tyOK_2o _⟩
theorem f_11_39 : FldAt 11 39 11 3 := ⟨gw2 233 (by decide +kernel) rfl, ly_11_3, by decide, by decide, by decide +kernel, by decide +kernel, tyOK_2o _⟩
theorem f_11_43 : FldAt 11 43 11 11 := ⟨gw3 3 (by decide +kernel) rfl, ly_11_11, by decide, by decide, by decide +kernel, by decide +kernel, tyOK_0⟩
theorem f_11_47 : FldAt 11 47 11 12 := ⟨gw3 4 (by decide +kernel) rfl, ly_11_12, by decide, by decide, by decide +kernel, by decide +kernel, tyOK_0⟩
theorem f_11_56 : FldAt 11 56 11 9 := ⟨gw3 0 (by decide +kernel) rfl, ly_11_9, by decide, by decide, by decide +kernel, by decide +kernel, tyOK_0⟩
theorem f_11_59 : FldAt 11 59 11 10 := ⟨gw3 2 (by decide +kernel) rfl, ly_11_10, by decide, by decide, by decide +kernel, by decide +kernel, tyOK_0⟩
theorem f_11_76 : FldAt 11 76 4 2 := ⟨gw1 101 (by decide +kernel) rfl, ly_4_2, by decide, by decide, by decide +kernel, by decide +kernel, tyOK_0⟩
theorem f_11_81 : FldAt 11 81 5 4 := ⟨gw1 179 (by decide +kernel) rfl, ly_5_4, by decide, by decide, by decide +kernel, by decide +kernel, tyOK_2a _⟩
theorem f_11_86 : FldAt 11 86 5 1 := ⟨gw1 169 (by decide +kernel) rfl, ly_5_1, by decide, by decide, by decide +kernel, by decide +kernel, tyOK_2a _⟩
theorem f_11_9 : FldAt 11 9 11 4 := ⟨gw2 234 (by decide +kernel) rfl, ly_11_4, by decide, by decide, by decide +kernel, by decide +kernel, tyOK_2a _⟩
theorem f_11_94 : FldAt 11 94 8 7 := ⟨gw2 131 (by decide +kernel) rfl, ly_8_7, by decide, by decide, by decide +kernel, by decide +kernel, tyOK_0⟩
theorem f_12_15 : FldAt 12 15 12 3 := ⟨gw3 41 (by decide +kernel) rfl, ly_12_3, by decide, by decide, by decide +kernel, by decide +kernel, tyOK_2a _⟩
theorem f_12_18 : FldAt 12 18 12 5 := ⟨gw3 44 (by decide +kernel) rfl, ly_12_5, by decide, by decide, by decide +kernel, by decide +kernel, tyOK_2a _⟩
theorem f_12_21 : FldAt 12 21 12 6 := ⟨gw3 45 (by decide +kernel) rfl, ly_12_6, by decide, by decide, by decide +kernel, by decide +kernel, tyOK_2a _⟩
theorem f_12_24 : FldAt 12 24 12 7 := ⟨gw3 46 (by decide +kernel) rfl, ly_12_7, by decide, by decide, by decide +kernel, by decide +kernel, tyOK_2a _⟩
theorem f_12_27 : FldAt 12 27 12 0 := ⟨gw3 38 (by decide +kernel) rfl, ly_12_0, by decide, by decide, by decide +kernel, by decide +kernel, tyOK_2o _⟩
theorem f_12_31 : FldAt 12 31 12 1 := ⟨gw3 39 (by decide +kernel) rfl, ly_12_1, by decide, by decide, by decide +kernel, by decide +kernel, tyOK_2o _⟩
theorem f_12_35 : FldAt 12 35 12 4 := ⟨gw3 42 (by decide +kernel) rfl, ly_12_4, by decide, by decide, by decide +kernel, by decide +kernel, tyOK_0⟩
theorem f_12_39 : FldAt 12 39 12 9 := ⟨gw3 50 (by decide +kernel) rfl, ly_12_9, by decide, by decide, by decide +kernel, by decide +kernel, tyOK_0⟩
theorem f_12_42 : FldAt 12 42 12 10 := ⟨gw3 51 (by decide +kernel) rfl, ly_12_10, by decide, by decide, by decide +kernel, by decide +kernel, tyOK_0⟩
theorem f_12_45 : FldAt 12 45 12 8 := ⟨gw3 48 (by decide +kernel) rfl, ly_12_8, by decide, by decide, by decide +kernel, by decide +kernel, tyOK_0⟩
theorem f_12_62 : FldAt 12 62 4 0 := ⟨gw1 94 (by decide +kernel) rfl, ly_4_0, by decide, by decide, by decide +kernel, by decide +kernel, tyOK_0⟩
theorem f_12_67 : FldAt 12 67 4 1 := ⟨gw1 99 (by decide +kernel) rfl, ly_4_1, by decide, by decide, by decide +kernel, by decide +kernel, tyOK_0⟩
theorem f_12_74 : FldAt 12 74 5 10 := ⟨gw1 202 (by decide +kernel) rfl, ly_5_10, by decide, by decide, by decide +kernel, by decide +kernel, tyOK_0⟩
theorem f_12_83 : FldAt 12 83 4 7 := ⟨gw1 121 (by decide +kernel) rfl, ly_4_7, by decide, by decide, by decide +kernel, by decide +kernel, tyOK_2a _⟩
theorem f_12_9 : FldAt 12 9 12 2 := ⟨gw3 40 (by decide +kernel) rfl, ly_12_2, by decide, by decide, by decide +kernel, by decide +kernel, tyOK_2a _⟩
theorem f_13_102 : FldAt 13 102 13 61 := ⟨gw6 232 (by decide +kernel) rfl, ly_13_61, by decide, by decide, by decide +kernel, by decide +kernel, tyOK_2a _⟩
theorem f_13_105 : FldAt 13 105 13 63 := ⟨gw6 234 (by decide +kernel) rfl, ly_13_63, by decide, by decide, by decide +kernel, by decide +kernel, tyOK_2a _⟩
theorem f_13_108 : FldAt 13 108 13 64 := ⟨gw6 235 (by decide +kernel) rfl, ly_13_64, by decide, by decide, by decide +kernel, by decide +kernel, tyOK_2a _⟩
theorem f_13_111 : FldAt 13 111 13 67 := ⟨gw6 238 (by decide +kernel) rfl, ly_13_67, by decide, by decide, by decide +kernel, by decide +kernel, tyOK_2a _⟩
theorem f_13_114 : FldAt 13 114 13 68 := ⟨gw6 239 (by decide +kernel) rfl, ly_13_68, by decide, by decide, by decide +kernel, by decide +kernel, tyOK_2a _⟩
theorem f_13_117 : FldAt 13 117 13 69 := ⟨gw7 0 (by decide +kernel) rfl, ly_13_69, by decide, by decide, by decide +kernel, by decide +kernel, tyOK_2a _⟩
theorem f_13_120 : FldAt 13 120 13 70 := ⟨gw7 1 (by decide +kernel) rfl, ly_13_70, by decide, by decide, by decide +kernel, by decide +kernel, tyOK_2a _⟩
theorem f_13_123 : FldAt 13 123 13 71 := ⟨gw7 2 (by decide +kernel) rfl, ly_13_71, by decide, by decide, by decide +kernel, by decide +kernel, tyOK_2a _⟩
theorem f_13_126 : FldAt 13 126 13 0 := ⟨gw6 171 (by decide +kernel) rfl, ly_13_0, by decide, by decide, by decide +kernel, by decide +kernel, tyOK_0⟩
theorem f_13_13 : FldAt 13 13 13 8 := ⟨gw6 179 (by decide +kernel) rfl, ly_13_8, by decide, by decide, by decide +kernel, by decide +kernel, tyOK_2a _⟩
theorem f_13_130 : FldAt 13 130 13 1 := ⟨gw6 172 (by decide +kernel) rfl, ly_13_1, by decide, by decide, by decide +kernel, by decide +kernel, tyOK_0⟩
theorem f_13_133 : FldAt 13 133 13 3 := ⟨gw6 174 (by decide +kernel) rfl, ly_13_3, by decide, by decide, by decide +kernel, by decide +kernel, tyOK_0⟩
theorem f_13_140 : FldAt 13 140 13 5 := ⟨gw6 176 (by decide +kernel) rfl, ly_13_5, by decide, by decide, by decide +kernel, by decide +kernel, tyOK_0⟩
theorem f_13_143 : FldAt 13 143 13 6 := ⟨gw6 177 (by decide +kernel) rfl, ly_13_6, by decide, by decide, by decide +kernel, by decide +kernel, tyOK_0⟩
theorem f_13_146 : FldAt 13 146 13 4 := ⟨gw6 175 (by decide +kernel) rfl, ly_13_4, by decide, by decide, by decide +kernel, by decide +kernel, tyOK_0⟩
theorem f_13_160 : FldAt 13 160 13 18 := ⟨gw6 189 (by decide +kernel) rfl, ly_13_18, by decide, by decide, by decide +kernel, by decide +kernel, tyOK_0⟩
theorem f_13_163 : FldAt 13 163 13 19 := ⟨gw6 190 (by decide +kernel) rfl, ly_13_19, by decide, by decide, by decide +kernel, by decide +kernel, tyOK_0⟩
theorem f_13_166 : FldAt 13 166 13 21 := ⟨gw6 192 (by decide +kernel) rfl, ly_13_21, by decide, by decide, by decide +kernel, by decide +kernel, tyOK_0⟩
theorem f_13_17 : FldAt 13 17 13 9 := ⟨gw6 180 (by decide +kernel) rfl, ly_13_9, by decide, by decide, by decide +kernel, by decide +kernel, tyOK_2a _⟩
theorem f_13_175 : FldAt 13 175 13 20 := ⟨gw6 191 (by decide +kernel) rfl, ly_13_20, by decide, by decide, by decide +kernel, by decide +kernel, tyOK_0⟩
theorem f_13_20 : FldAt 13 20 13 10 := ⟨gw6 181 (by decide +kernel) rfl, ly_13_10, by decide, by decide, by decide +kernel, by decide +kernel, tyOK_2a _⟩
theorem f_13_204 : FldAt 13 204 13 26 := ⟨gw6 197 (by decide +kernel) rfl, ly_13_26, by decide, by decide, by decide +kernel, by decide +kernel, tyOK_0⟩
theorem f_13_212 : FldAt 13 212 13 27 := ⟨gw6 198 (by decide +kernel) rfl, ly_13_27, by decide, by decide, by decide +kernel, by decide +kernel, tyOK_0⟩
theorem f_13_224 : FldAt 13 224 13 28 := ⟨gw6 199 (by decide +kernel) rfl, ly_13_28, by decide, by decide, by decide +kernel, by decide +kernel, tyOK_0⟩
theorem f_13_23 : FldAt 13 23 13 11 := ⟨gw6 182 (by decide +kernel) rfl, ly_13_11, by decide, by decide, by decide +kernel, by decide +kernel, tyOK_2a _⟩
theorem f_13_233 : FldAt 13 233 13 29 := ⟨gw6 200 (by decide +kernel) rfl, ly_13_29, by decide, by decide, by decide +kernel, by decide +kernel, tyOK_0⟩
theorem f_13_26 : FldAt 13 26 13 12 := ⟨gw6 183 (by decide +kernel) rfl, ly_13_12, by decide, by decide, by decide +kernel, by decide +kernel, tyOK_2a _⟩
theorem f_13_260 : FldAt 13 260 13 39 := ⟨gw6 210 (by decide +kernel) rfl, ly_13_39, by decide, by decide, by decide +kernel, by decide +kernel, tyOK_0⟩
theorem f_13_263 : FldAt 13 263 13 7 := ⟨gw6 178 (by decide +kernel) rfl, ly_13_7, by decide, by decide, by decide +kernel, by decide +kernel, tyOK_0⟩
theorem f_13_266 : FldAt 13 266 13 33 := ⟨gw6 204 (by decide +kernel) rfl, ly_13_33, by decide, by decide, by decide +kernel, by decide +kernel, tyOK_0⟩
theorem f_13_287 : FldAt 13 287 13 32 := ⟨gw6 203 (by decide +kernel) rfl, ly_13_32, by decide, by decide, by decide +kernel, by decide +kernel, tyOK_0⟩
theorem f_13_30 : FldAt 13 30 13 13 := ⟨gw6 184 (by decide +kernel) rfl, ly_13_13, by decide, by decide, by decide +kernel, by decide +kernel, tyOK_2a _⟩
theorem f_13_304 : FldAt 13 304 13 36 := ⟨gw6 207 (by decide +kernel) rfl, ly_13_36, by decide, by decide, by decide +kernel, by decide +kernel, tyOK_0⟩
theorem f_13_307 : FldAt 13 307 13 37 := ⟨gw6 208 (by decide +kernel) rfl, ly_13_37, by decide, by decide, by decide +kernel, by decide +kernel, tyOK_0⟩
theorem f_13_310 : FldAt 13 310 13 38 := ⟨gw6 209 (by decide +kernel) rfl, ly_13_38, by decide, by decide, by decide +kernel, by decide +kernel, tyOK_0⟩
theorem f_13_33 : FldAt 13 33 13 14 := ⟨gw6 185 (by decide +kernel) rfl, ly_13_14, by decide, by decide, by decide +kernel, by decide +kernel, tyOK_2a _⟩
theorem f_13_36 : FldAt 13 36 13 15 := ⟨gw6 186 (by decide +kernel) rfl, ly_13_15, by decide, by decide, by decide +kernel, by decide +kernel, tyOK_2a _⟩
theorem f_13_39 : FldAt 13 39 13 16 := ⟨gw6 187 (by decide +kernel) rfl, ly_13_16, by decide, by decide, by decide +kernel, by decide +kernel, tyOK_2a _⟩
theorem f_13_399 : FldAt 13 399 13 44 := ⟨gw6 215 (by decide +kernel) rfl, ly_13_44, by decide, by decide, by decide +kernel, by decide +kernel, tyOK_0⟩
theorem f_13_414 : FldAt 13 414 13 45 := ⟨gw6 216 (by decide +kernel) rfl, ly_13_45, by decide, by decide, by decide +kernel, by decide +kernel, tyOK_0⟩
theorem f_13_417 : FldAt 13 417 13 46 := ⟨gw6 217 (by decide +kernel) rfl, ly_13_46, by decide, by decide, by decide +kernel, by decide +kernel, tyOK_0⟩
theorem f_13_42 : FldAt 13 42 13 17 := ⟨gw6 188 (by decide +kernel) rfl, ly_13_17, by decide, by decide, by decide +kernel, by decide +kernel, tyOK_2a _⟩
theorem f_13_428 : FldAt 13 428 13 48 := ⟨gw6 219 (by decide +kernel) rfl, ly_13_48, by decide, by decide, by decide +kernel, by decide +kernel, tyOK_0⟩
theorem f_13_431 : FldAt 13 431 13 47 := ⟨gw6 218 (by decide +kernel) rfl, ly_13_47, by decide, by decide, by decide +kernel, by decide +kernel, tyOK_0⟩
theorem f_13_434 : FldAt 13 434 13 49 := ⟨gw6 220 (by decide +kernel) rfl, ly_13_49, by decide, by decide, by decide +kernel, by decide +kernel, tyOK_0⟩
theorem f_13_45 : FldAt 13 45 13 22 := ⟨gw6 193 (by decide +kernel) rfl, ly_13_22, by decide, by decide, by decide +kernel, by decide +kernel, tyOK_2a _⟩
theorem f_13_453 : FldAt 13 453 13 53 := ⟨gw6 224 (by decide +kernel) rfl, ly_13_53, by decide, by decide, by decide +kernel, by decide +kernel, tyOK_0⟩
theorem f_13_48 : FldAt 13 48 13 23 := ⟨gw6 194 (by decide +kernel) rfl, ly_13_23, by decide, by decide, by decide +kernel, by decide +kernel, tyOK_2a _⟩
theorem f_13_485 : FldAt 13 485 13 56 := ⟨gw6 227 (by decide +kernel) rfl, ly_13_56, by decide, by decide, by decide +kernel, by decide +kernel, tyOK_0⟩
theorem f_13_492 : FldAt 13 492 13 59 := ⟨gw6 230 (by decide +kernel) rfl, ly_13_59, by decide, by decide, by decide +kernel, by decide +kernel, tyOK_0⟩
theorem f_13_495 : FldAt 13 495 13 60 := ⟨gw6 231 (by decide +kernel) rfl, ly_13_60, by decide, by decide, by decide +kernel, by decide +kernel, tyOK_0⟩
theorem f_13_507 : FldAt 13 507 13 62 := ⟨gw6 233 (by decide +kernel) rfl, ly_13_62, by decide, by decide, by decide +kernel, by decide +kernel, tyOK_0⟩
theorem f_13_51 : FldAt 13 51 13 24 := ⟨gw6 195 (by decide +kernel) rfl, ly_13_24, by decide, by decide, by decide +kernel, by decide +kernel, tyOK_2a _⟩
theorem f_13_510 : FldAt 13 510 13 66 := ⟨gw6 237 (by decide +kernel) rfl, ly_13_66, by decide, by decide, by decide +kernel, by decide +kernel, tyOK_0⟩
theorem f_13_516 : FldAt 13 516 13 65 := ⟨gw6 236 (by decide +kernel) rfl, ly_13_65, by decide, by decide, by decide +kernel, by decide +kernel, tyOK_0⟩
theorem f_13_54 : FldAt 13 54 13 25 := ⟨gw6 196 (by decide +kernel) rfl, ly_13_25, by decide, by decide, by decide +kernel, by decide +kernel, tyOK_2a _⟩
theorem f_13_57 : FldAt 13 57 13 30 := ⟨gw6 201 (by decide +kernel) rfl, ly_13_30, by decide, by decide, by decide +kernel, by decide +kernel, tyOK_2a _⟩
theorem f_13_60 : FldAt 13 60 13 31 := ⟨gw6 202 (by decide +kernel) rfl, ly_13_31, by decide, by decide, by decide +kernel, by decide +kernel, tyOK_2a _⟩
theorem f_13_63 : FldAt 13 63 13 34 := ⟨gw6 205 (by decide +kernel) rfl, ly_13_34, by decide, by decide, by decide +kernel, by decide +kernel, tyOK_2a _⟩
theorem f_13_66 : FldAt 13 66 13 35 := ⟨gw6 206 (by decide +kernel) rfl, ly_13_35, by decide, by decide, by decide +kernel, by decide +kernel, tyOK_2a _⟩
theorem f_13_69 : FldAt 13 69 13 40 := ⟨gw6 211 (by decide +kernel) rfl, ly_13_40, by decide, by decide, by decide +kernel, by decide +kernel, tyOK_2a _⟩
theorem f_13_72 : FldAt 13 72 13 41 := ⟨gw6 212 (by decide +kernel) rfl, ly_13_41, by decide, by decide, by decide +kernel, by decide +kernel, tyOK_2a _⟩
theorem f_13_75 : FldAt 13 75 13 42 := ⟨gw6 213 (by decide +kernel) rfl, ly_13_42, by decide, by decide, by decide +kernel, by decide +kernel, tyOK_2a _⟩
theorem f_13_78 : FldAt 13 78 13 43 := ⟨gw6 214 (by decide +kernel) rfl, ly_13_43, by decide, by decide, by decide +kernel, by decide +kernel, tyOK_2a _⟩
theorem f_13_81 : FldAt 13 81 13 50 := ⟨gw6 221 (by decide +kernel) rfl, ly_13_50, by decide, by decide, by decide +kernel, by decide +kernel, tyOK_2a _⟩
theorem f_13_84 : FldAt 13 84 13 51 := ⟨gw6 222 (by decide +kernel) rfl, ly_13_51, by decide, by decide, by decide +kernel, by decide +kernel, tyOK_2a _⟩
theorem f_13_87 : FldAt 13 87 13 52 := ⟨gw6 223 (by decide +kernel) rfl, ly_13_52, by decide, by decide, by decide +kernel, by decide +kernel, tyOK_2a _⟩
theorem f_13_9 : FldAt 13 9 13 2 := ⟨gw6 173 (by decide +kernel) rfl, ly_13_2, by decide, by decide, by decide +kernel, by decide +kernel, tyOK_2a _⟩
theorem f_13_90 : FldAt 13 90 13 54 := ⟨gw6 225 (by decide +kernel) rfl, ly_13_54, by decide, by decide, by decide +kernel, by decide +kernel, tyOK_2a _⟩
theorem f_13_93 : FldAt 13 93 13 55 := ⟨gw6 226 (by decide +kernel) rfl, ly_13_55, by decide, by decide, by decide +kernel, by decide +kernel, tyOK_2a _⟩
theorem f_13_96 : FldAt 13 96 13 57 := ⟨gw6 228 (by decide +kernel) rfl, ly_13_57, by decide, by decide, by decide +kernel, by decide +kernel, tyOK_2a _⟩
theorem f_13_99 : FldAt 13 99 13 58 := ⟨gw6 229 (by decide +kernel) rfl, ly_13_58, by decide, by decide, by decide +kernel, by decide +kernel, tyOK_2a _⟩
theorem f_1_10 : FldAt 1 10 1 0 := ⟨gw3 75 (by decide +kernel) rfl, ly_1_0, by decide, by decide, by decide +kernel, by decide +kernel, tyOK_2o _⟩
theorem f_1_100 : FldAt 1 100 1 13 := ⟨gw3 88 (by decide +kernel) rfl, ly_1_13, by decide, by decide, by decide +kernel, by decide +kernel, tyOK_2a _⟩
theorem f_1_112 : FldAt 1 112 2 1 := ⟨gw1 41 (by decide +kernel) rfl, ly_2_1, by decide, by decide, by decide +kernel, by decide +kernel, tyOK_0⟩
theorem f_1_123 : FldAt 1 123 1 12 := ⟨gw3 87 (by decide +kernel) rfl, ly_1_12, by decide, by decide, by decide +kernel, by decide +kernel, tyOK_0⟩
theorem f_1_135 : FldAt 1 135 4 4 := ⟨gw1 111 (by decide +kernel) rfl, ly_4_4, by decide, by decide, by decide +kernel, by decide +kernel, tyOK_2a _⟩
theorem f_1_139 : FldAt 1 139 4 2 := ⟨gw1 103 (by decide +kernel) rfl, ly_4_2, by decide, by decide, by decide +kernel, by decide +kernel, tyOK_0⟩
theorem f_1_146 : FldAt 1 146 4 3 := ⟨gw1 107 (by decide +kernel) rfl, ly_4_3, by decide, by decide, by decide +kernel, by decide +kernel, tyOK_0⟩
theorem f_1_158 : FldAt 1 158 4 5 := ⟨gw1 115 (by decide +kernel) rfl, ly_4_5, by decide, by decide, by decide +kernel, by decide +kernel, tyOK_2a _⟩
theorem f_1_161 : FldAt 1 161 4 6 := ⟨gw1 118 (by decide +kernel) rfl, ly_4_6, by decide, by decide, by decide +kernel, by decide +kernel, tyOK_2a _⟩
theorem f_1_164 : FldAt 1 164 4 7 := ⟨gw1 122 (by decide +kernel) rfl, ly_4_7, by decide, by decide, by decide +kernel, by decide +kernel, tyOK_2a _⟩
theorem f_1_170 : FldAt 1 170 5 10 := ⟨gw1 203 (by decide +kernel) rfl, ly_5_10, by decide, by decide, by decide +kernel, by decide +kernel, tyOK_0⟩
theorem f_1_176 : FldAt 1 176 5 0 := ⟨gw1 167 (by decide +kernel) rfl, ly_5_0, by decide, by decide, by decide +kernel, by decide +kernel, tyOK_2a _⟩
theorem f_1_179 : FldAt 1 179 4 9 := ⟨gw1 128 (by decide +kernel) rfl, ly_4_9, by decide, by decide, by decide +kernel, by decide +kernel, tyOK_2a _⟩
theorem f_1_182 : FldAt 1 182 5 1 := ⟨gw1 171 (by decide +kernel) rfl, ly_5_1, by decide, by decide, by decide +kernel, by decide +kernel, tyOK_2a _⟩
theorem f_1_185 : FldAt 1 185 5 2 := ⟨gw1 174 (by decide +kernel) rfl, ly_5_2, by decide, by decide, by decide +kernel, by decide +kernel, tyOK_2a _⟩
theorem f_1_188 : FldAt 1 188 5 3 := ⟨gw1 176 (by decide +kernel) rfl, ly_5_3, by decide, by decide, by decide +kernel, by decide +kernel, tyOK_0⟩
theorem f_1_19 : FldAt 1 19 1 1 := ⟨gw3 76 (by decide +kernel) rfl, ly_1_1, by decide, by decide, by decide +kernel, by decide +kernel, tyOK_2o _⟩
theorem f_1_194 : FldAt 1 194 4 10 := ⟨gw1 132 (by decide +kernel) rfl, ly_4_10, by decide, by decide, by decide +kernel, by decide +kernel, tyOK_2a _⟩
theorem f_1_197 : FldAt 1 197 5 4 := ⟨gw1 181 (by decide +kernel) rfl, ly_5_4, by decide, by decide, by decide +kernel, by decide +kernel, tyOK_2a _⟩
theorem f_1_200 : FldAt 1 200 5 5 := ⟨gw1 184 (by decide +kernel) rfl, ly_5_5, by decide, by decide, by decide +kernel, by decide +kernel, tyOK_2a _⟩
theorem f_1_203 : FldAt 1 203 5 6 := ⟨gw1 188 (by decide +kernel) rfl, ly_5_6, by decide, by decide, by decide +kernel, by decide +kernel, tyOK_2a _⟩
theorem f_1_206 : FldAt 1 206 5 7 := ⟨gw1 192 (by decide +kernel) rfl, ly_5_7, by decide, by decide, by decide +kernel, by decide +kernel, tyOK_2a _⟩
theorem f_1_209 : FldAt 1 209 5 8 := ⟨gw1 196 (by decide +kernel) rfl, ly_5_8, by decide, by decide, by decide +kernel, by decide +kernel, tyOK_2a _⟩
theorem f_1_212 : FldAt 1 212 5 9 := ⟨gw1 198 (by decide +kernel) rfl, ly_5_9, by decide, by decide, by decide +kernel, by decide +kernel, tyOK_2a _⟩
theorem f_1_258 : FldAt 1 258 7 4 := ⟨gw2 70 (by decide +kernel) rfl, ly_7_4, by decide, by decide, by decide +kernel, by decide +kernel, tyOK_0⟩
theorem f_1_26 : FldAt 1 26 1 2 := ⟨gw3 77 (by decide +kernel) rfl, ly_1_2, by decide, by decide, by decide +kernel, by decide +kernel, tyOK_2o _⟩
theorem f_1_268 : FldAt 1 268 7 5 := ⟨gw2 72 (by decide +kernel) rfl, ly_7_5, by decide, by decide, by decide +kernel, by decide +kernel, tyOK_0⟩
theorem f_1_271 : FldAt 1 271 7 6 := ⟨gw2 74 (by decide +kernel) rfl, ly_7_6, by decide, by decide, by decide +kernel, by decide +kernel, tyOK_0⟩
theorem f_1_300 : FldAt 1 300 6 8 := ⟨gw2 18 (by decide +kernel) rfl, ly_6_8, by decide, by decide, by decide +kernel, by decide +kernel, tyOK_0⟩
theorem f_1_302 : FldAt 1 302 6 10 := ⟨gw2 23 (by decide +kernel) rfl, ly_6_10, by decide, by decide, by decide +kernel, by decide +kernel, tyOK_0⟩
theorem f_1_308 : FldAt 1 308 6 6 := ⟨gw2 11 (by decide +kernel) rfl, ly_6_6, by decide, by decide, by decide +kernel, by decide +kernel, tyOK_0⟩
theorem f_1_316 : FldAt 1 316 8 6 := ⟨gw2 129 (by decide +kernel) rfl, ly_8_6, by decide, by decide, by decide +kernel, by decide +kernel, tyOK_0⟩
theorem f_1_319 : FldAt 1 319 8 4 := ⟨gw2 121 (by decide +kernel) rfl, ly_8_4, by decide, by decide, by decide +kernel, by decide +kernel, tyOK_2a _⟩
theorem f_1_322 : FldAt 1 322 8 7 := ⟨gw2 132 (by decide +kernel) rfl, ly_8_7, by decide, by decide, by decide +kernel, by decide +kernel, tyOK_0⟩
theorem f_1_327 : FldAt 1 327 8 8 := ⟨gw2 134 (by decide +kernel) rfl, ly_8_8, by decide, by decide, by decide +kernel, by decide +kernel, tyOK_0⟩
theorem f_1_33 : FldAt 1 33 1 3 := ⟨gw3 78 (by decide +kernel) rfl, ly_1_3, by decide, by decide, by decide +kernel, by decide +kernel, tyOK_2o _⟩
theorem f_1_335 : FldAt 1 335 8 5 := ⟨gw2 125 (by decide +kernel) rfl, ly_8_5, by decide, by decide, by decide +kernel, by decide +kernel, tyOK_2a _⟩
theorem f_1_342 : FldAt 1 342 9 7 := ⟨gw2 168 (by decide +kernel) rfl, ly_9_7, by decide, by decide, by decide +kernel, by decide +kernel, tyOK_2a _⟩
theorem f_1_350 : FldAt 1 350 10 5 := ⟨gw2 207 (by decide +kernel) rfl, ly_10_5, by decide, by decide, by decide +kernel, by decide +kernel, tyOK_2a _⟩
theorem f_1_359 : FldAt 1 359 11 9 := ⟨gw3 1 (by decide +kernel) rfl, ly_11_9, by decide, by decide, by decide +kernel, by decide +kernel, tyOK_0⟩
theorem f_1_360 : FldAt 1 360 11 8 := ⟨gw2 239 (by decide +kernel) rfl, ly_11_8, by decide, by decide, by decide +kernel, by decide +kernel, tyOK_2a _⟩
theorem f_1_367 : FldAt 1 367 12 4 := ⟨gw3 43 (by decide +kernel) rfl, ly_12_4, by decide, by decide, by decide +kernel, by decide +kernel, tyOK_0⟩
theorem f_1_371 : FldAt 1 371 12 8 := ⟨gw3 49 (by decide +kernel) rfl, ly_12_8, by decide, by decide, by decide +kernel, by decide +kernel, tyOK_0⟩
theorem f_1_374 : FldAt 1 374 12 7 := ⟨gw3 47 (by decide +kernel) rfl, ly_12_7, by decide, by decide, by decide +kernel, by decide +kernel, tyOK_2a _⟩
theorem f_1_382 : FldAt 1 382 4 0 := ⟨gw1 96 (by decide +kernel) rfl, ly_4_0, by decide, by decide, by decide +kernel, by decide +kernel, tyOK_0⟩
theorem f_1_384 : FldAt 1 384 4 1 := ⟨gw1 100 (by decide +kernel) rfl, ly_4_1, by decide, by decide, by decide +kernel, by decide +kernel, tyOK_0⟩
theorem f_1_387 : FldAt 1 387 5 11 := ⟨gw1 211 (by decide +kernel) rfl, ly_5_11, by decide, by decide, by decide +kernel, by decide +kernel, tyOK_0⟩
theorem f_1_392 : FldAt 1 392 7 9 := ⟨gw2 78 (by decide +kernel) rfl, ly_7_9, by decide, by decide, by decide +kernel, by decide +kernel, tyOK_0⟩
theorem f_1_395 : FldAt 1 395 1 14 := ⟨gw3 89 (by decide +kernel) rfl, ly_1_14, by decide, by decide, by decide +kernel, by decide +kernel, tyOK_0⟩
theorem f_1_42 : FldAt 1 42 1 4 := ⟨gw3 79 (by decide +kernel) rfl, ly_1_4, by decide, by decide, by decide +kernel, by decide +kernel, tyOK_2o _⟩
theorem f_1_51 : FldAt 1 51 1 5 := ⟨gw3 80 (by decide +kernel) rfl, ly_1_5, by decide, by decide, by decide +kernel, by decide +kernel, tyOK_2o _⟩
theorem f_1_60 : FldAt 1 60 1 6 := ⟨gw3 81 (by decide +kernel) rfl, ly_1_6, by decide, by decide, by decide +kernel, by decide +kernel, tyOK_2o _⟩
theorem f_1_69 : FldAt 1 69 1 7 := ⟨gw3 82 (by decide +kernel) rfl, ly_1_7, by decide, by decide, by decide +kernel, by decide +kernel, tyOK_2o _⟩
theorem f_1_78 : FldAt 1 78 1 8 := ⟨gw3 83 (by decide +kernel) rfl, ly_1_8, by decide, by decide, by decide +kernel, by decide +kernel, tyOK_2o _⟩
theorem f_1_85 : FldAt 1 85 1 9 := ⟨gw3 84 (by decide +kernel) rfl, ly_1_9, by decide, by decide, by decide +kernel, by decide +kernel, tyOK_2o _⟩
theorem f_1_92 : FldAt 1 92 1 10 := ⟨gw3 85 (by decide +kernel) rfl, ly_1_10, by decide, by decide, by decide +kernel, by decide +kernel, tyOK_2o _⟩
theorem f_1_96 : FldAt 1 96 1 11 := ⟨gw3 86 (by decide +kernel) rfl, ly_1_11, by decide, by decide, by decide +kernel, by decide +kernel, tyOK_2a _⟩
theorem f_2_15 : FldAt 2 15 2 1 := ⟨gw1 40 (by decide +kernel) rfl, ly_2_1, by decide, by decide, by decide +kernel, by decide +kernel, tyOK_0⟩
theorem f_2_25 : FldAt 2 25 2 2 := ⟨gw1 42 (by decide +kernel) rfl, ly_2_2, by decide, by decide, by decide +kernel, by decide +kernel, tyOK_0⟩
theorem f_2_28 : FldAt 2 28 2 3 := ⟨gw1 44 (by decide +kernel) rfl, ly_2_3, by decide, by decide, by decide +kernel, by decide +kernel, tyOK_3⟩
theorem f_2_32 : FldAt 2 32 2 4 := ⟨gw1 46 (by decide +kernel) rfl, ly_2_4, by decide, by decide, by decide +kernel, by decide +kernel, tyOK_0⟩
theorem f_2_35 : FldAt 2 35 2 5 := ⟨gw1 48 (by decide +kernel) rfl, ly_2_5, by decide, by decide, by decide +kernel, by decide +kernel, tyOK_3⟩
theorem f_2_9 : FldAt 2 9 2 0 := ⟨gw1 39 (by decide +kernel) rfl, ly_2_0, by decide, by decide, by decide +kernel, by decide +kernel, tyOK_2a _⟩
theorem f_3_100 : FldAt 3 100 6 6 := ⟨gw2 10 (by decide +kernel) rfl, ly_6_6, by decide, by decide, by decide +kernel, by decide +kernel, tyOK_0⟩
theorem f_3_15 : FldAt 3 15 3 2 := ⟨gw1 72 (by decide +kernel) rfl, ly_3_2, by decide, by decide, by decide +kernel, by decide +kernel, tyOK_2a _⟩
theorem f_3_18 : FldAt 3 18 3 4 := ⟨gw1 74 (by decide +kernel) rfl, ly_3_4, by decide, by decide, by decide +kernel, by decide +kernel, tyOK_2a _⟩
theorem f_3_27 : FldAt 3 27 3 3 := ⟨gw1 73 (by decide +kernel) rfl, ly_3_3, by decide, by decide, by decide +kernel, by decide +kernel, tyOK_0⟩
theorem f_3_49 : FldAt 3 49 3 1 := ⟨gw1 71 (by decide +kernel) rfl, ly_3_1, by decide, by decide, by decide +kernel, by decide +kernel, tyOK_0⟩
theorem f_3_9 : FldAt 3 9 3 0 := ⟨gw1 70 (by decide +kernel) rfl, ly_3_0, by decide, by decide, by decide +kernel, by decide +kernel, tyOK_2a _⟩
theorem f_3_95 : FldAt 3 95 6 10 := ⟨gw2 22 (by decide +kernel) rfl, ly_6_10, by decide, by decide, by decide +kernel, by decide +kernel, tyOK_0⟩
theorem f_4_103 : FldAt 4 103 2 5 := ⟨gw1 49 (by decide +kernel) rfl, ly_2_5, by decide, by decide, by decide +kernel, by decide +kernel, tyOK_3⟩
theorem f_4_107 : FldAt 4 107 5 10 := ⟨gw1 205 (by decide +kernel) rfl, ly_5_10, by decide, by decide, by decide +kernel, by decide +kernel, tyOK_0⟩
theorem f_4_118 : FldAt 4 118 2 4 := ⟨gw1 47 (by decide +kernel) rfl, ly_2_4, by decide, by decide, by decide +kernel, by decide +kernel, tyOK_0⟩
theorem f_4_131 : FldAt 4 131 2 3 := ⟨gw1 45 (by decide +kernel) rfl, ly_2_3, by decide, by decide, by decide +kernel, by decide +kernel, tyOK_3⟩
theorem f_4_134 : FldAt 4 134 2 2 := ⟨gw1 43 (by decide +kernel) rfl, ly_2_2, by decide, by decide, by decide +kernel, by decide +kernel, tyOK_0⟩
theorem f_4_15 : FldAt 4 15 4 5 := ⟨gw1 113 (by decide +kernel) rfl, ly_4_5, by decide, by decide, by decide +kernel, by decide +kernel, tyOK_2a _⟩
theorem f_4_18 : FldAt 4 18 4 6 := ⟨gw1 116 (by decide +kernel) rfl, ly_4_6, by decide, by decide, by decide +kernel, by decide +kernel, tyOK_2a _⟩
theorem f_4_21 : FldAt 4 21 4 7 := ⟨gw1 119 (by decide +kernel) rfl, ly_4_7, by decide, by decide, by decide +kernel, by decide +kernel, tyOK_2a _⟩
theorem f_4_24 : FldAt 4 24 4 9 := ⟨gw1 125 (by decide +kernel) rfl, ly_4_9, by decide, by decide, by decide +kernel, by decide +kernel, tyOK_2a _⟩
theorem f_4_27 : FldAt 4 27 4 10 := ⟨gw1 130 (by decide +kernel) rfl, ly_4_10, by decide, by decide, by decide +kernel, by decide +kernel, tyOK_2a _⟩
theorem f_4_30 : FldAt 4 30 4 0 := ⟨gw1 93 (by decide +kernel) rfl, ly_4_0, by decide, by decide, by decide +kernel, by decide +kernel, tyOK_0⟩
theorem f_4_34 : FldAt 4 34 4 1 := ⟨gw1 98 (by decide +kernel) rfl, ly_4_1, by decide, by decide, by decide +kernel, by decide +kernel, tyOK_0⟩
theorem f_4_37 : FldAt 4 37 4 2 := ⟨gw1 102 (by decide +kernel) rfl, ly_4_2, by decide, by decide, by decide +kernel, by decide +kernel, tyOK_0⟩
theorem f_4_40 : FldAt 4 40 4 3 := ⟨gw1 106 (by decide +kernel) rfl, ly_4_3, by decide, by decide, by decide +kernel, by decide +kernel, tyOK_0⟩
theorem f_4_43 : FldAt 4 43 4 8 := ⟨gw1 124 (by decide +kernel) rfl, ly_4_8, by decide, by decide, by decide +kernel, by decide +kernel, tyOK_0⟩
theorem f_4_9 : FldAt 4 9 4 4 := ⟨gw1 109 (by decide +kernel) rfl, ly_4_4, by decide, by decide, by decide +kernel, by decide +kernel, tyOK_2a _⟩
theorem f_5_15 : FldAt 5 15 5 1 := ⟨gw1 168 (by decide +kernel) rfl, ly_5_1, by decide, by decide, by decide +kernel, by decide +kernel, tyOK_2a _⟩
theorem f_5_18 : FldAt 5 18 5 2 := ⟨gw1 172 (by decide +kernel) rfl, ly_5_2, by decide, by decide, by decide +kernel, by decide +kernel, tyOK_2a _⟩
theorem f_5_21 : FldAt 5 21 5 4 := ⟨gw1 178 (by decide +kernel) rfl, ly_5_4, by decide, by decide, by decide +kernel, by decide +kernel, tyOK_2a _⟩
theorem f_5_24 : FldAt 5 24 5 5 := ⟨gw1 182 (by decide +kernel) rfl, ly_5_5, by decide, by decide, by decide +kernel, by decide +kernel, tyOK_2a _⟩
theorem f_5_27 : FldAt 5 27 5 6 := ⟨gw1 186 (by decide +kernel) rfl, ly_5_6, by decide, by decide, by decide +kernel, by decide +kernel, tyOK_2a _⟩
theorem f_5_30 : FldAt 5 30 5 7 := ⟨gw1 190 (by decide +kernel) rfl, ly_5_7, by decide, by decide, by decide +kernel, by decide +kernel, tyOK_2a _⟩
theorem f_5_33 : FldAt 5 33 5 8 := ⟨gw1 194 (by decide +kernel) rfl, ly_5_8, by decide, by decide, by decide +kernel, by decide +kernel, tyOK_2a _⟩
theorem f_5_36 : FldAt 5 36 5 9 := ⟨gw1 197 (by decide +kernel) rfl, ly_5_9, by decide, by decide, by decide +kernel, by decide +kernel, tyOK_2a _⟩
theorem f_5_45 : FldAt 5 45 5 3 := ⟨gw1 175 (by decide +kernel) rfl, ly_5_3, by decide, by decide, by decide +kernel, by decide +kernel, tyOK_0⟩
theorem f_5_49 : FldAt 5 49 5 10 := ⟨gw1 201 (by decide +kernel) rfl, ly_5_10, by decide, by decide, by decide +kernel, by decide +kernel, tyOK_0⟩
theorem f_5_52 : FldAt 5 52 5 11 := ⟨gw1 207 (by decide +kernel) rfl, ly_5_11, by decide, by decide, by decide +kernel, by decide +kernel, tyOK_0⟩
theorem f_5_9 : FldAt 5 9 5 0 := ⟨gw1 163 (by decide +kernel) rfl, ly_5_0, by decide, by decide, by decide +kernel, by decide +kernel, tyOK_2a _⟩
theorem f_6_15 : FldAt 6 15 6 1 := ⟨gw2 4 (by decide +kernel) rfl, ly_6_1, by decide, by decide, by decide +kernel, by decide +kernel, tyOK_2o _⟩
theorem f_6_19 : FldAt 6 19 6 2 := ⟨gw2 5 (by decide +kernel) rfl, ly_6_2, by decide, by decide, by decide +kernel, by decide +kernel, tyOK_2o _⟩
theorem f_6_29 : FldAt 6 29 6 3 := ⟨gw2 6 (by decide +kernel) rfl, ly_6_3, by decide, by decide, by decide +kernel, by decide +kernel, tyOK_0⟩
theorem f_6_33 : FldAt 6 33 4 10 := ⟨gw1 131 (by decide +kernel) rfl, ly_4_10, by decide, by decide, by decide +kernel, by decide +kernel, tyOK_2a _⟩
theorem f_6_37 : FldAt 6 37 6 5 := ⟨gw2 8 (by decide +kernel) rfl, ly_6_5, by decide, by decide, by decide +kernel, by decide +kernel, tyOK_0⟩
theorem f_6_39 : FldAt 6 39 5 7 := ⟨gw1 191 (by decide +kernel) rfl, ly_5_7, by decide, by decide, by decide +kernel, by decide +kernel, tyOK_2a _⟩
theorem f_6_44 : FldAt 6 44 6 6 := ⟨gw2 9 (by decide +kernel) rfl, ly_6_6, by decide, by decide, by decide +kernel, by decide +kernel, tyOK_0⟩
theorem f_6_46 : FldAt 6 46 5 6 := ⟨gw1 187 (by decide +kernel) rfl, ly_5_6, by decide, by decide, by decide +kernel, by decide +kernel, tyOK_2a _⟩
theorem f_6_49 : FldAt 6 49 6 7 := ⟨gw2 12 (by decide +kernel) rfl, ly_6_7, by decide, by decide, by decide +kernel, by decide +kernel, tyOK_0⟩
theorem f_6_51 : FldAt 6 51 5 5 := ⟨gw1 183 (by decide +kernel) rfl, ly_5_5, by decide, by decide, by decide +kernel, by decide +kernel, tyOK_2a _⟩
theorem f_6_54 : FldAt 6 54 6 8 := ⟨gw2 14 (by decide +kernel) rfl, ly_6_8, by decide, by decide, by decide +kernel, by decide +kernel, tyOK_0⟩
theorem f_6_56 : FldAt 6 56 6 9 := ⟨gw2 19 (by decide +kernel) rfl, ly_6_9, by decide, by decide, by decide +kernel, by decide +kernel, tyOK_0⟩
theorem f_6_59 : FldAt 6 59 5 11 := ⟨gw1 206 (by decide +kernel) rfl, ly_5_11, by decide, by decide, by decide +kernel, by decide +kernel, tyOK_0⟩
theorem f_6_62 : FldAt 6 62 6 12 := ⟨gw2 25 (by decide +kernel) rfl, ly_6_12, by decide, by decide, by decide +kernel, by decide +kernel, tyOK_0⟩
theorem f_6_66 : FldAt 6 66 6 4 := ⟨gw2 7 (by decide +kernel) rfl, ly_6_4, by decide, by decide, by decide +kernel, by decide +kernel, tyOK_0⟩
theorem f_6_69 : FldAt 6 69 4 9 := ⟨gw1 126 (by decide +kernel) rfl, ly_4_9, by decide, by decide, by decide +kernel, by decide +kernel, tyOK_2a _⟩
theorem f_6_72 : FldAt 6 72 6 11 := ⟨gw2 24 (by decide +kernel) rfl, ly_6_11, by decide, by decide, by decide +kernel, by decide +kernel, tyOK_0⟩
theorem f_6_74 : FldAt 6 74 5 0 := ⟨gw1 164 (by decide +kernel) rfl, ly_5_0, by decide, by decide, by decide +kernel, by decide +kernel, tyOK_2a _⟩
theorem f_6_83 : FldAt 6 83 6 10 := ⟨gw2 21 (by decide +kernel) rfl, ly_6_10, by decide, by decide, by decide +kernel, by decide +kernel, tyOK_0⟩
theorem f_6_9 : FldAt 6 9 6 0 := ⟨gw2 3 (by decide +kernel) rfl, ly_6_0, by decide, by decide, by decide +kernel, by decide +kernel, tyOK_2o _⟩
theorem f_7_101 : FldAt 7 101 4 4 := ⟨gw1 112 (by decide +kernel) rfl, ly_4_4, by decide, by decide, by decide +kernel, by decide +kernel, tyOK_2a _⟩
theorem f_7_107 : FldAt 7 107 5 10 := ⟨gw1 204 (by decide +kernel) rfl, ly_5_10, by decide, by decide, by decide +kernel, by decide +kernel, tyOK_0⟩
theorem f_7_11 : FldAt 7 11 7 7 := ⟨gw2 75 (by decide +kernel) rfl, ly_7_7, by decide, by decide, by decide +kernel, by decide +kernel, tyOK_2a _⟩
theorem f_7_114 : FldAt 7 114 4 7 := ⟨gw1 123 (by decide +kernel) rfl, ly_4_7, by decide, by decide, by decide +kernel, by decide +kernel, tyOK_2a _⟩
theorem f_7_120 : FldAt 7 120 4 3 := ⟨gw1 108 (by decide +kernel) rfl, ly_4_3, by decide, by decide, by decide +kernel, by decide +kernel, tyOK_0⟩
theorem f_7_127 : FldAt 7 127 5 6 := ⟨gw1 189 (by decide +kernel) rfl, ly_5_6, by decide, by decide, by decide +kernel, by decide +kernel, tyOK_2a _⟩
theorem f_7_133 : FldAt 7 133 4 2 := ⟨gw1 104 (by decide +kernel) rfl, ly_4_2, by decide, by decide, by decide +kernel, by decide +kernel, tyOK_0⟩
theorem f_7_136 : FldAt 7 136 4 9 := ⟨gw1 129 (by decide +kernel) rfl, ly_4_9, by decide, by decide, by decide +kernel, by decide +kernel, tyOK_2a _⟩
theorem f_7_142 : FldAt 7 142 5 11 := ⟨gw1 210 (by decide +kernel) rfl, ly_5_11, by decide, by decide, by decide +kernel, by decide +kernel, tyOK_0⟩
theorem f_7_145 : FldAt 7 145 5 5 := ⟨gw1 185 (by decide +kernel) rfl, ly_5_5, by decide, by decide, by decide +kernel, by decide +kernel, tyOK_2a _⟩
theorem f_7_153 : FldAt 7 153 6 8 := ⟨gw2 17 (by decide +kernel) rfl, ly_6_8, by decide, by decide, by decide +kernel, by decide +kernel, tyOK_0⟩
theorem f_7_164 : FldAt 7 164 6 7 := ⟨gw2 13 (by decide +kernel) rfl, ly_6_7, by decide, by decide, by decide +kernel, by decide +kernel, tyOK_0⟩
theorem f_7_166 : FldAt 7 166 4 10 := ⟨gw1 133 (by decide +kernel) rfl, ly_4_10, by decide, by decide, by decide +kernel, by decide +kernel, tyOK_2a _⟩
theorem f_7_169 : FldAt 7 169 5 9 := ⟨gw1 199 (by decide +kernel) rfl, ly_5_9, by decide, by decide, by decide +kernel, by decide +kernel, tyOK_2a _⟩
theorem f_7_17 : FldAt 7 17 7 10 := ⟨gw2 79 (by decide +kernel) rfl, ly_7_10, by decide, by decide, by decide +kernel, by decide +kernel, tyOK_2a _⟩
theorem f_7_172 : FldAt 7 172 5 3 := ⟨gw1 177 (by decide +kernel) rfl, ly_5_3, by decide, by decide, by decide +kernel, by decide +kernel, tyOK_0⟩
theorem f_7_175 : FldAt 7 175 5 7 := ⟨gw1 193 (by decide +kernel) rfl, ly_5_7, by decide, by decide, by decide +kernel, by decide +kernel, tyOK_2a _⟩
theorem f_7_21 : FldAt 7 21 7 11 := ⟨gw2 80 (by decide +kernel) rfl, ly_7_11, by decide, by decide, by decide +kernel, by decide +kernel, tyOK_2a _⟩
theorem f_7_24 : FldAt 7 24 7 12 := ⟨gw2 81 (by decide +kernel) rfl, ly_7_12, by decide, by decide, by decide +kernel, by decide +kernel, tyOK_2a _⟩
theorem f_7_27 : FldAt 7 27 7 0 := ⟨gw2 65 (by decide +kernel) rfl, ly_7_0, by decide, by decide, by decide +kernel, by decide +kernel, tyOK_2o _⟩
theorem f_7_31 : FldAt 7 31 7 1 := ⟨gw2 66 (by decide +kernel) rfl, ly_7_1, by decide, by decide, by decide +kernel, by decide +kernel, tyOK_2o _⟩
theorem f_7_35 : FldAt 7 35 7 2 := ⟨gw2 67 (by decide +kernel) rfl, ly_7_2, by decide, by decide, by decide +kernel, by decide +kernel, tyOK_2o _⟩
theorem f_7_39 : FldAt 7 39 7 3 := ⟨gw2 68 (by decide +kernel) rfl, ly_7_3, by decide, by decide, by decide +kernel, by decide +kernel, tyOK_2o _⟩
theorem f_7_44 : FldAt 7 44 7 8 := ⟨gw2 76 (by decide +kernel) rfl, ly_7_8, by decide, by decide, by decide +kernel, by decide +kernel, tyOK_0⟩
theorem f_7_54 : FldAt 7 54 7 9 := ⟨gw2 77 (by decide +kernel) rfl, ly_7_9, by decide, by decide, by decide +kernel, by decide +kernel, tyOK_0⟩
theorem f_7_65 : FldAt 7 65 7 4 := ⟨gw2 69 (by decide +kernel) rfl, ly_7_4, by decide, by decide, by decide +kernel, by decide +kernel, tyOK_0⟩
theorem f_7_68 : FldAt 7 68 7 5 := ⟨gw2 71 (by decide +kernel) rfl, ly_7_5, by decide, by decide, by decide +kernel, by decide +kernel, tyOK_0⟩
theorem f_7_71 : FldAt 7 71 7 6 := ⟨gw2 73 (by decide +kernel) rfl, ly_7_6, by decide, by decide, by decide +kernel, by decide +kernel, tyOK_0⟩
theorem f_7_80 : FldAt 7 80 5 8 := ⟨gw1 195 (by decide +kernel) rfl, ly_5_8, by decide, by decide, by decide +kernel, by decide +kernel, tyOK_2a _⟩
theorem f_7_86 : FldAt 7 86 5 1 := ⟨gw1 170 (by decide +kernel) rfl, ly_5_1, by decide, by decide, by decide +kernel, by decide +kernel, tyOK_2a _⟩
theorem f_7_89 : FldAt 7 89 5 4 := ⟨gw1 180 (by decide +kernel) rfl, ly_5_4, by decide, by decide, by decide +kernel, by decide +kernel, tyOK_2a _⟩
theorem f_7_92 : FldAt 7 92 5 2 := ⟨gw1 173 (by decide +kernel) rfl, ly_5_2, by decide, by decide, by decide +kernel, by decide +kernel, tyOK_2a _⟩
theorem f_7_95 : FldAt 7 95 5 0 := ⟨gw1 166 (by decide +kernel) rfl, ly_5_0, by decide, by decide, by decide +kernel, by decide +kernel, tyOK_2a _⟩
theorem f_8_11 : FldAt 8 11 8 2 := ⟨gw2 117 (by decide +kernel) rfl, ly_8_2, by decide, by decide, by decide +kernel, by decide +kernel, tyOK_2a _⟩
theorem f_8_15 : FldAt 8 15 8 3 := ⟨gw2 118 (by decide +kernel) rfl, ly_8_3, by decide, by decide, by decide +kernel, by decide +kernel, tyOK_2a _⟩
theorem f_8_18 : FldAt 8 18 8 4 := ⟨gw2 119 (by decide +kernel) rfl, ly_8_4, by decide, by decide, by decide +kernel, by decide +kernel, tyOK_2a _⟩
theorem f_8_21 : FldAt 8 21 8 5 := ⟨gw2 122 (by decide +kernel) rfl, ly_8_5, by decide, by decide, by decide +kernel, by decide +kernel, tyOK_2a _⟩
theorem f_8_24 : FldAt 8 24 8 0 := ⟨gw2 115 (by decide +kernel) rfl, ly_8_0, by decide, by decide, by decide +kernel, by decide +kernel, tyOK_2o _⟩
theorem f_8_28 : FldAt 8 28 8 1 := ⟨gw2 116 (by decide +kernel) rfl, ly_8_1, by decide, by decide, by decide +kernel, by decide +kernel, tyOK_2o _⟩
theorem f_8_32 : FldAt 8 32 4 1 := ⟨gw1 97 (by decide +kernel) rfl, ly_4_1, by decide, by decide, by decide +kernel, by decide +kernel, tyOK_0⟩
theorem f_8_38 : FldAt 8 38 5 10 := ⟨gw1 200 (by decide +kernel) rfl, ly_5_10, by decide, by decide, by decide +kernel, by decide +kernel, tyOK_0⟩
theorem f_8_47 : FldAt 8 47 4 7 := ⟨gw1 120 (by decide +kernel) rfl, ly_4_7, by decide, by decide, by decide +kernel, by decide +kernel, tyOK_2a _⟩
theorem f_8_50 : FldAt 8 50 8 6 := ⟨gw2 126 (by decide +kernel) rfl, ly_8_6, by decide, by decide, by decide +kernel, by decide +kernel, tyOK_0⟩
theorem f_8_56 : FldAt 8 56 8 7 := ⟨gw2 130 (by decide +kernel) rfl, ly_8_7, by decide, by decide, by decide +kernel, by decide +kernel, tyOK_0⟩
theorem f_8_63 : FldAt 8 63 8 8 := ⟨gw2 133 (by decide +kernel) rfl, ly_8_8, by decide, by decide, by decide +kernel, by decide +kernel, tyOK_0⟩
theorem f_8_71 : FldAt 8 71 4 0 := ⟨gw1 95 (by decide +kernel) rfl, ly_4_0, by decide, by decide, by decide +kernel, by decide +kernel, tyOK_0⟩
theorem f_8_73 : FldAt 8 73 4 5 := ⟨gw1 114 (by decide +kernel) rfl, ly_4_5, by decide, by decide, by decide +kernel, by decide +kernel, tyOK_2a _⟩
theorem f_8_76 : FldAt 8 76 4 6 := ⟨gw1 117 (by decide +kernel) rfl, ly_4_6, by decide, by decide, by decide +kernel, by decide +kernel, tyOK_2a _⟩
theorem f_9_15 : FldAt 9 15 9 4 := ⟨gw2 164 (by decide +kernel) rfl, ly_9_4, by decide, by decide, by decide +kernel, by decide +kernel, tyOK_2a _⟩
theorem f_9_18 : FldAt 9 18 9 5 := ⟨gw2 165 (by decide +kernel) rfl, ly_9_5, by decide, by decide, by decide +kernel, by decide +kernel, tyOK_2a _⟩
theorem f_9_21 : FldAt 9 21 9 6 := ⟨gw2 166 (by decide +kernel) rfl, ly_9_6, by decide, by decide, by decide +kernel, by decide +kernel, tyOK_2a _⟩
theorem f_9_24 : FldAt 9 24 9 7 := ⟨gw2 167 (by decide +kernel) rfl, ly_9_7, by decide, by decide, by decide +kernel, by decide +kernel, tyOK_2a _⟩
theorem f_9_27 : FldAt 9 27 9 0 := ⟨gw2 160 (by decide +kernel) rfl, ly_9_0, by decide, by decide, by decide +kernel, by decide +kernel, tyOK_2o _⟩
theorem f_9_31 : FldAt 9 31 9 1 := ⟨gw2 161 (by decide +kernel) rfl, ly_9_1, by decide, by decide, by decide +kernel, by decide +kernel, tyOK_2o _⟩
theorem f_9_35 : FldAt 9 35 9 2 := ⟨gw2 162 (by decide +kernel) rfl, ly_9_2, by decide, by decide, by decide +kernel, by decide +kernel, tyOK_2o _⟩
theorem f_9_39 : FldAt 9 39 9 10 := ⟨gw2 171 (by decide +kernel) rfl, ly_9_10, by decide, by decide, by decide +kernel, by decide +kernel, tyOK_0⟩
theorem f_9_43 : FldAt 9 43 9 9 := ⟨gw2 170 (by decide +kernel) rfl, ly_9_9, by decide, by decide, by decide +kernel, by decide +kernel, tyOK_0⟩
theorem f_9_46 : FldAt 9 46 9 8 := ⟨gw2 169 (by decide +kernel) rfl, ly_9_8, by decide, by decide, by decide +kernel, by decide +kernel, tyOK_0⟩
theorem f_9_59 : FldAt 9 59 8 6 := ⟨gw2 127 (by decide +kernel) rfl, ly_8_6, by decide, by decide, by decide +kernel, by decide +kernel, tyOK_0⟩
theorem f_9_68 : FldAt 9 68 6 8 := ⟨gw2 15 (by decide +kernel) rfl, ly_6_8, by decide, by decide, by decide +kernel, by decide +kernel, tyOK_0⟩
theorem f_9_70 : FldAt 9 70 6 10 := ⟨gw2 20 (by decide +kernel) rfl, ly_6_10, by decide, by decide, by decide +kernel, by decide +kernel, tyOK_0⟩
theorem f_9_72 : FldAt 9 72 6 12 := ⟨gw2 27 (by decide +kernel) rfl, ly_6_12, by decide, by decide, by decide +kernel, by decide +kernel, tyOK_0⟩
theorem f_9_77 : FldAt 9 77 4 4 := ⟨gw1 110 (by decide +kernel) rfl, ly_4_4, by decide, by decide, by decide +kernel, by decide +kernel, tyOK_2a _⟩
theorem f_9_82 : FldAt 9 82 8 4 := ⟨gw2 120 (by decide +kernel) rfl, ly_8_4, by decide, by decide, by decide +kernel, by decide +kernel, tyOK_2a _⟩
end
section
/-! places of the pools (by program) -/
theorem f_9_88 : FldAt 9 88 8 5 := ⟨gw2 124 (by decide +kernel) rfl, ly_8_5, by decide, by decide, by decide +kernel, by decide +kernel, tyOK_2a _⟩
theorem f_9_9 : FldAt 9 9 9 3 := ⟨gw2 163 (by decide +kernel) rfl, ly_9_3, by decide, by decide, by decide +kernel, by decide +kernel, tyOK_2a _⟩
theorem j_13_182 : KojAt 13 182 48 := ⟨gw8 27 (by decide +kernel) rfl, by unfold inL; omega⟩
theorem j_13_184 : KojAt 13 184 57 := ⟨gw8 28 (by decide +kernel) rfl, by unfold inL; omega⟩
theorem j_13_320 : KojAt 13 320 3 := ⟨gw8 73 (by decide +kernel) rfl, by unfold inL; omega⟩
theorem j_13_334 : KojAt 13 334 4 := ⟨gw8 101 (by decide +kernel) rfl, by unfold inL; omega⟩
theorem j_13_342 : KojAt 13 342 8 := ⟨gw8 118 (by decide +kernel) rfl, by unfold inL; omega⟩
theorem j_13_347 : KojAt 13 347 999 := ⟨gw8 143 (by decide +kernel) rfl, by unfold inL; omega⟩
theorem j_13_356 : KojAt 13 356 99 := ⟨gw8 208 (by decide +kernel) rfl, by unfold inL; omega⟩
theorem j_13_394 : KojAt 13 394 9 := ⟨gw8 229 (by decide +kernel) rfl, by unfold inL; omega⟩
theorem j_13_426 : KojAt 13 426 (-1) := ⟨gw9 35 (by decide +kernel) rfl, by unfold inL; omega⟩
theorem j_13_480 : KojAt 13 480 60 := ⟨gw9 89 (by decide +kernel) rfl, by unfold inL; omega⟩
theorem j_13_505 : KojAt 13 505 300 := ⟨gw9 142 (by decide +kernel) rfl, by unfold inL; omega⟩
theorem j_13_526 : KojAt 13 526 50 := ⟨gw9 167 (by decide +kernel) rfl, by unfold inL; omega⟩
theorem j_13_529 : KojAt 13 529 2 := ⟨gw9 173 (by decide +kernel) rfl, by unfold inL; omega⟩
theorem k_13_449 : KonAt 13 449 1000000 := ⟨gw9 68 (by decide +kernel) rfl, by unfold inI; omega⟩
theorem k_13_528 : KonAt 13 528 1103515245 := ⟨gw9 168 (by decide +kernel) rfl, by unfold inI; omega⟩
theorem k_1_377 : KonAt 1 377 1103515245 := ⟨gw6 31 (by decide +kernel) rfl, by unfold inI; omega⟩
theorem k_21_264 : KonAt 21 264 65536 := ⟨gw9 101 (by decide +kernel) rfl, by unfold inI; omega⟩
theorem k_21_265 : KonAt 21 265 1431655765 := ⟨gw4 239 (by decide +kernel) rfl, by unfold inI; omega⟩
theorem k_21_266 : KonAt 21 266 858993459 := ⟨gw5 0 (by decide +kernel) rfl, by unfold inI; omega⟩
theorem k_21_267 : KonAt 21 267 252645135 := ⟨gw5 1 (by decide +kernel) rfl, by unfold inI; omega⟩
theorem k_8_62 : KonAt 8 62 262144 := ⟨gw5 129 (by decide +kernel) rfl, by unfold inI; omega⟩
theorem k_8_70 : KonAt 8 70 1073741824 := ⟨gw5 107 (by decide +kernel) rfl, by unfold inI; omega⟩
theorem s_11_132 : StatAt 11 132 56 := ⟨mo_56, gw5 224 (by decide +kernel) rfl, gw4 72 (by decide +kernel) rfl, by decide +kernel⟩
theorem s_11_137 : StatAt 11 137 19 := ⟨mo_19, gw5 225 (by decide +kernel) rfl, gw3 151 (by decide +kernel) rfl, by decide +kernel⟩
theorem s_11_50 : StatAt 11 50 95 := ⟨mo_95, gw5 205 (by decide +kernel) rfl, gw4 237 (by decide +kernel) rfl, by decide +kernel⟩
theorem s_13_136 : StatAt 13 136 169 := ⟨mo_169, gw7 161 (by decide +kernel) rfl, gw7 162 (by decide +kernel) rfl, by decide +kernel⟩
theorem s_13_149 : StatAt 13 149 188 := ⟨mo_188, gw8 41 (by decide +kernel) rfl, gw8 42 (by decide +kernel) rfl, by decide +kernel⟩
theorem s_13_156 : StatAt 13 156 199 := ⟨mo_199, gw8 90 (by decide +kernel) rfl, gw8 91 (by decide +kernel) rfl, by decide +kernel⟩
theorem s_13_169 : StatAt 13 169 19 := ⟨mo_19, gw7 172 (by decide +kernel) rfl, gw3 151 (by decide +kernel) rfl, by decide +kernel⟩
theorem s_13_178 : StatAt 13 178 178 := ⟨mo_178, gw7 239 (by decide +kernel) rfl, gw8 0 (by decide +kernel) rfl, by decide +kernel⟩
theorem s_13_290 : StatAt 13 290 209 := ⟨mo_209, gw8 131 (by decide +kernel) rfl, gw8 132 (by decide +kernel) rfl, by decide +kernel⟩
theorem s_13_294 : StatAt 13 294 56 := ⟨mo_56, gw8 134 (by decide +kernel) rfl, gw4 72 (by decide +kernel) rfl, by decide +kernel⟩
theorem s_13_358 : StatAt 13 358 95 := ⟨mo_95, gw8 238 (by decide +kernel) rfl, gw4 237 (by decide +kernel) rfl, by decide +kernel⟩
theorem s_13_410 : StatAt 13 410 241 := ⟨mo_241, gw9 24 (by decide +kernel) rfl, gw9 25 (by decide +kernel) rfl, by decide +kernel⟩
theorem s_13_468 : StatAt 13 468 259 := ⟨mo_259, gw9 98 (by decide +kernel) rfl, gw9 99 (by decide +kernel) rfl, by decide +kernel⟩
theorem s_1_229 : StatAt 1 229 55 := ⟨mo_55, gw4 67 (by decide +kernel) rfl, gw4 68 (by decide +kernel) rfl, by decide +kernel⟩
theorem s_1_232 : StatAt 1 232 19 := ⟨mo_19, gw4 70 (by decide +kernel) rfl, gw3 151 (by decide +kernel) rfl, by decide +kernel⟩
theorem s_1_237 : StatAt 1 237 56 := ⟨mo_56, gw4 71 (by decide +kernel) rfl, gw4 72 (by decide +kernel) rfl, by decide +kernel⟩
theorem s_1_330 : StatAt 1 330 95 := ⟨mo_95, gw5 130 (by decide +kernel) rfl, gw4 237 (by decide +kernel) rfl, by decide +kernel⟩
theorem s_2_19 : StatAt 2 19 19 := ⟨mo_19, gw3 150 (by decide +kernel) rfl, gw3 151 (by decide +kernel) rfl, by decide +kernel⟩
theorem s_3_103 : StatAt 3 103 79 := ⟨mo_79, gw4 167 (by decide +kernel) rfl, gw4 168 (by decide +kernel) rfl, by decide +kernel⟩
theorem s_3_107 : StatAt 3 107 80 := ⟨mo_80, gw4 170 (by decide +kernel) rfl, gw4 171 (by decide +kernel) rfl, by decide +kernel⟩
theorem s_3_113 : StatAt 3 113 19 := ⟨mo_19, gw4 173 (by decide +kernel) rfl, gw3 151 (by decide +kernel) rfl, by decide +kernel⟩
theorem s_3_119 : StatAt 3 119 56 := ⟨mo_56, gw4 174 (by decide +kernel) rfl, gw4 72 (by decide +kernel) rfl, by decide +kernel⟩
theorem s_3_88 : StatAt 3 88 50 := ⟨mo_50, gw4 43 (by decide +kernel) rfl, gw4 44 (by decide +kernel) rfl, by decide +kernel⟩
theorem s_6_77 : StatAt 6 77 56 := ⟨mo_56, gw4 162 (by decide +kernel) rfl, gw4 72 (by decide +kernel) rfl, by decide +kernel⟩
theorem s_6_97 : StatAt 6 97 19 := ⟨mo_19, gw5 67 (by decide +kernel) rfl, gw3 151 (by decide +kernel) rfl, by decide +kernel⟩
theorem s_7_139 : StatAt 7 139 56 := ⟨mo_56, gw4 184 (by decide +kernel) rfl, gw4 72 (by decide +kernel) rfl, by decide +kernel⟩
theorem s_7_161 : StatAt 7 161 19 := ⟨mo_19, gw4 179 (by decide +kernel) rfl, gw3 151 (by decide +kernel) rfl, by decide +kernel⟩
theorem s_7_184 : StatAt 7 184 95 := ⟨mo_95, gw4 236 (by decide +kernel) rfl, gw4 237 (by decide +kernel) rfl, by decide +kernel⟩
theorem s_7_212 : StatAt 7 212 99 := ⟨mo_99, gw5 17 (by decide +kernel) rfl, gw5 18 (by decide +kernel) rfl, by decide +kernel⟩
theorem s_7_48 : StatAt 7 48 60 := ⟨mo_60, gw4 86 (by decide +kernel) rfl, gw4 87 (by decide +kernel) rfl, by decide +kernel⟩
theorem v_10_43 : VirtAt 10 43 134 10 := ⟨mo_134, gw5 182 (by decide +kernel) rfl, gw5 184 (by decide +kernel) rfl, gwp 31 (q := (⟨"HotThrough$Line", "measure", "(II)V"⟩, 7)) (by decide +kernel), rfl, by decide, by decide, by decide +kernel, rfl⟩
theorem v_10_47 : VirtAt 10 47 135 10 := ⟨mo_135, gw5 189 (by decide +kernel) rfl, gw5 191 (by decide +kernel) rfl, gwp 32 (q := (⟨"HotThrough$Line", "covers", "(IIIII)Z"⟩, 7)) (by decide +kernel), rfl, by decide, by decide, by decide +kernel, rfl⟩
theorem v_10_56 : VirtAt 10 56 76 6 := ⟨mo_76, gw5 186 (by decide +kernel) rfl, gw4 153 (by decide +kernel) rfl, gw4 154 (by decide +kernel) rfl, rfl, by decide, by decide, by decide +kernel, rfl⟩
theorem v_10_68 : VirtAt 10 68 77 6 := ⟨mo_77, gw5 187 (by decide +kernel) rfl, gw4 158 (by decide +kernel) rfl, gw4 159 (by decide +kernel) rfl, rfl, by decide, by decide, by decide +kernel, rfl⟩
theorem v_10_74 : VirtAt 10 74 112 6 := ⟨mo_112, gw5 188 (by decide +kernel) rfl, gw5 85 (by decide +kernel) rfl, gw5 86 (by decide +kernel) rfl, rfl, by decide, by decide, by decide +kernel, rfl⟩
theorem v_11_107 : VirtAt 11 107 129 6 := ⟨mo_129, gw5 227 (by decide +kernel) rfl, gw5 163 (by decide +kernel) rfl, gw5 164 (by decide +kernel) rfl, rfl, by decide, by decide, by decide +kernel, rfl⟩
theorem v_11_110 : VirtAt 11 110 77 6 := ⟨mo_77, gw5 228 (by decide +kernel) rfl, gw4 158 (by decide +kernel) rfl, gw4 159 (by decide +kernel) rfl, rfl, by decide, by decide, by decide +kernel, rfl⟩
theorem v_11_113 : VirtAt 11 113 112 6 := ⟨mo_112, gw5 229 (by decide +kernel) rfl, gw5 85 (by decide +kernel) rfl, gw5 86 (by decide +kernel) rfl, rfl, by decide, by decide, by decide +kernel, rfl⟩
theorem v_11_116 : VirtAt 11 116 142 11 := ⟨mo_142, gw5 220 (by decide +kernel) rfl, gw5 221 (by decide +kernel) rfl, gw5 222 (by decide +kernel) rfl, rfl, by decide, by decide, by decide +kernel, rfl⟩
theorem v_11_62 : VirtAt 11 62 139 11 := ⟨mo_139, gw5 206 (by decide +kernel) rfl, gw5 208 (by decide +kernel) rfl, gwp 34 (q := (⟨"HotThrough$Dishes", "measure", "(II)Z"⟩, 13)) (by decide +kernel), rfl, by decide, by decide, by decide +kernel, rfl⟩
theorem v_11_66 : VirtAt 11 66 76 6 := ⟨mo_76, gw5 211 (by decide +kernel) rfl, gw4 153 (by decide +kernel) rfl, gw4 154 (by decide +kernel) rfl, rfl, by decide, by decide, by decide +kernel, rfl⟩
theorem v_11_72 : VirtAt 11 72 140 11 := ⟨mo_140, gw5 212 (by decide +kernel) rfl, gw5 214 (by decide +kernel) rfl, gwp 35 (q := (⟨"HotThrough$Dishes", "bring", "(III)V"⟩, 13)) (by decide +kernel), rfl, by decide, by decide, by decide +kernel, rfl⟩
theorem v_11_89 : VirtAt 11 89 115 8 := ⟨mo_115, gw5 210 (by decide +kernel) rfl, gw5 98 (by decide +kernel) rfl, gw5 99 (by decide +kernel) rfl, rfl, by decide, by decide, by decide +kernel, rfl⟩
theorem v_11_97 : VirtAt 11 97 141 11 := ⟨mo_141, gw5 216 (by decide +kernel) rfl, gw5 218 (by decide +kernel) rfl, gwp 36 (q := (⟨"HotThrough$Dishes", "arrived", "(I)V"⟩, 13)) (by decide +kernel), rfl, by decide, by decide, by decide +kernel, rfl⟩
theorem v_12_48 : VirtAt 12 48 148 12 := ⟨mo_148, gw6 11 (by decide +kernel) rfl, gw6 13 (by decide +kernel) rfl, gwp 37 (q := (⟨"HotThrough$Marks", "visit", "(III)V"⟩, 11)) (by decide +kernel), rfl, by decide, by decide, by decide +kernel, rfl⟩
theorem v_12_52 : VirtAt 12 52 33 4 := ⟨mo_33, gw6 15 (by decide +kernel) rfl, gw3 209 (by decide +kernel) rfl, gw3 210 (by decide +kernel) rfl, rfl, by decide, by decide, by decide +kernel, rfl⟩
theorem v_12_58 : VirtAt 12 58 149 12 := ⟨mo_149, gw6 16 (by decide +kernel) rfl, gw6 18 (by decide +kernel) rfl, gwp 38 (q := (⟨"HotThrough$Marks", "arrived", "(I)V"⟩, 11)) (by decide +kernel), rfl, by decide, by decide, by decide +kernel, rfl⟩
theorem v_12_64 : VirtAt 12 64 150 12 := ⟨mo_150, gw6 21 (by decide +kernel) rfl, gw6 23 (by decide +kernel) rfl, gwp 39 (q := (⟨"HotThrough$Marks", "visitBy", "(III)V"⟩, 11)) (by decide +kernel), rfl, by decide, by decide, by decide +kernel, rfl⟩
theorem v_12_70 : VirtAt 12 70 69 4 := ⟨mo_69, gw6 25 (by decide +kernel) rfl, gw4 125 (by decide +kernel) rfl, gw4 126 (by decide +kernel) rfl, rfl, by decide, by decide, by decide +kernel, rfl⟩
theorem v_12_79 : VirtAt 12 79 71 4 := ⟨mo_71, gw6 26 (by decide +kernel) rfl, gw4 133 (by decide +kernel) rfl, gw4 134 (by decide +kernel) rfl, rfl, by decide, by decide, by decide +kernel, rfl⟩
theorem v_13_153 : VirtAt 13 153 203 13 := ⟨mo_203, gw8 106 (by decide +kernel) rfl, gw8 108 (by decide +kernel) rfl, gwp 65 (q := (⟨"HotThroughModel", "holds", "(I)I"⟩, 72)) (by decide +kernel), rfl, by decide, by decide, by decide +kernel, rfl⟩
theorem v_13_196 : VirtAt 13 196 173 13 := ⟨mo_173, gw7 178 (by decide +kernel) rfl, gw7 180 (by decide +kernel) rfl, gwp 44 (q := (⟨"HotThroughModel", "among", "(Ljava/lang/String;)I"⟩, 72)) (by decide +kernel), rfl, by decide, by decide, by decide +kernel, rfl⟩
theorem v_13_200 : VirtAt 13 200 184 13 := ⟨mo_184, gw8 23 (by decide +kernel) rfl, gw8 25 (by decide +kernel) rfl, gwp 52 (q := (⟨"HotThroughModel", "isDigit", "()Z"⟩, 72)) (by decide +kernel), rfl, by decide, by decide, by decide +kernel, rfl⟩
theorem v_13_209 : VirtAt 13 209 177 13 := ⟨mo_177, gw7 235 (by decide +kernel) rfl, gw7 237 (by decide +kernel) rfl, gwp 46 (q := (⟨"HotThroughModel", "takesOf", "(Ljava/lang/String;)I"⟩, 72)) (by decide +kernel), rfl, by decide, by decide, by decide +kernel, rfl⟩
theorem v_13_215 : VirtAt 13 215 180 13 := ⟨mo_180, gw8 6 (by decide +kernel) rfl, gw8 8 (by decide +kernel) rfl, gwp 48 (q := (⟨"HotThroughModel", "letter", "()I"⟩, 72)) (by decide +kernel), rfl, by decide, by decide, by decide +kernel, rfl⟩
theorem v_13_220 : VirtAt 13 220 181 13 := ⟨mo_181, gw8 11 (by decide +kernel) rfl, gw8 13 (by decide +kernel) rfl, gwp 49 (q := (⟨"HotThroughModel", "takes", "(I)Z"⟩, 72)) (by decide +kernel), rfl, by decide, by decide, by decide +kernel, rfl⟩
theorem v_13_227 : VirtAt 13 227 183 13 := ⟨mo_183, gw8 19 (by decide +kernel) rfl, gw8 21 (by decide +kernel) rfl, gwp 51 (q := (⟨"HotThroughModel", "number", "(I)I"⟩, 72)) (by decide +kernel), rfl, by decide, by decide, by decide +kernel, rfl⟩
theorem v_13_230 : VirtAt 13 230 185 13 := ⟨mo_185, gw8 29 (by decide +kernel) rfl, gw8 31 (by decide +kernel) rfl, gwp 53 (q := (⟨"HotThroughModel", "kindOf", "(I)I"⟩, 72)) (by decide +kernel), rfl, by decide, by decide, by decide +kernel, rfl⟩
theorem v_13_238 : VirtAt 13 238 176 13 := ⟨mo_176, gw7 230 (by decide +kernel) rfl, gw7 232 (by decide +kernel) rfl, gwp 45 (q := (⟨"HotThroughModel", "readsPlace", "()Z"⟩, 72)) (by decide +kernel), rfl, by decide, by decide, by decide +kernel, rfl⟩
theorem v_13_241 : VirtAt 13 241 179 13 := ⟨mo_179, gw8 2 (by decide +kernel) rfl, gw8 4 (by decide +kernel) rfl, gwp 47 (q := (⟨"HotThroughModel", "readsWay", "()Z"⟩, 72)) (by decide +kernel), rfl, by decide, by decide, by decide +kernel, rfl⟩
theorem v_13_244 : VirtAt 13 244 182 13 := ⟨mo_182, gw8 15 (by decide +kernel) rfl, gw8 17 (by decide +kernel) rfl, gwp 50 (q := (⟨"HotThroughModel", "readsPot", "()Z"⟩, 72)) (by decide +kernel), rfl, by decide, by decide, by decide +kernel, rfl⟩
theorem v_13_247 : VirtAt 13 247 186 13 := ⟨mo_186, gw8 33 (by decide +kernel) rfl, gw8 35 (by decide +kernel) rfl, gwp 54 (q := (⟨"HotThroughModel", "readsOne", "()Z"⟩, 72)) (by decide +kernel), rfl, by decide, by decide, by decide +kernel, rfl⟩
theorem v_13_250 : VirtAt 13 250 171 13 := ⟨mo_171, gw7 168 (by decide +kernel) rfl, gw7 170 (by decide +kernel) rfl, gwp 42 (q := (⟨"HotThroughModel", "begins", "(I)I"⟩, 72)) (by decide +kernel), rfl, by decide, by decide, by decide +kernel, rfl⟩
theorem v_13_253 : VirtAt 13 253 172 13 := ⟨mo_172, gw7 173 (by decide +kernel) rfl, gw7 175 (by decide +kernel) rfl, gwp 43 (q := (⟨"HotThroughModel", "readsLine", "()Z"⟩, 72)) (by decide +kernel), rfl, by decide, by decide, by decide +kernel, rfl⟩
theorem v_13_256 : VirtAt 13 256 187 13 := ⟨mo_187, gw8 37 (by decide +kernel) rfl, gw8 39 (by decide +kernel) rfl, gwp 55 (q := (⟨"HotThroughModel", "faultOf", "(IIZ)I"⟩, 72)) (by decide +kernel), rfl, by decide, by decide, by decide +kernel, rfl⟩
theorem v_13_269 : VirtAt 13 269 191 13 := ⟨mo_191, gw8 53 (by decide +kernel) rfl, gw8 55 (by decide +kernel) rfl, gwp 57 (q := (⟨"HotThroughModel", "readsThing", "()Z"⟩, 72)) (by decide +kernel), rfl, by decide, by decide, by decide +kernel, rfl⟩
theorem v_13_272 : VirtAt 13 272 192 13 := ⟨mo_192, gw8 57 (by decide +kernel) rfl, gw8 59 (by decide +kernel) rfl, gwp 58 (q := (⟨"HotThroughModel", "codes", "(I)V"⟩, 72)) (by decide +kernel), rfl, by decide, by decide, by decide +kernel, rfl⟩
theorem v_13_278 : VirtAt 13 278 190 13 := ⟨mo_190, gw8 49 (by decide +kernel) rfl, gw8 51 (by decide +kernel) rfl, gwp 56 (q := (⟨"HotThroughModel", "readsRank", "(I)Z"⟩, 72)) (by decide +kernel), rfl, by decide, by decide, by decide +kernel, rfl⟩
theorem v_13_297 : VirtAt 13 297 208 13 := ⟨mo_208, gw8 127 (by decide +kernel) rfl, gw8 129 (by decide +kernel) rfl, gwp 69 (q := (⟨"HotThroughModel", "through", "()I"⟩, 72)) (by decide +kernel), rfl, by decide, by decide, by decide +kernel, rfl⟩
theorem v_13_300 : VirtAt 13 300 207 13 := ⟨mo_207, gw8 123 (by decide +kernel) rfl, gw8 125 (by decide +kernel) rfl, gwp 68 (q := (⟨"HotThroughModel", "throughBy", "(IIIIIII)I"⟩, 72)) (by decide +kernel), rfl, by decide, by decide, by decide +kernel, rfl⟩
theorem v_13_313 : VirtAt 13 313 206 13 := ⟨mo_206, gw8 119 (by decide +kernel) rfl, gw8 121 (by decide +kernel) rfl, gwp 67 (q := (⟨"HotThroughModel", "throughOf", "([II)I"⟩, 72)) (by decide +kernel), rfl, by decide, by decide, by decide +kernel, rfl⟩
theorem v_13_317 : VirtAt 13 317 194 13 := ⟨mo_194, gw8 69 (by decide +kernel) rfl, gw8 71 (by decide +kernel) rfl, gwp 59 (q := (⟨"HotThroughModel", "isPlace", "(I)Z"⟩, 72)) (by decide +kernel), rfl, by decide, by decide, by decide +kernel, rfl⟩
theorem v_13_322 : VirtAt 13 322 195 13 := ⟨mo_195, gw8 74 (by decide +kernel) rfl, gw8 76 (by decide +kernel) rfl, gwp 60 (q := (⟨"HotThroughModel", "refuse", "()I"⟩, 72)) (by decide +kernel), rfl, by decide, by decide, by decide +kernel, rfl⟩
theorem v_13_325 : VirtAt 13 325 197 13 := ⟨mo_197, gw8 82 (by decide +kernel) rfl, gw8 84 (by decide +kernel) rfl, gwp 61 (q := (⟨"HotThroughModel", "isWay", "(I)Z"⟩, 72)) (by decide +kernel), rfl, by decide, by decide, by decide +kernel, rfl⟩
theorem v_13_328 : VirtAt 13 328 198 13 := ⟨mo_198, gw8 86 (by decide +kernel) rfl, gw8 88 (by decide +kernel) rfl, gwp 62 (q := (⟨"HotThroughModel", "isOpen", "(I)Z"⟩, 72)) (by decide +kernel), rfl, by decide, by decide, by decide +kernel, rfl⟩
theorem v_13_331 : VirtAt 13 331 201 13 := ⟨mo_201, gw8 97 (by decide +kernel) rfl, gw8 99 (by decide +kernel) rfl, gwp 63 (q := (⟨"HotThroughModel", "isPot", "(I)Z"⟩, 72)) (by decide +kernel), rfl, by decide, by decide, by decide +kernel, rfl⟩
theorem v_13_336 : VirtAt 13 336 202 13 := ⟨mo_202, gw8 102 (by decide +kernel) rfl, gw8 104 (by decide +kernel) rfl, gwp 64 (q := (⟨"HotThroughModel", "holder", "(I)I"⟩, 72)) (by decide +kernel), rfl, by decide, by decide, by decide +kernel, rfl⟩
theorem v_13_339 : VirtAt 13 339 205 13 := ⟨mo_205, gw8 114 (by decide +kernel) rfl, gw8 116 (by decide +kernel) rfl, gwp 66 (q := (⟨"HotThroughModel", "isPerson", "(I)Z"⟩, 72)) (by decide +kernel), rfl, by decide, by decide, by decide +kernel, rfl⟩
theorem v_13_344 : VirtAt 13 344 211 13 := ⟨mo_211, gw8 139 (by decide +kernel) rfl, gw8 141 (by decide +kernel) rfl, gwp 70 (q := (⟨"HotThroughModel", "isThere", "(I)Z"⟩, 72)) (by decide +kernel), rfl, by decide, by decide, by decide +kernel, rfl⟩
theorem v_13_349 : VirtAt 13 349 218 13 := ⟨mo_218, gw8 168 (by decide +kernel) rfl, gw8 170 (by decide +kernel) rfl, gwp 74 (q := (⟨"HotThroughModel", "adds", "(I)I"⟩, 72)) (by decide +kernel), rfl, by decide, by decide, by decide +kernel, rfl⟩
theorem v_13_352 : VirtAt 13 352 224 13 := ⟨mo_224, gw8 192 (by decide +kernel) rfl, gw8 194 (by decide +kernel) rfl, gwp 78 (q := (⟨"HotThroughModel", "secondGoes", "([I)V"⟩, 72)) (by decide +kernel), rfl, by decide, by decide, by decide +kernel, rfl⟩
theorem v_13_363 : VirtAt 13 363 215 13 := ⟨mo_215, gw8 156 (by decide +kernel) rfl, gw8 158 (by decide +kernel) rfl, gwp 71 (q := (⟨"HotThroughModel", "putsBy", "()V"⟩, 72)) (by decide +kernel), rfl, by decide, by decide, by decide +kernel, rfl⟩
theorem v_13_366 : VirtAt 13 366 216 13 := ⟨mo_216, gw8 160 (by decide +kernel) rfl, gw8 162 (by decide +kernel) rfl, gwp 72 (q := (⟨"HotThroughModel", "takesPot", "(II)I"⟩, 72)) (by decide +kernel), rfl, by decide, by decide, by decide +kernel, rfl⟩
theorem v_13_369 : VirtAt 13 369 217 13 := ⟨mo_217, gw8 164 (by decide +kernel) rfl, gw8 166 (by decide +kernel) rfl, gwp 73 (q := (⟨"HotThroughModel", "counts", "(I)I"⟩, 72)) (by decide +kernel), rfl, by decide, by decide, by decide +kernel, rfl⟩
theorem v_13_372 : VirtAt 13 372 220 13 := ⟨mo_220, gw8 176 (by decide +kernel) rfl, gw8 178 (by decide +kernel) rfl, gwp 75 (q := (⟨"HotThroughModel", "setsDown", "(I)I"⟩, 72)) (by decide +kernel), rfl, by decide, by decide, by decide +kernel, rfl⟩
theorem v_13_375 : VirtAt 13 375 222 13 := ⟨mo_222, gw8 184 (by decide +kernel) rfl, gw8 186 (by decide +kernel) rfl, gwp 76 (q := (⟨"HotThroughModel", "startsCounting", "()V"⟩, 72)) (by decide +kernel), rfl, by decide, by decide, by decide +kernel, rfl⟩
theorem v_13_378 : VirtAt 13 378 223 13 := ⟨mo_223, gw8 188 (by decide +kernel) rfl, gw8 190 (by decide +kernel) rfl, gwp 77 (q := (⟨"HotThroughModel", "walks", "(II)I"⟩, 72)) (by decide +kernel), rfl, by decide, by decide, by decide +kernel, rfl⟩
theorem v_13_381 : VirtAt 13 381 225 13 := ⟨mo_225, gw8 196 (by decide +kernel) rfl, gw8 198 (by decide +kernel) rfl, gwp 79 (q := (⟨"HotThroughModel", "enters", "(J)V"⟩, 72)) (by decide +kernel), rfl, by decide, by decide, by decide +kernel, rfl⟩
theorem v_13_385 : VirtAt 13 385 227 13 := ⟨mo_227, gw8 204 (by decide +kernel) rfl, gw8 206 (by decide +kernel) rfl, gwp 80 (q := (⟨"HotThroughModel", "passes", "(I)I"⟩, 72)) (by decide +kernel), rfl, by decide, by decide, by decide +kernel, rfl⟩
theorem v_13_388 : VirtAt 13 388 229 13 := ⟨mo_229, gw8 213 (by decide +kernel) rfl, gw8 215 (by decide +kernel) rfl, gwp 81 (q := (⟨"HotThroughModel", "changesHand", "(I)I"⟩, 72)) (by decide +kernel), rfl, by decide, by decide, by decide +kernel, rfl⟩
theorem v_13_391 : VirtAt 13 391 231 13 := ⟨mo_231, gw8 221 (by decide +kernel) rfl, gw8 223 (by decide +kernel) rfl, gwp 82 (q := (⟨"HotThroughModel", "gives", "(II)I"⟩, 72)) (by decide +kernel), rfl, by decide, by decide, by decide +kernel, rfl⟩
theorem v_13_396 : VirtAt 13 396 234 13 := ⟨mo_234, gw8 234 (by decide +kernel) rfl, gw8 236 (by decide +kernel) rfl, gwp 83 (q := (⟨"HotThroughModel", "opens", "(II)I"⟩, 72)) (by decide +kernel), rfl, by decide, by decide, by decide +kernel, rfl⟩
theorem v_13_404 : VirtAt 13 404 236 13 := ⟨mo_236, gw9 3 (by decide +kernel) rfl, gw9 5 (by decide +kernel) rfl, gwp 84 (q := (⟨"HotThroughModel", "readsAct", "()Z"⟩, 72)) (by decide +kernel), rfl, by decide, by decide, by decide +kernel, rfl⟩
theorem v_13_407 : VirtAt 13 407 237 13 := ⟨mo_237, gw9 8 (by decide +kernel) rfl, gw9 10 (by decide +kernel) rfl, gwp 85 (q := (⟨"HotThroughModel", "does", "(I)Z"⟩, 72)) (by decide +kernel), rfl, by decide, by decide, by decide +kernel, rfl⟩
theorem v_13_420 : VirtAt 13 420 239 13 := ⟨mo_239, gw9 16 (by decide +kernel) rfl, gw9 18 (by decide +kernel) rfl, gwp 86 (q := (⟨"HotThroughModel", "canHold", "(I)Z"⟩, 72)) (by decide +kernel), rfl, by decide, by decide, by decide +kernel, rfl⟩
theorem v_13_423 : VirtAt 13 423 240 13 := ⟨mo_240, gw9 20 (by decide +kernel) rfl, gw9 22 (by decide +kernel) rfl, gwp 87 (q := (⟨"HotThroughModel", "holdsOut", "(II)I"⟩, 72)) (by decide +kernel), rfl, by decide, by decide, by decide +kernel, rfl⟩
theorem v_13_437 : VirtAt 13 437 245 13 := ⟨mo_245, gw9 40 (by decide +kernel) rfl, gw9 42 (by decide +kernel) rfl, gwp 88 (q := (⟨"HotThroughModel", "canThink", "(III)Z"⟩, 72)) (by decide +kernel), rfl, by decide, by decide, by decide +kernel, rfl⟩
theorem v_13_441 : VirtAt 13 441 246 13 := ⟨mo_246, gw9 44 (by decide +kernel) rfl, gw9 46 (by decide +kernel) rfl, gwp 89 (q := (⟨"HotThroughModel", "soloBegins", "(II)V"⟩, 72)) (by decide +kernel), rfl, by decide, by decide, by decide +kernel, rfl⟩
theorem v_13_445 : VirtAt 13 445 247 13 := ⟨mo_247, gw9 48 (by decide +kernel) rfl, gw9 50 (by decide +kernel) rfl, gwp 90 (q := (⟨"HotThroughModel", "soloHolds", "(IIII)I"⟩, 72)) (by decide +kernel), rfl, by decide, by decide, by decide +kernel, rfl⟩
theorem v_13_450 : VirtAt 13 450 251 13 := ⟨mo_251, gw9 64 (by decide +kernel) rfl, gw9 66 (by decide +kernel) rfl, gwp 92 (q := (⟨"HotThroughModel", "laysApart", "(I)V"⟩, 72)) (by decide +kernel), rfl, by decide, by decide, by decide +kernel, rfl⟩
theorem v_13_456 : VirtAt 13 456 250 13 := ⟨mo_250, gw9 60 (by decide +kernel) rfl, gw9 62 (by decide +kernel) rfl, gwp 91 (q := (⟨"HotThroughModel", "laysWay", "(II)Z"⟩, 72)) (by decide +kernel), rfl, by decide, by decide, by decide +kernel, rfl⟩
theorem v_13_459 : VirtAt 13 459 252 13 := ⟨mo_252, gw9 69 (by decide +kernel) rfl, gw9 71 (by decide +kernel) rfl, gwp 93 (q := (⟨"HotThroughModel", "stepsOfWay", "()I"⟩, 72)) (by decide +kernel), rfl, by decide, by decide, by decide +kernel, rfl⟩
theorem v_13_462 : VirtAt 13 462 255 13 := ⟨mo_255, gw9 81 (by decide +kernel) rfl, gw9 83 (by decide +kernel) rfl, gwp 94 (q := (⟨"HotThroughModel", "legOf", "(I)I"⟩, 72)) (by decide +kernel), rfl, by decide, by decide, by decide +kernel, rfl⟩
theorem v_13_465 : VirtAt 13 465 262 13 := ⟨mo_262, gw9 110 (by decide +kernel) rfl, gw9 112 (by decide +kernel) rfl, gwp 99 (q := (⟨"HotThroughModel", "soloRests", "(II)V"⟩, 72)) (by decide +kernel), rfl, by decide, by decide, by decide +kernel, rfl⟩
theorem v_13_471 : VirtAt 13 471 258 13 := ⟨mo_258, gw9 94 (by decide +kernel) rfl, gw9 96 (by decide +kernel) rfl, gwp 96 (q := (⟨"HotThroughModel", "isAhead", "(II)Z"⟩, 72)) (by decide +kernel), rfl, by decide, by decide, by decide +kernel, rfl⟩
theorem v_13_474 : VirtAt 13 474 260 13 := ⟨mo_260, gw9 102 (by decide +kernel) rfl, gw9 104 (by decide +kernel) rfl, gwp 97 (q := (⟨"HotThroughModel", "canRest", "(I)Z"⟩, 72)) (by decide +kernel), rfl, by decide, by decide, by decide +kernel, rfl⟩
theorem v_13_477 : VirtAt 13 477 261 13 := ⟨mo_261, gw9 106 (by decide +kernel) rfl, gw9 108 (by decide +kernel) rfl, gwp 98 (q := (⟨"HotThroughModel", "carries", "(III)Z"⟩, 72)) (by decide +kernel), rfl, by decide, by decide, by decide +kernel, rfl⟩
theorem v_13_482 : VirtAt 13 482 257 13 := ⟨mo_257, gw9 90 (by decide +kernel) rfl, gw9 92 (by decide +kernel) rfl, gwp 95 (q := (⟨"HotThroughModel", "fewestRests", "(II)I"⟩, 72)) (by decide +kernel), rfl, by decide, by decide, by decide +kernel, rfl⟩
theorem v_13_488 : VirtAt 13 488 265 13 := ⟨mo_265, gw9 122 (by decide +kernel) rfl, gw9 124 (by decide +kernel) rfl, gwp 100 (q := (⟨"HotThroughModel", "carriesOn", "(IIIIIII)V"⟩, 72)) (by decide +kernel), rfl, by decide, by decide, by decide +kernel, rfl⟩
theorem v_13_498 : VirtAt 13 498 268 13 := ⟨mo_268, gw9 134 (by decide +kernel) rfl, gw9 136 (by decide +kernel) rfl, gwp 102 (q := (⟨"HotThroughModel", "coolsAll", "(II)V"⟩, 72)) (by decide +kernel), rfl, by decide, by decide, by decide +kernel, rfl⟩
theorem v_13_501 : VirtAt 13 501 267 13 := ⟨mo_267, gw9 130 (by decide +kernel) rfl, gw9 132 (by decide +kernel) rfl, gwp 101 (q := (⟨"HotThroughModel", "brings", "(IIIIIIII)V"⟩, 72)) (by decide +kernel), rfl, by decide, by decide, by decide +kernel, rfl⟩
theorem v_13_513 : VirtAt 13 513 273 13 := ⟨mo_273, gw9 155 (by decide +kernel) rfl, gw9 157 (by decide +kernel) rfl, gwp 104 (q := (⟨"HotThroughModel", "marksAt", "(II)I"⟩, 72)) (by decide +kernel), rfl, by decide, by decide, by decide +kernel, rfl⟩
theorem v_13_519 : VirtAt 13 519 274 13 := ⟨mo_274, gw9 159 (by decide +kernel) rfl, gw9 161 (by decide +kernel) rfl, gwp 105 (q := (⟨"HotThroughModel", "isLess", "(I)Z"⟩, 72)) (by decide +kernel), rfl, by decide, by decide, by decide +kernel, rfl⟩
theorem v_13_522 : VirtAt 13 522 272 13 := ⟨mo_272, gw9 151 (by decide +kernel) rfl, gw9 153 (by decide +kernel) rfl, gwp 103 (q := (⟨"HotThroughModel", "walksOn", "(IIIII)V"⟩, 72)) (by decide +kernel), rfl, by decide, by decide, by decide +kernel, rfl⟩
theorem v_13_531 : VirtAt 13 531 279 13 := ⟨mo_279, gw9 182 (by decide +kernel) rfl, gw9 184 (by decide +kernel) rfl, gwp 106 (q := (⟨"HotThroughModel", "dropped", "()I"⟩, 72)) (by decide +kernel), rfl, by decide, by decide, by decide +kernel, rfl⟩
theorem v_13_534 : VirtAt 13 534 280 13 := ⟨mo_280, gw9 186 (by decide +kernel) rfl, gw9 188 (by decide +kernel) rfl, gwp 107 (q := (⟨"HotThroughModel", "burntAll", "()I"⟩, 72)) (by decide +kernel), rfl, by decide, by decide, by decide +kernel, rfl⟩
theorem v_1_104 : VirtAt 1 104 13 2 := ⟨mo_13, gw3 126 (by decide +kernel) rfl, gw3 127 (by decide +kernel) rfl, gw3 128 (by decide +kernel) rfl, rfl, by decide, by decide, by decide +kernel, rfl⟩
theorem v_1_108 : VirtAt 1 108 15 2 := ⟨mo_15, gw3 134 (by decide +kernel) rfl, gw3 135 (by decide +kernel) rfl, gw3 136 (by decide +kernel) rfl, rfl, by decide, by decide, by decide +kernel, rfl⟩
theorem v_1_116 : VirtAt 1 116 17 4 := ⟨mo_17, gw3 142 (by decide +kernel) rfl, gw3 143 (by decide +kernel) rfl, gw3 144 (by decide +kernel) rfl, rfl, by decide, by decide, by decide +kernel, rfl⟩
theorem v_1_120 : VirtAt 1 120 40 7 := ⟨mo_40, gw3 236 (by decide +kernel) rfl, gw3 237 (by decide +kernel) rfl, gw3 238 (by decide +kernel) rfl, rfl, by decide, by decide, by decide +kernel, rfl⟩
theorem v_1_126 : VirtAt 1 126 42 3 := ⟨mo_42, gw4 4 (by decide +kernel) rfl, gw4 5 (by decide +kernel) rfl, gw4 6 (by decide +kernel) rfl, rfl, by decide, by decide, by decide +kernel, rfl⟩
theorem v_1_129 : VirtAt 1 129 33 4 := ⟨mo_33, gw5 96 (by decide +kernel) rfl, gw3 209 (by decide +kernel) rfl, gw3 210 (by decide +kernel) rfl, rfl, by decide, by decide, by decide +kernel, rfl⟩
theorem v_1_142 : VirtAt 1 142 157 5 := ⟨mo_157, gw6 118 (by decide +kernel) rfl, gw6 119 (by decide +kernel) rfl, gw6 120 (by decide +kernel) rfl, rfl, by decide, by decide, by decide +kernel, rfl⟩
theorem v_1_149 : VirtAt 1 149 158 5 := ⟨mo_158, gw6 122 (by decide +kernel) rfl, gw6 123 (by decide +kernel) rfl, gw6 124 (by decide +kernel) rfl, rfl, by decide, by decide, by decide +kernel, rfl⟩
theorem v_1_152 : VirtAt 1 152 159 4 := ⟨mo_159, gw6 126 (by decide +kernel) rfl, gw6 127 (by decide +kernel) rfl, gw6 128 (by decide +kernel) rfl, rfl, by decide, by decide, by decide +kernel, rfl⟩
theorem v_1_155 : VirtAt 1 155 70 4 := ⟨mo_70, gw6 137 (by decide +kernel) rfl, gw4 129 (by decide +kernel) rfl, gw4 130 (by decide +kernel) rfl, rfl, by decide, by decide, by decide +kernel, rfl⟩
theorem v_1_167 : VirtAt 1 167 72 4 := ⟨mo_72, gw6 138 (by decide +kernel) rfl, gw4 137 (by decide +kernel) rfl, gw4 138 (by decide +kernel) rfl, rfl, by decide, by decide, by decide +kernel, rfl⟩
theorem v_1_173 : VirtAt 1 173 52 4 := ⟨mo_52, gw4 55 (by decide +kernel) rfl, gw4 56 (by decide +kernel) rfl, gw4 57 (by decide +kernel) rfl, rfl, by decide, by decide, by decide +kernel, rfl⟩
theorem v_1_191 : VirtAt 1 191 63 4 := ⟨mo_63, gw4 185 (by decide +kernel) rfl, gw4 99 (by decide +kernel) rfl, gw4 100 (by decide +kernel) rfl, rfl, by decide, by decide, by decide +kernel, rfl⟩
theorem v_1_215 : VirtAt 1 215 163 1 := ⟨mo_163, gw6 153 (by decide +kernel) rfl, gw6 155 (by decide +kernel) rfl, gwp 41 (q := (⟨"HotThrough", "throughNext", "(I)I"⟩, 15)) (by decide +kernel), rfl, by decide, by decide, by decide +kernel, rfl⟩
theorem v_1_218 : VirtAt 1 218 75 6 := ⟨mo_75, gw5 53 (by decide +kernel) rfl, gw4 149 (by decide +kernel) rfl, gw4 150 (by decide +kernel) rfl, rfl, by decide, by decide, by decide +kernel, rfl⟩
theorem v_1_222 : VirtAt 1 222 78 3 := ⟨mo_78, gw6 157 (by decide +kernel) rfl, gw4 164 (by decide +kernel) rfl, gw4 165 (by decide +kernel) rfl, rfl, by decide, by decide, by decide +kernel, rfl⟩
theorem v_1_226 : VirtAt 1 226 53 5 := ⟨mo_53, gw4 59 (by decide +kernel) rfl, gw4 60 (by decide +kernel) rfl, gw4 61 (by decide +kernel) rfl, rfl, by decide, by decide, by decide +kernel, rfl⟩
theorem v_1_240 : VirtAt 1 240 58 7 := ⟨mo_58, gw4 78 (by decide +kernel) rfl, gw4 79 (by decide +kernel) rfl, gw4 80 (by decide +kernel) rfl, rfl, by decide, by decide, by decide +kernel, rfl⟩
theorem v_1_243 : VirtAt 1 243 62 7 := ⟨mo_62, gw4 94 (by decide +kernel) rfl, gw4 95 (by decide +kernel) rfl, gw4 96 (by decide +kernel) rfl, rfl, by decide, by decide, by decide +kernel, rfl⟩
theorem v_1_246 : VirtAt 1 246 64 7 := ⟨mo_64, gw4 103 (by decide +kernel) rfl, gw4 104 (by decide +kernel) rfl, gw4 105 (by decide +kernel) rfl, rfl, by decide, by decide, by decide +kernel, rfl⟩
theorem v_1_249 : VirtAt 1 249 66 7 := ⟨mo_66, gw4 111 (by decide +kernel) rfl, gw4 112 (by decide +kernel) rfl, gw4 113 (by decide +kernel) rfl, rfl, by decide, by decide, by decide +kernel, rfl⟩
theorem v_1_252 : VirtAt 1 252 68 7 := ⟨mo_68, gw4 120 (by decide +kernel) rfl, gw4 121 (by decide +kernel) rfl, gw4 122 (by decide +kernel) rfl, rfl, by decide, by decide, by decide +kernel, rfl⟩
theorem v_1_255 : VirtAt 1 255 83 1 := ⟨mo_83, gw4 186 (by decide +kernel) rfl, gw4 188 (by decide +kernel) rfl, gwp 16 (q := (⟨"HotThrough", "startRow", "()V"⟩, 15)) (by decide +kernel), rfl, by decide, by decide, by decide +kernel, rfl⟩
theorem v_1_261 : VirtAt 1 261 84 1 := ⟨mo_84, gw4 190 (by decide +kernel) rfl, gw4 192 (by decide +kernel) rfl, gwp 17 (q := (⟨"HotThrough", "tell", "(J)V"⟩, 15)) (by decide +kernel), rfl, by decide, by decide, by decide +kernel, rfl⟩
theorem v_1_265 : VirtAt 1 265 86 7 := ⟨mo_86, gw4 198 (by decide +kernel) rfl, gw4 199 (by decide +kernel) rfl, gw4 200 (by decide +kernel) rfl, rfl, by decide, by decide, by decide +kernel, rfl⟩
theorem v_1_274 : VirtAt 1 274 88 7 := ⟨mo_88, gw4 206 (by decide +kernel) rfl, gw4 207 (by decide +kernel) rfl, gw4 208 (by decide +kernel) rfl, rfl, by decide, by decide, by decide +kernel, rfl⟩
theorem v_1_277 : VirtAt 1 277 90 7 := ⟨mo_90, gw4 214 (by decide +kernel) rfl, gw4 215 (by decide +kernel) rfl, gw4 216 (by decide +kernel) rfl, rfl, by decide, by decide, by decide +kernel, rfl⟩
theorem v_1_280 : VirtAt 1 280 92 7 := ⟨mo_92, gw4 222 (by decide +kernel) rfl, gw4 223 (by decide +kernel) rfl, gw4 224 (by decide +kernel) rfl, rfl, by decide, by decide, by decide +kernel, rfl⟩
theorem v_1_283 : VirtAt 1 283 94 7 := ⟨mo_94, gw4 230 (by decide +kernel) rfl, gw4 231 (by decide +kernel) rfl, gw4 232 (by decide +kernel) rfl, rfl, by decide, by decide, by decide +kernel, rfl⟩
theorem v_1_286 : VirtAt 1 286 97 7 := ⟨mo_97, gw5 6 (by decide +kernel) rfl, gw5 7 (by decide +kernel) rfl, gw5 8 (by decide +kernel) rfl, rfl, by decide, by decide, by decide +kernel, rfl⟩
theorem v_1_287 : VirtAt 1 287 100 7 := ⟨mo_100, gw5 26 (by decide +kernel) rfl, gw5 27 (by decide +kernel) rfl, gw5 28 (by decide +kernel) rfl, rfl, by decide, by decide, by decide +kernel, rfl⟩
theorem v_1_290 : VirtAt 1 290 102 7 := ⟨mo_102, gw5 41 (by decide +kernel) rfl, gw5 42 (by decide +kernel) rfl, gw5 43 (by decide +kernel) rfl, rfl, by decide, by decide, by decide +kernel, rfl⟩
theorem v_1_294 : VirtAt 1 294 104 1 := ⟨mo_104, gw5 49 (by decide +kernel) rfl, gw5 51 (by decide +kernel) rfl, gwp 19 (q := (⟨"HotThrough", "holds", "(I)Z"⟩, 15)) (by decide +kernel), rfl, by decide, by decide, by decide +kernel, rfl⟩
theorem v_1_297 : VirtAt 1 297 105 6 := ⟨mo_105, gw5 54 (by decide +kernel) rfl, gw5 55 (by decide +kernel) rfl, gw5 56 (by decide +kernel) rfl, rfl, by decide, by decide, by decide +kernel, rfl⟩
theorem v_1_304 : VirtAt 1 304 111 1 := ⟨mo_111, gw5 80 (by decide +kernel) rfl, gw5 82 (by decide +kernel) rfl, gwp 21 (q := (⟨"HotThrough", "mayHold", "(III)Z"⟩, 15)) (by decide +kernel), rfl, by decide, by decide, by decide +kernel, rfl⟩
theorem v_1_310 : VirtAt 1 310 112 6 := ⟨mo_112, gw5 84 (by decide +kernel) rfl, gw5 85 (by decide +kernel) rfl, gw5 86 (by decide +kernel) rfl, rfl, by decide, by decide, by decide +kernel, rfl⟩
theorem v_1_313 : VirtAt 1 313 115 8 := ⟨mo_115, gw5 97 (by decide +kernel) rfl, gw5 98 (by decide +kernel) rfl, gw5 99 (by decide +kernel) rfl, rfl, by decide, by decide, by decide +kernel, rfl⟩
theorem v_1_324 : VirtAt 1 324 121 8 := ⟨mo_121, gw5 125 (by decide +kernel) rfl, gw5 126 (by decide +kernel) rfl, gw5 127 (by decide +kernel) rfl, rfl, by decide, by decide, by decide +kernel, rfl⟩
theorem v_1_338 : VirtAt 1 338 124 9 := ⟨mo_124, gw5 139 (by decide +kernel) rfl, gw5 140 (by decide +kernel) rfl, gw5 141 (by decide +kernel) rfl, rfl, by decide, by decide, by decide +kernel, rfl⟩
theorem v_1_345 : VirtAt 1 345 132 1 := ⟨mo_132, gw5 174 (by decide +kernel) rfl, gw5 176 (by decide +kernel) rfl, gwp 30 (q := (⟨"HotThrough", "areFree", "(I)Z"⟩, 15)) (by decide +kernel), rfl, by decide, by decide, by decide +kernel, rfl⟩
theorem v_1_348 : VirtAt 1 348 133 10 := ⟨mo_133, gw5 178 (by decide +kernel) rfl, gw5 179 (by decide +kernel) rfl, gw5 180 (by decide +kernel) rfl, rfl, by decide, by decide, by decide +kernel, rfl⟩
theorem v_1_353 : VirtAt 1 353 137 1 := ⟨mo_137, gw5 197 (by decide +kernel) rfl, gw5 199 (by decide +kernel) rfl, gwp 33 (q := (⟨"HotThrough", "areOnPlaces", "(I)Z"⟩, 15)) (by decide +kernel), rfl, by decide, by decide, by decide +kernel, rfl⟩
theorem v_1_356 : VirtAt 1 356 138 11 := ⟨mo_138, gw5 201 (by decide +kernel) rfl, gw5 202 (by decide +kernel) rfl, gw5 203 (by decide +kernel) rfl, rfl, by decide, by decide, by decide +kernel, rfl⟩
theorem v_1_361 : VirtAt 1 361 142 11 := ⟨mo_142, gw5 230 (by decide +kernel) rfl, gw5 221 (by decide +kernel) rfl, gw5 222 (by decide +kernel) rfl, rfl, by decide, by decide, by decide +kernel, rfl⟩
theorem v_1_364 : VirtAt 1 364 144 12 := ⟨mo_144, gw5 235 (by decide +kernel) rfl, gw5 236 (by decide +kernel) rfl, gw5 237 (by decide +kernel) rfl, rfl, by decide, by decide, by decide +kernel, rfl⟩
theorem v_1_368 : VirtAt 1 368 147 12 := ⟨mo_147, gw6 7 (by decide +kernel) rfl, gw6 8 (by decide +kernel) rfl, gw6 9 (by decide +kernel) rfl, rfl, by decide, by decide, by decide +kernel, rfl⟩
theorem v_1_378 : VirtAt 1 378 61 5 := ⟨mo_61, gw6 36 (by decide +kernel) rfl, gw4 90 (by decide +kernel) rfl, gw4 91 (by decide +kernel) rfl, rfl, by decide, by decide, by decide +kernel, rfl⟩
theorem v_1_390 : VirtAt 1 390 155 5 := ⟨mo_155, gw6 45 (by decide +kernel) rfl, gw6 46 (by decide +kernel) rfl, gw6 47 (by decide +kernel) rfl, rfl, by decide, by decide, by decide +kernel, rfl⟩
theorem v_2_38 : VirtAt 2 38 21 2 := ⟨mo_21, gw3 181 (by decide +kernel) rfl, gw3 158 (by decide +kernel) rfl, gw3 159 (by decide +kernel) rfl, rfl, by decide, by decide, by decide +kernel, rfl⟩
theorem v_2_42 : VirtAt 2 42 28 2 := ⟨mo_28, gw3 207 (by decide +kernel) rfl, gw3 187 (by decide +kernel) rfl, gw3 188 (by decide +kernel) rfl, rfl, by decide, by decide, by decide +kernel, rfl⟩
theorem v_2_46 : VirtAt 2 46 27 2 := ⟨mo_27, gw3 198 (by decide +kernel) rfl, gw3 183 (by decide +kernel) rfl, gw3 184 (by decide +kernel) rfl, rfl, by decide, by decide, by decide +kernel, rfl⟩
theorem v_2_50 : VirtAt 2 50 31 2 := ⟨mo_31, gw3 199 (by decide +kernel) rfl, gw3 200 (by decide +kernel) rfl, gw3 201 (by decide +kernel) rfl, rfl, by decide, by decide, by decide +kernel, rfl⟩
theorem v_3_110 : VirtAt 3 110 81 6 := ⟨mo_81, gw4 175 (by decide +kernel) rfl, gw4 176 (by decide +kernel) rfl, gw4 177 (by decide +kernel) rfl, rfl, by decide, by decide, by decide +kernel, rfl⟩
theorem v_3_21 : VirtAt 3 21 18 2 := ⟨mo_18, gw4 8 (by decide +kernel) rfl, gw3 147 (by decide +kernel) rfl, gw3 148 (by decide +kernel) rfl, rfl, by decide, by decide, by decide +kernel, rfl⟩
theorem v_3_31 : VirtAt 3 31 43 2 := ⟨mo_43, gw4 9 (by decide +kernel) rfl, gw4 10 (by decide +kernel) rfl, gw4 11 (by decide +kernel) rfl, rfl, by decide, by decide, by decide +kernel, rfl⟩
theorem v_3_35 : VirtAt 3 35 44 3 := ⟨mo_44, gw4 13 (by decide +kernel) rfl, gw4 15 (by decide +kernel) rfl, gwp 6 (q := (⟨"HotThrough$Rule", "expression", "(LHotThrough$Text;I)V"⟩, 5)) (by decide +kernel), rfl, by decide, by decide, by decide +kernel, rfl⟩
theorem v_3_39 : VirtAt 3 39 39 2 := ⟨mo_39, gw4 47 (by decide +kernel) rfl, gw3 233 (by decide +kernel) rfl, gw3 234 (by decide +kernel) rfl, rfl, by decide, by decide, by decide +kernel, rfl⟩
theorem v_3_52 : VirtAt 3 52 45 3 := ⟨mo_45, gw4 17 (by decide +kernel) rfl, gw4 19 (by decide +kernel) rfl, gwp 7 (q := (⟨"HotThrough$Rule", "sum", "(LHotThrough$Text;I)V"⟩, 5)) (by decide +kernel), rfl, by decide, by decide, by decide +kernel, rfl⟩
theorem v_3_55 : VirtAt 3 55 21 2 := ⟨mo_21, gw4 34 (by decide +kernel) rfl, gw3 158 (by decide +kernel) rfl, gw3 159 (by decide +kernel) rfl, rfl, by decide, by decide, by decide +kernel, rfl⟩
theorem v_3_58 : VirtAt 3 58 24 2 := ⟨mo_24, gw4 35 (by decide +kernel) rfl, gw3 170 (by decide +kernel) rfl, gw3 171 (by decide +kernel) rfl, rfl, by decide, by decide, by decide +kernel, rfl⟩
theorem v_3_61 : VirtAt 3 61 49 3 := ⟨mo_49, gw4 39 (by decide +kernel) rfl, gw4 41 (by decide +kernel) rfl, gwp 11 (q := (⟨"HotThrough$Rule", "emit", "(I)V"⟩, 5)) (by decide +kernel), rfl, by decide, by decide, by decide +kernel, rfl⟩
theorem v_3_64 : VirtAt 3 64 46 3 := ⟨mo_46, gw4 21 (by decide +kernel) rfl, gw4 23 (by decide +kernel) rfl, gwp 8 (q := (⟨"HotThrough$Rule", "product", "(LHotThrough$Text;I)V"⟩, 5)) (by decide +kernel), rfl, by decide, by decide, by decide +kernel, rfl⟩
theorem v_3_67 : VirtAt 3 67 47 3 := ⟨mo_47, gw4 25 (by decide +kernel) rfl, gw4 27 (by decide +kernel) rfl, gwp 9 (q := (⟨"HotThrough$Rule", "factor", "(LHotThrough$Text;I)V"⟩, 5)) (by decide +kernel), rfl, by decide, by decide, by decide +kernel, rfl⟩
theorem v_3_70 : VirtAt 3 70 28 2 := ⟨mo_28, gw4 29 (by decide +kernel) rfl, gw3 187 (by decide +kernel) rfl, gw3 188 (by decide +kernel) rfl, rfl, by decide, by decide, by decide +kernel, rfl⟩
theorem v_3_74 : VirtAt 3 74 48 3 := ⟨mo_48, gw4 30 (by decide +kernel) rfl, gw4 32 (by decide +kernel) rfl, gwp 10 (q := (⟨"HotThrough$Rule", "thing", "(LHotThrough$Text;I)V"⟩, 5)) (by decide +kernel), rfl, by decide, by decide, by decide +kernel, rfl⟩
theorem v_3_77 : VirtAt 3 77 32 2 := ⟨mo_32, gw4 36 (by decide +kernel) rfl, gw3 204 (by decide +kernel) rfl, gw3 205 (by decide +kernel) rfl, rfl, by decide, by decide, by decide +kernel, rfl⟩
theorem v_3_81 : VirtAt 3 81 31 2 := ⟨mo_31, gw4 37 (by decide +kernel) rfl, gw3 200 (by decide +kernel) rfl, gw3 201 (by decide +kernel) rfl, rfl, by decide, by decide, by decide +kernel, rfl⟩
theorem v_3_84 : VirtAt 3 84 30 2 := ⟨mo_30, gw4 38 (by decide +kernel) rfl, gw3 195 (by decide +kernel) rfl, gw3 196 (by decide +kernel) rfl, rfl, by decide, by decide, by decide +kernel, rfl⟩
theorem v_3_92 : VirtAt 3 92 23 2 := ⟨mo_23, gw4 46 (by decide +kernel) rfl, gw3 166 (by decide +kernel) rfl, gw3 167 (by decide +kernel) rfl, rfl, by decide, by decide, by decide +kernel, rfl⟩
theorem v_4_111 : VirtAt 4 111 30 2 := ⟨mo_30, gw3 194 (by decide +kernel) rfl, gw3 195 (by decide +kernel) rfl, gw3 196 (by decide +kernel) rfl, rfl, by decide, by decide, by decide +kernel, rfl⟩
theorem v_4_114 : VirtAt 4 114 32 2 := ⟨mo_32, gw3 203 (by decide +kernel) rfl, gw3 204 (by decide +kernel) rfl, gw3 205 (by decide +kernel) rfl, rfl, by decide, by decide, by decide +kernel, rfl⟩
theorem v_4_121 : VirtAt 4 121 33 4 := ⟨mo_33, gw3 208 (by decide +kernel) rfl, gw3 209 (by decide +kernel) rfl, gw3 210 (by decide +kernel) rfl, rfl, by decide, by decide, by decide +kernel, rfl⟩
theorem v_4_124 : VirtAt 4 124 34 2 := ⟨mo_34, gw3 212 (by decide +kernel) rfl, gw3 213 (by decide +kernel) rfl, gw3 214 (by decide +kernel) rfl, rfl, by decide, by decide, by decide +kernel, rfl⟩
theorem v_4_127 : VirtAt 4 127 35 5 := ⟨mo_35, gw3 216 (by decide +kernel) rfl, gw3 217 (by decide +kernel) rfl, gw3 218 (by decide +kernel) rfl, rfl, by decide, by decide, by decide +kernel, rfl⟩
theorem v_4_137 : VirtAt 4 137 37 5 := ⟨mo_37, gw3 224 (by decide +kernel) rfl, gw3 225 (by decide +kernel) rfl, gw3 226 (by decide +kernel) rfl, rfl, by decide, by decide, by decide +kernel, rfl⟩
theorem v_4_46 : VirtAt 4 46 72 4 := ⟨mo_72, gw4 136 (by decide +kernel) rfl, gw4 137 (by decide +kernel) rfl, gw4 138 (by decide +kernel) rfl, rfl, by decide, by decide, by decide +kernel, rfl⟩
theorem v_4_50 : VirtAt 4 50 70 4 := ⟨mo_70, gw4 128 (by decide +kernel) rfl, gw4 129 (by decide +kernel) rfl, gw4 130 (by decide +kernel) rfl, rfl, by decide, by decide, by decide +kernel, rfl⟩
theorem v_4_53 : VirtAt 4 53 18 2 := ⟨mo_18, gw3 146 (by decide +kernel) rfl, gw3 147 (by decide +kernel) rfl, gw3 148 (by decide +kernel) rfl, rfl, by decide, by decide, by decide +kernel, rfl⟩
theorem v_4_59 : VirtAt 4 59 20 4 := ⟨mo_20, gw3 153 (by decide +kernel) rfl, gw3 155 (by decide +kernel) rfl, gwp 0 (q := (⟨"HotThrough$Kitchen", "readLine", "(LHotThrough$Text;LHotThrough$State;)V"⟩, 11)) (by decide +kernel), rfl, by decide, by decide, by decide +kernel, rfl⟩
theorem v_4_63 : VirtAt 4 63 28 2 := ⟨mo_28, gw3 186 (by decide +kernel) rfl, gw3 187 (by decide +kernel) rfl, gw3 188 (by decide +kernel) rfl, rfl, by decide, by decide, by decide +kernel, rfl⟩
theorem v_4_67 : VirtAt 4 67 39 2 := ⟨mo_39, gw3 232 (by decide +kernel) rfl, gw3 233 (by decide +kernel) rfl, gw3 234 (by decide +kernel) rfl, rfl, by decide, by decide, by decide +kernel, rfl⟩
theorem v_4_71 : VirtAt 4 71 21 2 := ⟨mo_21, gw3 157 (by decide +kernel) rfl, gw3 158 (by decide +kernel) rfl, gw3 159 (by decide +kernel) rfl, rfl, by decide, by decide, by decide +kernel, rfl⟩
theorem v_4_74 : VirtAt 4 74 22 4 := ⟨mo_22, gw3 161 (by decide +kernel) rfl, gw3 163 (by decide +kernel) rfl, gwp 1 (q := (⟨"HotThrough$Kitchen", "hasRoom", "(I)Z"⟩, 11)) (by decide +kernel), rfl, by decide, by decide, by decide +kernel, rfl⟩
theorem v_4_77 : VirtAt 4 77 23 2 := ⟨mo_23, gw3 165 (by decide +kernel) rfl, gw3 166 (by decide +kernel) rfl, gw3 167 (by decide +kernel) rfl, rfl, by decide, by decide, by decide +kernel, rfl⟩
theorem v_4_80 : VirtAt 4 80 24 2 := ⟨mo_24, gw3 169 (by decide +kernel) rfl, gw3 170 (by decide +kernel) rfl, gw3 171 (by decide +kernel) rfl, rfl, by decide, by decide, by decide +kernel, rfl⟩
theorem v_4_83 : VirtAt 4 83 25 4 := ⟨mo_25, gw3 173 (by decide +kernel) rfl, gw3 175 (by decide +kernel) rfl, gwp 2 (q := (⟨"HotThrough$Kitchen", "readWay", "(LHotThrough$Text;LHotThrough$State;)V"⟩, 11)) (by decide +kernel), rfl, by decide, by decide, by decide +kernel, rfl⟩
theorem v_4_86 : VirtAt 4 86 29 4 := ⟨mo_29, gw3 190 (by decide +kernel) rfl, gw3 192 (by decide +kernel) rfl, gwp 3 (q := (⟨"HotThrough$Kitchen", "readPot", "(LHotThrough$Text;LHotThrough$State;)V"⟩, 11)) (by decide +kernel), rfl, by decide, by decide, by decide +kernel, rfl⟩
theorem v_4_89 : VirtAt 4 89 36 4 := ⟨mo_36, gw3 220 (by decide +kernel) rfl, gw3 222 (by decide +kernel) rfl, gwp 4 (q := (⟨"HotThrough$Kitchen", "readPerson", "(LHotThrough$Text;LHotThrough$State;)V"⟩, 11)) (by decide +kernel), rfl, by decide, by decide, by decide +kernel, rfl⟩
theorem v_4_92 : VirtAt 4 92 38 4 := ⟨mo_38, gw3 228 (by decide +kernel) rfl, gw3 230 (by decide +kernel) rfl, gwp 5 (q := (⟨"HotThrough$Kitchen", "addPlace", "(I)V"⟩, 11)) (by decide +kernel), rfl, by decide, by decide, by decide +kernel, rfl⟩
theorem v_4_95 : VirtAt 4 95 26 2 := ⟨mo_26, gw3 177 (by decide +kernel) rfl, gw3 178 (by decide +kernel) rfl, gw3 179 (by decide +kernel) rfl, rfl, by decide, by decide, by decide +kernel, rfl⟩
theorem v_4_99 : VirtAt 4 99 27 2 := ⟨mo_27, gw3 182 (by decide +kernel) rfl, gw3 183 (by decide +kernel) rfl, gw3 184 (by decide +kernel) rfl, rfl, by decide, by decide, by decide +kernel, rfl⟩
theorem v_6_100 : VirtAt 6 100 107 6 := ⟨mo_107, gw5 62 (by decide +kernel) rfl, gw5 63 (by decide +kernel) rfl, gw5 64 (by decide +kernel) rfl, rfl, by decide, by decide, by decide +kernel, rfl⟩
theorem v_6_104 : VirtAt 6 104 106 6 := ⟨mo_106, gw5 58 (by decide +kernel) rfl, gw5 60 (by decide +kernel) rfl, gwp 20 (q := (⟨"HotThrough$Carrier", "changeHands", "()V"⟩, 13)) (by decide +kernel), rfl, by decide, by decide, by decide +kernel, rfl⟩
theorem v_6_23 : VirtAt 6 23 63 4 := ⟨mo_63, gw4 156 (by decide +kernel) rfl, gw4 99 (by decide +kernel) rfl, gw4 100 (by decide +kernel) rfl, rfl, by decide, by decide, by decide +kernel, rfl⟩
theorem v_6_63 : VirtAt 6 63 52 4 := ⟨mo_52, gw4 161 (by decide +kernel) rfl, gw4 56 (by decide +kernel) rfl, gw4 57 (by decide +kernel) rfl, rfl, by decide, by decide, by decide +kernel, rfl⟩
theorem v_6_85 : VirtAt 6 85 76 6 := ⟨mo_76, gw4 152 (by decide +kernel) rfl, gw4 153 (by decide +kernel) rfl, gw4 154 (by decide +kernel) rfl, rfl, by decide, by decide, by decide +kernel, rfl⟩
theorem v_6_88 : VirtAt 6 88 77 6 := ⟨mo_77, gw4 157 (by decide +kernel) rfl, gw4 158 (by decide +kernel) rfl, gw4 159 (by decide +kernel) rfl, rfl, by decide, by decide, by decide +kernel, rfl⟩
theorem v_6_91 : VirtAt 6 91 78 3 := ⟨mo_78, gw5 66 (by decide +kernel) rfl, gw4 164 (by decide +kernel) rfl, gw4 165 (by decide +kernel) rfl, rfl, by decide, by decide, by decide +kernel, rfl⟩
theorem v_7_104 : VirtAt 7 104 69 4 := ⟨mo_69, gw4 124 (by decide +kernel) rfl, gw4 125 (by decide +kernel) rfl, gw4 126 (by decide +kernel) rfl, rfl, by decide, by decide, by decide +kernel, rfl⟩
theorem v_7_110 : VirtAt 7 110 71 4 := ⟨mo_71, gw4 132 (by decide +kernel) rfl, gw4 133 (by decide +kernel) rfl, gw4 134 (by decide +kernel) rfl, rfl, by decide, by decide, by decide +kernel, rfl⟩
theorem v_7_117 : VirtAt 7 117 73 7 := ⟨mo_73, gw4 140 (by decide +kernel) rfl, gw4 142 (by decide +kernel) rfl, gwp 13 (q := (⟨"HotThrough$Acts", "second", "()V"⟩, 13)) (by decide +kernel), rfl, by decide, by decide, by decide +kernel, rfl⟩
theorem v_7_123 : VirtAt 7 123 74 7 := ⟨mo_74, gw4 144 (by decide +kernel) rfl, gw4 146 (by decide +kernel) rfl, gwp 14 (q := (⟨"HotThrough$Acts", "hold", "(I)V"⟩, 13)) (by decide +kernel), rfl, by decide, by decide, by decide +kernel, rfl⟩
theorem v_7_130 : VirtAt 7 130 82 7 := ⟨mo_82, gw4 180 (by decide +kernel) rfl, gw4 182 (by decide +kernel) rfl, gwp 15 (q := (⟨"HotThrough$Acts", "coolHand", "(I)V"⟩, 13)) (by decide +kernel), rfl, by decide, by decide, by decide +kernel, rfl⟩
theorem v_7_148 : VirtAt 7 148 75 6 := ⟨mo_75, gw4 148 (by decide +kernel) rfl, gw4 149 (by decide +kernel) rfl, gw4 150 (by decide +kernel) rfl, rfl, by decide, by decide, by decide +kernel, rfl⟩
theorem v_7_155 : VirtAt 7 155 78 3 := ⟨mo_78, gw4 163 (by decide +kernel) rfl, gw4 164 (by decide +kernel) rfl, gw4 165 (by decide +kernel) rfl, rfl, by decide, by decide, by decide +kernel, rfl⟩
theorem v_7_178 : VirtAt 7 178 70 4 := ⟨mo_70, gw4 234 (by decide +kernel) rfl, gw4 129 (by decide +kernel) rfl, gw4 130 (by decide +kernel) rfl, rfl, by decide, by decide, by decide +kernel, rfl⟩
theorem v_7_181 : VirtAt 7 181 72 4 := ⟨mo_72, gw4 235 (by decide +kernel) rfl, gw4 137 (by decide +kernel) rfl, gw4 138 (by decide +kernel) rfl, rfl, by decide, by decide, by decide +kernel, rfl⟩
theorem v_7_189 : VirtAt 7 189 18 2 := ⟨mo_18, gw5 10 (by decide +kernel) rfl, gw3 147 (by decide +kernel) rfl, gw3 148 (by decide +kernel) rfl, rfl, by decide, by decide, by decide +kernel, rfl⟩
theorem v_7_193 : VirtAt 7 193 43 2 := ⟨mo_43, gw5 11 (by decide +kernel) rfl, gw4 10 (by decide +kernel) rfl, gw4 11 (by decide +kernel) rfl, rfl, by decide, by decide, by decide +kernel, rfl⟩
theorem v_7_197 : VirtAt 7 197 98 7 := ⟨mo_98, gw5 12 (by decide +kernel) rfl, gw5 14 (by decide +kernel) rfl, gwp 18 (q := (⟨"HotThrough$Acts", "readAct", "(LHotThrough$Text;I)V"⟩, 13)) (by decide +kernel), rfl, by decide, by decide, by decide +kernel, rfl⟩
theorem v_7_201 : VirtAt 7 201 28 2 := ⟨mo_28, gw5 24 (by decide +kernel) rfl, gw3 187 (by decide +kernel) rfl, gw3 188 (by decide +kernel) rfl, rfl, by decide, by decide, by decide +kernel, rfl⟩
theorem v_7_205 : VirtAt 7 205 39 2 := ⟨mo_39, gw5 25 (by decide +kernel) rfl, gw3 233 (by decide +kernel) rfl, gw3 234 (by decide +kernel) rfl, rfl, by decide, by decide, by decide +kernel, rfl⟩
theorem v_7_209 : VirtAt 7 209 21 2 := ⟨mo_21, gw5 16 (by decide +kernel) rfl, gw3 158 (by decide +kernel) rfl, gw3 159 (by decide +kernel) rfl, rfl, by decide, by decide, by decide +kernel, rfl⟩
theorem v_7_215 : VirtAt 7 215 23 2 := ⟨mo_23, gw5 20 (by decide +kernel) rfl, gw3 166 (by decide +kernel) rfl, gw3 167 (by decide +kernel) rfl, rfl, by decide, by decide, by decide +kernel, rfl⟩
theorem v_7_218 : VirtAt 7 218 24 2 := ⟨mo_24, gw5 21 (by decide +kernel) rfl, gw3 170 (by decide +kernel) rfl, gw3 171 (by decide +kernel) rfl, rfl, by decide, by decide, by decide +kernel, rfl⟩
theorem v_7_221 : VirtAt 7 221 27 2 := ⟨mo_27, gw5 22 (by decide +kernel) rfl, gw3 183 (by decide +kernel) rfl, gw3 184 (by decide +kernel) rfl, rfl, by decide, by decide, by decide +kernel, rfl⟩
theorem v_7_224 : VirtAt 7 224 30 2 := ⟨mo_30, gw5 23 (by decide +kernel) rfl, gw3 195 (by decide +kernel) rfl, gw3 196 (by decide +kernel) rfl, rfl, by decide, by decide, by decide +kernel, rfl⟩
theorem v_7_227 : VirtAt 7 227 62 7 := ⟨mo_62, gw5 30 (by decide +kernel) rfl, gw4 95 (by decide +kernel) rfl, gw4 96 (by decide +kernel) rfl, rfl, by decide, by decide, by decide +kernel, rfl⟩
theorem v_7_230 : VirtAt 7 230 66 7 := ⟨mo_66, gw5 31 (by decide +kernel) rfl, gw4 112 (by decide +kernel) rfl, gw4 113 (by decide +kernel) rfl, rfl, by decide, by decide, by decide +kernel, rfl⟩
theorem v_7_233 : VirtAt 7 233 68 7 := ⟨mo_68, gw5 32 (by decide +kernel) rfl, gw4 121 (by decide +kernel) rfl, gw4 122 (by decide +kernel) rfl, rfl, by decide, by decide, by decide +kernel, rfl⟩
theorem v_7_236 : VirtAt 7 236 86 7 := ⟨mo_86, gw5 33 (by decide +kernel) rfl, gw4 199 (by decide +kernel) rfl, gw4 200 (by decide +kernel) rfl, rfl, by decide, by decide, by decide +kernel, rfl⟩
theorem v_7_239 : VirtAt 7 239 88 7 := ⟨mo_88, gw5 34 (by decide +kernel) rfl, gw4 207 (by decide +kernel) rfl, gw4 208 (by decide +kernel) rfl, rfl, by decide, by decide, by decide +kernel, rfl⟩
theorem v_7_242 : VirtAt 7 242 90 7 := ⟨mo_90, gw5 35 (by decide +kernel) rfl, gw4 215 (by decide +kernel) rfl, gw4 216 (by decide +kernel) rfl, rfl, by decide, by decide, by decide +kernel, rfl⟩
theorem v_7_245 : VirtAt 7 245 94 7 := ⟨mo_94, gw5 36 (by decide +kernel) rfl, gw4 231 (by decide +kernel) rfl, gw4 232 (by decide +kernel) rfl, rfl, by decide, by decide, by decide +kernel, rfl⟩
theorem v_7_57 : VirtAt 7 57 59 7 := ⟨mo_59, gw4 82 (by decide +kernel) rfl, gw4 84 (by decide +kernel) rfl, gwp 12 (q := (⟨"HotThrough$Acts", "slot", "(I)I"⟩, 13)) (by decide +kernel), rfl, by decide, by decide, by decide +kernel, rfl⟩
theorem v_7_61 : VirtAt 7 61 61 5 := ⟨mo_61, gw4 89 (by decide +kernel) rfl, gw4 90 (by decide +kernel) rfl, gw4 91 (by decide +kernel) rfl, rfl, by decide, by decide, by decide +kernel, rfl⟩
theorem v_7_74 : VirtAt 7 74 63 4 := ⟨mo_63, gw4 98 (by decide +kernel) rfl, gw4 99 (by decide +kernel) rfl, gw4 100 (by decide +kernel) rfl, rfl, by decide, by decide, by decide +kernel, rfl⟩
theorem v_7_83 : VirtAt 7 83 52 4 := ⟨mo_52, gw4 102 (by decide +kernel) rfl, gw4 56 (by decide +kernel) rfl, gw4 57 (by decide +kernel) rfl, rfl, by decide, by decide, by decide +kernel, rfl⟩
theorem v_7_98 : VirtAt 7 98 33 4 := ⟨mo_33, gw4 115 (by decide +kernel) rfl, gw3 209 (by decide +kernel) rfl, gw3 210 (by decide +kernel) rfl, rfl, by decide, by decide, by decide +kernel, rfl⟩
theorem v_8_43 : VirtAt 8 43 71 4 := ⟨mo_71, gw5 101 (by decide +kernel) rfl, gw4 133 (by decide +kernel) rfl, gw4 134 (by decide +kernel) rfl, rfl, by decide, by decide, by decide +kernel, rfl⟩
theorem v_8_53 : VirtAt 8 53 116 8 := ⟨mo_116, gw5 102 (by decide +kernel) rfl, gw5 104 (by decide +kernel) rfl, gwp 22 (q := (⟨"HotThrough$Paths", "spread", "(II)Z"⟩, 9)) (by decide +kernel), rfl, by decide, by decide, by decide +kernel, rfl⟩
theorem v_8_58 : VirtAt 8 58 118 8 := ⟨mo_118, gw5 112 (by decide +kernel) rfl, gw5 114 (by decide +kernel) rfl, gwp 24 (q := (⟨"HotThrough$Paths", "trace", "(II)V"⟩, 9)) (by decide +kernel), rfl, by decide, by decide, by decide +kernel, rfl⟩
theorem v_8_66 : VirtAt 8 66 33 4 := ⟨mo_33, gw5 106 (by decide +kernel) rfl, gw3 209 (by decide +kernel) rfl, gw3 210 (by decide +kernel) rfl, rfl, by decide, by decide, by decide +kernel, rfl⟩
theorem v_8_79 : VirtAt 8 79 117 8 := ⟨mo_117, gw5 108 (by decide +kernel) rfl, gw5 110 (by decide +kernel) rfl, gwp 23 (q := (⟨"HotThrough$Paths", "relax", "(III)V"⟩, 9)) (by decide +kernel), rfl, by decide, by decide, by decide +kernel, rfl⟩
theorem v_8_83 : VirtAt 8 83 119 8 := ⟨mo_119, gw5 116 (by decide +kernel) rfl, gw5 118 (by decide +kernel) rfl, gwp 25 (q := (⟨"HotThrough$Paths", "nextFrom", "(I)I"⟩, 9)) (by decide +kernel), rfl, by decide, by decide, by decide +kernel, rfl⟩
theorem v_8_87 : VirtAt 8 87 69 4 := ⟨mo_69, gw5 120 (by decide +kernel) rfl, gw4 125 (by decide +kernel) rfl, gw4 126 (by decide +kernel) rfl, rfl, by decide, by decide, by decide +kernel, rfl⟩
theorem v_9_49 : VirtAt 9 49 75 6 := ⟨mo_75, gw5 143 (by decide +kernel) rfl, gw4 149 (by decide +kernel) rfl, gw4 150 (by decide +kernel) rfl, rfl, by decide, by decide, by decide +kernel, rfl⟩
theorem v_9_55 : VirtAt 9 55 125 9 := ⟨mo_125, gw5 144 (by decide +kernel) rfl, gw5 146 (by decide +kernel) rfl, gwp 26 (q := (⟨"HotThrough$Rester", "stop", "(II)V"⟩, 11)) (by decide +kernel), rfl, by decide, by decide, by decide +kernel, rfl⟩
theorem v_9_64 : VirtAt 9 64 126 9 := ⟨mo_126, gw5 148 (by decide +kernel) rfl, gw5 150 (by decide +kernel) rfl, gwp 27 (q := (⟨"HotThrough$Rester", "arrived", "(I)V"⟩, 11)) (by decide +kernel), rfl, by decide, by decide, by decide +kernel, rfl⟩
theorem v_9_74 : VirtAt 9 74 128 9 := ⟨mo_128, gw5 157 (by decide +kernel) rfl, gw5 159 (by decide +kernel) rfl, gwp 29 (q := (⟨"HotThrough$Rester", "goOn", "(II)V"⟩, 11)) (by decide +kernel), rfl, by decide, by decide, by decide +kernel, rfl⟩
theorem v_9_85 : VirtAt 9 85 129 6 := ⟨mo_129, gw5 162 (by decide +kernel) rfl, gw5 163 (by decide +kernel) rfl, gw5 164 (by decide +kernel) rfl, rfl, by decide, by decide, by decide +kernel, rfl⟩
theorem v_9_91 : VirtAt 9 91 112 6 := ⟨mo_112, gw5 161 (by decide +kernel) rfl, gw5 85 (by decide +kernel) rfl, gw5 86 (by decide +kernel) rfl, rfl, by decide, by decide, by decide +kernel, rfl⟩
theorem v_9_95 : VirtAt 9 95 127 9 := ⟨mo_127, gw5 152 (by decide +kernel) rfl, gw5 154 (by decide +kernel) rfl, gwp 28 (q := (⟨"HotThrough$Rester", "isLess", "(I)Z"⟩, 11)) (by decide +kernel), rfl, by decide, by decide, by decide +kernel, rfl⟩
theorem a_14 : ArrAt9 14 := ⟨by decide, by decide, gw1 86 (by decide +kernel) rfl⟩
theorem a_15 : ArrAt9 15 := ⟨by decide, by decide, gw3 121 (by decide +kernel) rfl⟩
theorem a_16 : ArrAt9 16 := ⟨by decide, by decide, gw7 148 (by decide +kernel) rfl⟩
theorem a_17 : ArrAt9 17 := ⟨by decide, by decide, gw1 63 (by decide +kernel) rfl⟩
theorem c_13_186 : StrAt 13 186 174 := ⟨mo_174, gw7 182 (by decide +kernel) rfl, gw7 183 (by decide +kernel) rfl, gw7 184 (by decide +kernel) rfl, by decide +kernel, by decide +kernel, by decide +kernel⟩
theorem c_13_192 : StrAt 13 192 175 := ⟨mo_175, gw7 192 (by decide +kernel) rfl, gw7 193 (by decide +kernel) rfl, gw7 194 (by decide +kernel) rfl, by decide +kernel, by decide +kernel, by decide +kernel⟩
theorem i_101_18 : SpecAt 101 18 2 := ⟨mo_2, Or.inr ⟨_, gwn 66 (w := Cond.methodLinkNest "HotThrough" (18) ({ cls := "HotThrough$Rule", name := "<init>", desc := "()V" }) "HotThrough") (by decide +kernel) rfl⟩, gw1 67 (by decide +kernel) rfl, by decide +kernel, by decide +kernel, by decide +kernel, by decide +kernel, by decide +kernel⟩
theorem i_101_25 : SpecAt 101 25 3 := ⟨mo_3, Or.inr ⟨_, gwn 89 (w := Cond.methodLinkNest "HotThrough" (25) ({ cls := "HotThrough$Kitchen", name := "<init>", desc := "()V" }) "HotThrough") (by decide +kernel) rfl⟩, gw1 90 (by decide +kernel) rfl, by decide +kernel, by decide +kernel, by decide +kernel, by decide +kernel, by decide +kernel⟩
theorem i_101_32 : SpecAt 101 32 4 := ⟨mo_4, Or.inr ⟨_, gwn 159 (w := Cond.methodLinkNest "HotThrough" (32) ({ cls := "HotThrough$State", name := "<init>", desc := "()V" }) "HotThrough") (by decide +kernel) rfl⟩, gw1 160 (by decide +kernel) rfl, by decide +kernel, by decide +kernel, by decide +kernel, by decide +kernel, by decide +kernel⟩
theorem i_101_39 : SpecAt 101 39 5 := ⟨mo_5, Or.inl (gw1 239 (by decide +kernel) rfl), gw2 0 (by decide +kernel) rfl, by decide +kernel, by decide +kernel, by decide +kernel, by decide +kernel, by decide +kernel⟩
theorem i_101_48 : SpecAt 101 48 6 := ⟨mo_6, Or.inl (gw2 58 (by decide +kernel) rfl), gw2 59 (by decide +kernel) rfl, by decide +kernel, by decide +kernel, by decide +kernel, by decide +kernel, by decide +kernel⟩
theorem i_101_57 : SpecAt 101 57 7 := ⟨mo_7, Or.inl (gw2 111 (by decide +kernel) rfl), gw2 112 (by decide +kernel) rfl, by decide +kernel, by decide +kernel, by decide +kernel, by decide +kernel, by decide +kernel⟩
theorem i_101_66 : SpecAt 101 66 8 := ⟨mo_8, Or.inl (gw2 156 (by decide +kernel) rfl), gw2 157 (by decide +kernel) rfl, by decide +kernel, by decide +kernel, by decide +kernel, by decide +kernel, by decide +kernel⟩
theorem i_101_75 : SpecAt 101 75 9 := ⟨mo_9, Or.inl (gw2 197 (by decide +kernel) rfl), gw2 198 (by decide +kernel) rfl, by decide +kernel, by decide +kernel, by decide +kernel, by decide +kernel, by decide +kernel⟩
theorem i_101_84 : SpecAt 101 84 10 := ⟨mo_10, Or.inl (gw2 226 (by decide +kernel) rfl), gw2 227 (by decide +kernel) rfl, by decide +kernel, by decide +kernel, by decide +kernel, by decide +kernel, by decide +kernel⟩
theorem i_101_9 : SpecAt 101 9 1 := ⟨mo_1, Or.inr ⟨_, gwn 35 (w := Cond.methodLinkNest "HotThrough" (9) ({ cls := "HotThrough$Text", name := "<init>", desc := "()V" }) "HotThrough") (by decide +kernel) rfl⟩, gw1 36 (by decide +kernel) rfl, by decide +kernel, by decide +kernel, by decide +kernel, by decide +kernel, by decide +kernel⟩
theorem i_101_91 : SpecAt 101 91 11 := ⟨mo_11, Or.inl (gw3 34 (by decide +kernel) rfl), gw3 35 (by decide +kernel) rfl, by decide +kernel, by decide +kernel, by decide +kernel, by decide +kernel, by decide +kernel⟩
end
section
/-! places of the pools (by program) -/
theorem i_107_43 : SpecAt 107 43 4 := ⟨mo_4, Or.inr ⟨_, gwn 304 (w := Cond.methodLinkNest "HotThrough$Acts" (43) ({ cls := "HotThrough$State", name := "<init>", desc := "()V" }) "HotThrough") (by decide +kernel) rfl⟩, gw1 160 (by decide +kernel) rfl, by decide +kernel, by decide +kernel, by decide +kernel, by decide +kernel, by decide +kernel⟩
theorem kl_3 : KlsAt 3 := ⟨(List.forall_mem_cons.mpr ⟨ly_3_0, (List.forall_mem_cons.mpr ⟨ly_3_1, (List.forall_mem_cons.mpr ⟨ly_3_2, (List.forall_mem_cons.mpr ⟨ly_3_3, (List.forall_mem_cons.mpr ⟨ly_3_4, (fun _ h => nomatch h)⟩)⟩)⟩)⟩)⟩), by decide +kernel, by decide +kernel⟩
theorem n_101_16 : NewAt 101 16 3 := ⟨gw1 64 (by decide +kernel) rfl, gw1 65 (by decide +kernel) rfl, gw1 3 (by decide +kernel) rfl, by decide, by decide, kl_3⟩
theorem kl_4 : KlsAt 4 := ⟨(List.forall_mem_cons.mpr ⟨ly_4_0, (List.forall_mem_cons.mpr ⟨ly_4_1, (List.forall_mem_cons.mpr ⟨ly_4_2, (List.forall_mem_cons.mpr ⟨ly_4_3, (List.forall_mem_cons.mpr ⟨ly_4_4, (List.forall_mem_cons.mpr ⟨ly_4_5, (List.forall_mem_cons.mpr ⟨ly_4_6, (List.forall_mem_cons.mpr ⟨ly_4_7, (List.forall_mem_cons.mpr ⟨ly_4_8, (List.forall_mem_cons.mpr ⟨ly_4_9, (List.forall_mem_cons.mpr ⟨ly_4_10, (fun _ h => nomatch h)⟩)⟩)⟩)⟩)⟩)⟩)⟩)⟩)⟩)⟩)⟩), by decide +kernel, by decide +kernel⟩
theorem n_101_23 : NewAt 101 23 4 := ⟨gw1 87 (by decide +kernel) rfl, gw1 88 (by decide +kernel) rfl, gw1 4 (by decide +kernel) rfl, by decide, by decide, kl_4⟩
theorem kl_5 : KlsAt 5 := ⟨(List.forall_mem_cons.mpr ⟨ly_5_0, (List.forall_mem_cons.mpr ⟨ly_5_1, (List.forall_mem_cons.mpr ⟨ly_5_2, (List.forall_mem_cons.mpr ⟨ly_5_3, (List.forall_mem_cons.mpr ⟨ly_5_4, (List.forall_mem_cons.mpr ⟨ly_5_5, (List.forall_mem_cons.mpr ⟨ly_5_6, (List.forall_mem_cons.mpr ⟨ly_5_7, (List.forall_mem_cons.mpr ⟨ly_5_8, (List.forall_mem_cons.mpr ⟨ly_5_9, (List.forall_mem_cons.mpr ⟨ly_5_10, (List.forall_mem_cons.mpr ⟨ly_5_11, (fun _ h => nomatch h)⟩)⟩)⟩)⟩)⟩)⟩)⟩)⟩)⟩)⟩)⟩)⟩), by decide +kernel, by decide +kernel⟩
theorem n_101_30 : NewAt 101 30 5 := ⟨gw1 157 (by decide +kernel) rfl, gw1 158 (by decide +kernel) rfl, gw1 5 (by decide +kernel) rfl, by decide, by decide, kl_5⟩
theorem kl_6 : KlsAt 6 := ⟨(List.forall_mem_cons.mpr ⟨ly_6_0, (List.forall_mem_cons.mpr ⟨ly_6_1, (List.forall_mem_cons.mpr ⟨ly_6_2, (List.forall_mem_cons.mpr ⟨ly_6_3, (List.forall_mem_cons.mpr ⟨ly_6_4, (List.forall_mem_cons.mpr ⟨ly_6_5, (List.forall_mem_cons.mpr ⟨ly_6_6, (List.forall_mem_cons.mpr ⟨ly_6_7, (List.forall_mem_cons.mpr ⟨ly_6_8, (List.forall_mem_cons.mpr ⟨ly_6_9, (List.forall_mem_cons.mpr ⟨ly_6_10, (List.forall_mem_cons.mpr ⟨ly_6_11, (List.forall_mem_cons.mpr ⟨ly_6_12, (fun _ h => nomatch h)⟩)⟩)⟩)⟩)⟩)⟩)⟩)⟩)⟩)⟩)⟩)⟩)⟩), by decide +kernel, by decide +kernel⟩
theorem n_101_37 : NewAt 101 37 6 := ⟨gw1 237 (by decide +kernel) rfl, gw1 238 (by decide +kernel) rfl, gw1 6 (by decide +kernel) rfl, by decide, by decide, kl_6⟩
theorem kl_7 : KlsAt 7 := ⟨(List.forall_mem_cons.mpr ⟨ly_7_0, (List.forall_mem_cons.mpr ⟨ly_7_1, (List.forall_mem_cons.mpr ⟨ly_7_2, (List.forall_mem_cons.mpr ⟨ly_7_3, (List.forall_mem_cons.mpr ⟨ly_7_4, (List.forall_mem_cons.mpr ⟨ly_7_5, (List.forall_mem_cons.mpr ⟨ly_7_6, (List.forall_mem_cons.mpr ⟨ly_7_7, (List.forall_mem_cons.mpr ⟨ly_7_8, (List.forall_mem_cons.mpr ⟨ly_7_9, (List.forall_mem_cons.mpr ⟨ly_7_10, (List.forall_mem_cons.mpr ⟨ly_7_11, (List.forall_mem_cons.mpr ⟨ly_7_12, (fun _ h => nomatch h)⟩)⟩)⟩)⟩)⟩)⟩)⟩)⟩)⟩)⟩)⟩)⟩)⟩), by decide +kernel, by decide +kernel⟩
theorem n_101_46 : NewAt 101 46 7 := ⟨gw2 56 (by decide +kernel) rfl, gw2 57 (by decide +kernel) rfl, gw1 7 (by decide +kernel) rfl, by decide, by decide, kl_7⟩
theorem kl_8 : KlsAt 8 := ⟨(List.forall_mem_cons.mpr ⟨ly_8_0, (List.forall_mem_cons.mpr ⟨ly_8_1, (List.forall_mem_cons.mpr ⟨ly_8_2, (List.forall_mem_cons.mpr ⟨ly_8_3, (List.forall_mem_cons.mpr ⟨ly_8_4, (List.forall_mem_cons.mpr ⟨ly_8_5, (List.forall_mem_cons.mpr ⟨ly_8_6, (List.forall_mem_cons.mpr ⟨ly_8_7, (List.forall_mem_cons.mpr ⟨ly_8_8, (fun _ h => nomatch h)⟩)⟩)⟩)⟩)⟩)⟩)⟩)⟩)⟩), by decide +kernel, by decide +kernel⟩
theorem n_101_55 : NewAt 101 55 8 := ⟨gw2 109 (by decide +kernel) rfl, gw2 110 (by decide +kernel) rfl, gw1 8 (by decide +kernel) rfl, by decide, by decide, kl_8⟩
theorem kl_9 : KlsAt 9 := ⟨(List.forall_mem_cons.mpr ⟨ly_9_0, (List.forall_mem_cons.mpr ⟨ly_9_1, (List.forall_mem_cons.mpr ⟨ly_9_2, (List.forall_mem_cons.mpr ⟨ly_9_3, (List.forall_mem_cons.mpr ⟨ly_9_4, (List.forall_mem_cons.mpr ⟨ly_9_5, (List.forall_mem_cons.mpr ⟨ly_9_6, (List.forall_mem_cons.mpr ⟨ly_9_7, (List.forall_mem_cons.mpr ⟨ly_9_8, (List.forall_mem_cons.mpr ⟨ly_9_9, (List.forall_mem_cons.mpr ⟨ly_9_10, (fun _ h => nomatch h)⟩)⟩)⟩)⟩)⟩)⟩)⟩)⟩)⟩)⟩)⟩), by decide +kernel, by decide +kernel⟩
theorem n_101_64 : NewAt 101 64 9 := ⟨gw2 154 (by decide +kernel) rfl, gw2 155 (by decide +kernel) rfl, gw1 9 (by decide +kernel) rfl, by decide, by decide, kl_9⟩
theorem kl_2 : KlsAt 2 := ⟨(List.forall_mem_cons.mpr ⟨ly_2_0, (List.forall_mem_cons.mpr ⟨ly_2_1, (List.forall_mem_cons.mpr ⟨ly_2_2, (List.forall_mem_cons.mpr ⟨ly_2_3, (List.forall_mem_cons.mpr ⟨ly_2_4, (List.forall_mem_cons.mpr ⟨ly_2_5, (fun _ h => nomatch h)⟩)⟩)⟩)⟩)⟩)⟩), by decide +kernel, by decide +kernel⟩
theorem n_101_7 : NewAt 101 7 2 := ⟨gw1 33 (by decide +kernel) rfl, gw1 34 (by decide +kernel) rfl, gw1 2 (by decide +kernel) rfl, by decide, by decide, kl_2⟩
theorem kl_10 : KlsAt 10 := ⟨(List.forall_mem_cons.mpr ⟨ly_10_0, (List.forall_mem_cons.mpr ⟨ly_10_1, (List.forall_mem_cons.mpr ⟨ly_10_2, (List.forall_mem_cons.mpr ⟨ly_10_3, (List.forall_mem_cons.mpr ⟨ly_10_4, (List.forall_mem_cons.mpr ⟨ly_10_5, (List.forall_mem_cons.mpr ⟨ly_10_6, (fun _ h => nomatch h)⟩)⟩)⟩)⟩)⟩)⟩)⟩), by decide +kernel, by decide +kernel⟩
theorem n_101_73 : NewAt 101 73 10 := ⟨gw2 195 (by decide +kernel) rfl, gw2 196 (by decide +kernel) rfl, gw1 10 (by decide +kernel) rfl, by decide, by decide, kl_10⟩
theorem kl_11 : KlsAt 11 := ⟨(List.forall_mem_cons.mpr ⟨ly_11_0, (List.forall_mem_cons.mpr ⟨ly_11_1, (List.forall_mem_cons.mpr ⟨ly_11_2, (List.forall_mem_cons.mpr ⟨ly_11_3, (List.forall_mem_cons.mpr ⟨ly_11_4, (List.forall_mem_cons.mpr ⟨ly_11_5, (List.forall_mem_cons.mpr ⟨ly_11_6, (List.forall_mem_cons.mpr ⟨ly_11_7, (List.forall_mem_cons.mpr ⟨ly_11_8, (List.forall_mem_cons.mpr ⟨ly_11_9, (List.forall_mem_cons.mpr ⟨ly_11_10, (List.forall_mem_cons.mpr ⟨ly_11_11, (List.forall_mem_cons.mpr ⟨ly_11_12, (fun _ h => nomatch h)⟩)⟩)⟩)⟩)⟩)⟩)⟩)⟩)⟩)⟩)⟩)⟩)⟩), by decide +kernel, by decide +kernel⟩
theorem n_101_82 : NewAt 101 82 11 := ⟨gw2 224 (by decide +kernel) rfl, gw2 225 (by decide +kernel) rfl, gw1 11 (by decide +kernel) rfl, by decide, by decide, kl_11⟩
theorem kl_12 : KlsAt 12 := ⟨(List.forall_mem_cons.mpr ⟨ly_12_0, (List.forall_mem_cons.mpr ⟨ly_12_1, (List.forall_mem_cons.mpr ⟨ly_12_2, (List.forall_mem_cons.mpr ⟨ly_12_3, (List.forall_mem_cons.mpr ⟨ly_12_4, (List.forall_mem_cons.mpr ⟨ly_12_5, (List.forall_mem_cons.mpr ⟨ly_12_6, (List.forall_mem_cons.mpr ⟨ly_12_7, (List.forall_mem_cons.mpr ⟨ly_12_8, (List.forall_mem_cons.mpr ⟨ly_12_9, (List.forall_mem_cons.mpr ⟨ly_12_10, (fun _ h => nomatch h)⟩)⟩)⟩)⟩)⟩)⟩)⟩)⟩)⟩)⟩)⟩), by decide +kernel, by decide +kernel⟩
theorem n_101_89 : NewAt 101 89 12 := ⟨gw3 32 (by decide +kernel) rfl, gw3 33 (by decide +kernel) rfl, gw1 12 (by decide +kernel) rfl, by decide, by decide, kl_12⟩
theorem n_107_9 : NewAt 107 9 5 := ⟨gw2 62 (by decide +kernel) rfl, gw1 158 (by decide +kernel) rfl, gw1 5 (by decide +kernel) rfl, by decide, by decide, kl_5⟩
theorem o_101_1 : ObjAt 101 1 := ⟨gw1 30 (by decide +kernel) rfl, gw1 31 (by decide +kernel) rfl, gw1 32 (by decide +kernel) rfl⟩
theorem o_102_3 : ObjAt 102 3 := ⟨gw1 38 (by decide +kernel) rfl, gw1 31 (by decide +kernel) rfl, gw1 32 (by decide +kernel) rfl⟩
theorem o_103_3 : ObjAt 103 3 := ⟨gw1 69 (by decide +kernel) rfl, gw1 31 (by decide +kernel) rfl, gw1 32 (by decide +kernel) rfl⟩
theorem o_104_3 : ObjAt 104 3 := ⟨gw1 92 (by decide +kernel) rfl, gw1 31 (by decide +kernel) rfl, gw1 32 (by decide +kernel) rfl⟩
theorem o_105_3 : ObjAt 105 3 := ⟨gw1 162 (by decide +kernel) rfl, gw1 31 (by decide +kernel) rfl, gw1 32 (by decide +kernel) rfl⟩
theorem o_106_3 : ObjAt 106 3 := ⟨gw2 2 (by decide +kernel) rfl, gw1 31 (by decide +kernel) rfl, gw1 32 (by decide +kernel) rfl⟩
theorem o_107_3 : ObjAt 107 3 := ⟨gw2 61 (by decide +kernel) rfl, gw1 31 (by decide +kernel) rfl, gw1 32 (by decide +kernel) rfl⟩
theorem o_108_5 : ObjAt 108 5 := ⟨gw2 114 (by decide +kernel) rfl, gw1 31 (by decide +kernel) rfl, gw1 32 (by decide +kernel) rfl⟩
theorem o_109_3 : ObjAt 109 3 := ⟨gw2 159 (by decide +kernel) rfl, gw1 31 (by decide +kernel) rfl, gw1 32 (by decide +kernel) rfl⟩
theorem o_110_3 : ObjAt 110 3 := ⟨gw2 200 (by decide +kernel) rfl, gw1 31 (by decide +kernel) rfl, gw1 32 (by decide +kernel) rfl⟩
theorem o_111_3 : ObjAt 111 3 := ⟨gw2 229 (by decide +kernel) rfl, gw1 31 (by decide +kernel) rfl, gw1 32 (by decide +kernel) rfl⟩
theorem o_112_3 : ObjAt 112 3 := ⟨gw3 37 (by decide +kernel) rfl, gw1 31 (by decide +kernel) rfl, gw1 32 (by decide +kernel) rfl⟩
theorem o_113_3 : ObjAt 113 3 := ⟨gw6 170 (by decide +kernel) rfl, gw1 31 (by decide +kernel) rfl, gw1 32 (by decide +kernel) rfl⟩
theorem q_101_30 : QarAt 101 30 := ⟨gw1 157 (by decide +kernel) rfl, gwn 303 (w := Cond.arrayOver (.object "HotThrough$State")) (by decide +kernel) rfl⟩
theorem q_107_9 : QarAt 107 9 := ⟨gw2 62 (by decide +kernel) rfl, gwn 303 (w := Cond.arrayOver (.object "HotThrough$State")) (by decide +kernel) rfl⟩
theorem t_13_207 : TexAt 13 207 1 := ⟨rfl, by decide, rfl⟩
theorem t_13_218 : TexAt 13 218 2 := ⟨rfl, by decide, rfl⟩
theorem t_13_236 : TexAt 13 236 0 := ⟨rfl, by decide, rfl⟩
theorem t_13_276 : TexAt 13 276 3 := ⟨rfl, by decide, rfl⟩
theorem t_13_281 : TexAt 13 281 4 := ⟨rfl, by decide, rfl⟩
theorem t_13_283 : TexAt 13 283 5 := ⟨rfl, by decide, rfl⟩
theorem t_13_285 : TexAt 13 285 6 := ⟨rfl, by decide, rfl⟩
theorem t_13_402 : TexAt 13 402 7 := ⟨rfl, by decide, rfl⟩
theorem y_11_120 : CpyAt 11 120 := ⟨gw5 226 (by decide +kernel) rfl, gw4 50 (by decide +kernel) rfl, gw4 49 (by decide +kernel) rfl, gw1 19 (by decide +kernel) rfl⟩
theorem y_12_86 : CpyAt 12 86 := ⟨gw6 20 (by decide +kernel) rfl, gw4 50 (by decide +kernel) rfl, gw4 49 (by decide +kernel) rfl, gw1 19 (by decide +kernel) rfl⟩
theorem y_3_43 : CpyAt 3 43 := ⟨gw4 48 (by decide +kernel) rfl, gw4 50 (by decide +kernel) rfl, gw4 49 (by decide +kernel) rfl, gw1 19 (by decide +kernel) rfl⟩
theorem y_5_39 : CpyAt 5 39 := ⟨gw4 93 (by decide +kernel) rfl, gw4 50 (by decide +kernel) rfl, gw4 49 (by decide +kernel) rfl, gw1 19 (by decide +kernel) rfl⟩
theorem y_9_99 : CpyAt 9 99 := ⟨gw5 156 (by decide +kernel) rfl, gw4 50 (by decide +kernel) rfl, gw4 49 (by decide +kernel) rfl, gw1 19 (by decide +kernel) rfl⟩
theorem zf_101_10 : FldFin 101 10 1 0 := ⟨f_101_10, by decide +kernel, by decide +kernel⟩
theorem zf_101_100 : FldFin 101 100 1 13 := ⟨f_101_100, by decide +kernel, by decide +kernel⟩
theorem zf_101_19 : FldFin 101 19 1 1 := ⟨f_101_19, by decide +kernel, by decide +kernel⟩
theorem zf_101_26 : FldFin 101 26 1 2 := ⟨f_101_26, by decide +kernel, by decide +kernel⟩
theorem zf_101_33 : FldFin 101 33 1 3 := ⟨f_101_33, by decide +kernel, by decide +kernel⟩
theorem zf_101_42 : FldFin 101 42 1 4 := ⟨f_101_42, by decide +kernel, by decide +kernel⟩
theorem zf_101_51 : FldFin 101 51 1 5 := ⟨f_101_51, by decide +kernel, by decide +kernel⟩
theorem zf_101_60 : FldFin 101 60 1 6 := ⟨f_101_60, by decide +kernel, by decide +kernel⟩
theorem zf_101_69 : FldFin 101 69 1 7 := ⟨f_101_69, by decide +kernel, by decide +kernel⟩
theorem zf_101_78 : FldFin 101 78 1 8 := ⟨f_101_78, by decide +kernel, by decide +kernel⟩
theorem zf_101_85 : FldFin 101 85 1 9 := ⟨f_101_85, by decide +kernel, by decide +kernel⟩
theorem zf_101_92 : FldFin 101 92 1 10 := ⟨f_101_92, by decide +kernel, by decide +kernel⟩
theorem zf_101_96 : FldFin 101 96 1 11 := ⟨f_101_96, by decide +kernel, by decide +kernel⟩
theorem zf_102_9 : FldFin 102 9 2 0 := ⟨f_102_9, by decide +kernel, by decide +kernel⟩
theorem zf_103_15 : FldFin 103 15 3 2 := ⟨f_103_15, by decide +kernel, by decide +kernel⟩
theorem zf_103_18 : FldFin 103 18 3 4 := ⟨f_103_18, by decide +kernel, by decide +kernel⟩
theorem zf_103_9 : FldFin 103 9 3 0 := ⟨f_103_9, by decide +kernel, by decide +kernel⟩
theorem zf_104_15 : FldFin 104 15 4 5 := ⟨f_104_15, by decide +kernel, by decide +kernel⟩
theorem zf_104_18 : FldFin 104 18 4 6 := ⟨f_104_18, by decide +kernel, by decide +kernel⟩
theorem zf_104_21 : FldFin 104 21 4 7 := ⟨f_104_21, by decide +kernel, by decide +kernel⟩
theorem zf_104_24 : FldFin 104 24 4 9 := ⟨f_104_24, by decide +kernel, by decide +kernel⟩
theorem zf_104_27 : FldFin 104 27 4 10 := ⟨f_104_27, by decide +kernel, by decide +kernel⟩
theorem zf_104_9 : FldFin 104 9 4 4 := ⟨f_104_9, by decide +kernel, by decide +kernel⟩
theorem zf_105_15 : FldFin 105 15 5 1 := ⟨f_105_15, by decide +kernel, by decide +kernel⟩
theorem zf_105_18 : FldFin 105 18 5 2 := ⟨f_105_18, by decide +kernel, by decide +kernel⟩
theorem zf_105_21 : FldFin 105 21 5 4 := ⟨f_105_21, by decide +kernel, by decide +kernel⟩
theorem zf_105_24 : FldFin 105 24 5 5 := ⟨f_105_24, by decide +kernel, by decide +kernel⟩
theorem zf_105_27 : FldFin 105 27 5 6 := ⟨f_105_27, by decide +kernel, by decide +kernel⟩
theorem zf_105_30 : FldFin 105 30 5 7 := ⟨f_105_30, by decide +kernel, by decide +kernel⟩
theorem zf_105_33 : FldFin 105 33 5 8 := ⟨f_105_33, by decide +kernel, by decide +kernel⟩
theorem zf_105_36 : FldFin 105 36 5 9 := ⟨f_105_36, by decide +kernel, by decide +kernel⟩
theorem zf_105_9 : FldFin 105 9 5 0 := ⟨f_105_9, by decide +kernel, by decide +kernel⟩
theorem zf_106_15 : FldFin 106 15 6 1 := ⟨f_106_15, by decide +kernel, by decide +kernel⟩
theorem zf_106_19 : FldFin 106 19 6 2 := ⟨f_106_19, by decide +kernel, by decide +kernel⟩
theorem zf_106_9 : FldFin 106 9 6 0 := ⟨f_106_9, by decide +kernel, by decide +kernel⟩
theorem zf_107_11 : FldFin 107 11 7 7 := ⟨f_107_11, by decide +kernel, by decide +kernel⟩
theorem zf_107_17 : FldFin 107 17 7 10 := ⟨f_107_17, by decide +kernel, by decide +kernel⟩
theorem zf_107_21 : FldFin 107 21 7 11 := ⟨f_107_21, by decide +kernel, by decide +kernel⟩
theorem zf_107_24 : FldFin 107 24 7 12 := ⟨f_107_24, by decide +kernel, by decide +kernel⟩
theorem zf_107_27 : FldFin 107 27 7 0 := ⟨f_107_27, by decide +kernel, by decide +kernel⟩
theorem zf_107_31 : FldFin 107 31 7 1 := ⟨f_107_31, by decide +kernel, by decide +kernel⟩
theorem zf_107_35 : FldFin 107 35 7 2 := ⟨f_107_35, by decide +kernel, by decide +kernel⟩
theorem zf_107_39 : FldFin 107 39 7 3 := ⟨f_107_39, by decide +kernel, by decide +kernel⟩
theorem zf_108_11 : FldFin 108 11 8 2 := ⟨f_108_11, by decide +kernel, by decide +kernel⟩
theorem zf_108_15 : FldFin 108 15 8 3 := ⟨f_108_15, by decide +kernel, by decide +kernel⟩
theorem zf_108_18 : FldFin 108 18 8 4 := ⟨f_108_18, by decide +kernel, by decide +kernel⟩
theorem zf_108_21 : FldFin 108 21 8 5 := ⟨f_108_21, by decide +kernel, by decide +kernel⟩
theorem zf_108_24 : FldFin 108 24 8 0 := ⟨f_108_24, by decide +kernel, by decide +kernel⟩
theorem zf_108_28 : FldFin 108 28 8 1 := ⟨f_108_28, by decide +kernel, by decide +kernel⟩
theorem zf_109_15 : FldFin 109 15 9 4 := ⟨f_109_15, by decide +kernel, by decide +kernel⟩
theorem zf_109_18 : FldFin 109 18 9 5 := ⟨f_109_18, by decide +kernel, by decide +kernel⟩
theorem zf_109_21 : FldFin 109 21 9 6 := ⟨f_109_21, by decide +kernel, by decide +kernel⟩
theorem zf_109_24 : FldFin 109 24 9 7 := ⟨f_109_24, by decide +kernel, by decide +kernel⟩
theorem zf_109_27 : FldFin 109 27 9 0 := ⟨f_109_27, by decide +kernel, by decide +kernel⟩
theorem zf_109_31 : FldFin 109 31 9 1 := ⟨f_109_31, by decide +kernel, by decide +kernel⟩
theorem zf_109_35 : FldFin 109 35 9 2 := ⟨f_109_35, by decide +kernel, by decide +kernel⟩
theorem zf_109_9 : FldFin 109 9 9 3 := ⟨f_109_9, by decide +kernel, by decide +kernel⟩
theorem zf_110_15 : FldFin 110 15 10 5 := ⟨f_110_15, by decide +kernel, by decide +kernel⟩
theorem zf_110_18 : FldFin 110 18 10 0 := ⟨f_110_18, by decide +kernel, by decide +kernel⟩
theorem zf_110_22 : FldFin 110 22 10 1 := ⟨f_110_22, by decide +kernel, by decide +kernel⟩
theorem zf_110_26 : FldFin 110 26 10 2 := ⟨f_110_26, by decide +kernel, by decide +kernel⟩
theorem zf_110_30 : FldFin 110 30 10 3 := ⟨f_110_30, by decide +kernel, by decide +kernel⟩
theorem zf_110_9 : FldFin 110 9 10 4 := ⟨f_110_9, by decide +kernel, by decide +kernel⟩
theorem zf_111_15 : FldFin 111 15 11 5 := ⟨f_111_15, by decide +kernel, by decide +kernel⟩
theorem zf_111_18 : FldFin 111 18 11 6 := ⟨f_111_18, by decide +kernel, by decide +kernel⟩
theorem zf_111_21 : FldFin 111 21 11 7 := ⟨f_111_21, by decide +kernel, by decide +kernel⟩
theorem zf_111_24 : FldFin 111 24 11 8 := ⟨f_111_24, by decide +kernel, by decide +kernel⟩
theorem zf_111_27 : FldFin 111 27 11 0 := ⟨f_111_27, by decide +kernel, by decide +kernel⟩
theorem zf_111_31 : FldFin 111 31 11 1 := ⟨f_111_31, by decide +kernel, by decide +kernel⟩
theorem zf_111_35 : FldFin 111 35 11 2 := ⟨f_111_35, by decide +kernel, by decide +kernel⟩
theorem zf_111_39 : FldFin 111 39 11 3 := ⟨f_111_39, by decide +kernel, by decide +kernel⟩
theorem zf_111_9 : FldFin 111 9 11 4 := ⟨f_111_9, by decide +kernel, by decide +kernel⟩
theorem zf_112_15 : FldFin 112 15 12 3 := ⟨f_112_15, by decide +kernel, by decide +kernel⟩
theorem zf_112_18 : FldFin 112 18 12 5 := ⟨f_112_18, by decide +kernel, by decide +kernel⟩
theorem zf_112_21 : FldFin 112 21 12 6 := ⟨f_112_21, by decide +kernel, by decide +kernel⟩
theorem zf_112_24 : FldFin 112 24 12 7 := ⟨f_112_24, by decide +kernel, by decide +kernel⟩
theorem zf_112_27 : FldFin 112 27 12 0 := ⟨f_112_27, by decide +kernel, by decide +kernel⟩
theorem zf_112_31 : FldFin 112 31 12 1 := ⟨f_112_31, by decide +kernel, by decide +kernel⟩
theorem zf_112_9 : FldFin 112 9 12 2 := ⟨f_112_9, by decide +kernel, by decide +kernel⟩
theorem zf_113_102 : FldFin 113 102 13 61 := ⟨f_113_102, by decide +kernel, by decide +kernel⟩
theorem zf_113_105 : FldFin 113 105 13 63 := ⟨f_113_105, by decide +kernel, by decide +kernel⟩
theorem zf_113_108 : FldFin 113 108 13 64 := ⟨f_113_108, by decide +kernel, by decide +kernel⟩
theorem zf_113_111 : FldFin 113 111 13 67 := ⟨f_113_111, by decide +kernel, by decide +kernel⟩
theorem zf_113_114 : FldFin 113 114 13 68 := ⟨f_113_114, by decide +kernel, by decide +kernel⟩
theorem zf_113_117 : FldFin 113 117 13 69 := ⟨f_113_117, by decide +kernel, by decide +kernel⟩
theorem zf_113_120 : FldFin 113 120 13 70 := ⟨f_113_120, by decide +kernel, by decide +kernel⟩
theorem zf_113_123 : FldFin 113 123 13 71 := ⟨f_113_123, by decide +kernel, by decide +kernel⟩
theorem zf_113_13 : FldFin 113 13 13 8 := ⟨f_113_13, by decide +kernel, by decide +kernel⟩
theorem zf_113_17 : FldFin 113 17 13 9 := ⟨f_113_17, by decide +kernel, by decide +kernel⟩
theorem zf_113_20 : FldFin 113 20 13 10 := ⟨f_113_20, by decide +kernel, by decide +kernel⟩
theorem zf_113_23 : FldFin 113 23 13 11 := ⟨f_113_23, by decide +kernel, by decide +kernel⟩
theorem zf_113_26 : FldFin 113 26 13 12 := ⟨f_113_26, by decide +kernel, by decide +kernel⟩
theorem zf_113_30 : FldFin 113 30 13 13 := ⟨f_113_30, by decide +kernel, by decide +kernel⟩
theorem zf_113_33 : FldFin 113 33 13 14 := ⟨f_113_33, by decide +kernel, by decide +kernel⟩
theorem zf_113_36 : FldFin 113 36 13 15 := ⟨f_113_36, by decide +kernel, by decide +kernel⟩
theorem zf_113_39 : FldFin 113 39 13 16 := ⟨f_113_39, by decide +kernel, by decide +kernel⟩
theorem zf_113_42 : FldFin 113 42 13 17 := ⟨f_113_42, by decide +kernel, by decide +kernel⟩
theorem zf_113_45 : FldFin 113 45 13 22 := ⟨f_113_45, by decide +kernel, by decide +kernel⟩
theorem zf_113_48 : FldFin 113 48 13 23 := ⟨f_113_48, by decide +kernel, by decide +kernel⟩
theorem zf_113_51 : FldFin 113 51 13 24 := ⟨f_113_51, by decide +kernel, by decide +kernel⟩
theorem zf_113_54 : FldFin 113 54 13 25 := ⟨f_113_54, by decide +kernel, by decide +kernel⟩
theorem zf_113_57 : FldFin 113 57 13 30 := ⟨f_113_57, by decide +kernel, by decide +kernel⟩
theorem zf_113_60 : FldFin 113 60 13 31 := ⟨f_113_60, by decide +kernel, by decide +kernel⟩
theorem zf_113_63 : FldFin 113 63 13 34 := ⟨f_113_63, by decide +kernel, by decide +kernel⟩
theorem zf_113_66 : FldFin 113 66 13 35 := ⟨f_113_66, by decide +kernel, by decide +kernel⟩
theorem zf_113_69 : FldFin 113 69 13 40 := ⟨f_113_69, by decide +kernel, by decide +kernel⟩
theorem zf_113_72 : FldFin 113 72 13 41 := ⟨f_113_72, by decide +kernel, by decide +kernel⟩
theorem zf_113_75 : FldFin 113 75 13 42 := ⟨f_113_75, by decide +kernel, by decide +kernel⟩
theorem zf_113_78 : FldFin 113 78 13 43 := ⟨f_113_78, by decide +kernel, by decide +kernel⟩
theorem zf_113_81 : FldFin 113 81 13 50 := ⟨f_113_81, by decide +kernel, by decide +kernel⟩
theorem zf_113_84 : FldFin 113 84 13 51 := ⟨f_113_84, by decide +kernel, by decide +kernel⟩
theorem zf_113_87 : FldFin 113 87 13 52 := ⟨f_113_87, by decide +kernel, by decide +kernel⟩
theorem zf_113_9 : FldFin 113 9 13 2 := ⟨f_113_9, by decide +kernel, by decide +kernel⟩
theorem zf_113_90 : FldFin 113 90 13 54 := ⟨f_113_90, by decide +kernel, by decide +kernel⟩
theorem zf_113_93 : FldFin 113 93 13 55 := ⟨f_113_93, by decide +kernel, by decide +kernel⟩
theorem zf_113_96 : FldFin 113 96 13 57 := ⟨f_113_96, by decide +kernel, by decide +kernel⟩
theorem zf_113_99 : FldFin 113 99 13 58 := ⟨f_113_99, by decide +kernel, by decide +kernel⟩
theorem pf_10_34 : FldPut 10 34 10 6 := ⟨f_10_34, by decide +kernel⟩
theorem pf_10_67 : FldPut 10 67 6 12 := ⟨f_10_67, by decide +kernel⟩
theorem pf_11_101 : FldPut 11 101 6 8 := ⟨f_11_101, by decide +kernel⟩
theorem pf_11_106 : FldPut 11 106 6 12 := ⟨f_11_106, by decide +kernel⟩
theorem pf_11_43 : FldPut 11 43 11 11 := ⟨f_11_43, by decide +kernel⟩
theorem pf_11_47 : FldPut 11 47 11 12 := ⟨f_11_47, by decide +kernel⟩
theorem pf_11_56 : FldPut 11 56 11 9 := ⟨f_11_56, by decide +kernel⟩
theorem pf_11_59 : FldPut 11 59 11 10 := ⟨f_11_59, by decide +kernel⟩
theorem pf_12_35 : FldPut 12 35 12 4 := ⟨f_12_35, by decide +kernel⟩
theorem pf_12_39 : FldPut 12 39 12 9 := ⟨f_12_39, by decide +kernel⟩
theorem pf_12_42 : FldPut 12 42 12 10 := ⟨f_12_42, by decide +kernel⟩
theorem pf_12_45 : FldPut 12 45 12 8 := ⟨f_12_45, by decide +kernel⟩
theorem pf_13_126 : FldPut 13 126 13 0 := ⟨f_13_126, by decide +kernel⟩
theorem pf_13_130 : FldPut 13 130 13 1 := ⟨f_13_130, by decide +kernel⟩
theorem pf_13_133 : FldPut 13 133 13 3 := ⟨f_13_133, by decide +kernel⟩
theorem pf_13_140 : FldPut 13 140 13 5 := ⟨f_13_140, by decide +kernel⟩
theorem pf_13_143 : FldPut 13 143 13 6 := ⟨f_13_143, by decide +kernel⟩
theorem pf_13_146 : FldPut 13 146 13 4 := ⟨f_13_146, by decide +kernel⟩
theorem pf_13_160 : FldPut 13 160 13 18 := ⟨f_13_160, by decide +kernel⟩
theorem pf_13_163 : FldPut 13 163 13 19 := ⟨f_13_163, by decide +kernel⟩
theorem pf_13_166 : FldPut 13 166 13 21 := ⟨f_13_166, by decide +kernel⟩
theorem pf_13_175 : FldPut 13 175 13 20 := ⟨f_13_175, by decide +kernel⟩
theorem pf_13_204 : FldPut 13 204 13 26 := ⟨f_13_204, by decide +kernel⟩
theorem pf_13_212 : FldPut 13 212 13 27 := ⟨f_13_212, by decide +kernel⟩
theorem pf_13_224 : FldPut 13 224 13 28 := ⟨f_13_224, by decide +kernel⟩
theorem pf_13_233 : FldPut 13 233 13 29 := ⟨f_13_233, by decide +kernel⟩
theorem pf_13_260 : FldPut 13 260 13 39 := ⟨f_13_260, by decide +kernel⟩
theorem pf_13_263 : FldPut 13 263 13 7 := ⟨f_13_263, by decide +kernel⟩
theorem pf_13_266 : FldPut 13 266 13 33 := ⟨f_13_266, by decide +kernel⟩
theorem pf_13_287 : FldPut 13 287 13 32 := ⟨f_13_287, by decide +kernel⟩
theorem pf_13_304 : FldPut 13 304 13 36 := ⟨f_13_304, by decide +kernel⟩
theorem pf_13_307 : FldPut 13 307 13 37 := ⟨f_13_307, by decide +kernel⟩
theorem pf_13_310 : FldPut 13 310 13 38 := ⟨f_13_310, by decide +kernel⟩
theorem pf_13_399 : FldPut 13 399 13 44 := ⟨f_13_399, by decide +kernel⟩
theorem pf_13_414 : FldPut 13 414 13 45 := ⟨f_13_414, by decide +kernel⟩
theorem pf_13_417 : FldPut 13 417 13 46 := ⟨f_13_417, by decide +kernel⟩
theorem pf_13_428 : FldPut 13 428 13 48 := ⟨f_13_428, by decide +kernel⟩
theorem pf_13_431 : FldPut 13 431 13 47 := ⟨f_13_431, by decide +kernel⟩
theorem pf_13_434 : FldPut 13 434 13 49 := ⟨f_13_434, by decide +kernel⟩
theorem pf_13_453 : FldPut 13 453 13 53 := ⟨f_13_453, by decide +kernel⟩
theorem pf_13_485 : FldPut 13 485 13 56 := ⟨f_13_485, by decide +kernel⟩
theorem pf_13_492 : FldPut 13 492 13 59 := ⟨f_13_492, by decide +kernel⟩
theorem pf_13_495 : FldPut 13 495 13 60 := ⟨f_13_495, by decide +kernel⟩
theorem pf_13_507 : FldPut 13 507 13 62 := ⟨f_13_507, by decide +kernel⟩
theorem pf_13_510 : FldPut 13 510 13 66 := ⟨f_13_510, by decide +kernel⟩
theorem pf_13_516 : FldPut 13 516 13 65 := ⟨f_13_516, by decide +kernel⟩
theorem pf_1_123 : FldPut 1 123 1 12 := ⟨f_1_123, by decide +kernel⟩
theorem pf_1_302 : FldPut 1 302 6 10 := ⟨f_1_302, by decide +kernel⟩
theorem pf_1_308 : FldPut 1 308 6 6 := ⟨f_1_308, by decide +kernel⟩
theorem pf_1_367 : FldPut 1 367 12 4 := ⟨f_1_367, by decide +kernel⟩
theorem pf_1_395 : FldPut 1 395 1 14 := ⟨f_1_395, by decide +kernel⟩
theorem pf_2_15 : FldPut 2 15 2 1 := ⟨f_2_15, by decide +kernel⟩
theorem pf_2_25 : FldPut 2 25 2 2 := ⟨f_2_25, by decide +kernel⟩
theorem pf_2_28 : FldPut 2 28 2 3 := ⟨f_2_28, by decide +kernel⟩
theorem pf_2_32 : FldPut 2 32 2 4 := ⟨f_2_32, by decide +kernel⟩
theorem pf_2_35 : FldPut 2 35 2 5 := ⟨f_2_35, by decide +kernel⟩
theorem pf_3_27 : FldPut 3 27 3 3 := ⟨f_3_27, by decide +kernel⟩
theorem pf_3_49 : FldPut 3 49 3 1 := ⟨f_3_49, by decide +kernel⟩
theorem pf_4_107 : FldPut 4 107 5 10 := ⟨f_4_107, by decide +kernel⟩
theorem pf_4_30 : FldPut 4 30 4 0 := ⟨f_4_30, by decide +kernel⟩
theorem pf_4_34 : FldPut 4 34 4 1 := ⟨f_4_34, by decide +kernel⟩
theorem pf_4_37 : FldPut 4 37 4 2 := ⟨f_4_37, by decide +kernel⟩
theorem pf_4_40 : FldPut 4 40 4 3 := ⟨f_4_40, by decide +kernel⟩
theorem pf_4_43 : FldPut 4 43 4 8 := ⟨f_4_43, by decide +kernel⟩
theorem pf_5_45 : FldPut 5 45 5 3 := ⟨f_5_45, by decide +kernel⟩
theorem pf_5_49 : FldPut 5 49 5 10 := ⟨f_5_49, by decide +kernel⟩
theorem pf_5_52 : FldPut 5 52 5 11 := ⟨f_5_52, by decide +kernel⟩
theorem pf_6_29 : FldPut 6 29 6 3 := ⟨f_6_29, by decide +kernel⟩
theorem pf_6_37 : FldPut 6 37 6 5 := ⟨f_6_37, by decide +kernel⟩
theorem pf_6_44 : FldPut 6 44 6 6 := ⟨f_6_44, by decide +kernel⟩
theorem pf_6_49 : FldPut 6 49 6 7 := ⟨f_6_49, by decide +kernel⟩
theorem pf_6_54 : FldPut 6 54 6 8 := ⟨f_6_54, by decide +kernel⟩
theorem pf_6_56 : FldPut 6 56 6 9 := ⟨f_6_56, by decide +kernel⟩
theorem pf_6_62 : FldPut 6 62 6 12 := ⟨f_6_62, by decide +kernel⟩
theorem pf_6_66 : FldPut 6 66 6 4 := ⟨f_6_66, by decide +kernel⟩
theorem pf_6_72 : FldPut 6 72 6 11 := ⟨f_6_72, by decide +kernel⟩
theorem pf_6_83 : FldPut 6 83 6 10 := ⟨f_6_83, by decide +kernel⟩
theorem pf_7_107 : FldPut 7 107 5 10 := ⟨f_7_107, by decide +kernel⟩
theorem pf_7_142 : FldPut 7 142 5 11 := ⟨f_7_142, by decide +kernel⟩
theorem pf_7_172 : FldPut 7 172 5 3 := ⟨f_7_172, by decide +kernel⟩
theorem pf_7_44 : FldPut 7 44 7 8 := ⟨f_7_44, by decide +kernel⟩
theorem pf_7_54 : FldPut 7 54 7 9 := ⟨f_7_54, by decide +kernel⟩
theorem pf_7_65 : FldPut 7 65 7 4 := ⟨f_7_65, by decide +kernel⟩
theorem pf_7_68 : FldPut 7 68 7 5 := ⟨f_7_68, by decide +kernel⟩
theorem pf_7_71 : FldPut 7 71 7 6 := ⟨f_7_71, by decide +kernel⟩
theorem pf_8_50 : FldPut 8 50 8 6 := ⟨f_8_50, by decide +kernel⟩
theorem pf_8_56 : FldPut 8 56 8 7 := ⟨f_8_56, by decide +kernel⟩
theorem pf_8_63 : FldPut 8 63 8 8 := ⟨f_8_63, by decide +kernel⟩
theorem pf_9_39 : FldPut 9 39 9 10 := ⟨f_9_39, by decide +kernel⟩
theorem pf_9_43 : FldPut 9 43 9 9 := ⟨f_9_43, by decide +kernel⟩
theorem pf_9_46 : FldPut 9 46 9 8 := ⟨f_9_46, by decide +kernel⟩
theorem pf_9_68 : FldPut 9 68 6 8 := ⟨f_9_68, by decide +kernel⟩
theorem pf_9_70 : FldPut 9 70 6 10 := ⟨f_9_70, by decide +kernel⟩
theorem pf_9_72 : FldPut 9 72 6 12 := ⟨f_9_72, by decide +kernel⟩
end
section
/-! the instructions of the methods (by program) -/
set_option maxRecDepth 20000 in
def C0 : Cds := [(0, .aload_n 0, 1), (1, .invokespecial 1, 3), (4, .aload_n 0, 1), (5, .new 7, 3), (8, .dup, 1), (9, .invokespecial 9, 3), (12, .putfield 10, 3), (15, .aload_n 0, 1), (16, .new 16, 3), (19, .dup, 1), (20, .invokespecial 18, 3), (23, .putfield 19, 3), (26, .aload_n 0, 1), (27, .new 23, 3), (30, .dup, 1), (31, .invokespecial 25, 3), (34, .putfield 26, 3), (37, .aload_n 0, 1), (38, .new 30, 3), (41, .dup, 1), (42, .invokespecial 32, 3), (45, .putfield 33, 3), (48, .aload_n 0, 1), (49, .new 37, 3), (52, .dup, 1), (53, .aload_n 0, 1), (54, .getfield 26, 3), (57, .aload_n 0, 1), (58, .getfield 33, 3), (61, .aload_n 0, 1), (62, .getfield 19, 3), (65, .invokespecial 39, 3), (68, .putfield 42, 3), (71, .aload_n 0, 1), (72, .new 46, 3), (75, .dup, 1), (76, .aload_n 0, 1), (77, .getfield 26, 3), (80, .aload_n 0, 1), (81, .getfield 33, 3), (84, .aload_n 0, 1), (85, .getfield 19, 3), (88, .aload_n 0, 1), (89, .getfield 42, 3), (92, .invokespecial 48, 3), (95, .putfield 51, 3), (98, .aload_n 0, 1), (99, .new 55, 3), (102, .dup, 1), (103, .aload_n 0, 1), (104, .getfield 26, 3), (107, .aload_n 0, 1), (108, .getfield 33, 3), (111, .invokespecial 57, 3), (114, .putfield 60, 3), (117, .aload_n 0, 1), (118, .new 64, 3), (121, .dup, 1), (122, .aload_n 0, 1), (123, .getfield 26, 3), (126, .aload_n 0, 1), (127, .getfield 60, 3), (130, .aload_n 0, 1), (131, .getfield 42, 3), (134, .invokespecial 66, 3), (137, .putfield 69, 3), (140, .aload_n 0, 1), (141, .new 73, 3), (144, .dup, 1), (145, .aload_n 0, 1), (146, .getfield 26, 3), (149, .aload_n 0, 1), (150, .getfield 33, 3), (153, .aload_n 0, 1), (154, .getfield 60, 3), (157, .aload_n 0, 1), (158, .getfield 42, 3), (161, .invokespecial 75, 3), (164, .putfield 78, 3), (167, .aload_n 0, 1), (168, .new 82, 3), (171, .dup, 1), (172, .aload_n 0, 1), (173, .getfield 26, 3), (176, .aload_n 0, 1), (177, .getfield 33, 3), (180, .aload_n 0, 1), (181, .getfield 60, 3), (184, .aload_n 0, 1), (185, .getfield 42, 3), (188, .invokespecial 84, 3), (191, .putfield 85, 3), (194, .aload_n 0, 1), (195, .new 89, 3), (198, .dup, 1), (199, .aload_n 0, 1), (200, .getfield 26, 3), (203, .aload_n 0, 1), (204, .getfield 33, 3), (207, .invokespecial 91, 3), (210, .putfield 92, 3), (213, .aload_n 0, 1), (214, .iconst 3, 1), (215, .anewarray 30, 3), (218, .putfield 96, 3), (221, .aload_n 0, 1), (222, .bipush 16, 2), (224, .newarray .long, 2), (226, .putfield 100, 3), (229, .iconst 0, 1), (230, .istore_n 1, 1), (231, .iload_n 1, 1), (232, .iconst 3, 1), (233, .if_icmp .ge 22, 3), (236, .aload_n 0, 1), (237, .getfield 96, 3), (240, .iload_n 1, 1), (241, .new 30, 3), (244, .dup, 1), (245, .invokespecial 32, 3), (248, .aastore, 1), (249, .iinc 1 1, 3), (252, .goto (-21), 3), (255, .return_, 1)]
theorem D0 : Dec (mCod 0) C0 := decB_ok (by decide +kernel)
set_option maxRecDepth 20000 in
def C1 : Cds := [(0, .aload_n 0, 1), (1, .invokespecial 3, 3), (4, .aload_n 0, 1), (5, .bipush 80, 2), (7, .newarray .char, 2), (9, .putfield 9, 3), (12, .return_, 1)]
theorem D1 : Dec (mCod 1) C1 := decB_ok (by decide +kernel)
set_option maxRecDepth 20000 in
def C2 : Cds := [(0, .aload_n 0, 1), (1, .invokespecial 3, 3), (4, .aload_n 0, 1), (5, .bipush 40, 2), (7, .newarray .int, 2), (9, .putfield 9, 3), (12, .aload_n 0, 1), (13, .bipush 40, 2), (15, .newarray .int, 2), (17, .putfield 15, 3), (20, .aload_n 0, 1), (21, .bipush 40, 2), (23, .newarray .int, 2), (25, .putfield 18, 3), (28, .return_, 1)]
theorem D2 : Dec (mCod 2) C2 := decB_ok (by decide +kernel)
set_option maxRecDepth 20000 in
def C3 : Cds := [(0, .aload_n 0, 1), (1, .invokespecial 3, 3), (4, .aload_n 0, 1), (5, .bipush 10, 2), (7, .newarray .int, 2), (9, .putfield 9, 3), (12, .aload_n 0, 1), (13, .bipush 14, 2), (15, .newarray .int, 2), (17, .putfield 15, 3), (20, .aload_n 0, 1), (21, .bipush 14, 2), (23, .newarray .int, 2), (25, .putfield 18, 3), (28, .aload_n 0, 1), (29, .bipush 14, 2), (31, .newarray .int, 2), (33, .putfield 21, 3), (36, .aload_n 0, 1), (37, .iconst 5, 1), (38, .newarray .int, 2), (40, .putfield 24, 3), (43, .aload_n 0, 1), (44, .iconst 5, 1), (45, .newarray .int, 2), (47, .putfield 27, 3), (50, .return_, 1)]
theorem D3 : Dec (mCod 3) C3 := decB_ok (by decide +kernel)
set_option maxRecDepth 20000 in
def C4 : Cds := [(0, .aload_n 0, 1), (1, .invokespecial 3, 3), (4, .aload_n 0, 1), (5, .iconst 5, 1), (6, .newarray .int, 2), (8, .putfield 9, 3), (11, .aload_n 0, 1), (12, .iconst 5, 1), (13, .newarray .int, 2), (15, .putfield 15, 3), (18, .aload_n 0, 1), (19, .iconst 5, 1), (20, .newarray .int, 2), (22, .putfield 18, 3), (25, .aload_n 0, 1), (26, .iconst 5, 1), (27, .newarray .int, 2), (29, .putfield 21, 3), (32, .aload_n 0, 1), (33, .bipush 10, 2), (35, .newarray .int, 2), (37, .putfield 24, 3), (40, .aload_n 0, 1), (41, .iconst 5, 1), (42, .newarray .int, 2), (44, .putfield 27, 3), (47, .aload_n 0, 1), (48, .iconst 5, 1), (49, .newarray .int, 2), (51, .putfield 30, 3), (54, .aload_n 0, 1), (55, .iconst 5, 1), (56, .newarray .int, 2), (58, .putfield 33, 3), (61, .aload_n 0, 1), (62, .iconst 5, 1), (63, .newarray .int, 2), (65, .putfield 36, 3), (68, .return_, 1)]
theorem D4 : Dec (mCod 4) C4 := decB_ok (by decide +kernel)
set_option maxRecDepth 20000 in
def C5 : Cds := [(0, .aload_n 0, 1), (1, .invokespecial 3, 3), (4, .aload_n 0, 1), (5, .aload_n 1, 1), (6, .putfield 9, 3), (9, .aload_n 0, 1), (10, .aload_n 2, 1), (11, .putfield 15, 3), (14, .aload_n 0, 1), (15, .aload_n 3, 1), (16, .putfield 19, 3), (19, .return_, 1)]
theorem D5 : Dec (mCod 5) C5 := decB_ok (by decide +kernel)
set_option maxRecDepth 20000 in
def C6 : Cds := [(0, .aload_n 0, 1), (1, .invokespecial 3, 3), (4, .aload_n 0, 1), (5, .bipush 16, 2), (7, .anewarray 9, 3), (10, .putfield 11, 3), (13, .aload_n 0, 1), (14, .bipush 30, 2), (16, .newarray .int, 2), (18, .putfield 17, 3), (21, .aload_n 0, 1), (22, .bipush 30, 2), (24, .newarray .int, 2), (26, .putfield 21, 3), (29, .aload_n 0, 1), (30, .bipush 30, 2), (32, .newarray .int, 2), (34, .putfield 24, 3), (37, .aload_n 0, 1), (38, .aload_n 1, 1), (39, .putfield 27, 3), (42, .aload_n 0, 1), (43, .aload_n 2, 1), (44, .putfield 31, 3), (47, .aload_n 0, 1), (48, .aload_n 3, 1), (49, .putfield 35, 3), (52, .aload_n 0, 1), (53, .aload 4, 2), (55, .putfield 39, 3), (58, .iconst 0, 1), (59, .istore 5, 2), (61, .iload 5, 2), (63, .bipush 15, 2), (65, .if_icmp .gt 23, 3), (68, .aload_n 0, 1), (69, .getfield 11, 3), (72, .iload 5, 2), (74, .new 9, 3), (77, .dup, 1), (78, .invokespecial 43, 3), (81, .aastore, 1), (82, .iinc 5 1, 3), (85, .goto (-24), 3), (88, .return_, 1)]
theorem D6 : Dec (mCod 6) C6 := decB_ok (by decide +kernel)
set_option maxRecDepth 20000 in
def C7 : Cds := [(0, .aload_n 0, 1), (1, .invokespecial 5, 3), (4, .aload_n 0, 1), (5, .bipush 14, 2), (7, .newarray .int, 2), (9, .putfield 11, 3), (12, .aload_n 0, 1), (13, .bipush 10, 2), (15, .newarray .int, 2), (17, .putfield 15, 3), (20, .aload_n 0, 1), (21, .bipush 10, 2), (23, .newarray .int, 2), (25, .putfield 18, 3), (28, .aload_n 0, 1), (29, .bipush 10, 2), (31, .newarray .int, 2), (33, .putfield 21, 3), (36, .aload_n 0, 1), (37, .aload_n 1, 1), (38, .putfield 24, 3), (41, .aload_n 0, 1), (42, .aload_n 2, 1), (43, .putfield 28, 3), (46, .return_, 1)]
theorem D7 : Dec (mCod 7) C7 := decB_ok (by decide +kernel)
set_option maxRecDepth 20000 in
def C8 : Cds := [(0, .aload_n 0, 1), (1, .invokespecial 3, 3), (4, .aload_n 0, 1), (5, .bipush 10, 2), (7, .newarray .int, 2), (9, .putfield 9, 3), (12, .aload_n 0, 1), (13, .bipush 10, 2), (15, .newarray .int, 2), (17, .putfield 15, 3), (20, .aload_n 0, 1), (21, .bipush 10, 2), (23, .newarray .int, 2), (25, .putfield 18, 3), (28, .aload_n 0, 1), (29, .bipush 10, 2), (31, .newarray .int, 2), (33, .putfield 21, 3), (36, .aload_n 0, 1), (37, .bipush 10, 2), (39, .newarray .int, 2), (41, .putfield 24, 3), (44, .aload_n 0, 1), (45, .aload_n 1, 1), (46, .putfield 27, 3), (49, .aload_n 0, 1), (50, .aload_n 2, 1), (51, .putfield 31, 3), (54, .aload_n 0, 1), (55, .aload_n 3, 1), (56, .putfield 35, 3), (59, .return_, 1)]
theorem D8 : Dec (mCod 8) C8 := decB_ok (by decide +kernel)
set_option maxRecDepth 20000 in
def C9 : Cds := [(0, .aload_n 0, 1), (1, .invokespecial 3, 3), (4, .aload_n 0, 1), (5, .bipush 50, 2), (7, .newarray .int, 2), (9, .putfield 9, 3), (12, .aload_n 0, 1), (13, .bipush 10, 2), (15, .newarray .int, 2), (17, .putfield 15, 3), (20, .aload_n 0, 1), (21, .aload_n 1, 1), (22, .putfield 18, 3), (25, .aload_n 0, 1), (26, .aload_n 2, 1), (27, .putfield 22, 3), (30, .aload_n 0, 1), (31, .aload_n 3, 1), (32, .putfield 26, 3), (35, .aload_n 0, 1), (36, .aload 4, 2), (38, .putfield 30, 3), (41, .return_, 1)]
theorem D9 : Dec (mCod 9) C9 := decB_ok (by decide +kernel)
set_option maxRecDepth 20000 in
def C10 : Cds := [(0, .aload_n 0, 1), (1, .invokespecial 3, 3), (4, .aload_n 0, 1), (5, .iconst 5, 1), (6, .newarray .int, 2), (8, .putfield 9, 3), (11, .aload_n 0, 1), (12, .iconst 5, 1), (13, .newarray .int, 2), (15, .putfield 15, 3), (18, .aload_n 0, 1), (19, .iconst 5, 1), (20, .newarray .int, 2), (22, .putfield 18, 3), (25, .aload_n 0, 1), (26, .iconst 5, 1), (27, .newarray .int, 2), (29, .putfield 21, 3), (32, .aload_n 0, 1), (33, .iconst 5, 1), (34, .newarray .int, 2), (36, .putfield 24, 3), (39, .aload_n 0, 1), (40, .aload_n 1, 1), (41, .putfield 27, 3), (44, .aload_n 0, 1), (45, .aload_n 2, 1), (46, .putfield 31, 3), (49, .aload_n 0, 1), (50, .aload_n 3, 1), (51, .putfield 35, 3), (54, .aload_n 0, 1), (55, .aload 4, 2), (57, .putfield 39, 3), (60, .return_, 1)]
theorem D10 : Dec (mCod 10) C10 := decB_ok (by decide +kernel)
set_option maxRecDepth 20000 in
def C11 : Cds := [(0, .aload_n 0, 1), (1, .invokespecial 3, 3), (4, .aload_n 0, 1), (5, .bipush 8, 2), (7, .newarray .int, 2), (9, .putfield 9, 3), (12, .aload_n 0, 1), (13, .bipush 8, 2), (15, .newarray .int, 2), (17, .putfield 15, 3), (20, .aload_n 0, 1), (21, .bipush 10, 2), (23, .newarray .int, 2), (25, .putfield 18, 3), (28, .aload_n 0, 1), (29, .bipush 10, 2), (31, .newarray .int, 2), (33, .putfield 21, 3), (36, .aload_n 0, 1), (37, .bipush 10, 2), (39, .newarray .int, 2), (41, .putfield 24, 3), (44, .aload_n 0, 1), (45, .aload_n 1, 1), (46, .putfield 27, 3), (49, .aload_n 0, 1), (50, .aload_n 2, 1), (51, .putfield 31, 3), (54, .return_, 1)]
theorem D11 : Dec (mCod 11) C11 := decB_ok (by decide +kernel)
set_option maxRecDepth 20000 in
def C12 : Cds := [(0, .aload_n 0, 1), (1, .getfield 10, 3), (4, .iload_n 1, 1), (5, .invokevirtual 104, 3), (8, .ireturn, 1)]
theorem D12 : Dec (mCod 12) C12 := decB_ok (by decide +kernel)
set_option maxRecDepth 20000 in
def C13 : Cds := [(0, .aload_n 0, 1), (1, .getfield 15, 3), (4, .iconst 4, 1), (5, .iadd, 1), (6, .bipush 80, 2), (8, .if_icmp .le 5, 3), (11, .iconst (-1), 1), (12, .ireturn, 1), (13, .bipush 24, 2), (15, .istore_n 2, 1), (16, .iload_n 2, 1), (17, .ifCond .lt 36, 3), (20, .aload_n 0, 1), (21, .getfield 9, 3), (24, .aload_n 0, 1), (25, .getfield 15, 3), (28, .iload_n 1, 1), (29, .iload_n 2, 1), (30, .iushr, 1), (31, .sipush 255, 3), (34, .iand, 1), (35, .i2c, 1), (36, .castore, 1), (37, .aload_n 0, 1), (38, .dup, 1), (39, .getfield 15, 3), (42, .iconst 1, 1), (43, .iadd, 1), (44, .putfield 15, 3), (47, .iinc 2 (-8), 3), (50, .goto (-34), 3), (53, .aload_n 0, 1), (54, .getfield 15, 3), (57, .ireturn, 1)]
theorem D13 : Dec (mCod 13) C13 := decB_ok (by decide +kernel)
set_option maxRecDepth 20000 in
def C14 : Cds := [(0, .aload_n 0, 1), (1, .getfield 10, 3), (4, .iload_n 1, 1), (5, .invokevirtual 108, 3), (8, .ireturn, 1)]
theorem D14 : Dec (mCod 14) C14 := decB_ok (by decide +kernel)
set_option maxRecDepth 20000 in
def C15 : Cds := [(0, .iload_n 1, 1), (1, .ifCond .lt 11, 3), (4, .iload_n 1, 1), (5, .aload_n 0, 1), (6, .getfield 15, 3), (9, .if_icmp .le 5, 3), (12, .iconst 0, 1), (13, .ireturn, 1), (14, .aload_n 0, 1), (15, .iload_n 1, 1), (16, .putfield 15, 3), (19, .iconst 1, 1), (20, .ireturn, 1)]
theorem D15 : Dec (mCod 15) C15 := decB_ok (by decide +kernel)
set_option maxRecDepth 20000 in
def C16 : Cds := [(0, .aload_n 0, 1), (1, .getfield 10, 3), (4, .getfield 112, 3), (7, .ifCond .ne 5, 3), (10, .iconst 0, 1), (11, .ireturn, 1), (12, .aload_n 0, 1), (13, .getfield 26, 3), (16, .aload_n 0, 1), (17, .getfield 10, 3), (20, .aload_n 0, 1), (21, .getfield 33, 3), (24, .invokevirtual 116, 3), (27, .istore_n 1, 1), (28, .iload_n 1, 1), (29, .ifCond .le 15, 3), (32, .aload_n 0, 1), (33, .getfield 51, 3), (36, .invokevirtual 120, 3), (39, .aload_n 0, 1), (40, .iconst 0, 1), (41, .putfield 123, 3), (44, .iload_n 1, 1), (45, .ireturn, 1)]
theorem D16 : Dec (mCod 16) C16 := decB_ok (by decide +kernel)
set_option maxRecDepth 20000 in
def C17 : Cds := [(0, .aload_n 0, 1), (1, .getfield 30, 3), (4, .istore_n 3, 1), (5, .aload_n 0, 1), (6, .getfield 34, 3), (9, .istore 4, 2), (11, .aload_n 0, 1), (12, .getfield 37, 3), (15, .istore 5, 2), (17, .aload_n 0, 1), (18, .getfield 40, 3), (21, .istore 6, 2), (23, .aload_n 1, 1), (24, .bipush 76, 2), (26, .invokevirtual 53, 3), (29, .iconst 0, 1), (30, .istore 7, 2), (32, .iconst 1, 1), (33, .istore 8, 2), (35, .iload 8, 2), (37, .ifCond .eq 30, 3), (40, .iload 7, 2), (42, .bipush 76, 2), (44, .if_icmp .ge 23, 3), (47, .aload_n 0, 1), (48, .aload_n 1, 1), (49, .aload_n 2, 1), (50, .invokevirtual 59, 3), (53, .iinc 7 1, 3), (56, .aload_n 1, 1), (57, .bipush 59, 2), (59, .invokevirtual 63, 3), (62, .istore 8, 2), (64, .goto (-29), 3), (67, .aload_n 1, 1), (68, .invokevirtual 67, 3), (71, .istore 9, 2), (73, .iload 9, 2), (75, .iconst (-1), 1), (76, .if_icmp .ne 6, 3), (79, .iload 7, 2), (81, .ireturn, 1), (82, .aload_n 0, 1), (83, .iload_n 3, 1), (84, .putfield 30, 3), (87, .aload_n 0, 1), (88, .iload 4, 2), (90, .putfield 34, 3), (93, .aload_n 0, 1), (94, .iload 5, 2), (96, .putfield 37, 3), (99, .aload_n 0, 1), (100, .iload 6, 2), (102, .putfield 40, 3), (105, .iconst (-1), 1), (106, .iload 9, 2), (108, .isub, 1), (109, .ireturn, 1)]
theorem D17 : Dec (mCod 17) C17 := decB_ok (by decide +kernel)
set_option maxRecDepth 20000 in
def C18 : Cds := [(0, .aload_n 0, 1), (1, .aload_n 0, 1), (2, .getfield 15, 3), (5, .iload_n 1, 1), (6, .invokestatic 19, 3), (9, .putfield 25, 3), (12, .aload_n 0, 1), (13, .aload_n 0, 1), (14, .getfield 15, 3), (17, .iload_n 1, 1), (18, .if_icmp .le 7, 3), (21, .iconst 1, 1), (22, .goto 4, 3), (25, .iconst 0, 1), (26, .putfield 28, 3), (29, .aload_n 0, 1), (30, .iconst 0, 1), (31, .putfield 32, 3), (34, .aload_n 0, 1), (35, .iconst 0, 1), (36, .putfield 35, 3), (39, .return_, 1)]
theorem D18 : Dec (mCod 18) C18 := decB_ok (by decide +kernel)
set_option maxRecDepth 20000 in
def C19 : Cds := [(0, .iload_n 0, 1), (1, .iload_n 1, 1), (2, .if_icmp .gt 7, 3), (5, .iload_n 0, 1), (6, .goto 4, 3), (9, .iload_n 1, 1), (10, .ireturn, 1)]
theorem D19 : Dec (mCod 19) C19 := decB_ok (by decide +kernel)
set_option maxRecDepth 20000 in
def C20 : Cds := [(0, .aload_n 1, 1), (1, .invokevirtual 71, 3), (4, .istore_n 3, 1), (5, .aload_n 0, 1), (6, .iload_n 3, 1), (7, .invokevirtual 74, 3), (10, .ifCond .ne 8, 3), (13, .aload_n 1, 1), (14, .invokevirtual 77, 3), (17, .return_, 1), (18, .aload_n 1, 1), (19, .invokevirtual 80, 3), (22, .iload_n 3, 1), (23, .lookupswitch 60 #[(104, 51), (112, 42), (119, 33)], 33), (56, .aload_n 0, 1), (57, .aload_n 1, 1), (58, .aload_n 2, 1), (59, .invokevirtual 83, 3), (62, .goto 46, 3), (65, .aload_n 0, 1), (66, .aload_n 1, 1), (67, .aload_n 2, 1), (68, .invokevirtual 86, 3), (71, .goto 37, 3), (74, .aload_n 0, 1), (75, .aload_n 1, 1), (76, .aload_n 2, 1), (77, .invokevirtual 89, 3), (80, .goto 28, 3), (83, .aload_n 0, 1), (84, .iload_n 3, 1), (85, .bipush 102, 2), (87, .if_icmp .ne 7, 3), (90, .iconst 0, 1), (91, .goto 14, 3), (94, .iload_n 3, 1), (95, .bipush 98, 2), (97, .if_icmp .ne 7, 3), (100, .iconst 1, 1), (101, .goto 4, 3), (104, .iconst 2, 1), (105, .invokevirtual 92, 3), (108, .return_, 1)]
theorem D20 : Dec (mCod 20) C20 := decB_ok (by decide +kernel)
set_option maxRecDepth 20000 in
def C21 : Cds := [(0, .aload_n 0, 1), (1, .getfield 35, 3), (4, .ifCond .ne 30, 3), (7, .aload_n 0, 1), (8, .getfield 32, 3), (11, .ifCond .lt 23, 3), (14, .aload_n 0, 1), (15, .getfield 32, 3), (18, .aload_n 0, 1), (19, .getfield 25, 3), (22, .if_icmp .ge 12, 3), (25, .aload_n 0, 1), (26, .getfield 32, 3), (29, .bipush 80, 2), (31, .if_icmp .lt 7, 3), (34, .iconst (-1), 1), (35, .goto 12, 3), (38, .aload_n 0, 1), (39, .getfield 9, 3), (42, .aload_n 0, 1), (43, .getfield 32, 3), (46, .caload, 1), (47, .ireturn, 1)]
theorem D21 : Dec (mCod 21) C21 := decB_ok (by decide +kernel)
set_option maxRecDepth 20000 in
def C22 : Cds := [(0, .iload_n 1, 1), (1, .lookupswitch 117 #[(98, 59), (102, 59), (104, 103), (112, 89), (116, 59), (119, 74)], 59), (60, .aload_n 0, 1), (61, .getfield 30, 3), (64, .bipush 10, 2), (66, .if_icmp .ge 7, 3), (69, .iconst 1, 1), (70, .goto 4, 3), (73, .iconst 0, 1), (74, .ireturn, 1), (75, .aload_n 0, 1), (76, .getfield 34, 3), (79, .bipush 14, 2), (81, .if_icmp .ge 7, 3), (84, .iconst 1, 1), (85, .goto 4, 3), (88, .iconst 0, 1), (89, .ireturn, 1), (90, .aload_n 0, 1), (91, .getfield 37, 3), (94, .iconst 5, 1), (95, .if_icmp .ge 7, 3), (98, .iconst 1, 1), (99, .goto 4, 3), (102, .iconst 0, 1), (103, .ireturn, 1), (104, .aload_n 0, 1), (105, .getfield 40, 3), (108, .iconst 5, 1), (109, .if_icmp .ge 7, 3), (112, .iconst 1, 1), (113, .goto 4, 3), (116, .iconst 0, 1), (117, .ireturn, 1), (118, .iconst 0, 1), (119, .ireturn, 1)]
theorem D22 : Dec (mCod 22) C22 := decB_ok (by decide +kernel)
set_option maxRecDepth 20000 in
def C23 : Cds := [(0, .aload_n 0, 1), (1, .iconst 1, 1), (2, .putfield 35, 3), (5, .return_, 1)]
theorem D23 : Dec (mCod 23) C23 := decB_ok (by decide +kernel)
set_option maxRecDepth 20000 in
def C24 : Cds := [(0, .aload_n 0, 1), (1, .getfield 35, 3), (4, .ifCond .ne 13, 3), (7, .aload_n 0, 1), (8, .dup, 1), (9, .getfield 32, 3), (12, .iconst 1, 1), (13, .iadd, 1), (14, .putfield 32, 3), (17, .return_, 1)]
theorem D24 : Dec (mCod 24) C24 := decB_ok (by decide +kernel)
set_option maxRecDepth 20000 in
def C25 : Cds := [(0, .aload_n 1, 1), (1, .aload_n 0, 1), (2, .getfield 30, 3), (5, .iconst (-1), 1), (6, .invokevirtual 95, 3), (9, .istore_n 3, 1), (10, .aload_n 1, 1), (11, .aload_n 0, 1), (12, .getfield 30, 3), (15, .iload_n 3, 1), (16, .invokevirtual 95, 3), (19, .istore 4, 2), (21, .aload_n 1, 1), (22, .iconst 1, 1), (23, .invokevirtual 99, 3), (26, .istore 5, 2), (28, .aload_n 1, 1), (29, .bipush 33, 2), (31, .invokevirtual 63, 3), (34, .istore 6, 2), (36, .aload_n 1, 1), (37, .getfield 103, 3), (40, .ifCond .ne 12, 3), (43, .aload_n 0, 1), (44, .getfield 34, 3), (47, .bipush 14, 2), (49, .if_icmp .lt 4, 3), (52, .return_, 1), (53, .aload_n 0, 1), (54, .getfield 15, 3), (57, .aload_n 0, 1), (58, .getfield 34, 3), (61, .iload_n 3, 1), (62, .iastore, 1), (63, .aload_n 0, 1), (64, .getfield 18, 3), (67, .aload_n 0, 1), (68, .getfield 34, 3), (71, .iload 4, 2), (73, .iastore, 1), (74, .aload_n 0, 1), (75, .getfield 21, 3), (78, .aload_n 0, 1), (79, .getfield 34, 3), (82, .iload 5, 2), (84, .iastore, 1), (85, .aload_n 0, 1), (86, .aload_n 0, 1), (87, .getfield 43, 3), (90, .iconst 1, 1), (91, .aload_n 0, 1), (92, .getfield 34, 3), (95, .ishl, 1), (96, .iconst (-1), 1), (97, .ixor, 1), (98, .iand, 1), (99, .iload 6, 2), (101, .ifCond .eq 12, 3), (104, .iconst 1, 1), (105, .aload_n 0, 1), (106, .getfield 34, 3), (109, .ishl, 1), (110, .goto 4, 3), (113, .iconst 0, 1), (114, .ior, 1), (115, .putfield 43, 3), (118, .aload_n 2, 1), (119, .dup, 1), (120, .getfield 107, 3), (123, .iconst 1, 1), (124, .aload_n 0, 1), (125, .getfield 34, 3), (128, .ishl, 1), (129, .iconst (-1), 1), (130, .ixor, 1), (131, .iand, 1), (132, .putfield 107, 3), (135, .aload_n 0, 1), (136, .dup, 1), (137, .getfield 34, 3), (140, .iconst 1, 1), (141, .iadd, 1), (142, .putfield 34, 3), (145, .return_, 1)]
theorem D25 : Dec (mCod 25) C25 := decB_ok (by decide +kernel)
set_option maxRecDepth 20000 in
def C26 : Cds := [(0, .aload_n 0, 1), (1, .invokevirtual 38, 3), (4, .bipush 97, 2), (6, .isub, 1), (7, .istore_n 3, 1), (8, .iload_n 3, 1), (9, .ifCond .lt 13, 3), (12, .iload_n 3, 1), (13, .iload_n 1, 1), (14, .if_icmp .ge 8, 3), (17, .iload_n 3, 1), (18, .iload_n 2, 1), (19, .if_icmp .ne 10, 3), (22, .aload_n 0, 1), (23, .iconst 1, 1), (24, .putfield 35, 3), (27, .iconst (-1), 1), (28, .ireturn, 1), (29, .aload_n 0, 1), (30, .dup, 1), (31, .getfield 32, 3), (34, .iconst 1, 1), (35, .iadd, 1), (36, .putfield 32, 3), (39, .iload_n 3, 1), (40, .ireturn, 1)]
theorem D26 : Dec (mCod 26) C26 := decB_ok (by decide +kernel)
set_option maxRecDepth 20000 in
def C27 : Cds := [(0, .aload_n 0, 1), (1, .invokevirtual 38, 3), (4, .bipush 48, 2), (6, .isub, 1), (7, .istore_n 2, 1), (8, .iload_n 2, 1), (9, .iload_n 1, 1), (10, .if_icmp .lt 9, 3), (13, .iload_n 2, 1), (14, .bipush 9, 2), (16, .if_icmp .le 10, 3), (19, .aload_n 0, 1), (20, .iconst 1, 1), (21, .putfield 35, 3), (24, .iload_n 1, 1), (25, .ireturn, 1), (26, .aload_n 0, 1), (27, .dup, 1), (28, .getfield 32, 3), (31, .iconst 1, 1), (32, .iadd, 1), (33, .putfield 32, 3), (36, .iload_n 2, 1), (37, .ireturn, 1)]
theorem D27 : Dec (mCod 27) C27 := decB_ok (by decide +kernel)
set_option maxRecDepth 20000 in
def C28 : Cds := [(0, .aload_n 0, 1), (1, .invokevirtual 38, 3), (4, .iload_n 1, 1), (5, .if_icmp .eq 5, 3), (8, .iconst 0, 1), (9, .ireturn, 1), (10, .aload_n 0, 1), (11, .dup, 1), (12, .getfield 32, 3), (15, .iconst 1, 1), (16, .iadd, 1), (17, .putfield 32, 3), (20, .iconst 1, 1), (21, .ireturn, 1)]
theorem D28 : Dec (mCod 28) C28 := decB_ok (by decide +kernel)
set_option maxRecDepth 20000 in
def C29 : Cds := [(0, .aload_n 1, 1), (1, .iconst 3, 1), (2, .invokevirtual 111, 3), (5, .istore_n 3, 1), (6, .aload_n 1, 1), (7, .bipush 45, 2), (9, .invokevirtual 114, 3), (12, .aload_n 1, 1), (13, .iconst 0, 1), (14, .invokevirtual 99, 3), (17, .istore 4, 2), (19, .aload_n 1, 1), (20, .bipush 64, 2), (22, .invokevirtual 114, 3), (25, .aload_n 1, 1), (26, .getfield 118, 3), (29, .istore 5, 2), (31, .aload_n 1, 1), (32, .aload_n 0, 1), (33, .getfield 30, 3), (36, .iconst (-1), 1), (37, .invokevirtual 95, 3), (40, .istore 6, 2), (42, .aload_n 0, 1), (43, .iload 6, 2), (45, .invokevirtual 121, 3), (48, .ifCond .eq 19, 3), (51, .aload_n 0, 1), (52, .getfield 9, 3), (55, .iload 6, 2), (57, .iaload, 1), (58, .ifCond .ne 9, 3), (61, .aload_n 1, 1), (62, .iload 5, 2), (64, .invokevirtual 124, 3), (67, .aload_n 1, 1), (68, .getfield 103, 3), (71, .ifCond .ne 11, 3), (74, .aload_n 0, 1), (75, .getfield 37, 3), (78, .iconst 5, 1), (79, .if_icmp .lt 4, 3), (82, .return_, 1), (83, .aload_n 0, 1), (84, .getfield 24, 3), (87, .aload_n 0, 1), (88, .getfield 37, 3), (91, .iload 4, 2), (93, .iastore, 1), (94, .aload_n 2, 1), (95, .aload_n 0, 1), (96, .getfield 37, 3), (99, .iload_n 3, 1), (100, .iload 6, 2), (102, .invokevirtual 127, 3), (105, .aload_n 0, 1), (106, .dup, 1), (107, .getfield 37, 3), (110, .iconst 1, 1), (111, .iadd, 1), (112, .putfield 37, 3), (115, .return_, 1)]
theorem D29 : Dec (mCod 29) C29 := decB_ok (by decide +kernel)
set_option maxRecDepth 20000 in
def C30 : Cds := [(0, .aload_n 0, 1), (1, .iconst 0, 1), (2, .invokevirtual 46, 3), (5, .istore_n 2, 1), (6, .iconst 1, 1), (7, .istore_n 3, 1), (8, .iload_n 3, 1), (9, .iload_n 1, 1), (10, .if_icmp .ge 27, 3), (13, .aload_n 0, 1), (14, .invokevirtual 50, 3), (17, .ifCond .eq 20, 3), (20, .bipush 10, 2), (22, .iload_n 2, 1), (23, .imul, 1), (24, .aload_n 0, 1), (25, .iconst 0, 1), (26, .invokevirtual 46, 3), (29, .iadd, 1), (30, .istore_n 2, 1), (31, .iinc 3 1, 3), (34, .goto (-26), 3), (37, .iload_n 2, 1), (38, .ireturn, 1)]
theorem D30 : Dec (mCod 30) C30 := decB_ok (by decide +kernel)
set_option maxRecDepth 20000 in
def C31 : Cds := [(0, .aload_n 0, 1), (1, .invokevirtual 38, 3), (4, .bipush 48, 2), (6, .if_icmp .lt 16, 3), (9, .aload_n 0, 1), (10, .invokevirtual 38, 3), (13, .bipush 57, 2), (15, .if_icmp .gt 7, 3), (18, .iconst 1, 1), (19, .goto 4, 3), (22, .iconst 0, 1), (23, .ireturn, 1)]
theorem D31 : Dec (mCod 31) C31 := decB_ok (by decide +kernel)
set_option maxRecDepth 20000 in
def C32 : Cds := [(0, .aload_n 0, 1), (1, .iload_n 1, 1), (2, .invokevirtual 42, 3), (5, .ifCond .ne 8, 3), (8, .aload_n 0, 1), (9, .iconst 1, 1), (10, .putfield 35, 3), (13, .return_, 1)]
theorem D32 : Dec (mCod 32) C32 := decB_ok (by decide +kernel)
set_option maxRecDepth 20000 in
def C33 : Cds := [(0, .iload_n 1, 1), (1, .ifCond .lt 21, 3), (4, .iload_n 1, 1), (5, .aload_n 0, 1), (6, .getfield 30, 3), (9, .if_icmp .ge 13, 3), (12, .iload_n 1, 1), (13, .bipush 10, 2), (15, .if_icmp .ge 7, 3), (18, .iconst 1, 1), (19, .goto 4, 3), (22, .iconst 0, 1), (23, .ireturn, 1)]
theorem D33 : Dec (mCod 33) C33 := decB_ok (by decide +kernel)
set_option maxRecDepth 20000 in
def C34 : Cds := [(0, .aload_n 0, 1), (1, .getfield 35, 3), (4, .ifCond .ne 13, 3), (7, .aload_n 0, 1), (8, .iconst 1, 1), (9, .putfield 35, 3), (12, .aload_n 0, 1), (13, .iload_n 1, 1), (14, .putfield 32, 3), (17, .return_, 1)]
theorem D34 : Dec (mCod 34) C34 := decB_ok (by decide +kernel)
set_option maxRecDepth 20000 in
def C35 : Cds := [(0, .iload_n 1, 1), (1, .ifCond .lt 8, 3), (4, .iload_n 1, 1), (5, .iconst 5, 1), (6, .if_icmp .lt 4, 3), (9, .return_, 1), (10, .aload_n 0, 1), (11, .getfield 9, 3), (14, .iload_n 1, 1), (15, .iload_n 2, 1), (16, .iastore, 1), (17, .aload_n 0, 1), (18, .getfield 15, 3), (21, .iload_n 1, 1), (22, .iload_n 3, 1), (23, .iastore, 1), (24, .aload_n 0, 1), (25, .getfield 18, 3), (28, .iload_n 1, 1), (29, .iconst (-1), 1), (30, .iastore, 1), (31, .aload_n 0, 1), (32, .dup, 1), (33, .getfield 45, 3), (36, .iconst 1, 1), (37, .iload_n 1, 1), (38, .ishl, 1), (39, .iconst (-1), 1), (40, .ixor, 1), (41, .iand, 1), (42, .putfield 45, 3), (45, .return_, 1)]
theorem D35 : Dec (mCod 35) C35 := decB_ok (by decide +kernel)
set_option maxRecDepth 20000 in
def C36 : Cds := [(0, .aload_n 1, 1), (1, .getfield 118, 3), (4, .istore_n 3, 1), (5, .aload_n 1, 1), (6, .iconst 2, 1), (7, .invokevirtual 111, 3), (10, .istore 4, 2), (12, .aload_n 1, 1), (13, .getfield 131, 3), (16, .ifCond .eq 28, 3), (19, .aload_n 1, 1), (20, .getfield 118, 3), (23, .aload_n 1, 1), (24, .getfield 134, 3), (27, .if_icmp .ne 17, 3), (30, .aload_n 1, 1), (31, .getfield 118, 3), (34, .iload_n 3, 1), (35, .isub, 1), (36, .iconst 2, 1), (37, .if_icmp .ge 7, 3), (40, .iconst 1, 1), (41, .goto 4, 3), (44, .iconst 0, 1), (45, .istore 5, 2), (47, .iload 4, 2), (49, .ifCond .ne 18, 3), (52, .iload 5, 2), (54, .ifCond .ne 13, 3), (57, .aload_n 1, 1), (58, .aload_n 1, 1), (59, .getfield 118, 3), (62, .iconst 1, 1), (63, .isub, 1), (64, .invokevirtual 124, 3), (67, .aload_n 1, 1), (68, .bipush 64, 2), (70, .invokevirtual 114, 3), (73, .aload_n 1, 1), (74, .aload_n 0, 1), (75, .getfield 30, 3), (78, .iconst (-1), 1), (79, .invokevirtual 95, 3), (82, .istore 6, 2), (84, .aload_n 1, 1), (85, .getfield 103, 3), (88, .ifCond .ne 11, 3), (91, .aload_n 0, 1), (92, .getfield 40, 3), (95, .iconst 5, 1), (96, .if_icmp .lt 4, 3), (99, .return_, 1), (100, .aload_n 0, 1), (101, .getfield 27, 3), (104, .aload_n 0, 1), (105, .getfield 40, 3), (108, .iload 4, 2), (110, .iastore, 1), (111, .aload_n 2, 1), (112, .aload_n 0, 1), (113, .getfield 40, 3), (116, .iload 6, 2), (118, .invokevirtual 137, 3), (121, .aload_n 0, 1), (122, .dup, 1), (123, .getfield 40, 3), (126, .iconst 1, 1), (127, .iadd, 1), (128, .putfield 40, 3), (131, .return_, 1)]
theorem D36 : Dec (mCod 36) C36 := decB_ok (by decide +kernel)
set_option maxRecDepth 20000 in
def C37 : Cds := [(0, .iload_n 1, 1), (1, .ifCond .lt 8, 3), (4, .iload_n 1, 1), (5, .iconst 5, 1), (6, .if_icmp .lt 4, 3), (9, .return_, 1), (10, .aload_n 0, 1), (11, .getfield 21, 3), (14, .iload_n 1, 1), (15, .iload_n 2, 1), (16, .iastore, 1), (17, .aload_n 0, 1), (18, .getfield 24, 3), (21, .iconst 2, 1), (22, .iload_n 1, 1), (23, .imul, 1), (24, .iconst 0, 1), (25, .iastore, 1), (26, .aload_n 0, 1), (27, .getfield 24, 3), (30, .iconst 2, 1), (31, .iload_n 1, 1), (32, .imul, 1), (33, .iconst 1, 1), (34, .iadd, 1), (35, .iconst 0, 1), (36, .iastore, 1), (37, .aload_n 0, 1), (38, .getfield 27, 3), (41, .iload_n 1, 1), (42, .iconst 0, 1), (43, .iastore, 1), (44, .aload_n 0, 1), (45, .getfield 30, 3), (48, .iload_n 1, 1), (49, .iconst 0, 1), (50, .iastore, 1), (51, .aload_n 0, 1), (52, .getfield 33, 3), (55, .iload_n 1, 1), (56, .iconst (-1), 1), (57, .iastore, 1), (58, .aload_n 0, 1), (59, .getfield 36, 3), (62, .iload_n 1, 1), (63, .iconst 0, 1), (64, .iastore, 1), (65, .return_, 1)]
theorem D37 : Dec (mCod 37) C37 := decB_ok (by decide +kernel)
set_option maxRecDepth 20000 in
def C38 : Cds := [(0, .aload_n 0, 1), (1, .getfield 30, 3), (4, .bipush 10, 2), (6, .if_icmp .ge 23, 3), (9, .aload_n 0, 1), (10, .getfield 9, 3), (13, .aload_n 0, 1), (14, .getfield 30, 3), (17, .iload_n 1, 1), (18, .iastore, 1), (19, .aload_n 0, 1), (20, .dup, 1), (21, .getfield 30, 3), (24, .iconst 1, 1), (25, .iadd, 1), (26, .putfield 30, 3), (29, .return_, 1)]
theorem D38 : Dec (mCod 38) C38 := decB_ok (by decide +kernel)
set_option maxRecDepth 20000 in
def C39 : Cds := [(0, .aload_n 0, 1), (1, .iconst 0, 1), (2, .putfield 15, 3), (5, .aload_n 0, 1), (6, .getfield 35, 3), (9, .ifCond .ne 14, 3), (12, .aload_n 0, 1), (13, .getfield 32, 3), (16, .aload_n 0, 1), (17, .getfield 25, 3), (20, .if_icmp .ge 8, 3), (23, .aload_n 0, 1), (24, .getfield 32, 3), (27, .ireturn, 1), (28, .aload_n 0, 1), (29, .getfield 28, 3), (32, .ifCond .eq 10, 3), (35, .aload_n 0, 1), (36, .getfield 25, 3), (39, .goto 4, 3), (42, .iconst (-1), 1), (43, .ireturn, 1)]
theorem D39 : Dec (mCod 39) C39 := decB_ok (by decide +kernel)
set_option maxRecDepth 20000 in
def C40 : Cds := [(0, .aload_n 0, 1), (1, .iconst 0, 1), (2, .putfield 54, 3), (5, .return_, 1)]
theorem D40 : Dec (mCod 40) C40 := decB_ok (by decide +kernel)
set_option maxRecDepth 20000 in
def C41 : Cds := [(0, .aload_n 0, 1), (1, .getfield 19, 3), (4, .aload_n 0, 1), (5, .getfield 10, 3), (8, .invokevirtual 126, 3), (11, .ireturn, 1)]
theorem D41 : Dec (mCod 41) C41 := decB_ok (by decide +kernel)
set_option maxRecDepth 20000 in
def C42 : Cds := [(0, .aload_n 1, 1), (1, .bipush 40, 2), (3, .invokevirtual 21, 3), (6, .aload_n 0, 1), (7, .iconst 0, 1), (8, .putfield 27, 3), (11, .aload_n 1, 1), (12, .invokevirtual 31, 3), (15, .ifCond .ne 9, 3), (18, .aload_n 0, 1), (19, .aload_n 1, 1), (20, .iconst 0, 1), (21, .invokevirtual 35, 3), (24, .aload_n 1, 1), (25, .invokevirtual 39, 3), (28, .istore_n 2, 1), (29, .iload_n 2, 1), (30, .iconst (-1), 1), (31, .if_icmp .eq 7, 3), (34, .iconst (-1), 1), (35, .iload_n 2, 1), (36, .isub, 1), (37, .ireturn, 1), (38, .aload_n 0, 1), (39, .getfield 15, 3), (42, .iconst 0, 1), (43, .aload_n 0, 1), (44, .getfield 9, 3), (47, .iconst 0, 1), (48, .aload_n 0, 1), (49, .getfield 27, 3), (52, .invokestatic 43, 3), (55, .aload_n 0, 1), (56, .aload_n 0, 1), (57, .getfield 27, 3), (60, .putfield 49, 3), (63, .iconst 0, 1), (64, .ireturn, 1)]
theorem D42 : Dec (mCod 42) C42 := decB_ok (by decide +kernel)
set_option maxRecDepth 20000 in
def C43 : Cds := [(0, .aload_n 0, 1), (1, .getfield 35, 3), (4, .ifCond .ne 14, 3), (7, .aload_n 0, 1), (8, .getfield 32, 3), (11, .aload_n 0, 1), (12, .getfield 25, 3), (15, .if_icmp .lt 7, 3), (18, .iconst 1, 1), (19, .goto 4, 3), (22, .iconst 0, 1), (23, .ireturn, 1)]
theorem D43 : Dec (mCod 43) C43 := decB_ok (by decide +kernel)
set_option maxRecDepth 20000 in
def C44 : Cds := [(0, .aload_n 0, 1), (1, .aload_n 1, 1), (2, .iload_n 2, 1), (3, .invokevirtual 52, 3), (6, .aload_n 1, 1), (7, .invokevirtual 55, 3), (10, .istore_n 3, 1), (11, .iload_n 3, 1), (12, .bipush 60, 2), (14, .if_icmp .eq 15, 3), (17, .iload_n 3, 1), (18, .bipush 62, 2), (20, .if_icmp .eq 9, 3), (23, .iload_n 3, 1), (24, .bipush 61, 2), (26, .if_icmp .ne 19, 3), (29, .aload_n 1, 1), (30, .invokevirtual 58, 3), (33, .aload_n 0, 1), (34, .aload_n 1, 1), (35, .iload_n 2, 1), (36, .invokevirtual 52, 3), (39, .aload_n 0, 1), (40, .iload_n 3, 1), (41, .ineg, 1), (42, .invokevirtual 61, 3), (45, .return_, 1)]
theorem D44 : Dec (mCod 44) C44 := decB_ok (by decide +kernel)
set_option maxRecDepth 20000 in
def C45 : Cds := [(0, .aload_n 0, 1), (1, .aload_n 1, 1), (2, .iload_n 2, 1), (3, .invokevirtual 64, 3), (6, .aload_n 1, 1), (7, .invokevirtual 55, 3), (10, .istore_n 3, 1), (11, .iconst 0, 1), (12, .istore 4, 2), (14, .iload 4, 2), (16, .bipush 40, 2), (18, .if_icmp .ge 42, 3), (21, .iload_n 3, 1), (22, .bipush 43, 2), (24, .if_icmp .eq 9, 3), (27, .iload_n 3, 1), (28, .bipush 45, 2), (30, .if_icmp .ne 30, 3), (33, .aload_n 1, 1), (34, .invokevirtual 58, 3), (37, .aload_n 0, 1), (38, .aload_n 1, 1), (39, .iload_n 2, 1), (40, .invokevirtual 64, 3), (43, .aload_n 0, 1), (44, .iload_n 3, 1), (45, .ineg, 1), (46, .invokevirtual 61, 3), (49, .aload_n 1, 1), (50, .invokevirtual 55, 3), (53, .istore_n 3, 1), (54, .iinc 4 1, 3), (57, .goto (-43), 3), (60, .return_, 1)]
theorem D45 : Dec (mCod 45) C45 := decB_ok (by decide +kernel)
set_option maxRecDepth 20000 in
def C46 : Cds := [(0, .aload_n 0, 1), (1, .aload_n 1, 1), (2, .iload_n 2, 1), (3, .invokevirtual 67, 3), (6, .aload_n 1, 1), (7, .invokevirtual 55, 3), (10, .istore_n 3, 1), (11, .iconst 0, 1), (12, .istore 4, 2), (14, .iload 4, 2), (16, .bipush 40, 2), (18, .if_icmp .ge 42, 3), (21, .iload_n 3, 1), (22, .bipush 42, 2), (24, .if_icmp .eq 9, 3), (27, .iload_n 3, 1), (28, .bipush 47, 2), (30, .if_icmp .ne 30, 3), (33, .aload_n 1, 1), (34, .invokevirtual 58, 3), (37, .aload_n 0, 1), (38, .aload_n 1, 1), (39, .iload_n 2, 1), (40, .invokevirtual 67, 3), (43, .aload_n 0, 1), (44, .iload_n 3, 1), (45, .ineg, 1), (46, .invokevirtual 61, 3), (49, .aload_n 1, 1), (50, .invokevirtual 55, 3), (53, .istore_n 3, 1), (54, .iinc 4 1, 3), (57, .goto (-43), 3), (60, .return_, 1)]
theorem D46 : Dec (mCod 46) C46 := decB_ok (by decide +kernel)
set_option maxRecDepth 20000 in
def C47 : Cds := [(0, .iconst 0, 1), (1, .istore_n 3, 1), (2, .iconst 0, 1), (3, .istore 4, 2), (5, .iload 4, 2), (7, .bipush 40, 2), (9, .if_icmp .ge 28, 3), (12, .aload_n 1, 1), (13, .bipush 45, 2), (15, .invokevirtual 70, 3), (18, .ifCond .eq 19, 3), (21, .iload_n 3, 1), (22, .ifCond .ne 7, 3), (25, .iconst 1, 1), (26, .goto 4, 3), (29, .iconst 0, 1), (30, .istore_n 3, 1), (31, .iinc 4 1, 3), (34, .goto (-29), 3), (37, .aload_n 0, 1), (38, .aload_n 1, 1), (39, .iload_n 2, 1), (40, .invokevirtual 74, 3), (43, .iload_n 3, 1), (44, .ifCond .eq 9, 3), (47, .aload_n 0, 1), (48, .bipush (-33), 2), (50, .invokevirtual 61, 3), (53, .return_, 1)]
theorem D47 : Dec (mCod 47) C47 := decB_ok (by decide +kernel)
set_option maxRecDepth 20000 in
def C48 : Cds := [(0, .aload_n 1, 1), (1, .invokevirtual 55, 3), (4, .istore_n 3, 1), (5, .iload_n 3, 1), (6, .bipush 40, 2), (8, .if_icmp .ne 29, 3), (11, .iload_n 2, 1), (12, .iconst 4, 1), (13, .if_icmp .ge 24, 3), (16, .aload_n 1, 1), (17, .invokevirtual 58, 3), (20, .aload_n 0, 1), (21, .aload_n 1, 1), (22, .iload_n 2, 1), (23, .iconst 1, 1), (24, .iadd, 1), (25, .invokevirtual 35, 3), (28, .aload_n 1, 1), (29, .bipush 41, 2), (31, .invokevirtual 77, 3), (34, .goto 46, 3), (37, .aload_n 1, 1), (38, .invokevirtual 81, 3), (41, .ifCond .eq 15, 3), (44, .aload_n 0, 1), (45, .aload_n 1, 1), (46, .iconst 3, 1), (47, .invokevirtual 84, 3), (50, .invokevirtual 61, 3), (53, .goto 27, 3), (56, .iload_n 3, 1), (57, .invokestatic 88, 3), (60, .ifCond .eq 16, 3), (63, .aload_n 1, 1), (64, .invokevirtual 58, 3), (67, .aload_n 0, 1), (68, .iload_n 3, 1), (69, .ineg, 1), (70, .invokevirtual 61, 3), (73, .goto 7, 3), (76, .aload_n 1, 1), (77, .invokevirtual 92, 3), (80, .return_, 1)]
theorem D48 : Dec (mCod 48) C48 := decB_ok (by decide +kernel)
set_option maxRecDepth 20000 in
def C49 : Cds := [(0, .aload_n 0, 1), (1, .getfield 27, 3), (4, .bipush 40, 2), (6, .if_icmp .ge 23, 3), (9, .aload_n 0, 1), (10, .getfield 15, 3), (13, .aload_n 0, 1), (14, .getfield 27, 3), (17, .iload_n 1, 1), (18, .iastore, 1), (19, .aload_n 0, 1), (20, .dup, 1), (21, .getfield 27, 3), (24, .iconst 1, 1), (25, .iadd, 1), (26, .putfield 27, 3), (29, .return_, 1)]
theorem D49 : Dec (mCod 49) C49 := decB_ok (by decide +kernel)
set_option maxRecDepth 20000 in
def C50 : Cds := [(0, .iload_n 0, 1), (1, .tableswitch 89 98 115 #[87, 89, 89, 89, 87, 89, 87, 87, 89, 89, 89, 89, 87, 89, 87, 89, 87, 87], 87), (88, .iconst 1, 1), (89, .ireturn, 1), (90, .iconst 0, 1), (91, .ireturn, 1)]
theorem D50 : Dec (mCod 50) C50 := decB_ok (by decide +kernel)
set_option maxRecDepth 20000 in
def C51 : Cds := [(0, .aload_n 0, 1), (1, .getfield 26, 3), (4, .iload_n 1, 1), (5, .invokevirtual 173, 3), (8, .ifCond .eq 25, 3), (11, .aload_n 0, 1), (12, .getfield 33, 3), (15, .iload_n 1, 1), (16, .invokevirtual 226, 3), (19, .ifCond .ne 14, 3), (22, .iload_n 2, 1), (23, .ifCond .lt 10, 3), (26, .iload_n 2, 1), (27, .sipush 999, 3), (30, .if_icmp .le 5, 3), (33, .iconst (-1), 1), (34, .ireturn, 1), (35, .aload_n 0, 1), (36, .getfield 33, 3), (39, .getfield 176, 3), (42, .iload_n 1, 1), (43, .iaload, 1), (44, .istore_n 3, 1), (45, .aload_n 0, 1), (46, .getfield 33, 3), (49, .getfield 176, 3), (52, .iload_n 1, 1), (53, .iload_n 2, 1), (54, .iastore, 1), (55, .iload_n 3, 1), (56, .ireturn, 1)]
theorem D51 : Dec (mCod 51) C51 := decB_ok (by decide +kernel)
set_option maxRecDepth 20000 in
def C52 : Cds := [(0, .iload_n 1, 1), (1, .ifCond .lt 20, 3), (4, .iload_n 1, 1), (5, .aload_n 0, 1), (6, .getfield 37, 3), (9, .if_icmp .ge 12, 3), (12, .iload_n 1, 1), (13, .iconst 5, 1), (14, .if_icmp .ge 7, 3), (17, .iconst 1, 1), (18, .goto 4, 3), (21, .iconst 0, 1), (22, .ireturn, 1)]
theorem D52 : Dec (mCod 52) C52 := decB_ok (by decide +kernel)
set_option maxRecDepth 20000 in
def C53 : Cds := [(0, .aload_n 0, 1), (1, .getfield 45, 3), (4, .iload_n 1, 1), (5, .ishr, 1), (6, .iconst 1, 1), (7, .iand, 1), (8, .ifCond .eq 7, 3), (11, .iconst 1, 1), (12, .goto 4, 3), (15, .iconst 0, 1), (16, .ireturn, 1)]
theorem D53 : Dec (mCod 53) C53 := decB_ok (by decide +kernel)
set_option maxRecDepth 20000 in
def C54 : Cds := [(0, .iload_n 1, 1), (1, .ifCond .lt 13, 3), (4, .iload_n 1, 1), (5, .iconst 3, 1), (6, .if_icmp .gt 8, 3), (9, .iload_n 2, 1), (10, .iconst 5, 1), (11, .if_icmp .le 5, 3), (14, .iconst (-1), 1), (15, .ireturn, 1), (16, .iload_n 1, 1), (17, .iconst 3, 1), (18, .if_icmp .ge 10, 3), (21, .iload_n 2, 1), (22, .ifCond .ge 6, 3), (25, .bipush (-2), 2), (27, .ireturn, 1), (28, .iload_n 1, 1), (29, .iconst 3, 1), (30, .if_icmp .ne 7, 3), (33, .iconst 0, 1), (34, .goto 4, 3), (37, .iload_n 2, 1), (38, .istore 5, 2), (40, .iconst 0, 1), (41, .istore 6, 2), (43, .iconst 0, 1), (44, .istore 7, 2), (46, .iload 7, 2), (48, .aload_n 0, 1), (49, .getfield 26, 3), (52, .getfield 139, 3), (55, .if_icmp .ge 68, 3), (58, .aload_n 0, 1), (59, .getfield 33, 3), (62, .iload 7, 2), (64, .invokevirtual 226, 3), (67, .ifCond .ne 50, 3), (70, .aload_n 0, 1), (71, .getfield 33, 3), (74, .getfield 176, 3), (77, .iload 7, 2), (79, .iload 7, 2), (81, .iload 5, 2), (83, .if_icmp .ge 17, 3), (86, .iload_n 1, 1), (87, .iload_n 3, 1), (88, .iload 7, 2), (90, .iload 4, 2), (92, .imul, 1), (93, .iadd, 1), (94, .invokestatic 229, 3), (97, .goto 4, 3), (100, .iconst 0, 1), (101, .iastore, 1), (102, .iload 6, 2), (104, .aload_n 0, 1), (105, .getfield 33, 3), (108, .getfield 176, 3), (111, .iload 7, 2), (113, .iaload, 1), (114, .iadd, 1), (115, .istore 6, 2), (117, .iinc 7 1, 3), (120, .goto (-74), 3), (123, .iload_n 1, 1), (124, .iconst 3, 1), (125, .if_icmp .ne 8, 3), (128, .bipush (-3), 2), (130, .goto 5, 3), (133, .iload 6, 2), (135, .ireturn, 1)]
theorem D54 : Dec (mCod 54) C54 := decB_ok (by decide +kernel)
set_option maxRecDepth 20000 in
def C55 : Cds := [(0, .iload_n 0, 1), (1, .ifCond .ne 8, 3), (4, .iload_n 1, 1), (5, .i2b, 1), (6, .goto 14, 3), (9, .iload_n 0, 1), (10, .iconst 1, 1), (11, .if_icmp .ne 8, 3), (14, .iload_n 1, 1), (15, .i2s, 1), (16, .goto 4, 3), (19, .iload_n 1, 1), (20, .istore_n 2, 1), (21, .iconst 0, 1), (22, .sipush 999, 3), (25, .iload_n 2, 1), (26, .invokestatic 232, 3), (29, .invokestatic 237, 3), (32, .ireturn, 1)]
theorem D55 : Dec (mCod 55) C55 := decB_ok (by decide +kernel)
set_option maxRecDepth 20000 in
def C56 : Cds := [(0, .iload_n 0, 1), (1, .iload_n 1, 1), (2, .if_icmp .lt 7, 3), (5, .iload_n 0, 1), (6, .goto 4, 3), (9, .iload_n 1, 1), (10, .ireturn, 1)]
theorem D56 : Dec (mCod 56) C56 := decB_ok (by decide +kernel)
set_option maxRecDepth 20000 in
def C57 : Cds := [(0, .aload_n 0, 1), (1, .getfield 51, 3), (4, .invokevirtual 240, 3), (7, .aload_n 0, 1), (8, .getfield 51, 3), (11, .aload_n 0, 1), (12, .getfield 51, 3), (15, .iload_n 1, 1), (16, .iload_n 2, 1), (17, .invokevirtual 243, 3), (20, .invokevirtual 246, 3), (23, .ireturn, 1)]
theorem D57 : Dec (mCod 57) C57 := decB_ok (by decide +kernel)
set_option maxRecDepth 20000 in
def C58 : Cds := [(0, .aload_n 0, 1), (1, .getfield 11, 3), (4, .aload_n 0, 1), (5, .aload_n 0, 1), (6, .getfield 54, 3), (9, .invokevirtual 57, 3), (12, .aaload, 1), (13, .aload_n 0, 1), (14, .getfield 31, 3), (17, .invokevirtual 61, 3), (20, .aload_n 0, 1), (21, .iconst 0, 1), (22, .putfield 65, 3), (25, .aload_n 0, 1), (26, .iconst 0, 1), (27, .putfield 68, 3), (30, .aload_n 0, 1), (31, .iconst 0, 1), (32, .putfield 71, 3), (35, .return_, 1)]
theorem D58 : Dec (mCod 58) C58 := decB_ok (by decide +kernel)
set_option maxRecDepth 20000 in
def C59 : Cds := [(0, .aload_n 0, 1), (1, .getfield 44, 3), (4, .iload_n 1, 1), (5, .iadd, 1), (6, .bipush 16, 2), (8, .invokestatic 48, 3), (11, .ireturn, 1)]
theorem D59 : Dec (mCod 59) C59 := decB_ok (by decide +kernel)
set_option maxRecDepth 20000 in
def C60 : Cds := [(0, .iload_n 0, 1), (1, .iload_n 1, 1), (2, .irem, 1), (3, .istore_n 2, 1), (4, .iload_n 0, 1), (5, .iload_n 1, 1), (6, .ixor, 1), (7, .ifCond .ge 11, 3), (10, .iload_n 2, 1), (11, .ifCond .eq 7, 3), (14, .iload_n 2, 1), (15, .iload_n 1, 1), (16, .iadd, 1), (17, .ireturn, 1), (18, .iload_n 2, 1), (19, .ireturn, 1)]
theorem D60 : Dec (mCod 60) C60 := decB_ok (by decide +kernel)
set_option maxRecDepth 20000 in
def C61 : Cds := [(0, .aload_n 1, 1), (1, .getfield 9, 3), (4, .iconst 0, 1), (5, .aload_n 0, 1), (6, .getfield 9, 3), (9, .iconst 0, 1), (10, .iconst 5, 1), (11, .invokestatic 39, 3), (14, .aload_n 1, 1), (15, .getfield 15, 3), (18, .iconst 0, 1), (19, .aload_n 0, 1), (20, .getfield 15, 3), (23, .iconst 0, 1), (24, .iconst 5, 1), (25, .invokestatic 39, 3), (28, .aload_n 1, 1), (29, .getfield 18, 3), (32, .iconst 0, 1), (33, .aload_n 0, 1), (34, .getfield 18, 3), (37, .iconst 0, 1), (38, .iconst 5, 1), (39, .invokestatic 39, 3), (42, .aload_n 0, 1), (43, .aload_n 1, 1), (44, .getfield 45, 3), (47, .putfield 45, 3), (50, .aload_n 1, 1), (51, .getfield 21, 3), (54, .iconst 0, 1), (55, .aload_n 0, 1), (56, .getfield 21, 3), (59, .iconst 0, 1), (60, .iconst 5, 1), (61, .invokestatic 39, 3), (64, .aload_n 1, 1), (65, .getfield 24, 3), (68, .iconst 0, 1), (69, .aload_n 0, 1), (70, .getfield 24, 3), (73, .iconst 0, 1), (74, .bipush 10, 2), (76, .invokestatic 39, 3), (79, .aload_n 1, 1), (80, .getfield 27, 3), (83, .iconst 0, 1), (84, .aload_n 0, 1), (85, .getfield 27, 3), (88, .iconst 0, 1), (89, .iconst 5, 1), (90, .invokestatic 39, 3), (93, .aload_n 1, 1), (94, .getfield 30, 3), (97, .iconst 0, 1), (98, .aload_n 0, 1), (99, .getfield 30, 3), (102, .iconst 0, 1), (103, .iconst 5, 1), (104, .invokestatic 39, 3), (107, .aload_n 1, 1), (108, .getfield 33, 3), (111, .iconst 0, 1), (112, .aload_n 0, 1), (113, .getfield 33, 3), (116, .iconst 0, 1), (117, .iconst 5, 1), (118, .invokestatic 39, 3), (121, .aload_n 1, 1), (122, .getfield 36, 3), (125, .iconst 0, 1), (126, .aload_n 0, 1), (127, .getfield 36, 3), (130, .iconst 0, 1), (131, .iconst 5, 1), (132, .invokestatic 39, 3), (135, .aload_n 0, 1), (136, .aload_n 1, 1), (137, .getfield 49, 3), (140, .putfield 49, 3), (143, .aload_n 0, 1), (144, .aload_n 1, 1), (145, .getfield 52, 3), (148, .putfield 52, 3), (151, .return_, 1)]
theorem D61 : Dec (mCod 61) C61 := decB_ok (by decide +kernel)
set_option maxRecDepth 20000 in
def C62 : Cds := [(0, .aload_n 0, 1), (1, .getfield 27, 3), (4, .iload_n 1, 1), (5, .invokevirtual 74, 3), (8, .ifCond .ne 5, 3), (11, .iconst (-1), 1), (12, .ireturn, 1), (13, .aload_n 0, 1), (14, .getfield 31, 3), (17, .getfield 80, 3), (20, .iload_n 1, 1), (21, .iaload, 1), (22, .iconst (-1), 1), (23, .if_icmp .eq 6, 3), (26, .bipush (-2), 2), (28, .ireturn, 1), (29, .aload_n 0, 1), (30, .getfield 27, 3), (33, .iload_n 2, 1), (34, .invokevirtual 83, 3), (37, .ifCond .eq 24, 3), (40, .aload_n 0, 1), (41, .getfield 31, 3), (44, .getfield 86, 3), (47, .iload_n 2, 1), (48, .iaload, 1), (49, .aload_n 0, 1), (50, .getfield 31, 3), (53, .getfield 89, 3), (56, .iload_n 1, 1), (57, .iaload, 1), (58, .if_icmp .eq 6, 3), (61, .bipush (-3), 2), (63, .ireturn, 1), (64, .aload_n 0, 1), (65, .getfield 31, 3), (68, .getfield 86, 3), (71, .iload_n 2, 1), (72, .iconst (-1), 1), (73, .iastore, 1), (74, .aload_n 0, 1), (75, .getfield 31, 3), (78, .getfield 92, 3), (81, .iload_n 2, 1), (82, .iload_n 1, 1), (83, .iastore, 1), (84, .aload_n 0, 1), (85, .getfield 31, 3), (88, .getfield 80, 3), (91, .iload_n 1, 1), (92, .iload_n 2, 1), (93, .iastore, 1), (94, .aload_n 0, 1), (95, .getfield 31, 3), (98, .getfield 95, 3), (101, .iload_n 2, 1), (102, .iaload, 1), (103, .ireturn, 1)]
theorem D62 : Dec (mCod 62) C62 := decB_ok (by decide +kernel)
set_option maxRecDepth 20000 in
def C63 : Cds := [(0, .iload_n 1, 1), (1, .ifCond .lt 20, 3), (4, .iload_n 1, 1), (5, .aload_n 0, 1), (6, .getfield 40, 3), (9, .if_icmp .ge 12, 3), (12, .iload_n 1, 1), (13, .iconst 5, 1), (14, .if_icmp .ge 7, 3), (17, .iconst 1, 1), (18, .goto 4, 3), (21, .iconst 0, 1), (22, .ireturn, 1)]
theorem D63 : Dec (mCod 63) C63 := decB_ok (by decide +kernel)
set_option maxRecDepth 20000 in
def C64 : Cds := [(0, .iload_n 1, 1), (1, .ifCond .lt 34, 3), (4, .aload_n 0, 1), (5, .getfield 54, 3), (8, .bipush 15, 2), (10, .if_icmp .ge 16, 3), (13, .aload_n 0, 1), (14, .dup, 1), (15, .getfield 54, 3), (18, .iconst 1, 1), (19, .iadd, 1), (20, .putfield 54, 3), (23, .goto 12, 3), (26, .aload_n 0, 1), (27, .aload_n 0, 1), (28, .iconst 1, 1), (29, .invokevirtual 57, 3), (32, .putfield 44, 3), (35, .iload_n 1, 1), (36, .ireturn, 1)]
theorem D64 : Dec (mCod 64) C64 := decB_ok (by decide +kernel)
set_option maxRecDepth 20000 in
def C65 : Cds := [(0, .aload_n 0, 1), (1, .getfield 51, 3), (4, .invokevirtual 240, 3), (7, .aload_n 0, 1), (8, .getfield 51, 3), (11, .aload_n 0, 1), (12, .getfield 51, 3), (15, .iload_n 1, 1), (16, .invokevirtual 249, 3), (19, .invokevirtual 246, 3), (22, .ireturn, 1)]
theorem D65 : Dec (mCod 65) C65 := decB_ok (by decide +kernel)
set_option maxRecDepth 20000 in
def C66 : Cds := [(0, .aload_n 0, 1), (1, .getfield 27, 3), (4, .iload_n 1, 1), (5, .invokevirtual 74, 3), (8, .ifCond .ne 5, 3), (11, .iconst (-1), 1), (12, .ireturn, 1), (13, .aload_n 0, 1), (14, .getfield 31, 3), (17, .getfield 80, 3), (20, .iload_n 1, 1), (21, .iaload, 1), (22, .istore_n 2, 1), (23, .aload_n 0, 1), (24, .getfield 27, 3), (27, .iload_n 2, 1), (28, .invokevirtual 83, 3), (31, .ifCond .ne 6, 3), (34, .bipush (-2), 2), (36, .ireturn, 1), (37, .aload_n 0, 1), (38, .getfield 31, 3), (41, .getfield 89, 3), (44, .iload_n 1, 1), (45, .iaload, 1), (46, .istore_n 3, 1), (47, .aload_n 0, 1), (48, .getfield 27, 3), (51, .iload_n 3, 1), (52, .invokevirtual 98, 3), (55, .ifCond .eq 15, 3), (58, .aload_n 0, 1), (59, .getfield 27, 3), (62, .getfield 101, 3), (65, .iload_n 3, 1), (66, .iaload, 1), (67, .ifCond .ne 6, 3), (70, .bipush (-3), 2), (72, .ireturn, 1), (73, .aload_n 0, 1), (74, .getfield 31, 3), (77, .getfield 80, 3), (80, .iload_n 1, 1), (81, .iconst (-1), 1), (82, .iastore, 1), (83, .aload_n 0, 1), (84, .getfield 31, 3), (87, .getfield 92, 3), (90, .iload_n 2, 1), (91, .iconst (-1), 1), (92, .iastore, 1), (93, .aload_n 0, 1), (94, .getfield 31, 3), (97, .getfield 86, 3), (100, .iload_n 2, 1), (101, .iload_n 3, 1), (102, .iastore, 1), (103, .iload_n 2, 1), (104, .ireturn, 1)]
theorem D66 : Dec (mCod 66) C66 := decB_ok (by decide +kernel)
set_option maxRecDepth 20000 in
def C67 : Cds := [(0, .aload_n 0, 1), (1, .getfield 51, 3), (4, .invokevirtual 240, 3), (7, .aload_n 0, 1), (8, .getfield 51, 3), (11, .aload_n 0, 1), (12, .getfield 51, 3), (15, .iload_n 1, 1), (16, .iload_n 2, 1), (17, .invokevirtual 252, 3), (20, .invokevirtual 246, 3), (23, .istore_n 3, 1), (24, .iload_n 3, 1), (25, .ifCond .lt 56, 3), (28, .aload_n 0, 1), (29, .getfield 26, 3), (32, .iload_n 1, 1), (33, .invokevirtual 191, 3), (36, .ifCond .eq 45, 3), (39, .aload_n 0, 1), (40, .invokevirtual 255, 3), (43, .aload_n 0, 1), (44, .aload_n 0, 1), (45, .getfield 51, 3), (48, .getfield 258, 3), (51, .i2l, 1), (52, .invokevirtual 261, 3), (55, .aload_n 0, 1), (56, .aload_n 0, 1), (57, .getfield 33, 3), (60, .getfield 200, 3), (63, .iconst 2, 1), (64, .iload_n 1, 1), (65, .imul, 1), (66, .aload_n 0, 1), (67, .getfield 33, 3), (70, .getfield 203, 3), (73, .iload_n 1, 1), (74, .iaload, 1), (75, .iadd, 1), (76, .iaload, 1), (77, .i2l, 1), (78, .invokevirtual 261, 3), (81, .iload_n 3, 1), (82, .ireturn, 1)]
theorem D67 : Dec (mCod 67) C67 := decB_ok (by decide +kernel)
set_option maxRecDepth 20000 in
def C68 : Cds := [(0, .aload_n 0, 1), (1, .getfield 27, 3), (4, .iload_n 1, 1), (5, .invokevirtual 74, 3), (8, .ifCond .ne 5, 3), (11, .iconst (-1), 1), (12, .ireturn, 1), (13, .aload_n 0, 1), (14, .getfield 27, 3), (17, .iload_n 2, 1), (18, .aload_n 0, 1), (19, .getfield 31, 3), (22, .getfield 89, 3), (25, .iload_n 1, 1), (26, .iaload, 1), (27, .invokevirtual 104, 3), (30, .istore_n 3, 1), (31, .iload_n 3, 1), (32, .iconst (-1), 1), (33, .if_icmp .ne 6, 3), (36, .bipush (-2), 2), (38, .ireturn, 1), (39, .aload_n 0, 1), (40, .getfield 27, 3), (43, .iload_n 2, 1), (44, .aload_n 0, 1), (45, .getfield 31, 3), (48, .getfield 107, 3), (51, .invokevirtual 110, 3), (54, .ifCond .ne 6, 3), (57, .bipush (-3), 2), (59, .ireturn, 1), (60, .iconst 0, 1), (61, .istore 4, 2), (63, .iload 4, 2), (65, .aload_n 0, 1), (66, .getfield 27, 3), (69, .getfield 114, 3), (72, .iload_n 2, 1), (73, .iaload, 1), (74, .if_icmp .ge 13, 3), (77, .aload_n 0, 1), (78, .invokevirtual 117, 3), (81, .iinc 4 1, 3), (84, .goto (-21), 3), (87, .aload_n 0, 1), (88, .getfield 31, 3), (91, .getfield 89, 3), (94, .iload_n 1, 1), (95, .iload_n 3, 1), (96, .iastore, 1), (97, .aload_n 0, 1), (98, .getfield 27, 3), (101, .getfield 114, 3), (104, .iload_n 2, 1), (105, .iaload, 1), (106, .ireturn, 1)]
theorem D68 : Dec (mCod 68) C68 := decB_ok (by decide +kernel)
set_option maxRecDepth 20000 in
def C69 : Cds := [(0, .aload_n 0, 1), (1, .iload_n 1, 1), (2, .invokevirtual 50, 3), (5, .ifCond .ne 5, 3), (8, .iconst (-1), 1), (9, .ireturn, 1), (10, .aload_n 0, 1), (11, .getfield 15, 3), (14, .iload_n 1, 1), (15, .iaload, 1), (16, .iload_n 2, 1), (17, .if_icmp .ne 12, 3), (20, .aload_n 0, 1), (21, .getfield 18, 3), (24, .iload_n 1, 1), (25, .iaload, 1), (26, .goto 23, 3), (29, .aload_n 0, 1), (30, .getfield 18, 3), (33, .iload_n 1, 1), (34, .iaload, 1), (35, .iload_n 2, 1), (36, .if_icmp .ne 12, 3), (39, .aload_n 0, 1), (40, .getfield 15, 3), (43, .iload_n 1, 1), (44, .iaload, 1), (45, .goto 4, 3), (48, .iconst (-1), 1), (49, .ireturn, 1)]
theorem D69 : Dec (mCod 69) C69 := decB_ok (by decide +kernel)
set_option maxRecDepth 20000 in
def C70 : Cds := [(0, .iload_n 1, 1), (1, .ifCond .lt 21, 3), (4, .iload_n 1, 1), (5, .aload_n 0, 1), (6, .getfield 34, 3), (9, .if_icmp .ge 13, 3), (12, .iload_n 1, 1), (13, .bipush 14, 2), (15, .if_icmp .ge 7, 3), (18, .iconst 1, 1), (19, .goto 4, 3), (22, .iconst 0, 1), (23, .ireturn, 1)]
theorem D70 : Dec (mCod 70) C70 := decB_ok (by decide +kernel)
set_option maxRecDepth 20000 in
def C71 : Cds := [(0, .aload_n 0, 1), (1, .iload_n 1, 1), (2, .invokevirtual 46, 3), (5, .ifCond .eq 11, 3), (8, .iload_n 2, 1), (9, .iload_n 1, 1), (10, .ishr, 1), (11, .iconst 1, 1), (12, .iand, 1), (13, .ifCond .eq 7, 3), (16, .iconst 1, 1), (17, .goto 4, 3), (20, .iconst 0, 1), (21, .ireturn, 1)]
theorem D71 : Dec (mCod 71) C71 := decB_ok (by decide +kernel)
set_option maxRecDepth 20000 in
def C72 : Cds := [(0, .aload_n 0, 1), (1, .getfield 43, 3), (4, .iload_n 1, 1), (5, .ishr, 1), (6, .iconst 1, 1), (7, .iand, 1), (8, .ifCond .eq 7, 3), (11, .iconst 1, 1), (12, .goto 4, 3), (15, .iconst 0, 1), (16, .ireturn, 1)]
theorem D72 : Dec (mCod 72) C72 := decB_ok (by decide +kernel)
set_option maxRecDepth 20000 in
def C73 : Cds := [(0, .iconst 0, 1), (1, .istore_n 1, 1), (2, .iload_n 1, 1), (3, .aload_n 0, 1), (4, .getfield 27, 3), (7, .getfield 120, 3), (10, .if_icmp .ge 63, 3), (13, .aload_n 0, 1), (14, .iload_n 1, 1), (15, .invokevirtual 123, 3), (18, .aload_n 0, 1), (19, .getfield 31, 3), (22, .getfield 80, 3), (25, .iload_n 1, 1), (26, .iaload, 1), (27, .iconst (-1), 1), (28, .if_icmp .ne 20, 3), (31, .aload_n 0, 1), (32, .iconst 2, 1), (33, .iload_n 1, 1), (34, .imul, 1), (35, .aload_n 0, 1), (36, .getfield 31, 3), (39, .getfield 127, 3), (42, .iload_n 1, 1), (43, .iaload, 1), (44, .iadd, 1), (45, .invokevirtual 130, 3), (48, .aload_n 0, 1), (49, .iconst 2, 1), (50, .iload_n 1, 1), (51, .imul, 1), (52, .iconst 1, 1), (53, .iadd, 1), (54, .aload_n 0, 1), (55, .getfield 31, 3), (58, .getfield 127, 3), (61, .iload_n 1, 1), (62, .iaload, 1), (63, .isub, 1), (64, .invokevirtual 130, 3), (67, .iinc 1 1, 3), (70, .goto (-68), 3), (73, .iconst 0, 1), (74, .istore_n 1, 1), (75, .iload_n 1, 1), (76, .aload_n 0, 1), (77, .getfield 27, 3), (80, .getfield 133, 3), (83, .if_icmp .ge 41, 3), (86, .aload_n 0, 1), (87, .getfield 31, 3), (90, .getfield 95, 3), (93, .iload_n 1, 1), (94, .iconst 0, 1), (95, .aload_n 0, 1), (96, .getfield 31, 3), (99, .getfield 95, 3), (102, .iload_n 1, 1), (103, .iaload, 1), (104, .aload_n 0, 1), (105, .getfield 27, 3), (108, .getfield 136, 3), (111, .iload_n 1, 1), (112, .iaload, 1), (113, .isub, 1), (114, .invokestatic 139, 3), (117, .iastore, 1), (118, .iinc 1 1, 3), (121, .goto (-46), 3), (124, .aload_n 0, 1), (125, .getfield 31, 3), (128, .dup, 1), (129, .getfield 142, 3), (132, .iconst 1, 1), (133, .iadd, 1), (134, .putfield 142, 3), (137, .return_, 1)]
theorem D73 : Dec (mCod 73) C73 := decB_ok (by decide +kernel)
set_option maxRecDepth 20000 in
def C74 : Cds := [(0, .aload_n 0, 1), (1, .getfield 31, 3), (4, .getfield 80, 3), (7, .iload_n 1, 1), (8, .iaload, 1), (9, .istore_n 2, 1), (10, .aload_n 0, 1), (11, .getfield 39, 3), (14, .iload_n 1, 1), (15, .iload_n 2, 1), (16, .invokevirtual 148, 3), (19, .ifCond .ne 4, 3), (22, .return_, 1), (23, .sipush 9999, 3), (26, .aload_n 0, 1), (27, .getfield 39, 3), (30, .getfield 153, 3), (33, .aload_n 0, 1), (34, .getfield 35, 3), (37, .aload_n 0, 1), (38, .getfield 39, 3), (41, .invokevirtual 155, 3), (44, .iadd, 1), (45, .invokestatic 161, 3), (48, .istore_n 3, 1), (49, .aload_n 0, 1), (50, .getfield 31, 3), (53, .getfield 145, 3), (56, .iconst 2, 1), (57, .iload_n 1, 1), (58, .imul, 1), (59, .aload_n 0, 1), (60, .getfield 39, 3), (63, .getfield 164, 3), (66, .iadd, 1), (67, .iload_n 3, 1), (68, .iastore, 1), (69, .iload_n 3, 1), (70, .aload_n 0, 1), (71, .getfield 27, 3), (74, .getfield 166, 3), (77, .iload_n 1, 1), (78, .iaload, 1), (79, .if_icmp .le 95, 3), (82, .aload_n 0, 1), (83, .getfield 31, 3), (86, .getfield 169, 3), (89, .iload_n 1, 1), (90, .dup2, 1), (91, .iaload, 1), (92, .iconst 1, 1), (93, .iadd, 1), (94, .iastore, 1), (95, .aload_n 0, 1), (96, .dup, 1), (97, .getfield 65, 3), (100, .iconst 1, 1), (101, .iadd, 1), (102, .putfield 65, 3), (105, .aload_n 0, 1), (106, .dup, 1), (107, .getfield 68, 3), (110, .iconst 1, 1), (111, .iload_n 1, 1), (112, .ishl, 1), (113, .ior, 1), (114, .putfield 68, 3), (117, .aload_n 0, 1), (118, .dup, 1), (119, .getfield 71, 3), (122, .iconst 1, 1), (123, .iload_n 2, 1), (124, .ishl, 1), (125, .ior, 1), (126, .putfield 71, 3), (129, .aload_n 0, 1), (130, .getfield 31, 3), (133, .getfield 80, 3), (136, .iload_n 1, 1), (137, .iconst (-1), 1), (138, .iastore, 1), (139, .aload_n 0, 1), (140, .getfield 31, 3), (143, .getfield 92, 3), (146, .iload_n 2, 1), (147, .iconst (-1), 1), (148, .iastore, 1), (149, .aload_n 0, 1), (150, .getfield 31, 3), (153, .getfield 95, 3), (156, .iload_n 2, 1), (157, .iconst 0, 1), (158, .iastore, 1), (159, .aload_n 0, 1), (160, .getfield 31, 3), (163, .dup, 1), (164, .getfield 172, 3), (167, .iconst 1, 1), (168, .iload_n 2, 1), (169, .ishl, 1), (170, .ior, 1), (171, .putfield 172, 3), (174, .return_, 1)]
theorem D74 : Dec (mCod 74) C74 := decB_ok (by decide +kernel)
set_option maxRecDepth 20000 in
def C75 : Cds := [(0, .aload_n 0, 1), (1, .iload_n 1, 1), (2, .invokevirtual 85, 3), (5, .ifCond .eq 15, 3), (8, .aload_n 0, 1), (9, .iload_n 2, 1), (10, .invokevirtual 88, 3), (13, .ifCond .eq 7, 3), (16, .iconst 1, 1), (17, .goto 4, 3), (20, .iconst 0, 1), (21, .ireturn, 1)]
theorem D75 : Dec (mCod 75) C75 := decB_ok (by decide +kernel)
set_option maxRecDepth 20000 in
def C76 : Cds := [(0, .aload_n 0, 1), (1, .getfield 9, 3), (4, .iload_n 1, 1), (5, .invokevirtual 23, 3), (8, .ifCond .ne 5, 3), (11, .iconst 0, 1), (12, .ireturn, 1), (13, .aload_n 0, 1), (14, .iload_n 1, 1), (15, .putfield 29, 3), (18, .aload_n 0, 1), (19, .aload_n 0, 1), (20, .getfield 9, 3), (23, .getfield 33, 3), (26, .iload_n 1, 1), (27, .iaload, 1), (28, .putfield 37, 3), (31, .aload_n 0, 1), (32, .aload_n 0, 1), (33, .getfield 15, 3), (36, .getfield 39, 3), (39, .iload_n 1, 1), (40, .iaload, 1), (41, .putfield 44, 3), (44, .aload_n 0, 1), (45, .aload_n 0, 1), (46, .getfield 15, 3), (49, .getfield 46, 3), (52, .iload_n 1, 1), (53, .iaload, 1), (54, .iconst 1, 1), (55, .iand, 1), (56, .putfield 49, 3), (59, .aload_n 0, 1), (60, .aload_n 0, 1), (61, .getfield 15, 3), (64, .getfield 51, 3), (67, .iconst 2, 1), (68, .iload_n 1, 1), (69, .imul, 1), (70, .aload_n 0, 1), (71, .getfield 49, 3), (74, .iadd, 1), (75, .iaload, 1), (76, .putfield 54, 3), (79, .aload_n 0, 1), (80, .aload_n 0, 1), (81, .getfield 15, 3), (84, .getfield 51, 3), (87, .iconst 2, 1), (88, .iload_n 1, 1), (89, .imul, 1), (90, .iconst 1, 1), (91, .iadd, 1), (92, .aload_n 0, 1), (93, .getfield 49, 3), (96, .isub, 1), (97, .iaload, 1), (98, .putfield 56, 3), (101, .aload_n 0, 1), (102, .aload_n 0, 1), (103, .getfield 15, 3), (106, .getfield 59, 3), (109, .putfield 62, 3), (112, .iconst 1, 1), (113, .ireturn, 1)]
theorem D76 : Dec (mCod 76) C76 := decB_ok (by decide +kernel)
set_option maxRecDepth 20000 in
def C77 : Cds := [(0, .aload_n 0, 1), (1, .getfield 9, 3), (4, .iload_n 1, 1), (5, .invokevirtual 63, 3), (8, .ifCond .ne 5, 3), (11, .iconst 0, 1), (12, .ireturn, 1), (13, .aload_n 0, 1), (14, .iload_n 1, 1), (15, .putfield 66, 3), (18, .aload_n 0, 1), (19, .aload_n 0, 1), (20, .getfield 9, 3), (23, .getfield 69, 3), (26, .iload_n 1, 1), (27, .iaload, 1), (28, .putfield 72, 3), (31, .aload_n 0, 1), (32, .iconst 0, 1), (33, .aload_n 0, 1), (34, .getfield 15, 3), (37, .getfield 74, 3), (40, .iload_n 1, 1), (41, .iaload, 1), (42, .aload_n 0, 1), (43, .getfield 72, 3), (46, .aload_n 0, 1), (47, .getfield 62, 3), (50, .aload_n 0, 1), (51, .getfield 15, 3), (54, .getfield 59, 3), (57, .isub, 1), (58, .imul, 1), (59, .isub, 1), (60, .invokestatic 77, 3), (63, .putfield 83, 3), (66, .iconst 1, 1), (67, .ireturn, 1)]
theorem D77 : Dec (mCod 77) C77 := decB_ok (by decide +kernel)
set_option maxRecDepth 20000 in
def C78 : Cds := [(0, .aload_n 0, 1), (1, .getfield 49, 3), (4, .ifCond .ne 25, 3), (7, .bipush 47, 2), (9, .aload_n 1, 1), (10, .getfield 95, 3), (13, .bipush 10, 2), (15, .aload_n 1, 1), (16, .getfield 100, 3), (19, .imul, 1), (20, .iconst 1, 1), (21, .iadd, 1), (22, .invokestatic 103, 3), (25, .invokestatic 107, 3), (28, .ireturn, 1), (29, .iconst 0, 1), (30, .istore_n 2, 1), (31, .iconst 0, 1), (32, .istore_n 3, 1), (33, .iload_n 3, 1), (34, .aload_n 0, 1), (35, .getfield 49, 3), (38, .if_icmp .ge 134, 3), (41, .aload_n 0, 1), (42, .getfield 9, 3), (45, .iload_n 3, 1), (46, .iaload, 1), (47, .istore 4, 2), (49, .iload 4, 2), (51, .ifCond .ge 12, 3), (54, .iload 4, 2), (56, .ineg, 1), (57, .invokestatic 88, 3), (60, .ifCond .eq 38, 3), (63, .iload_n 2, 1), (64, .bipush 40, 2), (66, .if_icmp .ge 100, 3), (69, .aload_n 0, 1), (70, .getfield 18, 3), (73, .iload_n 2, 1), (74, .iload 4, 2), (76, .ifCond .lt 8, 3), (79, .iload 4, 2), (81, .goto 10, 3), (84, .aload_n 1, 1), (85, .iload 4, 2), (87, .ineg, 1), (88, .invokevirtual 110, 3), (91, .iastore, 1), (92, .iinc 2 1, 3), (95, .goto 71, 3), (98, .iload 4, 2), (100, .bipush (-33), 2), (102, .if_icmp .ne 28, 3), (105, .iload_n 2, 1), (106, .iconst 1, 1), (107, .if_icmp .lt 59, 3), (110, .aload_n 0, 1), (111, .getfield 18, 3), (114, .iload_n 2, 1), (115, .iconst 1, 1), (116, .isub, 1), (117, .aload_n 0, 1), (118, .getfield 18, 3), (121, .iload_n 2, 1), (122, .iconst 1, 1), (123, .isub, 1), (124, .iaload, 1), (125, .ineg, 1), (126, .iastore, 1), (127, .goto 39, 3), (130, .iload_n 2, 1), (131, .iconst 2, 1), (132, .if_icmp .lt 34, 3), (135, .iinc 2 (-1), 3), (138, .aload_n 0, 1), (139, .getfield 18, 3), (142, .iload_n 2, 1), (143, .iconst 1, 1), (144, .isub, 1), (145, .iload 4, 2), (147, .ineg, 1), (148, .aload_n 0, 1), (149, .getfield 18, 3), (152, .iload_n 2, 1), (153, .iconst 1, 1), (154, .isub, 1), (155, .iaload, 1), (156, .aload_n 0, 1), (157, .getfield 18, 3), (160, .iload_n 2, 1), (161, .iaload, 1), (162, .invokestatic 103, 3), (165, .iastore, 1), (166, .iinc 3 1, 3), (169, .goto (-136), 3), (172, .aload_n 0, 1), (173, .getfield 18, 3), (176, .iconst 0, 1), (177, .iaload, 1), (178, .invokestatic 107, 3), (181, .ireturn, 1)]
theorem D78 : Dec (mCod 78) C78 := decB_ok (by decide +kernel)
set_option maxRecDepth 20000 in
def C79 : Cds := [(0, .iload_n 0, 1), (1, .lookupswitch 104 #[(42, 100), (43, 92), (45, 96), (60, 59), (61, 81), (62, 70)], 59), (60, .iload_n 1, 1), (61, .iload_n 2, 1), (62, .if_icmp .ge 7, 3), (65, .iconst 1, 1), (66, .goto 4, 3), (69, .iconst 0, 1), (70, .ireturn, 1), (71, .iload_n 1, 1), (72, .iload_n 2, 1), (73, .if_icmp .le 7, 3), (76, .iconst 1, 1), (77, .goto 4, 3), (80, .iconst 0, 1), (81, .ireturn, 1), (82, .iload_n 1, 1), (83, .iload_n 2, 1), (84, .if_icmp .ne 7, 3), (87, .iconst 1, 1), (88, .goto 4, 3), (91, .iconst 0, 1), (92, .ireturn, 1), (93, .iload_n 1, 1), (94, .iload_n 2, 1), (95, .iadd, 1), (96, .ireturn, 1), (97, .iload_n 1, 1), (98, .iload_n 2, 1), (99, .isub, 1), (100, .ireturn, 1), (101, .iload_n 1, 1), (102, .iload_n 2, 1), (103, .imul, 1), (104, .ireturn, 1), (105, .iload_n 2, 1), (106, .ifCond .ne 7, 3), (109, .iconst 0, 1), (110, .goto 6, 3), (113, .iload_n 1, 1), (114, .iload_n 2, 1), (115, .idiv, 1), (116, .ireturn, 1)]
theorem D79 : Dec (mCod 79) C79 := decB_ok (by decide +kernel)
set_option maxRecDepth 20000 in
def C80 : Cds := [(0, .iconst 0, 1), (1, .sipush 999, 3), (4, .iload_n 0, 1), (5, .invokestatic 113, 3), (8, .invokestatic 119, 3), (11, .ireturn, 1)]
theorem D80 : Dec (mCod 80) C80 := decB_ok (by decide +kernel)
set_option maxRecDepth 20000 in
def C81 : Cds := [(0, .iload_n 1, 1), (1, .tableswitch 122 98 115 #[102, 122, 122, 122, 92, 122, 87, 112, 122, 122, 122, 122, 97, 122, 117, 122, 122, 107], 87), (88, .aload_n 0, 1), (89, .getfield 83, 3), (92, .ireturn, 1), (93, .aload_n 0, 1), (94, .getfield 44, 3), (97, .ireturn, 1), (98, .aload_n 0, 1), (99, .getfield 54, 3), (102, .ireturn, 1), (103, .aload_n 0, 1), (104, .getfield 37, 3), (107, .ireturn, 1), (108, .aload_n 0, 1), (109, .getfield 62, 3), (112, .ireturn, 1), (113, .aload_n 0, 1), (114, .getfield 29, 3), (117, .ireturn, 1), (118, .aload_n 0, 1), (119, .getfield 66, 3), (122, .ireturn, 1), (123, .aload_n 0, 1), (124, .getfield 49, 3), (127, .ireturn, 1)]
theorem D81 : Dec (mCod 81) C81 := decB_ok (by decide +kernel)
set_option maxRecDepth 20000 in
def C82 : Cds := [(0, .iload_n 1, 1), (1, .ifCond .lt 32, 3), (4, .iload_n 1, 1), (5, .bipush 10, 2), (7, .if_icmp .ge 26, 3), (10, .aload_n 0, 1), (11, .getfield 31, 3), (14, .getfield 145, 3), (17, .iload_n 1, 1), (18, .dup2, 1), (19, .iaload, 1), (20, .aload_n 0, 1), (21, .getfield 31, 3), (24, .getfield 145, 3), (27, .iload_n 1, 1), (28, .iaload, 1), (29, .iconst 4, 1), (30, .idiv, 1), (31, .isub, 1), (32, .iastore, 1), (33, .return_, 1)]
theorem D82 : Dec (mCod 82) C82 := decB_ok (by decide +kernel)
set_option maxRecDepth 20000 in
def C83 : Cds := [(0, .aload_n 0, 1), (1, .iconst 0, 1), (2, .putfield 395, 3), (5, .return_, 1)]
theorem D83 : Dec (mCod 83) C83 := decB_ok (by decide +kernel)
set_option maxRecDepth 20000 in
def C84 : Cds := [(0, .aload_n 0, 1), (1, .getfield 395, 3), (4, .bipush 16, 2), (6, .if_icmp .ge 23, 3), (9, .aload_n 0, 1), (10, .getfield 100, 3), (13, .aload_n 0, 1), (14, .getfield 395, 3), (17, .lload_n 1, 1), (18, .lastore, 1), (19, .aload_n 0, 1), (20, .dup, 1), (21, .getfield 395, 3), (24, .iconst 1, 1), (25, .iadd, 1), (26, .putfield 395, 3), (29, .return_, 1)]
theorem D84 : Dec (mCod 84) C84 := decB_ok (by decide +kernel)
set_option maxRecDepth 20000 in
def C85 : Cds := [(0, .aload_n 0, 1), (1, .getfield 51, 3), (4, .invokevirtual 240, 3), (7, .aload_n 0, 1), (8, .getfield 51, 3), (11, .iload_n 1, 1), (12, .invokevirtual 265, 3), (15, .istore_n 2, 1), (16, .iload_n 1, 1), (17, .ifCond .le 12, 3), (20, .aload_n 0, 1), (21, .getfield 51, 3), (24, .iload_n 2, 1), (25, .invokevirtual 246, 3), (28, .pop, 1), (29, .iload_n 2, 1), (30, .ifCond .lt 31, 3), (33, .aload_n 0, 1), (34, .invokevirtual 255, 3), (37, .aload_n 0, 1), (38, .aload_n 0, 1), (39, .getfield 51, 3), (42, .getfield 268, 3), (45, .i2l, 1), (46, .invokevirtual 261, 3), (49, .aload_n 0, 1), (50, .aload_n 0, 1), (51, .getfield 51, 3), (54, .getfield 271, 3), (57, .i2l, 1), (58, .invokevirtual 261, 3), (61, .iload_n 2, 1), (62, .ireturn, 1)]
theorem D85 : Dec (mCod 85) C85 := decB_ok (by decide +kernel)
set_option maxRecDepth 20000 in
def C86 : Cds := [(0, .iload_n 1, 1), (1, .ifCond .lt 9, 3), (4, .iload_n 1, 1), (5, .bipush 99, 2), (7, .if_icmp .le 5, 3), (10, .iconst (-1), 1), (11, .ireturn, 1), (12, .iconst 0, 1), (13, .istore_n 2, 1), (14, .iload_n 2, 1), (15, .iload_n 1, 1), (16, .if_icmp .ge 13, 3), (19, .aload_n 0, 1), (20, .invokevirtual 117, 3), (23, .iinc 2 1, 3), (26, .goto (-12), 3), (29, .aload_n 0, 1), (30, .getfield 65, 3), (33, .ireturn, 1)]
theorem D86 : Dec (mCod 86) C86 := decB_ok (by decide +kernel)
set_option maxRecDepth 20000 in
def C87 : Cds := [(0, .aload_n 0, 1), (1, .getfield 51, 3), (4, .invokevirtual 240, 3), (7, .aload_n 0, 1), (8, .getfield 51, 3), (11, .aload_n 0, 1), (12, .getfield 51, 3), (15, .iload_n 1, 1), (16, .invokevirtual 274, 3), (19, .invokevirtual 246, 3), (22, .ireturn, 1)]
theorem D87 : Dec (mCod 87) C87 := decB_ok (by decide +kernel)
set_option maxRecDepth 20000 in
def C88 : Cds := [(0, .aload_n 0, 1), (1, .getfield 27, 3), (4, .iload_n 1, 1), (5, .invokevirtual 74, 3), (8, .ifCond .ne 5, 3), (11, .iconst (-1), 1), (12, .ireturn, 1), (13, .aload_n 0, 1), (14, .getfield 31, 3), (17, .getfield 127, 3), (20, .iload_n 1, 1), (21, .iconst 1, 1), (22, .aload_n 0, 1), (23, .getfield 31, 3), (26, .getfield 127, 3), (29, .iload_n 1, 1), (30, .iaload, 1), (31, .isub, 1), (32, .iastore, 1), (33, .aload_n 0, 1), (34, .getfield 31, 3), (37, .getfield 127, 3), (40, .iload_n 1, 1), (41, .iaload, 1), (42, .ireturn, 1)]
theorem D88 : Dec (mCod 88) C88 := decB_ok (by decide +kernel)
set_option maxRecDepth 20000 in
def C89 : Cds := [(0, .aload_n 0, 1), (1, .getfield 51, 3), (4, .invokevirtual 240, 3), (7, .aload_n 0, 1), (8, .getfield 51, 3), (11, .aload_n 0, 1), (12, .getfield 51, 3), (15, .iload_n 1, 1), (16, .iload_n 2, 1), (17, .invokevirtual 277, 3), (20, .invokevirtual 246, 3), (23, .ireturn, 1)]
theorem D89 : Dec (mCod 89) C89 := decB_ok (by decide +kernel)
set_option maxRecDepth 20000 in
def C90 : Cds := [(0, .aload_n 0, 1), (1, .getfield 27, 3), (4, .iload_n 1, 1), (5, .invokevirtual 74, 3), (8, .ifCond .eq 19, 3), (11, .aload_n 0, 1), (12, .getfield 27, 3), (15, .iload_n 2, 1), (16, .invokevirtual 74, 3), (19, .ifCond .eq 8, 3), (22, .iload_n 1, 1), (23, .iload_n 2, 1), (24, .if_icmp .ne 5, 3), (27, .iconst (-1), 1), (28, .ireturn, 1), (29, .aload_n 0, 1), (30, .getfield 31, 3), (33, .getfield 80, 3), (36, .iload_n 1, 1), (37, .iaload, 1), (38, .istore_n 3, 1), (39, .aload_n 0, 1), (40, .getfield 27, 3), (43, .iload_n 3, 1), (44, .invokevirtual 83, 3), (47, .ifCond .eq 16, 3), (50, .aload_n 0, 1), (51, .getfield 31, 3), (54, .getfield 80, 3), (57, .iload_n 2, 1), (58, .iaload, 1), (59, .iconst (-1), 1), (60, .if_icmp .eq 6, 3), (63, .bipush (-2), 2), (65, .ireturn, 1), (66, .aload_n 0, 1), (67, .getfield 31, 3), (70, .getfield 89, 3), (73, .iload_n 1, 1), (74, .iaload, 1), (75, .aload_n 0, 1), (76, .getfield 31, 3), (79, .getfield 89, 3), (82, .iload_n 2, 1), (83, .iaload, 1), (84, .if_icmp .eq 6, 3), (87, .bipush (-3), 2), (89, .ireturn, 1), (90, .aload_n 0, 1), (91, .getfield 31, 3), (94, .getfield 80, 3), (97, .iload_n 1, 1), (98, .iconst (-1), 1), (99, .iastore, 1), (100, .aload_n 0, 1), (101, .getfield 31, 3), (104, .getfield 80, 3), (107, .iload_n 2, 1), (108, .iload_n 3, 1), (109, .iastore, 1), (110, .aload_n 0, 1), (111, .getfield 31, 3), (114, .getfield 92, 3), (117, .iload_n 3, 1), (118, .iload_n 2, 1), (119, .iastore, 1), (120, .iload_n 3, 1), (121, .ireturn, 1)]
theorem D90 : Dec (mCod 90) C90 := decB_ok (by decide +kernel)
set_option maxRecDepth 20000 in
def C91 : Cds := [(0, .aload_n 0, 1), (1, .getfield 51, 3), (4, .invokevirtual 240, 3), (7, .aload_n 0, 1), (8, .getfield 51, 3), (11, .aload_n 0, 1), (12, .getfield 51, 3), (15, .iload_n 1, 1), (16, .iload_n 2, 1), (17, .invokevirtual 280, 3), (20, .invokevirtual 246, 3), (23, .ireturn, 1)]
theorem D91 : Dec (mCod 91) C91 := decB_ok (by decide +kernel)
set_option maxRecDepth 20000 in
def C92 : Cds := [(0, .aload_n 0, 1), (1, .getfield 27, 3), (4, .iload_n 1, 1), (5, .invokevirtual 74, 3), (8, .ifCond .eq 13, 3), (11, .iload_n 2, 1), (12, .ifCond .lt 9, 3), (15, .iload_n 2, 1), (16, .bipush 9, 2), (18, .if_icmp .le 5, 3), (21, .iconst (-1), 1), (22, .ireturn, 1), (23, .aload_n 0, 1), (24, .getfield 31, 3), (27, .getfield 175, 3), (30, .iload_n 1, 1), (31, .iaload, 1), (32, .istore_n 3, 1), (33, .aload_n 0, 1), (34, .getfield 31, 3), (37, .getfield 175, 3), (40, .iload_n 1, 1), (41, .iload_n 2, 1), (42, .iastore, 1), (43, .iload_n 3, 1), (44, .ireturn, 1)]
theorem D92 : Dec (mCod 92) C92 := decB_ok (by decide +kernel)
set_option maxRecDepth 20000 in
def C93 : Cds := [(0, .aload_n 0, 1), (1, .getfield 51, 3), (4, .invokevirtual 240, 3), (7, .aload_n 0, 1), (8, .getfield 51, 3), (11, .aload_n 0, 1), (12, .getfield 51, 3), (15, .iload_n 1, 1), (16, .iload_n 2, 1), (17, .invokevirtual 283, 3), (20, .invokevirtual 246, 3), (23, .ireturn, 1)]
theorem D93 : Dec (mCod 93) C93 := decB_ok (by decide +kernel)
set_option maxRecDepth 20000 in
def C94 : Cds := [(0, .aload_n 0, 1), (1, .getfield 27, 3), (4, .iload_n 1, 1), (5, .invokevirtual 178, 3), (8, .ifCond .eq 23, 3), (11, .aload_n 0, 1), (12, .getfield 27, 3), (15, .iload_n 1, 1), (16, .invokevirtual 181, 3), (19, .ifCond .eq 12, 3), (22, .iload_n 2, 1), (23, .ifCond .lt 8, 3), (26, .iload_n 2, 1), (27, .iconst 1, 1), (28, .if_icmp .le 5, 3), (31, .iconst (-1), 1), (32, .ireturn, 1), (33, .aload_n 0, 1), (34, .getfield 31, 3), (37, .aload_n 0, 1), (38, .getfield 31, 3), (41, .getfield 107, 3), (44, .iconst 1, 1), (45, .iload_n 1, 1), (46, .ishl, 1), (47, .iconst (-1), 1), (48, .ixor, 1), (49, .iand, 1), (50, .iload_n 2, 1), (51, .iload_n 1, 1), (52, .ishl, 1), (53, .ior, 1), (54, .putfield 107, 3), (57, .aload_n 0, 1), (58, .getfield 31, 3), (61, .getfield 107, 3), (64, .invokestatic 184, 3), (67, .ireturn, 1)]
theorem D94 : Dec (mCod 94) C94 := decB_ok (by decide +kernel)
end
section
/-! the instructions of the methods (by program) -/
set_option maxRecDepth 20000 in
def C95 : Cds := [(0, .iload_n 0, 1), (1, .iload_n 0, 1), (2, .iconst 1, 1), (3, .iushr, 1), (4, .ldc_w 265, 3), (7, .iand, 1), (8, .isub, 1), (9, .istore_n 0, 1), (10, .iload_n 0, 1), (11, .ldc_w 266, 3), (14, .iand, 1), (15, .iload_n 0, 1), (16, .iconst 2, 1), (17, .iushr, 1), (18, .ldc_w 266, 3), (21, .iand, 1), (22, .iadd, 1), (23, .istore_n 0, 1), (24, .iload_n 0, 1), (25, .iload_n 0, 1), (26, .iconst 4, 1), (27, .iushr, 1), (28, .iadd, 1), (29, .ldc_w 267, 3), (32, .iand, 1), (33, .istore_n 0, 1), (34, .iload_n 0, 1), (35, .iload_n 0, 1), (36, .bipush 8, 2), (38, .iushr, 1), (39, .iadd, 1), (40, .istore_n 0, 1), (41, .iload_n 0, 1), (42, .iload_n 0, 1), (43, .bipush 16, 2), (45, .iushr, 1), (46, .iadd, 1), (47, .istore_n 0, 1), (48, .iload_n 0, 1), (49, .bipush 63, 2), (51, .iand, 1), (52, .ireturn, 1)]
theorem D95 : Dec (mCod 95) C95 := decB_ok (by decide +kernel)
set_option maxRecDepth 20000 in
def C96 : Cds := [(0, .aload_n 0, 1), (1, .getfield 51, 3), (4, .aload_n 0, 1), (5, .getfield 10, 3), (8, .invokevirtual 286, 3), (11, .istore_n 1, 1), (12, .iload_n 1, 1), (13, .ifCond .ge 5, 3), (16, .iload_n 1, 1), (17, .ireturn, 1), (18, .aload_n 0, 1), (19, .getfield 51, 3), (22, .invokevirtual 240, 3), (25, .iconst 0, 1), (26, .istore_n 2, 1), (27, .iload_n 2, 1), (28, .iload_n 1, 1), (29, .if_icmp .ge 20, 3), (32, .aload_n 0, 1), (33, .getfield 51, 3), (36, .iload_n 2, 1), (37, .invokevirtual 287, 3), (40, .ifCond .lt 9, 3), (43, .iinc 2 1, 3), (46, .goto (-19), 3), (49, .iload_n 2, 1), (50, .ifCond .le 12, 3), (53, .aload_n 0, 1), (54, .getfield 51, 3), (57, .iload_n 2, 1), (58, .invokevirtual 246, 3), (61, .pop, 1), (62, .aload_n 0, 1), (63, .invokevirtual 255, 3), (66, .aload_n 0, 1), (67, .iload_n 2, 1), (68, .iload_n 1, 1), (69, .if_icmp .ge 7, 3), (72, .lconst 1, 1), (73, .goto 4, 3), (76, .lconst 0, 1), (77, .invokevirtual 261, 3), (80, .aload_n 0, 1), (81, .aload_n 0, 1), (82, .getfield 51, 3), (85, .getfield 258, 3), (88, .i2l, 1), (89, .invokevirtual 261, 3), (92, .iload_n 2, 1), (93, .ireturn, 1)]
theorem D96 : Dec (mCod 96) C96 := decB_ok (by decide +kernel)
set_option maxRecDepth 20000 in
def C97 : Cds := [(0, .aload_n 1, 1), (1, .bipush 60, 2), (3, .invokevirtual 189, 3), (6, .iconst 0, 1), (7, .istore_n 2, 1), (8, .aload_n 1, 1), (9, .invokevirtual 193, 3), (12, .ifCond .ne 7, 3), (15, .iconst 1, 1), (16, .goto 4, 3), (19, .iconst 0, 1), (20, .istore_n 3, 1), (21, .iload_n 3, 1), (22, .ifCond .eq 28, 3), (25, .iload_n 2, 1), (26, .bipush 30, 2), (28, .if_icmp .ge 22, 3), (31, .aload_n 0, 1), (32, .aload_n 1, 1), (33, .iload_n 2, 1), (34, .invokevirtual 197, 3), (37, .iinc 2 1, 3), (40, .aload_n 1, 1), (41, .bipush 59, 2), (43, .invokevirtual 201, 3), (46, .istore_n 3, 1), (47, .goto (-26), 3), (50, .aload_n 1, 1), (51, .invokevirtual 205, 3), (54, .istore 4, 2), (56, .iload 4, 2), (58, .iconst (-1), 1), (59, .if_icmp .ne 7, 3), (62, .iload_n 2, 1), (63, .goto 7, 3), (66, .iconst (-1), 1), (67, .iload 4, 2), (69, .isub, 1), (70, .ireturn, 1)]
theorem D97 : Dec (mCod 97) C97 := decB_ok (by decide +kernel)
set_option maxRecDepth 20000 in
def C98 : Cds := [(0, .iload_n 2, 1), (1, .ifCond .lt 9, 3), (4, .iload_n 2, 1), (5, .bipush 30, 2), (7, .if_icmp .lt 4, 3), (10, .return_, 1), (11, .aload_n 1, 1), (12, .invokevirtual 209, 3), (15, .istore_n 3, 1), (16, .iload_n 3, 1), (17, .invokestatic 212, 3), (20, .ifCond .ne 8, 3), (23, .aload_n 1, 1), (24, .invokevirtual 215, 3), (27, .return_, 1), (28, .aload_n 1, 1), (29, .invokevirtual 218, 3), (32, .aload_n 0, 1), (33, .getfield 17, 3), (36, .iload_n 2, 1), (37, .iload_n 3, 1), (38, .iastore, 1), (39, .aload_n 0, 1), (40, .getfield 21, 3), (43, .iload_n 2, 1), (44, .iconst 0, 1), (45, .iastore, 1), (46, .aload_n 0, 1), (47, .getfield 24, 3), (50, .iload_n 2, 1), (51, .iconst 0, 1), (52, .iastore, 1), (53, .iload_n 3, 1), (54, .lookupswitch 114 #[(99, 75), (100, 75), (103, 50), (116, 50), (119, 89)], 50), (104, .aload_n 0, 1), (105, .getfield 21, 3), (108, .iload_n 2, 1), (109, .aload_n 1, 1), (110, .iconst 0, 1), (111, .invokevirtual 221, 3), (114, .iastore, 1), (115, .aload_n 0, 1), (116, .getfield 24, 3), (119, .iload_n 2, 1), (120, .aload_n 1, 1), (121, .iconst 0, 1), (122, .invokevirtual 221, 3), (125, .iastore, 1), (126, .goto 53, 3), (129, .aload_n 0, 1), (130, .getfield 21, 3), (133, .iload_n 2, 1), (134, .aload_n 1, 1), (135, .iconst 0, 1), (136, .invokevirtual 221, 3), (139, .iastore, 1), (140, .goto 39, 3), (143, .aload_n 0, 1), (144, .getfield 21, 3), (147, .iload_n 2, 1), (148, .aload_n 1, 1), (149, .iconst 0, 1), (150, .invokevirtual 221, 3), (153, .iastore, 1), (154, .aload_n 0, 1), (155, .getfield 24, 3), (158, .iload_n 2, 1), (159, .aload_n 1, 1), (160, .iconst 2, 1), (161, .invokevirtual 224, 3), (164, .iastore, 1), (165, .goto 14, 3), (168, .aload_n 0, 1), (169, .getfield 21, 3), (172, .iload_n 2, 1), (173, .aload_n 1, 1), (174, .iconst 2, 1), (175, .invokevirtual 224, 3), (178, .iastore, 1), (179, .return_, 1)]
theorem D98 : Dec (mCod 98) C98 := decB_ok (by decide +kernel)
set_option maxRecDepth 20000 in
def C99 : Cds := [(0, .iload_n 0, 1), (1, .tableswitch 101 99 119 #[99, 99, 101, 101, 99, 101, 101, 101, 101, 101, 101, 101, 99, 101, 101, 101, 99, 99, 101, 101, 99], 99), (100, .iconst 1, 1), (101, .ireturn, 1), (102, .iconst 0, 1), (103, .ireturn, 1)]
theorem D99 : Dec (mCod 99) C99 := decB_ok (by decide +kernel)
set_option maxRecDepth 20000 in
def C100 : Cds := [(0, .iload_n 1, 1), (1, .ifCond .lt 9, 3), (4, .iload_n 1, 1), (5, .bipush 30, 2), (7, .if_icmp .lt 5, 3), (10, .iconst (-1), 1), (11, .ireturn, 1), (12, .aload_n 0, 1), (13, .getfield 17, 3), (16, .iload_n 1, 1), (17, .iaload, 1), (18, .lookupswitch 142 #[(99, 114), (100, 75), (103, 125), (115, 103), (116, 58), (119, 86)], 58), (76, .aload_n 0, 1), (77, .aload_n 0, 1), (78, .getfield 21, 3), (81, .iload_n 1, 1), (82, .iaload, 1), (83, .aload_n 0, 1), (84, .getfield 24, 3), (87, .iload_n 1, 1), (88, .iaload, 1), (89, .invokevirtual 227, 3), (92, .ireturn, 1), (93, .aload_n 0, 1), (94, .aload_n 0, 1), (95, .getfield 21, 3), (98, .iload_n 1, 1), (99, .iaload, 1), (100, .invokevirtual 230, 3), (103, .ireturn, 1), (104, .aload_n 0, 1), (105, .aload_n 0, 1), (106, .getfield 21, 3), (109, .iload_n 1, 1), (110, .iaload, 1), (111, .aload_n 0, 1), (112, .getfield 24, 3), (115, .iload_n 1, 1), (116, .iaload, 1), (117, .invokevirtual 233, 3), (120, .ireturn, 1), (121, .aload_n 0, 1), (122, .aload_n 0, 1), (123, .getfield 21, 3), (126, .iload_n 1, 1), (127, .iaload, 1), (128, .invokevirtual 236, 3), (131, .ireturn, 1), (132, .aload_n 0, 1), (133, .aload_n 0, 1), (134, .getfield 21, 3), (137, .iload_n 1, 1), (138, .iaload, 1), (139, .invokevirtual 239, 3), (142, .ireturn, 1), (143, .aload_n 0, 1), (144, .aload_n 0, 1), (145, .getfield 21, 3), (148, .iload_n 1, 1), (149, .iaload, 1), (150, .aload_n 0, 1), (151, .getfield 24, 3), (154, .iload_n 1, 1), (155, .iaload, 1), (156, .invokevirtual 242, 3), (159, .ireturn, 1), (160, .aload_n 0, 1), (161, .aload_n 0, 1), (162, .getfield 21, 3), (165, .iload_n 1, 1), (166, .iaload, 1), (167, .iconst 1, 1), (168, .invokevirtual 245, 3), (171, .ireturn, 1)]
theorem D100 : Dec (mCod 100) C100 := decB_ok (by decide +kernel)
set_option maxRecDepth 20000 in
def C101 : Cds := [(0, .aload_n 0, 1), (1, .getfield 51, 3), (4, .invokevirtual 290, 3), (7, .ireturn, 1)]
theorem D101 : Dec (mCod 101) C101 := decB_ok (by decide +kernel)
set_option maxRecDepth 20000 in
def C102 : Cds := [(0, .aload_n 0, 1), (1, .getfield 54, 3), (4, .ifCond .ne 5, 3), (7, .iconst (-1), 1), (8, .ireturn, 1), (9, .aload_n 0, 1), (10, .dup, 1), (11, .getfield 54, 3), (14, .iconst 1, 1), (15, .isub, 1), (16, .putfield 54, 3), (19, .aload_n 0, 1), (20, .getfield 31, 3), (23, .aload_n 0, 1), (24, .getfield 11, 3), (27, .aload_n 0, 1), (28, .aload_n 0, 1), (29, .getfield 54, 3), (32, .invokevirtual 57, 3), (35, .aaload, 1), (36, .invokevirtual 61, 3), (39, .aload_n 0, 1), (40, .getfield 54, 3), (43, .ireturn, 1)]
theorem D102 : Dec (mCod 102) C102 := decB_ok (by decide +kernel)
set_option maxRecDepth 20000 in
def C103 : Cds := [(0, .aload_n 0, 1), (1, .iload_n 1, 1), (2, .invokevirtual 294, 3), (5, .ifCond .ne 5, 3), (8, .iconst (-1), 1), (9, .ireturn, 1), (10, .aload_n 0, 1), (11, .getfield 42, 3), (14, .iload_n 1, 1), (15, .aload_n 0, 1), (16, .getfield 33, 3), (19, .getfield 209, 3), (22, .iload_n 1, 1), (23, .iaload, 1), (24, .invokevirtual 218, 3), (27, .pop, 1), (28, .aload_n 0, 1), (29, .getfield 42, 3), (32, .sipush 300, 3), (35, .iconst 0, 1), (36, .invokevirtual 297, 3), (39, .istore_n 2, 1), (40, .aload_n 0, 1), (41, .invokevirtual 255, 3), (44, .aload_n 0, 1), (45, .iload_n 2, 1), (46, .iconst (-1), 1), (47, .if_icmp .ne 14, 3), (50, .aload_n 0, 1), (51, .getfield 42, 3), (54, .getfield 300, 3), (57, .i2l, 1), (58, .goto 11, 3), (61, .aload_n 0, 1), (62, .getfield 42, 3), (65, .getfield 302, 3), (68, .i2l, 1), (69, .invokevirtual 261, 3), (72, .iload_n 2, 1), (73, .iconst (-1), 1), (74, .if_icmp .ne 8, 3), (77, .bipush (-2), 2), (79, .goto 4, 3), (82, .iload_n 2, 1), (83, .ireturn, 1)]
theorem D103 : Dec (mCod 103) C103 := decB_ok (by decide +kernel)
set_option maxRecDepth 20000 in
def C104 : Cds := [(0, .aload_n 0, 1), (1, .getfield 26, 3), (4, .iload_n 1, 1), (5, .invokevirtual 191, 3), (8, .ifCond .eq 20, 3), (11, .aload_n 0, 1), (12, .getfield 33, 3), (15, .getfield 209, 3), (18, .iload_n 1, 1), (19, .iaload, 1), (20, .iconst (-1), 1), (21, .if_icmp .eq 7, 3), (24, .iconst 1, 1), (25, .goto 4, 3), (28, .iconst 0, 1), (29, .ireturn, 1)]
theorem D104 : Dec (mCod 104) C104 := decB_ok (by decide +kernel)
set_option maxRecDepth 20000 in
def C105 : Cds := [(0, .iconst 1, 1), (1, .istore_n 3, 1), (2, .iload_n 3, 1), (3, .iload_n 1, 1), (4, .if_icmp .gt 32, 3), (7, .iload_n 2, 1), (8, .ifCond .le 13, 3), (11, .iload_n 3, 1), (12, .iload_n 2, 1), (13, .irem, 1), (14, .ifCond .ne 7, 3), (17, .aload_n 0, 1), (18, .invokevirtual 104, 3), (21, .aload_n 0, 1), (22, .invokevirtual 100, 3), (25, .ifCond .ne 5, 3), (28, .iload_n 3, 1), (29, .ireturn, 1), (30, .iinc 3 1, 3), (33, .goto (-31), 3), (36, .iconst (-1), 1), (37, .ireturn, 1)]
theorem D105 : Dec (mCod 105) C105 := decB_ok (by decide +kernel)
set_option maxRecDepth 20000 in
def C106 : Cds := [(0, .aload_n 0, 1), (1, .getfield 54, 3), (4, .istore_n 1, 1), (5, .aload_n 0, 1), (6, .aload_n 0, 1), (7, .getfield 56, 3), (10, .putfield 54, 3), (13, .aload_n 0, 1), (14, .iload_n 1, 1), (15, .putfield 56, 3), (18, .aload_n 0, 1), (19, .iconst 1, 1), (20, .aload_n 0, 1), (21, .getfield 49, 3), (24, .isub, 1), (25, .putfield 49, 3), (28, .return_, 1)]
theorem D106 : Dec (mCod 106) C106 := decB_ok (by decide +kernel)
set_option maxRecDepth 20000 in
def C107 : Cds := [(0, .sipush 9999, 3), (3, .aload_n 0, 1), (4, .getfield 54, 3), (7, .aload_n 0, 1), (8, .getfield 19, 3), (11, .aload_n 0, 1), (12, .invokevirtual 91, 3), (15, .iadd, 1), (16, .invokestatic 97, 3), (19, .istore_n 1, 1), (20, .iload_n 1, 1), (21, .aload_n 0, 1), (22, .getfield 37, 3), (25, .if_icmp .le 5, 3), (28, .iconst 0, 1), (29, .ireturn, 1), (30, .aload_n 0, 1), (31, .iload_n 1, 1), (32, .putfield 54, 3), (35, .aload_n 0, 1), (36, .dup, 1), (37, .getfield 56, 3), (40, .aload_n 0, 1), (41, .getfield 56, 3), (44, .iconst 4, 1), (45, .idiv, 1), (46, .isub, 1), (47, .putfield 56, 3), (50, .aload_n 0, 1), (51, .iconst 0, 1), (52, .aload_n 0, 1), (53, .getfield 83, 3), (56, .aload_n 0, 1), (57, .getfield 72, 3), (60, .isub, 1), (61, .invokestatic 77, 3), (64, .putfield 83, 3), (67, .aload_n 0, 1), (68, .dup, 1), (69, .getfield 62, 3), (72, .iconst 1, 1), (73, .iadd, 1), (74, .putfield 62, 3), (77, .iconst 1, 1), (78, .ireturn, 1)]
theorem D107 : Dec (mCod 107) C107 := decB_ok (by decide +kernel)
set_option maxRecDepth 20000 in
def C108 : Cds := [(0, .aload_n 0, 1), (1, .iload_n 1, 1), (2, .invokevirtual 294, 3), (5, .ifCond .eq 14, 3), (8, .iload_n 2, 1), (9, .iconst 1, 1), (10, .if_icmp .lt 9, 3), (13, .iload_n 2, 1), (14, .bipush 99, 2), (16, .if_icmp .le 5, 3), (19, .iconst (-1), 1), (20, .ireturn, 1), (21, .aload_n 0, 1), (22, .getfield 42, 3), (25, .iload_n 1, 1), (26, .aload_n 0, 1), (27, .getfield 33, 3), (30, .getfield 209, 3), (33, .iload_n 1, 1), (34, .iaload, 1), (35, .invokevirtual 218, 3), (38, .pop, 1), (39, .aload_n 0, 1), (40, .getfield 42, 3), (43, .sipush 300, 3), (46, .iload_n 2, 1), (47, .invokevirtual 297, 3), (50, .istore_n 3, 1), (51, .aload_n 0, 1), (52, .invokevirtual 255, 3), (55, .aload_n 0, 1), (56, .iload_n 3, 1), (57, .iconst (-1), 1), (58, .if_icmp .ne 9, 3), (61, .sipush 300, 3), (64, .goto 4, 3), (67, .iload_n 3, 1), (68, .iload_n 2, 1), (69, .idiv, 1), (70, .i2l, 1), (71, .invokevirtual 261, 3), (74, .iload_n 3, 1), (75, .iconst (-1), 1), (76, .if_icmp .ne 8, 3), (79, .bipush (-2), 2), (81, .goto 4, 3), (84, .iload_n 3, 1), (85, .ireturn, 1)]
theorem D108 : Dec (mCod 108) C108 := decB_ok (by decide +kernel)
set_option maxRecDepth 20000 in
def C109 : Cds := [(0, .aload_n 0, 1), (1, .iload_n 1, 1), (2, .invokevirtual 294, 3), (5, .ifCond .ne 5, 3), (8, .iconst (-1), 1), (9, .ireturn, 1), (10, .iconst (-1), 1), (11, .istore_n 2, 1), (12, .iconst 0, 1), (13, .istore_n 3, 1), (14, .bipush 99, 2), (16, .istore 4, 2), (18, .iload 4, 2), (20, .iconst 1, 1), (21, .if_icmp .lt 64, 3), (24, .iload_n 3, 1), (25, .iconst (-1), 1), (26, .if_icmp .eq 59, 3), (29, .aload_n 0, 1), (30, .getfield 42, 3), (33, .iload_n 1, 1), (34, .aload_n 0, 1), (35, .getfield 33, 3), (38, .getfield 209, 3), (41, .iload_n 1, 1), (42, .iaload, 1), (43, .invokevirtual 218, 3), (46, .pop, 1), (47, .aload_n 0, 1), (48, .getfield 42, 3), (51, .sipush 300, 3), (54, .iload 4, 2), (56, .invokevirtual 297, 3), (59, .istore 5, 2), (61, .iload 5, 2), (63, .iconst (-1), 1), (64, .if_icmp .eq 9, 3), (67, .iload 5, 2), (69, .iload_n 3, 1), (70, .if_icmp .lt 9, 3), (73, .iload 4, 2), (75, .istore_n 2, 1), (76, .iload 5, 2), (78, .istore_n 3, 1), (79, .iinc 4 (-1), 3), (82, .goto (-64), 3), (85, .aload_n 0, 1), (86, .invokevirtual 255, 3), (89, .aload_n 0, 1), (90, .iload_n 3, 1), (91, .i2l, 1), (92, .invokevirtual 261, 3), (95, .iload_n 2, 1), (96, .ireturn, 1)]
theorem D109 : Dec (mCod 109) C109 := decB_ok (by decide +kernel)
set_option maxRecDepth 20000 in
def C110 : Cds := [(0, .aload_n 0, 1), (1, .iload_n 1, 1), (2, .iload_n 2, 1), (3, .iload_n 3, 1), (4, .invokevirtual 304, 3), (7, .ifCond .ne 5, 3), (10, .iconst (-1), 1), (11, .ireturn, 1), (12, .iconst 0, 1), (13, .istore 4, 2), (15, .iload 4, 2), (17, .bipush 9, 2), (19, .if_icmp .gt 59, 3), (22, .aload_n 0, 1), (23, .getfield 42, 3), (26, .iload_n 1, 1), (27, .iload_n 2, 1), (28, .invokevirtual 218, 3), (31, .pop, 1), (32, .aload_n 0, 1), (33, .getfield 42, 3), (36, .iload 4, 2), (38, .putfield 308, 3), (41, .aload_n 0, 1), (42, .getfield 42, 3), (45, .iload_n 3, 1), (46, .invokevirtual 310, 3), (49, .iload_n 3, 1), (50, .if_icmp .ne 22, 3), (53, .aload_n 0, 1), (54, .invokevirtual 255, 3), (57, .aload_n 0, 1), (58, .aload_n 0, 1), (59, .getfield 42, 3), (62, .getfield 300, 3), (65, .i2l, 1), (66, .invokevirtual 261, 3), (69, .iload 4, 2), (71, .ireturn, 1), (72, .iinc 4 1, 3), (75, .goto (-60), 3), (78, .bipush (-2), 2), (80, .ireturn, 1)]
theorem D110 : Dec (mCod 110) C110 := decB_ok (by decide +kernel)
set_option maxRecDepth 20000 in
def C111 : Cds := [(0, .aload_n 0, 1), (1, .getfield 26, 3), (4, .iload_n 1, 1), (5, .invokevirtual 191, 3), (8, .ifCond .eq 40, 3), (11, .aload_n 0, 1), (12, .getfield 26, 3), (15, .iload_n 2, 1), (16, .invokevirtual 173, 3), (19, .ifCond .eq 29, 3), (22, .aload_n 0, 1), (23, .getfield 33, 3), (26, .iload_n 2, 1), (27, .invokevirtual 226, 3), (30, .ifCond .ne 18, 3), (33, .iload_n 3, 1), (34, .iconst 1, 1), (35, .if_icmp .lt 13, 3), (38, .iload_n 3, 1), (39, .bipush 99, 2), (41, .if_icmp .gt 7, 3), (44, .iconst 1, 1), (45, .goto 4, 3), (48, .iconst 0, 1), (49, .ireturn, 1)]
theorem D111 : Dec (mCod 111) C111 := decB_ok (by decide +kernel)
set_option maxRecDepth 20000 in
def C112 : Cds := [(0, .iconst 0, 1), (1, .istore_n 2, 1), (2, .iload_n 2, 1), (3, .iload_n 1, 1), (4, .if_icmp .ge 16, 3), (7, .aload_n 0, 1), (8, .invokevirtual 100, 3), (11, .ifCond .eq 9, 3), (14, .iinc 2 1, 3), (17, .goto (-15), 3), (20, .iload_n 2, 1), (21, .ireturn, 1)]
theorem D112 : Dec (mCod 112) C112 := decB_ok (by decide +kernel)
set_option maxRecDepth 20000 in
def C113 : Cds := [(0, .aload_n 0, 1), (1, .iload_n 1, 1), (2, .iload_n 2, 1), (3, .iload_n 3, 1), (4, .invokevirtual 304, 3), (7, .ifCond .ne 5, 3), (10, .iconst (-1), 1), (11, .ireturn, 1), (12, .iconst 0, 1), (13, .istore 4, 2), (15, .iload 4, 2), (17, .sipush 999, 3), (20, .if_icmp .gt 55, 3), (23, .aload_n 0, 1), (24, .getfield 42, 3), (27, .iload_n 1, 1), (28, .iload_n 2, 1), (29, .invokevirtual 218, 3), (32, .pop, 1), (33, .aload_n 0, 1), (34, .getfield 42, 3), (37, .iload 4, 2), (39, .putfield 302, 3), (42, .aload_n 0, 1), (43, .getfield 42, 3), (46, .iload_n 3, 1), (47, .invokevirtual 310, 3), (50, .iload_n 3, 1), (51, .if_icmp .ge 18, 3), (54, .iload 4, 2), (56, .ifCond .ne 8, 3), (59, .bipush (-2), 2), (61, .goto 7, 3), (64, .iload 4, 2), (66, .iconst 1, 1), (67, .isub, 1), (68, .ireturn, 1), (69, .iinc 4 1, 3), (72, .goto (-57), 3), (75, .sipush 999, 3), (78, .ireturn, 1)]
theorem D113 : Dec (mCod 113) C113 := decB_ok (by decide +kernel)
set_option maxRecDepth 20000 in
def C114 : Cds := [(0, .aload_n 0, 1), (1, .getfield 26, 3), (4, .iload_n 1, 1), (5, .invokevirtual 129, 3), (8, .ifCond .eq 14, 3), (11, .aload_n 0, 1), (12, .getfield 26, 3), (15, .iload_n 2, 1), (16, .invokevirtual 129, 3), (19, .ifCond .ne 5, 3), (22, .iconst (-1), 1), (23, .ireturn, 1), (24, .aload_n 0, 1), (25, .getfield 60, 3), (28, .iload_n 1, 1), (29, .iload_n 2, 1), (30, .invokevirtual 313, 3), (33, .ifCond .ne 6, 3), (36, .bipush (-2), 2), (38, .ireturn, 1), (39, .aload_n 0, 1), (40, .invokevirtual 255, 3), (43, .iconst 0, 1), (44, .istore_n 3, 1), (45, .iload_n 3, 1), (46, .aload_n 0, 1), (47, .getfield 60, 3), (50, .getfield 316, 3), (53, .if_icmp .ge 23, 3), (56, .aload_n 0, 1), (57, .aload_n 0, 1), (58, .getfield 60, 3), (61, .getfield 319, 3), (64, .iload_n 3, 1), (65, .iaload, 1), (66, .i2l, 1), (67, .invokevirtual 261, 3), (70, .iinc 3 1, 3), (73, .goto (-28), 3), (76, .aload_n 0, 1), (77, .getfield 60, 3), (80, .getfield 322, 3), (83, .ireturn, 1)]
theorem D114 : Dec (mCod 114) C114 := decB_ok (by decide +kernel)
set_option maxRecDepth 20000 in
def C115 : Cds := [(0, .iconst 0, 1), (1, .istore_n 3, 1), (2, .iload_n 3, 1), (3, .aload_n 0, 1), (4, .getfield 24, 3), (7, .getfield 32, 3), (10, .if_icmp .ge 46, 3), (13, .aload_n 0, 1), (14, .getfield 11, 3), (17, .iload_n 3, 1), (18, .aload_n 0, 1), (19, .getfield 24, 3), (22, .iload_n 3, 1), (23, .aload_n 0, 1), (24, .getfield 28, 3), (27, .getfield 38, 3), (30, .invokevirtual 43, 3), (33, .ifCond .eq 15, 3), (36, .aload_n 0, 1), (37, .getfield 24, 3), (40, .getfield 47, 3), (43, .iload_n 3, 1), (44, .iaload, 1), (45, .goto 4, 3), (48, .iconst (-1), 1), (49, .iastore, 1), (50, .iinc 3 1, 3), (53, .goto (-51), 3), (56, .aload_n 0, 1), (57, .iconst 0, 1), (58, .putfield 50, 3), (61, .aload_n 0, 1), (62, .iload_n 1, 1), (63, .iload_n 2, 1), (64, .invokevirtual 53, 3), (67, .ifCond .ne 5, 3), (70, .iconst 0, 1), (71, .ireturn, 1), (72, .aload_n 0, 1), (73, .aload_n 0, 1), (74, .getfield 15, 3), (77, .iload_n 1, 1), (78, .iaload, 1), (79, .putfield 56, 3), (82, .aload_n 0, 1), (83, .iload_n 1, 1), (84, .iload_n 2, 1), (85, .invokevirtual 58, 3), (88, .iconst 1, 1), (89, .ireturn, 1)]
theorem D115 : Dec (mCod 115) C115 := decB_ok (by decide +kernel)
set_option maxRecDepth 20000 in
def C116 : Cds := [(0, .aload_n 0, 1), (1, .getfield 24, 3), (4, .iload_n 1, 1), (5, .invokevirtual 66, 3), (8, .ifCond .eq 14, 3), (11, .aload_n 0, 1), (12, .getfield 24, 3), (15, .iload_n 2, 1), (16, .invokevirtual 66, 3), (19, .ifCond .ne 5, 3), (22, .iconst 0, 1), (23, .ireturn, 1), (24, .iconst 0, 1), (25, .istore_n 3, 1), (26, .iload_n 3, 1), (27, .bipush 10, 2), (29, .if_icmp .ge 17, 3), (32, .aload_n 0, 1), (33, .getfield 15, 3), (36, .iload_n 3, 1), (37, .ldc 70, 2), (39, .iastore, 1), (40, .iinc 3 1, 3), (43, .goto (-17), 3), (46, .aload_n 0, 1), (47, .getfield 15, 3), (50, .iload_n 2, 1), (51, .iconst 0, 1), (52, .iastore, 1), (53, .iconst 1, 1), (54, .istore_n 3, 1), (55, .iload_n 3, 1), (56, .aload_n 0, 1), (57, .getfield 24, 3), (60, .getfield 71, 3), (63, .if_icmp .ge 82, 3), (66, .iconst 0, 1), (67, .istore 4, 2), (69, .iload 4, 2), (71, .aload_n 0, 1), (72, .getfield 24, 3), (75, .getfield 32, 3), (78, .if_icmp .ge 61, 3), (81, .aload_n 0, 1), (82, .iload 4, 2), (84, .aload_n 0, 1), (85, .getfield 24, 3), (88, .getfield 73, 3), (91, .iload 4, 2), (93, .iaload, 1), (94, .aload_n 0, 1), (95, .getfield 24, 3), (98, .getfield 76, 3), (101, .iload 4, 2), (103, .iaload, 1), (104, .invokevirtual 79, 3), (107, .aload_n 0, 1), (108, .iload 4, 2), (110, .aload_n 0, 1), (111, .getfield 24, 3), (114, .getfield 76, 3), (117, .iload 4, 2), (119, .iaload, 1), (120, .aload_n 0, 1), (121, .getfield 24, 3), (124, .getfield 73, 3), (127, .iload 4, 2), (129, .iaload, 1), (130, .invokevirtual 79, 3), (133, .iinc 4 1, 3), (136, .goto (-67), 3), (139, .iinc 3 1, 3), (142, .goto (-87), 3), (145, .aload_n 0, 1), (146, .getfield 15, 3), (149, .iload_n 1, 1), (150, .iaload, 1), (151, .ldc 70, 2), (153, .if_icmp .ge 7, 3), (156, .iconst 1, 1), (157, .goto 4, 3), (160, .iconst 0, 1), (161, .ireturn, 1)]
theorem D116 : Dec (mCod 116) C116 := decB_ok (by decide +kernel)
set_option maxRecDepth 20000 in
def C117 : Cds := [(0, .aload_n 0, 1), (1, .getfield 11, 3), (4, .iload_n 1, 1), (5, .iaload, 1), (6, .iconst (-1), 1), (7, .if_icmp .eq 55, 3), (10, .aload_n 0, 1), (11, .getfield 15, 3), (14, .iload_n 3, 1), (15, .iaload, 1), (16, .ldc 70, 2), (18, .if_icmp .ge 44, 3), (21, .aload_n 0, 1), (22, .getfield 15, 3), (25, .iload_n 3, 1), (26, .iaload, 1), (27, .aload_n 0, 1), (28, .getfield 11, 3), (31, .iload_n 1, 1), (32, .iaload, 1), (33, .iadd, 1), (34, .aload_n 0, 1), (35, .getfield 15, 3), (38, .iload_n 2, 1), (39, .iaload, 1), (40, .if_icmp .ge 22, 3), (43, .aload_n 0, 1), (44, .getfield 15, 3), (47, .iload_n 2, 1), (48, .aload_n 0, 1), (49, .getfield 15, 3), (52, .iload_n 3, 1), (53, .iaload, 1), (54, .aload_n 0, 1), (55, .getfield 11, 3), (58, .iload_n 1, 1), (59, .iaload, 1), (60, .iadd, 1), (61, .iastore, 1), (62, .return_, 1)]
theorem D117 : Dec (mCod 117) C117 := decB_ok (by decide +kernel)
set_option maxRecDepth 20000 in
def C118 : Cds := [(0, .iload_n 1, 1), (1, .istore_n 3, 1), (2, .aload_n 0, 1), (3, .getfield 18, 3), (6, .iconst 0, 1), (7, .iload_n 1, 1), (8, .iastore, 1), (9, .aload_n 0, 1), (10, .iconst 1, 1), (11, .putfield 50, 3), (14, .iload_n 3, 1), (15, .iload_n 2, 1), (16, .if_icmp .eq 78, 3), (19, .aload_n 0, 1), (20, .getfield 50, 3), (23, .bipush 10, 2), (25, .if_icmp .ge 69, 3), (28, .aload_n 0, 1), (29, .iload_n 3, 1), (30, .invokevirtual 83, 3), (33, .istore 4, 2), (35, .iload 4, 2), (37, .iconst (-1), 1), (38, .if_icmp .ne 4, 3), (41, .return_, 1), (42, .aload_n 0, 1), (43, .getfield 21, 3), (46, .aload_n 0, 1), (47, .getfield 50, 3), (50, .iconst 1, 1), (51, .isub, 1), (52, .aload_n 0, 1), (53, .getfield 15, 3), (56, .iload_n 3, 1), (57, .iaload, 1), (58, .aload_n 0, 1), (59, .getfield 15, 3), (62, .iload 4, 2), (64, .iaload, 1), (65, .isub, 1), (66, .iastore, 1), (67, .aload_n 0, 1), (68, .getfield 18, 3), (71, .aload_n 0, 1), (72, .getfield 50, 3), (75, .iload 4, 2), (77, .iastore, 1), (78, .aload_n 0, 1), (79, .dup, 1), (80, .getfield 50, 3), (83, .iconst 1, 1), (84, .iadd, 1), (85, .putfield 50, 3), (88, .iload 4, 2), (90, .istore_n 3, 1), (91, .goto (-77), 3), (94, .return_, 1)]
theorem D118 : Dec (mCod 118) C118 := decB_ok (by decide +kernel)
set_option maxRecDepth 20000 in
def C119 : Cds := [(0, .iconst (-1), 1), (1, .istore_n 2, 1), (2, .iconst 0, 1), (3, .istore_n 3, 1), (4, .iload_n 3, 1), (5, .aload_n 0, 1), (6, .getfield 24, 3), (9, .getfield 32, 3), (12, .if_icmp .ge 85, 3), (15, .aload_n 0, 1), (16, .getfield 24, 3), (19, .iload_n 3, 1), (20, .iload_n 1, 1), (21, .invokevirtual 87, 3), (24, .istore 4, 2), (26, .iload 4, 2), (28, .iconst (-1), 1), (29, .if_icmp .eq 40, 3), (32, .aload_n 0, 1), (33, .getfield 11, 3), (36, .iload_n 3, 1), (37, .iaload, 1), (38, .iconst (-1), 1), (39, .if_icmp .eq 30, 3), (42, .aload_n 0, 1), (43, .getfield 15, 3), (46, .iload 4, 2), (48, .iaload, 1), (49, .aload_n 0, 1), (50, .getfield 11, 3), (53, .iload_n 3, 1), (54, .iaload, 1), (55, .iadd, 1), (56, .aload_n 0, 1), (57, .getfield 15, 3), (60, .iload_n 1, 1), (61, .iaload, 1), (62, .if_icmp .ne 7, 3), (65, .iconst 1, 1), (66, .goto 4, 3), (69, .iconst 0, 1), (70, .istore 5, 2), (72, .iload 5, 2), (74, .ifCond .eq 17, 3), (77, .iload_n 2, 1), (78, .iconst (-1), 1), (79, .if_icmp .eq 9, 3), (82, .iload 4, 2), (84, .iload_n 2, 1), (85, .if_icmp .ge 6, 3), (88, .iload 4, 2), (90, .istore_n 2, 1), (91, .iinc 3 1, 3), (94, .goto (-90), 3), (97, .iload_n 2, 1), (98, .ireturn, 1)]
theorem D119 : Dec (mCod 119) C119 := decB_ok (by decide +kernel)
set_option maxRecDepth 20000 in
def C120 : Cds := [(0, .aload_n 0, 1), (1, .getfield 26, 3), (4, .iload_n 1, 1), (5, .invokevirtual 129, 3), (8, .ifCond .eq 14, 3), (11, .aload_n 0, 1), (12, .getfield 26, 3), (15, .iload_n 2, 1), (16, .invokevirtual 129, 3), (19, .ifCond .ne 5, 3), (22, .iconst (-1), 1), (23, .ireturn, 1), (24, .aload_n 0, 1), (25, .getfield 60, 3), (28, .iload_n 1, 1), (29, .iload_n 2, 1), (30, .invokevirtual 324, 3), (33, .ifCond .ne 6, 3), (36, .bipush (-2), 2), (38, .ireturn, 1), (39, .aload_n 0, 1), (40, .invokevirtual 255, 3), (43, .aload_n 0, 1), (44, .aload_n 0, 1), (45, .getfield 60, 3), (48, .getfield 327, 3), (51, .i2l, 1), (52, .invokevirtual 261, 3), (55, .aload_n 0, 1), (56, .aload_n 0, 1), (57, .getfield 60, 3), (60, .getfield 322, 3), (63, .i2l, 1), (64, .invokevirtual 261, 3), (67, .aload_n 0, 1), (68, .getfield 60, 3), (71, .getfield 327, 3), (74, .invokestatic 330, 3), (77, .ireturn, 1)]
theorem D120 : Dec (mCod 120) C120 := decB_ok (by decide +kernel)
set_option maxRecDepth 20000 in
def C121 : Cds := [(0, .iconst 0, 1), (1, .istore_n 3, 1), (2, .iload_n 3, 1), (3, .aload_n 0, 1), (4, .getfield 24, 3), (7, .getfield 32, 3), (10, .if_icmp .ge 61, 3), (13, .aload_n 0, 1), (14, .getfield 24, 3), (17, .iload_n 3, 1), (18, .aload_n 0, 1), (19, .getfield 28, 3), (22, .getfield 38, 3), (25, .invokevirtual 43, 3), (28, .ifCond .eq 7, 3), (31, .iconst 0, 1), (32, .goto 10, 3), (35, .sipush 16384, 3), (38, .iconst 1, 1), (39, .iload_n 3, 1), (40, .ishl, 1), (41, .iadd, 1), (42, .istore 4, 2), (44, .aload_n 0, 1), (45, .getfield 11, 3), (48, .iload_n 3, 1), (49, .aload_n 0, 1), (50, .getfield 24, 3), (53, .getfield 47, 3), (56, .iload_n 3, 1), (57, .iaload, 1), (58, .ldc 62, 2), (60, .imul, 1), (61, .iload 4, 2), (63, .iadd, 1), (64, .iastore, 1), (65, .iinc 3 1, 3), (68, .goto (-66), 3), (71, .aload_n 0, 1), (72, .iload_n 1, 1), (73, .iload_n 2, 1), (74, .invokevirtual 53, 3), (77, .ifCond .ne 5, 3), (80, .iconst 0, 1), (81, .ireturn, 1), (82, .aload_n 0, 1), (83, .aload_n 0, 1), (84, .getfield 15, 3), (87, .iload_n 1, 1), (88, .iaload, 1), (89, .ldc 62, 2), (91, .idiv, 1), (92, .putfield 56, 3), (95, .aload_n 0, 1), (96, .aload_n 0, 1), (97, .getfield 15, 3), (100, .iload_n 1, 1), (101, .iaload, 1), (102, .sipush 16384, 3), (105, .irem, 1), (106, .putfield 63, 3), (109, .iconst 1, 1), (110, .ireturn, 1)]
theorem D121 : Dec (mCod 121) C121 := decB_ok (by decide +kernel)
set_option maxRecDepth 20000 in
def C122 : Cds := [(0, .aload_n 0, 1), (1, .iload_n 1, 1), (2, .invokevirtual 294, 3), (5, .ifCond .eq 14, 3), (8, .aload_n 0, 1), (9, .getfield 26, 3), (12, .iload_n 2, 1), (13, .invokevirtual 129, 3), (16, .ifCond .ne 5, 3), (19, .iconst (-1), 1), (20, .ireturn, 1), (21, .aload_n 0, 1), (22, .getfield 60, 3), (25, .aload_n 0, 1), (26, .getfield 33, 3), (29, .getfield 197, 3), (32, .iload_n 1, 1), (33, .iaload, 1), (34, .iload_n 2, 1), (35, .invokevirtual 313, 3), (38, .ifCond .ne 6, 3), (41, .bipush (-2), 2), (43, .ireturn, 1), (44, .aload_n 0, 1), (45, .getfield 42, 3), (48, .iload_n 1, 1), (49, .aload_n 0, 1), (50, .getfield 33, 3), (53, .getfield 209, 3), (56, .iload_n 1, 1), (57, .iaload, 1), (58, .invokevirtual 218, 3), (61, .pop, 1), (62, .iconst 0, 1), (63, .istore_n 3, 1), (64, .iconst 0, 1), (65, .istore 4, 2), (67, .iconst 0, 1), (68, .istore 5, 2), (70, .iload_n 3, 1), (71, .aload_n 0, 1), (72, .getfield 60, 3), (75, .getfield 316, 3), (78, .iconst 1, 1), (79, .isub, 1), (80, .if_icmp .ge 65, 3), (83, .iload 5, 2), (85, .ifCond .ne 60, 3), (88, .aload_n 0, 1), (89, .getfield 42, 3), (92, .aload_n 0, 1), (93, .getfield 60, 3), (96, .getfield 335, 3), (99, .iload_n 3, 1), (100, .iaload, 1), (101, .invokevirtual 310, 3), (104, .istore 6, 2), (106, .iload 4, 2), (108, .iload 6, 2), (110, .iadd, 1), (111, .istore 4, 2), (113, .iload 6, 2), (115, .aload_n 0, 1), (116, .getfield 60, 3), (119, .getfield 335, 3), (122, .iload_n 3, 1), (123, .iaload, 1), (124, .if_icmp .ge 7, 3), (127, .iconst 1, 1), (128, .goto 4, 3), (131, .iconst 0, 1), (132, .istore 5, 2), (134, .iload 5, 2), (136, .ifCond .ne 6, 3), (139, .iinc 3 1, 3), (142, .goto (-72), 3), (145, .aload_n 0, 1), (146, .invokevirtual 255, 3), (149, .aload_n 0, 1), (150, .iload 5, 2), (152, .ifCond .eq 7, 3), (155, .lconst 0, 1), (156, .goto 4, 3), (159, .lconst 1, 1), (160, .invokevirtual 261, 3), (163, .aload_n 0, 1), (164, .iload 4, 2), (166, .i2l, 1), (167, .invokevirtual 261, 3), (170, .iload_n 3, 1), (171, .ireturn, 1)]
theorem D122 : Dec (mCod 122) C122 := decB_ok (by decide +kernel)
set_option maxRecDepth 20000 in
def C123 : Cds := [(0, .aload_n 0, 1), (1, .iload_n 1, 1), (2, .invokevirtual 294, 3), (5, .ifCond .eq 25, 3), (8, .aload_n 0, 1), (9, .getfield 26, 3), (12, .iload_n 2, 1), (13, .invokevirtual 129, 3), (16, .ifCond .eq 14, 3), (19, .iload_n 3, 1), (20, .iconst 1, 1), (21, .if_icmp .lt 9, 3), (24, .iload_n 3, 1), (25, .bipush 60, 2), (27, .if_icmp .le 5, 3), (30, .iconst (-1), 1), (31, .ireturn, 1), (32, .aload_n 0, 1), (33, .getfield 60, 3), (36, .aload_n 0, 1), (37, .getfield 33, 3), (40, .getfield 197, 3), (43, .iload_n 1, 1), (44, .iaload, 1), (45, .iload_n 2, 1), (46, .invokevirtual 313, 3), (49, .ifCond .ne 6, 3), (52, .bipush (-3), 2), (54, .ireturn, 1), (55, .aload_n 0, 1), (56, .getfield 69, 3), (59, .iload_n 1, 1), (60, .aload_n 0, 1), (61, .getfield 33, 3), (64, .getfield 209, 3), (67, .iload_n 1, 1), (68, .iaload, 1), (69, .iload_n 3, 1), (70, .bipush 10, 2), (72, .invokevirtual 338, 3), (75, .istore 4, 2), (77, .iload 4, 2), (79, .iconst (-1), 1), (80, .if_icmp .ne 6, 3), (83, .bipush (-2), 2), (85, .ireturn, 1), (86, .aload_n 0, 1), (87, .invokevirtual 255, 3), (90, .iconst 0, 1), (91, .istore 5, 2), (93, .iload 5, 2), (95, .iload 4, 2), (97, .if_icmp .ge 24, 3), (100, .aload_n 0, 1), (101, .aload_n 0, 1), (102, .getfield 69, 3), (105, .getfield 342, 3), (108, .iload 5, 2), (110, .iaload, 1), (111, .i2l, 1), (112, .invokevirtual 261, 3), (115, .iinc 5 1, 3), (118, .goto (-25), 3), (121, .iload 4, 2), (123, .ireturn, 1)]
theorem D123 : Dec (mCod 123) C123 := decB_ok (by decide +kernel)
set_option maxRecDepth 20000 in
def C124 : Cds := [(0, .aload_n 0, 1), (1, .iload_n 3, 1), (2, .putfield 39, 3), (5, .aload_n 0, 1), (6, .iload 4, 2), (8, .putfield 43, 3), (11, .aload_n 0, 1), (12, .iconst (-1), 1), (13, .putfield 46, 3), (16, .aload_n 0, 1), (17, .getfield 35, 3), (20, .iload_n 1, 1), (21, .iload_n 2, 1), (22, .invokevirtual 49, 3), (25, .ifCond .eq 9, 3), (28, .aload_n 0, 1), (29, .iconst 0, 1), (30, .iconst 0, 1), (31, .invokevirtual 55, 3), (34, .aload_n 0, 1), (35, .getfield 46, 3), (38, .ireturn, 1)]
theorem D124 : Dec (mCod 124) C124 := decB_ok (by decide +kernel)
set_option maxRecDepth 20000 in
def C125 : Cds := [(0, .iload_n 1, 1), (1, .aload_n 0, 1), (2, .getfield 31, 3), (5, .getfield 59, 3), (8, .iconst 1, 1), (9, .isub, 1), (10, .if_icmp .ge 9, 3), (13, .iload_n 1, 1), (14, .bipush 10, 2), (16, .if_icmp .lt 9, 3), (19, .aload_n 0, 1), (20, .iload_n 2, 1), (21, .invokevirtual 64, 3), (24, .return_, 1), (25, .aload_n 0, 1), (26, .getfield 9, 3), (29, .iload_n 1, 1), (30, .aload_n 0, 1), (31, .getfield 35, 3), (34, .getfield 68, 3), (37, .iastore, 1), (38, .aload_n 0, 1), (39, .getfield 15, 3), (42, .iload_n 1, 1), (43, .aload_n 0, 1), (44, .getfield 35, 3), (47, .getfield 70, 3), (50, .iastore, 1), (51, .aload_n 0, 1), (52, .getfield 18, 3), (55, .iload_n 1, 1), (56, .aload_n 0, 1), (57, .getfield 35, 3), (60, .getfield 72, 3), (63, .iastore, 1), (64, .aload_n 0, 1), (65, .iload_n 1, 1), (66, .iload_n 2, 1), (67, .invokevirtual 74, 3), (70, .iload_n 1, 1), (71, .ifCond .le 110, 3), (74, .iload_n 2, 1), (75, .aload_n 0, 1), (76, .getfield 43, 3), (79, .if_icmp .ge 102, 3), (82, .iload_n 2, 1), (83, .bipush 10, 2), (85, .if_icmp .ge 96, 3), (88, .aload_n 0, 1), (89, .getfield 27, 3), (92, .getfield 77, 3), (95, .aload_n 0, 1), (96, .getfield 31, 3), (99, .getfield 82, 3), (102, .iload_n 1, 1), (103, .iaload, 1), (104, .iaload, 1), (105, .ifCond .eq 76, 3), (108, .aload_n 0, 1), (109, .getfield 35, 3), (112, .aload_n 0, 1), (113, .getfield 9, 3), (116, .iload_n 1, 1), (117, .iaload, 1), (118, .putfield 68, 3), (121, .aload_n 0, 1), (122, .getfield 35, 3), (125, .aload_n 0, 1), (126, .getfield 15, 3), (129, .iload_n 1, 1), (130, .iaload, 1), (131, .putfield 70, 3), (134, .aload_n 0, 1), (135, .getfield 35, 3), (138, .aload_n 0, 1), (139, .getfield 18, 3), (142, .iload_n 1, 1), (143, .iaload, 1), (144, .putfield 72, 3), (147, .aload_n 0, 1), (148, .getfield 35, 3), (151, .aload_n 0, 1), (152, .getfield 39, 3), (155, .invokevirtual 85, 3), (158, .aload_n 0, 1), (159, .getfield 21, 3), (162, .iload_n 2, 1), (163, .aload_n 0, 1), (164, .getfield 31, 3), (167, .getfield 82, 3), (170, .iload_n 1, 1), (171, .iaload, 1), (172, .iastore, 1), (173, .aload_n 0, 1), (174, .iload_n 1, 1), (175, .iload_n 2, 1), (176, .iconst 1, 1), (177, .iadd, 1), (178, .invokevirtual 74, 3), (181, .return_, 1)]
theorem D125 : Dec (mCod 125) C125 := decB_ok (by decide +kernel)
set_option maxRecDepth 20000 in
def C126 : Cds := [(0, .aload_n 0, 1), (1, .getfield 46, 3), (4, .iconst (-1), 1), (5, .if_icmp .eq 12, 3), (8, .aload_n 0, 1), (9, .iload_n 1, 1), (10, .invokevirtual 95, 3), (13, .ifCond .ne 4, 3), (16, .return_, 1), (17, .aload_n 0, 1), (18, .iload_n 1, 1), (19, .putfield 46, 3), (22, .aload_n 0, 1), (23, .iload_n 1, 1), (24, .putfield 43, 3), (27, .aload_n 0, 1), (28, .getfield 21, 3), (31, .iconst 0, 1), (32, .aload_n 0, 1), (33, .getfield 24, 3), (36, .iconst 0, 1), (37, .iload_n 1, 1), (38, .invokestatic 99, 3), (41, .return_, 1)]
theorem D126 : Dec (mCod 126) C126 := decB_ok (by decide +kernel)
set_option maxRecDepth 20000 in
def C127 : Cds := [(0, .iload_n 1, 1), (1, .aload_n 0, 1), (2, .getfield 46, 3), (5, .if_icmp .eq 17, 3), (8, .iload_n 1, 1), (9, .aload_n 0, 1), (10, .getfield 46, 3), (13, .if_icmp .ge 7, 3), (16, .iconst 1, 1), (17, .goto 4, 3), (20, .iconst 0, 1), (21, .ireturn, 1), (22, .iconst 0, 1), (23, .istore_n 2, 1), (24, .iload_n 2, 1), (25, .iload_n 1, 1), (26, .if_icmp .ge 45, 3), (29, .aload_n 0, 1), (30, .getfield 21, 3), (33, .iload_n 2, 1), (34, .iaload, 1), (35, .aload_n 0, 1), (36, .getfield 24, 3), (39, .iload_n 2, 1), (40, .iaload, 1), (41, .if_icmp .eq 24, 3), (44, .aload_n 0, 1), (45, .getfield 21, 3), (48, .iload_n 2, 1), (49, .iaload, 1), (50, .aload_n 0, 1), (51, .getfield 24, 3), (54, .iload_n 2, 1), (55, .iaload, 1), (56, .if_icmp .ge 7, 3), (59, .iconst 1, 1), (60, .goto 4, 3), (63, .iconst 0, 1), (64, .ireturn, 1), (65, .iinc 2 1, 3), (68, .goto (-44), 3), (71, .iconst 0, 1), (72, .ireturn, 1)]
theorem D127 : Dec (mCod 127) C127 := decB_ok (by decide +kernel)
set_option maxRecDepth 20000 in
def C128 : Cds := [(0, .aload_n 0, 1), (1, .getfield 35, 3), (4, .aload_n 0, 1), (5, .getfield 31, 3), (8, .getfield 88, 3), (11, .iload_n 1, 1), (12, .iaload, 1), (13, .invokevirtual 91, 3), (16, .aload_n 0, 1), (17, .getfield 31, 3), (20, .getfield 88, 3), (23, .iload_n 1, 1), (24, .iaload, 1), (25, .if_icmp .ne 11, 3), (28, .aload_n 0, 1), (29, .iload_n 1, 1), (30, .iconst 1, 1), (31, .iadd, 1), (32, .iload_n 2, 1), (33, .invokevirtual 55, 3), (36, .return_, 1)]
theorem D128 : Dec (mCod 128) C128 := decB_ok (by decide +kernel)
set_option maxRecDepth 20000 in
def C129 : Cds := [(0, .iconst 0, 1), (1, .istore_n 2, 1), (2, .iload_n 2, 1), (3, .iload_n 1, 1), (4, .if_icmp .ge 41, 3), (7, .aload_n 0, 1), (8, .dup, 1), (9, .getfield 54, 3), (12, .aload_n 0, 1), (13, .getfield 54, 3), (16, .iconst 4, 1), (17, .idiv, 1), (18, .isub, 1), (19, .putfield 54, 3), (22, .aload_n 0, 1), (23, .iconst 0, 1), (24, .aload_n 0, 1), (25, .getfield 83, 3), (28, .aload_n 0, 1), (29, .getfield 72, 3), (32, .isub, 1), (33, .invokestatic 77, 3), (36, .putfield 83, 3), (39, .iinc 2 1, 3), (42, .goto (-40), 3), (45, .aload_n 0, 1), (46, .dup, 1), (47, .getfield 62, 3), (50, .iload_n 1, 1), (51, .iadd, 1), (52, .putfield 62, 3), (55, .return_, 1)]
theorem D129 : Dec (mCod 129) C129 := decB_ok (by decide +kernel)
set_option maxRecDepth 20000 in
def C130 : Cds := [(0, .aload_n 0, 1), (1, .iload_n 1, 1), (2, .invokevirtual 294, 3), (5, .ifCond .eq 14, 3), (8, .aload_n 0, 1), (9, .getfield 26, 3), (12, .iload_n 2, 1), (13, .invokevirtual 129, 3), (16, .ifCond .ne 5, 3), (19, .iconst (-1), 1), (20, .ireturn, 1), (21, .aload_n 0, 1), (22, .getfield 60, 3), (25, .aload_n 0, 1), (26, .getfield 33, 3), (29, .getfield 197, 3), (32, .iload_n 1, 1), (33, .iaload, 1), (34, .iload_n 2, 1), (35, .invokevirtual 313, 3), (38, .ifCond .ne 6, 3), (41, .bipush (-3), 2), (43, .ireturn, 1), (44, .iconst 0, 1), (45, .istore_n 3, 1), (46, .iconst (-1), 1), (47, .istore 4, 2), (49, .iconst 1, 1), (50, .istore 5, 2), (52, .iload 5, 2), (54, .bipush 60, 2), (56, .if_icmp .gt 72, 3), (59, .iload 4, 2), (61, .ifCond .eq 67, 3), (64, .iload 4, 2), (66, .iconst (-1), 1), (67, .if_icmp .ne 8, 3), (70, .bipush 10, 2), (72, .goto 12, 3), (75, .iload_n 3, 1), (76, .iload 4, 2), (78, .imul, 1), (79, .iconst 1, 1), (80, .isub, 1), (81, .iload 5, 2), (83, .idiv, 1), (84, .istore 6, 2), (86, .aload_n 0, 1), (87, .getfield 69, 3), (90, .iload_n 1, 1), (91, .aload_n 0, 1), (92, .getfield 33, 3), (95, .getfield 209, 3), (98, .iload_n 1, 1), (99, .iaload, 1), (100, .iload 5, 2), (102, .iload 6, 2), (104, .invokevirtual 338, 3), (107, .istore 7, 2), (109, .iload 7, 2), (111, .iconst (-1), 1), (112, .if_icmp .eq 10, 3), (115, .iload 7, 2), (117, .istore 4, 2), (119, .iload 5, 2), (121, .istore_n 3, 1), (122, .iinc 5 1, 3), (125, .goto (-73), 3), (128, .iload 4, 2), (130, .iconst (-1), 1), (131, .if_icmp .ne 6, 3), (134, .bipush (-2), 2), (136, .ireturn, 1), (137, .aload_n 0, 1), (138, .invokevirtual 255, 3), (141, .aload_n 0, 1), (142, .iload 4, 2), (144, .ifCond .ne 7, 3), (147, .lconst 0, 1), (148, .goto 5, 3), (151, .iload_n 3, 1), (152, .i2l, 1), (153, .invokevirtual 261, 3), (156, .aload_n 0, 1), (157, .iload 4, 2), (159, .i2l, 1), (160, .invokevirtual 261, 3), (163, .aload_n 0, 1), (164, .getfield 60, 3), (167, .getfield 322, 3), (170, .iload_n 3, 1), (171, .iload 4, 2), (173, .imul, 1), (174, .iadd, 1), (175, .ireturn, 1)]
theorem D130 : Dec (mCod 130) C130 := decB_ok (by decide +kernel)
set_option maxRecDepth 20000 in
def C131 : Cds := [(0, .aload_n 0, 1), (1, .getfield 26, 3), (4, .iload_n 1, 1), (5, .invokevirtual 173, 3), (8, .ifCond .eq 22, 3), (11, .aload_n 0, 1), (12, .getfield 26, 3), (15, .iload_n 2, 1), (16, .invokevirtual 129, 3), (19, .ifCond .eq 11, 3), (22, .aload_n 0, 1), (23, .iload_n 3, 1), (24, .invokevirtual 345, 3), (27, .ifCond .ne 5, 3), (30, .iconst (-1), 1), (31, .ireturn, 1), (32, .aload_n 0, 1), (33, .getfield 33, 3), (36, .getfield 182, 3), (39, .iload_n 1, 1), (40, .iaload, 1), (41, .iconst (-1), 1), (42, .if_icmp .ne 5, 3), (45, .iconst (-1), 1), (46, .ireturn, 1), (47, .aload_n 0, 1), (48, .getfield 60, 3), (51, .aload_n 0, 1), (52, .getfield 33, 3), (55, .getfield 182, 3), (58, .iload_n 1, 1), (59, .iaload, 1), (60, .iload_n 2, 1), (61, .invokevirtual 313, 3), (64, .ifCond .ne 6, 3), (67, .bipush (-3), 2), (69, .ireturn, 1), (70, .aload_n 0, 1), (71, .getfield 78, 3), (74, .iload_n 1, 1), (75, .iload_n 3, 1), (76, .invokevirtual 348, 3), (79, .istore 4, 2), (81, .iload 4, 2), (83, .iconst (-1), 1), (84, .if_icmp .ne 6, 3), (87, .bipush (-2), 2), (89, .ireturn, 1), (90, .aload_n 0, 1), (91, .invokevirtual 255, 3), (94, .iconst 0, 1), (95, .istore 5, 2), (97, .iload 5, 2), (99, .aload_n 0, 1), (100, .getfield 60, 3), (103, .getfield 316, 3), (106, .iconst 1, 1), (107, .isub, 1), (108, .if_icmp .ge 24, 3), (111, .aload_n 0, 1), (112, .aload_n 0, 1), (113, .getfield 78, 3), (116, .getfield 350, 3), (119, .iload 5, 2), (121, .iaload, 1), (122, .i2l, 1), (123, .invokevirtual 261, 3), (126, .iinc 5 1, 3), (129, .goto (-32), 3), (132, .iload 4, 2), (134, .ireturn, 1)]
theorem D131 : Dec (mCod 131) C131 := decB_ok (by decide +kernel)
set_option maxRecDepth 20000 in
def C132 : Cds := [(0, .iload_n 1, 1), (1, .aload_n 0, 1), (2, .getfield 26, 3), (5, .getfield 146, 3), (8, .iushr, 1), (9, .ifCond .eq 5, 3), (12, .iconst 0, 1), (13, .ireturn, 1), (14, .iconst 0, 1), (15, .istore_n 2, 1), (16, .iload_n 2, 1), (17, .aload_n 0, 1), (18, .getfield 26, 3), (21, .getfield 146, 3), (24, .if_icmp .ge 32, 3), (27, .iload_n 1, 1), (28, .iload_n 2, 1), (29, .ishr, 1), (30, .iconst 1, 1), (31, .iand, 1), (32, .ifCond .eq 18, 3), (35, .aload_n 0, 1), (36, .getfield 33, 3), (39, .getfield 209, 3), (42, .iload_n 2, 1), (43, .iaload, 1), (44, .iconst (-1), 1), (45, .if_icmp .eq 5, 3), (48, .iconst 0, 1), (49, .ireturn, 1), (50, .iinc 2 1, 3), (53, .goto (-37), 3), (56, .iconst 1, 1), (57, .ireturn, 1)]
theorem D132 : Dec (mCod 132) C132 := decB_ok (by decide +kernel)
set_option maxRecDepth 20000 in
def C133 : Cds := [(0, .aload_n 0, 1), (1, .iload_n 2, 1), (2, .putfield 34, 3), (5, .iconst 0, 1), (6, .istore_n 3, 1), (7, .iload_n 3, 1), (8, .aload_n 0, 1), (9, .getfield 18, 3), (12, .getfield 38, 3), (15, .if_icmp .ge 15, 3), (18, .aload_n 0, 1), (19, .iload_n 3, 1), (20, .iload_n 1, 1), (21, .invokevirtual 43, 3), (24, .iinc 3 1, 3), (27, .goto (-20), 3), (30, .iconst 0, 1), (31, .istore_n 3, 1), (32, .iload_n 3, 1), (33, .aload_n 0, 1), (34, .getfield 18, 3), (37, .getfield 38, 3), (40, .if_icmp .gt 23, 3), (43, .aload_n 0, 1), (44, .iconst 0, 1), (45, .iconst (-1), 1), (46, .iconst 0, 1), (47, .iconst 0, 1), (48, .iload_n 3, 1), (49, .invokevirtual 47, 3), (52, .ifCond .eq 5, 3), (55, .iload_n 3, 1), (56, .ireturn, 1), (57, .iinc 3 1, 3), (60, .goto (-28), 3), (63, .iconst (-1), 1), (64, .ireturn, 1)]
theorem D133 : Dec (mCod 133) C133 := decB_ok (by decide +kernel)
set_option maxRecDepth 20000 in
def C134 : Cds := [(0, .iconst 0, 1), (1, .istore_n 3, 1), (2, .iconst 0, 1), (3, .istore 4, 2), (5, .iload 4, 2), (7, .aload_n 0, 1), (8, .getfield 26, 3), (11, .getfield 51, 3), (14, .iconst 1, 1), (15, .isub, 1), (16, .if_icmp .ge 124, 3), (19, .aload_n 0, 1), (20, .getfield 30, 3), (23, .iload_n 1, 1), (24, .invokevirtual 56, 3), (27, .pop, 1), (28, .aload_n 0, 1), (29, .getfield 30, 3), (32, .aload_n 0, 1), (33, .getfield 22, 3), (36, .getfield 62, 3), (39, .iload_n 3, 1), (40, .iadd, 1), (41, .putfield 67, 3), (44, .aload_n 0, 1), (45, .getfield 30, 3), (48, .iload_n 2, 1), (49, .invokevirtual 68, 3), (52, .pop, 1), (53, .iload 4, 2), (55, .istore 5, 2), (57, .iload 5, 2), (59, .aload_n 0, 1), (60, .getfield 26, 3), (63, .getfield 51, 3), (66, .iconst 1, 1), (67, .isub, 1), (68, .if_icmp .ge 39, 3), (71, .aload_n 0, 1), (72, .getfield 30, 3), (75, .aload_n 0, 1), (76, .getfield 26, 3), (79, .getfield 71, 3), (82, .iload 5, 2), (84, .iaload, 1), (85, .invokevirtual 74, 3), (88, .aload_n 0, 1), (89, .getfield 26, 3), (92, .getfield 71, 3), (95, .iload 5, 2), (97, .iaload, 1), (98, .if_icmp .ne 9, 3), (101, .iinc 5 1, 3), (104, .goto (-47), 3), (107, .aload_n 0, 1), (108, .getfield 9, 3), (111, .iload_n 1, 1), (112, .bipush 10, 2), (114, .imul, 1), (115, .iload 4, 2), (117, .iadd, 1), (118, .iload 5, 2), (120, .iastore, 1), (121, .iload_n 3, 1), (122, .aload_n 0, 1), (123, .getfield 26, 3), (126, .getfield 71, 3), (129, .iload 4, 2), (131, .iaload, 1), (132, .iadd, 1), (133, .istore_n 3, 1), (134, .iinc 4 1, 3), (137, .goto (-132), 3), (140, .return_, 1)]
theorem D134 : Dec (mCod 134) C134 := decB_ok (by decide +kernel)
set_option maxRecDepth 20000 in
def C135 : Cds := [(0, .iload_n 1, 1), (1, .aload_n 0, 1), (2, .getfield 26, 3), (5, .getfield 51, 3), (8, .iconst 1, 1), (9, .isub, 1), (10, .if_icmp .ge 9, 3), (13, .iload_n 1, 1), (14, .bipush 10, 2), (16, .if_icmp .lt 5, 3), (19, .iconst 1, 1), (20, .ireturn, 1), (21, .iconst 0, 1), (22, .istore 6, 2), (24, .iload 6, 2), (26, .aload_n 0, 1), (27, .getfield 18, 3), (30, .getfield 38, 3), (33, .if_icmp .ge 121, 3), (36, .aload_n 0, 1), (37, .getfield 15, 3), (40, .iload_n 1, 1), (41, .iload 6, 2), (43, .iastore, 1), (44, .iload 6, 2), (46, .iload_n 2, 1), (47, .if_icmp .ne 26, 3), (50, .iload_n 1, 1), (51, .iload_n 3, 1), (52, .if_icmp .ge 96, 3), (55, .aload_n 0, 1), (56, .iload_n 1, 1), (57, .iconst 1, 1), (58, .iadd, 1), (59, .iload_n 2, 1), (60, .iload_n 3, 1), (61, .iload 4, 2), (63, .iload 5, 2), (65, .invokevirtual 47, 3), (68, .ifCond .eq 80, 3), (71, .iconst 1, 1), (72, .ireturn, 1), (73, .iload 5, 2), (75, .ifCond .le 73, 3), (78, .aload_n 0, 1), (79, .getfield 34, 3), (82, .iload 4, 2), (84, .iconst (-1), 1), (85, .ixor, 1), (86, .iand, 1), (87, .iload 6, 2), (89, .ishr, 1), (90, .iconst 1, 1), (91, .iand, 1), (92, .ifCond .eq 56, 3), (95, .aload_n 0, 1), (96, .getfield 9, 3), (99, .iload 6, 2), (101, .bipush 10, 2), (103, .imul, 1), (104, .iload_n 1, 1), (105, .iadd, 1), (106, .iaload, 1), (107, .iload_n 1, 1), (108, .if_icmp .le 40, 3), (111, .aload_n 0, 1), (112, .iload_n 1, 1), (113, .iconst 1, 1), (114, .iadd, 1), (115, .iload 6, 2), (117, .aload_n 0, 1), (118, .getfield 9, 3), (121, .iload 6, 2), (123, .bipush 10, 2), (125, .imul, 1), (126, .iload_n 1, 1), (127, .iadd, 1), (128, .iaload, 1), (129, .iload 4, 2), (131, .iconst 1, 1), (132, .iload 6, 2), (134, .ishl, 1), (135, .ior, 1), (136, .iload 5, 2), (138, .iconst 1, 1), (139, .isub, 1), (140, .invokevirtual 47, 3), (143, .ifCond .eq 5, 3), (146, .iconst 1, 1), (147, .ireturn, 1), (148, .iinc 6 1, 3), (151, .goto (-127), 3), (154, .iconst 0, 1), (155, .ireturn, 1)]
theorem D135 : Dec (mCod 135) C135 := decB_ok (by decide +kernel)
set_option maxRecDepth 20000 in
def C136 : Cds := [(0, .aload_n 0, 1), (1, .getfield 26, 3), (4, .iload_n 1, 1), (5, .invokevirtual 191, 3), (8, .ifCond .eq 24, 3), (11, .aload_n 0, 1), (12, .getfield 33, 3), (15, .getfield 209, 3), (18, .iload_n 1, 1), (19, .iaload, 1), (20, .iconst (-1), 1), (21, .if_icmp .ne 11, 3), (24, .aload_n 0, 1), (25, .iload_n 2, 1), (26, .invokevirtual 353, 3), (29, .ifCond .ne 5, 3), (32, .iconst (-1), 1), (33, .ireturn, 1), (34, .aload_n 0, 1), (35, .getfield 26, 3), (38, .iload_n 3, 1), (39, .invokevirtual 129, 3), (42, .ifCond .eq 29, 3), (45, .aload_n 0, 1), (46, .getfield 26, 3), (49, .getfield 135, 3), (52, .iload_n 3, 1), (53, .iaload, 1), (54, .iconst 2, 1), (55, .if_icmp .ne 16, 3), (58, .iload 4, 2), (60, .ifCond .lt 11, 3), (63, .iload 4, 2), (65, .sipush 999, 3), (68, .if_icmp .le 5, 3), (71, .iconst (-1), 1), (72, .ireturn, 1), (73, .aload_n 0, 1), (74, .getfield 85, 3), (77, .iload_n 1, 1), (78, .iload_n 2, 1), (79, .iload_n 3, 1), (80, .iload 4, 2), (82, .invokevirtual 356, 3), (85, .istore 5, 2), (87, .iload 5, 2), (89, .iconst (-1), 1), (90, .if_icmp .ne 6, 3), (93, .bipush (-2), 2), (95, .ireturn, 1), (96, .aload_n 0, 1), (97, .invokevirtual 255, 3), (100, .iconst 0, 1), (101, .istore 6, 2), (103, .iload 6, 2), (105, .aload_n 0, 1), (106, .getfield 85, 3), (109, .getfield 359, 3), (112, .if_icmp .ge 24, 3), (115, .aload_n 0, 1), (116, .aload_n 0, 1), (117, .getfield 85, 3), (120, .getfield 360, 3), (123, .iload 6, 2), (125, .iaload, 1), (126, .i2l, 1), (127, .invokevirtual 261, 3), (130, .iinc 6 1, 3), (133, .goto (-30), 3), (136, .aload_n 0, 1), (137, .aload_n 0, 1), (138, .getfield 85, 3), (141, .iload_n 2, 1), (142, .iload 5, 2), (144, .invokevirtual 361, 3), (147, .i2l, 1), (148, .invokevirtual 261, 3), (151, .iload 5, 2), (153, .ireturn, 1)]
theorem D136 : Dec (mCod 136) C136 := decB_ok (by decide +kernel)
set_option maxRecDepth 20000 in
def C137 : Cds := [(0, .iload_n 1, 1), (1, .ifCond .eq 15, 3), (4, .iload_n 1, 1), (5, .aload_n 0, 1), (6, .getfield 26, 3), (9, .getfield 139, 3), (12, .iushr, 1), (13, .ifCond .eq 5, 3), (16, .iconst 0, 1), (17, .ireturn, 1), (18, .iconst 0, 1), (19, .istore_n 2, 1), (20, .iload_n 2, 1), (21, .aload_n 0, 1), (22, .getfield 26, 3), (25, .getfield 139, 3), (28, .if_icmp .ge 32, 3), (31, .iload_n 1, 1), (32, .iload_n 2, 1), (33, .ishr, 1), (34, .iconst 1, 1), (35, .iand, 1), (36, .ifCond .eq 18, 3), (39, .aload_n 0, 1), (40, .getfield 33, 3), (43, .getfield 182, 3), (46, .iload_n 2, 1), (47, .iaload, 1), (48, .iconst (-1), 1), (49, .if_icmp .ne 5, 3), (52, .iconst 0, 1), (53, .ireturn, 1), (54, .iinc 2 1, 3), (57, .goto (-37), 3), (60, .iconst 1, 1), (61, .ireturn, 1)]
theorem D137 : Dec (mCod 137) C137 := decB_ok (by decide +kernel)
set_option maxRecDepth 20000 in
def C138 : Cds := [(0, .aload_n 0, 1), (1, .iload_n 2, 1), (2, .putfield 43, 3), (5, .aload_n 0, 1), (6, .iload 4, 2), (8, .putfield 47, 3), (11, .aload_n 0, 1), (12, .iload_n 2, 1), (13, .invokestatic 50, 3), (16, .putfield 56, 3), (19, .aload_n 0, 1), (20, .iconst (-1), 1), (21, .putfield 59, 3), (24, .aload_n 0, 1), (25, .iload_n 1, 1), (26, .iload_n 3, 1), (27, .invokevirtual 62, 3), (30, .ifCond .eq 21, 3), (33, .aload_n 0, 1), (34, .getfield 39, 3), (37, .iload_n 1, 1), (38, .invokevirtual 66, 3), (41, .ifCond .eq 10, 3), (44, .aload_n 0, 1), (45, .iconst 0, 1), (46, .iconst 0, 1), (47, .iconst 0, 1), (48, .invokevirtual 72, 3), (51, .aload_n 0, 1), (52, .getfield 59, 3), (55, .ireturn, 1)]
theorem D138 : Dec (mCod 138) C138 := decB_ok (by decide +kernel)
set_option maxRecDepth 20000 in
def C139 : Cds := [(0, .iconst 0, 1), (1, .istore_n 3, 1), (2, .iload_n 3, 1), (3, .aload_n 0, 1), (4, .getfield 27, 3), (7, .getfield 76, 3), (10, .if_icmp .ge 98, 3), (13, .aload_n 0, 1), (14, .getfield 43, 3), (17, .iload_n 3, 1), (18, .ishr, 1), (19, .iconst 1, 1), (20, .iand, 1), (21, .ifCond .eq 81, 3), (24, .aload_n 0, 1), (25, .getfield 35, 3), (28, .aload_n 0, 1), (29, .getfield 31, 3), (32, .getfield 81, 3), (35, .iload_n 1, 1), (36, .iaload, 1), (37, .aload_n 0, 1), (38, .getfield 31, 3), (41, .getfield 86, 3), (44, .iload_n 3, 1), (45, .iaload, 1), (46, .invokevirtual 89, 3), (49, .ifCond .ne 5, 3), (52, .iconst 0, 1), (53, .ireturn, 1), (54, .aload_n 0, 1), (55, .getfield 9, 3), (58, .iload_n 3, 1), (59, .aload_n 0, 1), (60, .getfield 35, 3), (63, .getfield 94, 3), (66, .iastore, 1), (67, .aload_n 0, 1), (68, .getfield 35, 3), (71, .aload_n 0, 1), (72, .getfield 31, 3), (75, .getfield 86, 3), (78, .iload_n 3, 1), (79, .iaload, 1), (80, .iload_n 2, 1), (81, .invokevirtual 89, 3), (84, .ifCond .ne 5, 3), (87, .iconst 0, 1), (88, .ireturn, 1), (89, .aload_n 0, 1), (90, .getfield 15, 3), (93, .iload_n 3, 1), (94, .aload_n 0, 1), (95, .getfield 35, 3), (98, .getfield 94, 3), (101, .iastore, 1), (102, .iinc 3 1, 3), (105, .goto (-103), 3), (108, .iconst 1, 1), (109, .ireturn, 1)]
theorem D139 : Dec (mCod 139) C139 := decB_ok (by decide +kernel)
set_option maxRecDepth 20000 in
def C140 : Cds := [(0, .iload_n 1, 1), (1, .aload_n 0, 1), (2, .getfield 56, 3), (5, .if_icmp .ge 8, 3), (8, .iload_n 1, 1), (9, .iconst 5, 1), (10, .if_icmp .lt 9, 3), (13, .aload_n 0, 1), (14, .iload_n 3, 1), (15, .invokevirtual 97, 3), (18, .return_, 1), (19, .aload_n 0, 1), (20, .getfield 18, 3), (23, .iload_n 1, 1), (24, .aload_n 0, 1), (25, .getfield 39, 3), (28, .getfield 101, 3), (31, .iastore, 1), (32, .iconst 0, 1), (33, .istore 4, 2), (35, .iload 4, 2), (37, .aload_n 0, 1), (38, .getfield 27, 3), (41, .getfield 76, 3), (44, .if_icmp .ge 182, 3), (47, .aload_n 0, 1), (48, .getfield 43, 3), (51, .iload_n 2, 1), (52, .iconst (-1), 1), (53, .ixor, 1), (54, .iand, 1), (55, .iload 4, 2), (57, .ishr, 1), (58, .iconst 1, 1), (59, .iand, 1), (60, .ifCond .eq 160, 3), (63, .iload_n 1, 1), (64, .ifCond .ne 13, 3), (67, .aload_n 0, 1), (68, .getfield 9, 3), (71, .iload 4, 2), (73, .iaload, 1), (74, .goto 10, 3), (77, .aload_n 0, 1), (78, .getfield 15, 3), (81, .iload 4, 2), (83, .iaload, 1), (84, .istore 5, 2), (86, .iload_n 3, 1), (87, .iload 5, 2), (89, .iadd, 1), (90, .aload_n 0, 1), (91, .getfield 15, 3), (94, .iload 4, 2), (96, .iaload, 1), (97, .iadd, 1), (98, .istore 6, 2), (100, .iload 6, 2), (102, .sipush 300, 3), (105, .if_icmp .gt 115, 3), (108, .aload_n 0, 1), (109, .getfield 59, 3), (112, .iconst (-1), 1), (113, .if_icmp .eq 12, 3), (116, .iload 6, 2), (118, .aload_n 0, 1), (119, .getfield 59, 3), (122, .if_icmp .gt 98, 3), (125, .aload_n 0, 1), (126, .getfield 39, 3), (129, .aload_n 0, 1), (130, .getfield 18, 3), (133, .iload_n 1, 1), (134, .iaload, 1), (135, .putfield 101, 3), (138, .aload_n 0, 1), (139, .getfield 39, 3), (142, .aload_n 0, 1), (143, .getfield 31, 3), (146, .getfield 103, 3), (149, .iload_n 3, 1), (150, .iadd, 1), (151, .putfield 106, 3), (154, .aload_n 0, 1), (155, .getfield 39, 3), (158, .iload 5, 2), (160, .invokevirtual 107, 3), (163, .aload_n 0, 1), (164, .getfield 39, 3), (167, .iload 4, 2), (169, .invokevirtual 110, 3), (172, .pop, 1), (173, .aload_n 0, 1), (174, .getfield 21, 3), (177, .iload_n 1, 1), (178, .iload 4, 2), (180, .iastore, 1), (181, .aload_n 0, 1), (182, .getfield 39, 3), (185, .aload_n 0, 1), (186, .getfield 15, 3), (189, .iload 4, 2), (191, .iaload, 1), (192, .invokevirtual 113, 3), (195, .aload_n 0, 1), (196, .getfield 15, 3), (199, .iload 4, 2), (201, .iaload, 1), (202, .if_icmp .ne 18, 3), (205, .aload_n 0, 1), (206, .iload_n 1, 1), (207, .iconst 1, 1), (208, .iadd, 1), (209, .iload_n 2, 1), (210, .iconst 1, 1), (211, .iload 4, 2), (213, .ishl, 1), (214, .ior, 1), (215, .iload 6, 2), (217, .invokevirtual 72, 3), (220, .iinc 4 1, 3), (223, .goto (-188), 3), (226, .return_, 1)]
theorem D140 : Dec (mCod 140) C140 := decB_ok (by decide +kernel)
set_option maxRecDepth 20000 in
def C141 : Cds := [(0, .aload_n 0, 1), (1, .getfield 59, 3), (4, .iconst (-1), 1), (5, .if_icmp .eq 11, 3), (8, .iload_n 1, 1), (9, .aload_n 0, 1), (10, .getfield 59, 3), (13, .if_icmp .ge 7, 3), (16, .iconst 1, 1), (17, .goto 4, 3), (20, .iconst 0, 1), (21, .istore_n 2, 1), (22, .iload_n 2, 1), (23, .ifCond .eq 38, 3), (26, .aload_n 0, 1), (27, .aload_n 0, 1), (28, .getfield 43, 3), (31, .iload_n 1, 1), (32, .invokevirtual 116, 3), (35, .aload_n 0, 1), (36, .getfield 47, 3), (39, .if_icmp .lt 22, 3), (42, .aload_n 0, 1), (43, .iload_n 1, 1), (44, .putfield 59, 3), (47, .aload_n 0, 1), (48, .getfield 21, 3), (51, .iconst 0, 1), (52, .aload_n 0, 1), (53, .getfield 24, 3), (56, .iconst 0, 1), (57, .iconst 5, 1), (58, .invokestatic 120, 3), (61, .return_, 1)]
theorem D141 : Dec (mCod 141) C141 := decB_ok (by decide +kernel)
set_option maxRecDepth 20000 in
def C142 : Cds := [(0, .sipush 999, 3), (3, .istore_n 3, 1), (4, .iconst 0, 1), (5, .istore 4, 2), (7, .iload 4, 2), (9, .aload_n 0, 1), (10, .getfield 27, 3), (13, .getfield 76, 3), (16, .if_icmp .ge 50, 3), (19, .iload_n 1, 1), (20, .iload 4, 2), (22, .ishr, 1), (23, .iconst 1, 1), (24, .iand, 1), (25, .ifCond .eq 35, 3), (28, .iload_n 3, 1), (29, .iconst 0, 1), (30, .aload_n 0, 1), (31, .getfield 31, 3), (34, .getfield 126, 3), (37, .iload 4, 2), (39, .iaload, 1), (40, .aload_n 0, 1), (41, .getfield 27, 3), (44, .getfield 129, 3), (47, .iload 4, 2), (49, .iaload, 1), (50, .iload_n 2, 1), (51, .imul, 1), (52, .isub, 1), (53, .invokestatic 132, 3), (56, .invokestatic 137, 3), (59, .istore_n 3, 1), (60, .iinc 4 1, 3), (63, .goto (-56), 3), (66, .iload_n 3, 1), (67, .ireturn, 1)]
theorem D142 : Dec (mCod 142) C142 := decB_ok (by decide +kernel)
set_option maxRecDepth 20000 in
def C143 : Cds := [(0, .aload_n 0, 1), (1, .getfield 26, 3), (4, .iload_n 1, 1), (5, .invokevirtual 129, 3), (8, .ifCond .eq 14, 3), (11, .iload_n 2, 1), (12, .ifCond .lt 10, 3), (15, .iload_n 2, 1), (16, .sipush 300, 3), (19, .if_icmp .le 5, 3), (22, .iconst (-1), 1), (23, .ireturn, 1), (24, .aload_n 0, 1), (25, .getfield 92, 3), (28, .iload_n 1, 1), (29, .iload_n 2, 1), (30, .invokevirtual 364, 3), (33, .ireturn, 1)]
theorem D143 : Dec (mCod 143) C143 := decB_ok (by decide +kernel)
set_option maxRecDepth 20000 in
def C144 : Cds := [(0, .aload_n 0, 1), (1, .getfield 35, 3), (4, .bipush 8, 2), (6, .if_icmp .lt 5, 3), (9, .iconst (-1), 1), (10, .ireturn, 1), (11, .aload_n 0, 1), (12, .getfield 9, 3), (15, .aload_n 0, 1), (16, .getfield 35, 3), (19, .iload_n 1, 1), (20, .iastore, 1), (21, .aload_n 0, 1), (22, .getfield 15, 3), (25, .aload_n 0, 1), (26, .getfield 35, 3), (29, .iload_n 2, 1), (30, .iastore, 1), (31, .aload_n 0, 1), (32, .dup, 1), (33, .getfield 35, 3), (36, .iconst 1, 1), (37, .iadd, 1), (38, .putfield 35, 3), (41, .aload_n 0, 1), (42, .getfield 35, 3), (45, .ireturn, 1)]
theorem D144 : Dec (mCod 144) C144 := decB_ok (by decide +kernel)
set_option maxRecDepth 20000 in
def C145 : Cds := [(0, .aload_n 0, 1), (1, .getfield 92, 3), (4, .getfield 367, 3), (7, .istore_n 1, 1), (8, .aload_n 0, 1), (9, .getfield 92, 3), (12, .iconst 0, 1), (13, .putfield 367, 3), (16, .iload_n 1, 1), (17, .ireturn, 1)]
theorem D145 : Dec (mCod 145) C145 := decB_ok (by decide +kernel)
set_option maxRecDepth 20000 in
def C146 : Cds := [(0, .aload_n 0, 1), (1, .getfield 26, 3), (4, .iload_n 1, 1), (5, .invokevirtual 129, 3), (8, .ifCond .eq 19, 3), (11, .aload_n 0, 1), (12, .getfield 26, 3), (15, .iload_n 2, 1), (16, .invokevirtual 129, 3), (19, .ifCond .eq 8, 3), (22, .iload_n 1, 1), (23, .iload_n 2, 1), (24, .if_icmp .ne 5, 3), (27, .iconst (-1), 1), (28, .ireturn, 1), (29, .aload_n 0, 1), (30, .getfield 92, 3), (33, .iload_n 1, 1), (34, .iload_n 2, 1), (35, .invokevirtual 368, 3), (38, .istore_n 3, 1), (39, .aload_n 0, 1), (40, .invokevirtual 255, 3), (43, .iconst 0, 1), (44, .istore 4, 2), (46, .iload 4, 2), (48, .aload_n 0, 1), (49, .getfield 92, 3), (52, .getfield 371, 3), (55, .if_icmp .ge 24, 3), (58, .aload_n 0, 1), (59, .aload_n 0, 1), (60, .getfield 92, 3), (63, .getfield 374, 3), (66, .iload 4, 2), (68, .iaload, 1), (69, .i2l, 1), (70, .invokevirtual 261, 3), (73, .iinc 4 1, 3), (76, .goto (-30), 3), (79, .iload_n 3, 1), (80, .ireturn, 1)]
theorem D146 : Dec (mCod 146) C146 := decB_ok (by decide +kernel)
set_option maxRecDepth 20000 in
def C147 : Cds := [(0, .iconst 0, 1), (1, .istore_n 3, 1), (2, .iload_n 3, 1), (3, .bipush 10, 2), (5, .if_icmp .ge 16, 3), (8, .aload_n 0, 1), (9, .getfield 18, 3), (12, .iload_n 3, 1), (13, .iconst (-1), 1), (14, .iastore, 1), (15, .iinc 3 1, 3), (18, .goto (-16), 3), (21, .aload_n 0, 1), (22, .iload_n 2, 1), (23, .putfield 39, 3), (26, .aload_n 0, 1), (27, .iconst 0, 1), (28, .putfield 42, 3), (31, .aload_n 0, 1), (32, .iconst 0, 1), (33, .putfield 45, 3), (36, .aload_n 0, 1), (37, .iload_n 1, 1), (38, .iconst 0, 1), (39, .iconst 0, 1), (40, .invokevirtual 48, 3), (43, .aload_n 0, 1), (44, .getfield 42, 3), (47, .ireturn, 1)]
theorem D147 : Dec (mCod 147) C147 := decB_ok (by decide +kernel)
set_option maxRecDepth 20000 in
def C148 : Cds := [(0, .aload_n 0, 1), (1, .getfield 27, 3), (4, .iload_n 1, 1), (5, .invokevirtual 52, 3), (8, .ifCond .eq 9, 3), (11, .iload_n 2, 1), (12, .bipush 10, 2), (14, .if_icmp .lt 4, 3), (17, .return_, 1), (18, .aload_n 0, 1), (19, .getfield 21, 3), (22, .iload_n 2, 1), (23, .iload_n 1, 1), (24, .iastore, 1), (25, .aload_n 0, 1), (26, .getfield 18, 3), (29, .iload_n 1, 1), (30, .iload_n 3, 1), (31, .iastore, 1), (32, .iload_n 1, 1), (33, .aload_n 0, 1), (34, .getfield 39, 3), (37, .if_icmp .ne 13, 3), (40, .aload_n 0, 1), (41, .iload_n 2, 1), (42, .iconst 1, 1), (43, .iadd, 1), (44, .invokevirtual 58, 3), (47, .goto 32, 3), (50, .iconst 0, 1), (51, .istore 4, 2), (53, .iload 4, 2), (55, .aload_n 0, 1), (56, .getfield 27, 3), (59, .getfield 62, 3), (62, .if_icmp .ge 17, 3), (65, .aload_n 0, 1), (66, .iload_n 1, 1), (67, .iload 4, 2), (69, .iload_n 2, 1), (70, .invokevirtual 64, 3), (73, .iinc 4 1, 3), (76, .goto (-23), 3), (79, .aload_n 0, 1), (80, .getfield 18, 3), (83, .iload_n 1, 1), (84, .iconst (-1), 1), (85, .iastore, 1), (86, .return_, 1)]
theorem D148 : Dec (mCod 148) C148 := decB_ok (by decide +kernel)
set_option maxRecDepth 20000 in
def C149 : Cds := [(0, .iconst 0, 1), (1, .istore_n 2, 1), (2, .iload_n 2, 1), (3, .aload_n 0, 1), (4, .getfield 35, 3), (7, .if_icmp .ge 30, 3), (10, .aload_n 0, 1), (11, .getfield 18, 3), (14, .aload_n 0, 1), (15, .getfield 9, 3), (18, .iload_n 2, 1), (19, .iaload, 1), (20, .iaload, 1), (21, .aload_n 0, 1), (22, .getfield 15, 3), (25, .iload_n 2, 1), (26, .iaload, 1), (27, .if_icmp .eq 4, 3), (30, .return_, 1), (31, .iinc 2 1, 3), (34, .goto (-32), 3), (37, .aload_n 0, 1), (38, .getfield 42, 3), (41, .ifCond .ne 22, 3), (44, .aload_n 0, 1), (45, .iload_n 1, 1), (46, .putfield 45, 3), (49, .aload_n 0, 1), (50, .getfield 21, 3), (53, .iconst 0, 1), (54, .aload_n 0, 1), (55, .getfield 24, 3), (58, .iconst 0, 1), (59, .iload_n 1, 1), (60, .invokestatic 86, 3), (63, .aload_n 0, 1), (64, .dup, 1), (65, .getfield 42, 3), (68, .iconst 1, 1), (69, .iadd, 1), (70, .putfield 42, 3), (73, .return_, 1)]
theorem D149 : Dec (mCod 149) C149 := decB_ok (by decide +kernel)
set_option maxRecDepth 20000 in
def C150 : Cds := [(0, .iconst 0, 1), (1, .istore 4, 2), (3, .iload 4, 2), (5, .aload_n 0, 1), (6, .getfield 27, 3), (9, .getfield 67, 3), (12, .if_icmp .ge 77, 3), (15, .aload_n 0, 1), (16, .getfield 18, 3), (19, .iload_n 2, 1), (20, .iaload, 1), (21, .iconst (-1), 1), (22, .if_icmp .ne 67, 3), (25, .aload_n 0, 1), (26, .getfield 27, 3), (29, .iload 4, 2), (31, .iload_n 1, 1), (32, .invokevirtual 70, 3), (35, .iload_n 2, 1), (36, .if_icmp .ne 47, 3), (39, .aload_n 0, 1), (40, .getfield 27, 3), (43, .iload 4, 2), (45, .aload_n 0, 1), (46, .getfield 31, 3), (49, .getfield 74, 3), (52, .invokevirtual 79, 3), (55, .ifCond .eq 28, 3), (58, .aload_n 0, 1), (59, .iload_n 2, 1), (60, .iload_n 3, 1), (61, .iconst 1, 1), (62, .iadd, 1), (63, .aload_n 0, 1), (64, .getfield 18, 3), (67, .iload_n 1, 1), (68, .iaload, 1), (69, .aload_n 0, 1), (70, .getfield 27, 3), (73, .getfield 83, 3), (76, .iload 4, 2), (78, .iaload, 1), (79, .iadd, 1), (80, .invokevirtual 48, 3), (83, .iinc 4 1, 3), (86, .goto (-83), 3), (89, .return_, 1)]
theorem D150 : Dec (mCod 150) C150 := decB_ok (by decide +kernel)
set_option maxRecDepth 20000 in
def C151 : Cds := [(0, .aload_n 0, 1), (1, .iload_n 1, 1), (2, .invokevirtual 294, 3), (5, .ifCond .eq 27, 3), (8, .aload_n 0, 1), (9, .getfield 26, 3), (12, .iload_n 2, 1), (13, .invokevirtual 129, 3), (16, .ifCond .eq 16, 3), (19, .iload 4, 2), (21, .iconst 1, 1), (22, .if_icmp .lt 10, 3), (25, .iload 4, 2), (27, .bipush 50, 2), (29, .if_icmp .le 5, 3), (32, .iconst (-1), 1), (33, .ireturn, 1), (34, .aload_n 0, 1), (35, .getfield 60, 3), (38, .aload_n 0, 1), (39, .getfield 33, 3), (42, .getfield 197, 3), (45, .iload_n 1, 1), (46, .iaload, 1), (47, .iload_n 2, 1), (48, .invokevirtual 313, 3), (51, .ifCond .ne 6, 3), (54, .bipush (-2), 2), (56, .ireturn, 1), (57, .iload_n 3, 1), (58, .istore 5, 2), (60, .iconst 0, 1), (61, .istore 6, 2), (63, .iconst (-1), 1), (64, .istore 7, 2), (66, .iconst (-1), 1), (67, .istore 8, 2), (69, .iconst 0, 1), (70, .istore 9, 2), (72, .iload 9, 2), (74, .iload 4, 2), (76, .if_icmp .ge 129, 3), (79, .iload 5, 2), (81, .ldc_w 377, 3), (84, .imul, 1), (85, .sipush 12345, 3), (88, .iadd, 1), (89, .istore 5, 2), (91, .aload_n 0, 1), (92, .getfield 42, 3), (95, .iload_n 1, 1), (96, .aload_n 0, 1), (97, .getfield 33, 3), (100, .getfield 209, 3), (103, .iload_n 1, 1), (104, .iaload, 1), (105, .invokevirtual 218, 3), (108, .pop, 1), (109, .sipush 999, 3), (112, .aload_n 0, 1), (113, .getfield 42, 3), (116, .getfield 302, 3), (119, .iload 5, 2), (121, .bipush 16, 2), (123, .iushr, 1), (124, .sipush 200, 3), (127, .irem, 1), (128, .iadd, 1), (129, .invokestatic 232, 3), (132, .istore 10, 2), (134, .aload_n 0, 1), (135, .getfield 42, 3), (138, .iload 10, 2), (140, .putfield 302, 3), (143, .aload_n 0, 1), (144, .getfield 42, 3), (147, .aload_n 0, 1), (148, .getfield 60, 3), (151, .getfield 322, 3), (154, .invokevirtual 310, 3), (157, .aload_n 0, 1), (158, .getfield 60, 3), (161, .getfield 322, 3), (164, .if_icmp .ne 18, 3), (167, .iinc 6 1, 3), (170, .iload 7, 2), (172, .iload 10, 2), (174, .invokestatic 237, 3), (177, .istore 7, 2), (179, .goto 20, 3), (182, .iload 8, 2), (184, .iconst (-1), 1), (185, .if_icmp .eq 10, 3), (188, .iload 10, 2), (190, .iload 8, 2), (192, .if_icmp .ge 7, 3), (195, .iload 10, 2), (197, .istore 8, 2), (199, .iinc 9 1, 3), (202, .goto (-130), 3), (205, .aload_n 0, 1), (206, .invokevirtual 255, 3), (209, .aload_n 0, 1), (210, .iload 7, 2), (212, .i2l, 1), (213, .invokevirtual 261, 3), (216, .aload_n 0, 1), (217, .iload 8, 2), (219, .i2l, 1), (220, .invokevirtual 261, 3), (223, .iload 6, 2), (225, .ireturn, 1)]
theorem D151 : Dec (mCod 151) C151 := decB_ok (by decide +kernel)
set_option maxRecDepth 20000 in
def C152 : Cds := [(0, .iload_n 1, 1), (1, .ifCond .lt 8, 3), (4, .iload_n 1, 1), (5, .iconst 3, 1), (6, .if_icmp .lt 5, 3), (9, .iconst 0, 1), (10, .ireturn, 1), (11, .aload_n 0, 1), (12, .getfield 96, 3), (15, .iload_n 1, 1), (16, .aaload, 1), (17, .aload_n 0, 1), (18, .getfield 33, 3), (21, .invokevirtual 378, 3), (24, .aload_n 0, 1), (25, .dup, 1), (26, .getfield 123, 3), (29, .iconst 1, 1), (30, .iload_n 1, 1), (31, .ishl, 1), (32, .ior, 1), (33, .putfield 123, 3), (36, .iconst 1, 1), (37, .ireturn, 1)]
theorem D152 : Dec (mCod 152) C152 := decB_ok (by decide +kernel)
set_option maxRecDepth 20000 in
def C153 : Cds := [(0, .iload_n 1, 1), (1, .ifCond .lt 19, 3), (4, .iload_n 1, 1), (5, .iconst 3, 1), (6, .if_icmp .ge 14, 3), (9, .aload_n 0, 1), (10, .getfield 123, 3), (13, .iload_n 1, 1), (14, .ishr, 1), (15, .iconst 1, 1), (16, .iand, 1), (17, .ifCond .ne 5, 3), (20, .iconst 0, 1), (21, .ireturn, 1), (22, .aload_n 0, 1), (23, .getfield 33, 3), (26, .aload_n 0, 1), (27, .getfield 96, 3), (30, .iload_n 1, 1), (31, .aaload, 1), (32, .invokevirtual 378, 3), (35, .aload_n 0, 1), (36, .getfield 51, 3), (39, .invokevirtual 120, 3), (42, .iconst 1, 1), (43, .ireturn, 1)]
theorem D153 : Dec (mCod 153) C153 := decB_ok (by decide +kernel)
set_option maxRecDepth 20000 in
def C154 : Cds := [(0, .iload_n 1, 1), (1, .tableswitch 163 0 11 #[63, 71, 79, 87, 95, 103, 111, 119, 134, 142, 150, 155], 63), (64, .aload_n 0, 1), (65, .getfield 26, 3), (68, .getfield 382, 3), (71, .ireturn, 1), (72, .aload_n 0, 1), (73, .getfield 26, 3), (76, .getfield 384, 3), (79, .ireturn, 1), (80, .aload_n 0, 1), (81, .getfield 26, 3), (84, .getfield 139, 3), (87, .ireturn, 1), (88, .aload_n 0, 1), (89, .getfield 26, 3), (92, .getfield 146, 3), (95, .ireturn, 1), (96, .aload_n 0, 1), (97, .getfield 33, 3), (100, .getfield 387, 3), (103, .ireturn, 1), (104, .aload_n 0, 1), (105, .getfield 33, 3), (108, .getfield 170, 3), (111, .ireturn, 1), (112, .aload_n 0, 1), (113, .getfield 33, 3), (116, .getfield 188, 3), (119, .ireturn, 1), (120, .aload_n 0, 1), (121, .getfield 33, 3), (124, .aload_n 0, 1), (125, .getfield 26, 3), (128, .getfield 146, 3), (131, .invokevirtual 390, 3), (134, .ireturn, 1), (135, .aload_n 0, 1), (136, .getfield 51, 3), (139, .getfield 392, 3), (142, .ireturn, 1), (143, .aload_n 0, 1), (144, .getfield 92, 3), (147, .getfield 367, 3), (150, .ireturn, 1), (151, .aload_n 0, 1), (152, .getfield 395, 3), (155, .ireturn, 1), (156, .aload_n 0, 1), (157, .getfield 10, 3), (160, .getfield 112, 3), (163, .ireturn, 1), (164, .bipush (-100), 2), (166, .ireturn, 1)]
theorem D154 : Dec (mCod 154) C154 := decB_ok (by decide +kernel)
set_option maxRecDepth 20000 in
def C155 : Cds := [(0, .iconst 0, 1), (1, .istore_n 2, 1), (2, .iconst 0, 1), (3, .istore_n 3, 1), (4, .iload_n 3, 1), (5, .iload_n 1, 1), (6, .if_icmp .ge 23, 3), (9, .iload_n 3, 1), (10, .iconst 5, 1), (11, .if_icmp .ge 18, 3), (14, .iload_n 2, 1), (15, .aload_n 0, 1), (16, .getfield 36, 3), (19, .iload_n 3, 1), (20, .iaload, 1), (21, .iadd, 1), (22, .istore_n 2, 1), (23, .iinc 3 1, 3), (26, .goto (-22), 3), (29, .iload_n 2, 1), (30, .ireturn, 1)]
theorem D155 : Dec (mCod 155) C155 := decB_ok (by decide +kernel)
set_option maxRecDepth 20000 in
def C156 : Cds := [(0, .aload_n 0, 1), (1, .getfield 26, 3), (4, .iload_n 1, 1), (5, .invokevirtual 129, 3), (8, .ifCond .eq 12, 3), (11, .iload_n 2, 1), (12, .ifCond .lt 8, 3), (15, .iload_n 2, 1), (16, .iconst 3, 1), (17, .if_icmp .le 11, 3), (20, .new 132, 3), (23, .dup, 1), (24, .invokespecial 134, 3), (27, .athrow, 1), (28, .iload_n 2, 1), (29, .tableswitch 69 0 2 #[27, 37, 53], 27), (56, .aload_n 0, 1), (57, .getfield 26, 3), (60, .getfield 135, 3), (63, .iload_n 1, 1), (64, .iaload, 1), (65, .ireturn, 1), (66, .aload_n 0, 1), (67, .getfield 33, 3), (70, .iload_n 1, 1), (71, .aload_n 0, 1), (72, .getfield 26, 3), (75, .getfield 139, 3), (78, .invokevirtual 142, 3), (81, .ireturn, 1), (82, .aload_n 0, 1), (83, .getfield 33, 3), (86, .iload_n 1, 1), (87, .aload_n 0, 1), (88, .getfield 26, 3), (91, .getfield 146, 3), (94, .invokevirtual 149, 3), (97, .ireturn, 1), (98, .aload_n 0, 1), (99, .getfield 26, 3), (102, .iload_n 1, 1), (103, .invokevirtual 152, 3), (106, .ireturn, 1)]
theorem D156 : Dec (mCod 156) C156 := decB_ok (by decide +kernel)
set_option maxRecDepth 20000 in
def C157 : Cds := [(0, .iconst 0, 1), (1, .istore_n 3, 1), (2, .iconst 0, 1), (3, .istore 4, 2), (5, .iload 4, 2), (7, .iload_n 2, 1), (8, .if_icmp .ge 33, 3), (11, .iload 4, 2), (13, .iconst 5, 1), (14, .if_icmp .ge 27, 3), (17, .aload_n 0, 1), (18, .getfield 15, 3), (21, .iload 4, 2), (23, .iaload, 1), (24, .iload_n 1, 1), (25, .if_icmp .ne 10, 3), (28, .iload_n 3, 1), (29, .iconst 1, 1), (30, .iload 4, 2), (32, .ishl, 1), (33, .ior, 1), (34, .istore_n 3, 1), (35, .iinc 4 1, 3), (38, .goto (-33), 3), (41, .iload_n 3, 1), (42, .ireturn, 1)]
theorem D157 : Dec (mCod 157) C157 := decB_ok (by decide +kernel)
set_option maxRecDepth 20000 in
def C158 : Cds := [(0, .iconst 0, 1), (1, .istore_n 3, 1), (2, .iconst 0, 1), (3, .istore 4, 2), (5, .iload 4, 2), (7, .iload_n 2, 1), (8, .if_icmp .ge 33, 3), (11, .iload 4, 2), (13, .iconst 5, 1), (14, .if_icmp .ge 27, 3), (17, .aload_n 0, 1), (18, .getfield 21, 3), (21, .iload 4, 2), (23, .iaload, 1), (24, .iload_n 1, 1), (25, .if_icmp .ne 10, 3), (28, .iload_n 3, 1), (29, .iconst 1, 1), (30, .iload 4, 2), (32, .ishl, 1), (33, .ior, 1), (34, .istore_n 3, 1), (35, .iinc 4 1, 3), (38, .goto (-33), 3), (41, .iload_n 3, 1), (42, .ireturn, 1)]
theorem D158 : Dec (mCod 158) C158 := decB_ok (by decide +kernel)
set_option maxRecDepth 20000 in
def C159 : Cds := [(0, .iconst 0, 1), (1, .istore_n 2, 1), (2, .iconst 0, 1), (3, .istore_n 3, 1), (4, .iload_n 3, 1), (5, .aload_n 0, 1), (6, .getfield 34, 3), (9, .if_icmp .ge 35, 3), (12, .aload_n 0, 1), (13, .getfield 15, 3), (16, .iload_n 3, 1), (17, .iaload, 1), (18, .iload_n 1, 1), (19, .if_icmp .eq 13, 3), (22, .aload_n 0, 1), (23, .getfield 18, 3), (26, .iload_n 3, 1), (27, .iaload, 1), (28, .iload_n 1, 1), (29, .if_icmp .ne 9, 3), (32, .iload_n 2, 1), (33, .iconst 1, 1), (34, .iload_n 3, 1), (35, .ishl, 1), (36, .ior, 1), (37, .istore_n 2, 1), (38, .iinc 3 1, 3), (41, .goto (-37), 3), (44, .iload_n 2, 1), (45, .ireturn, 1)]
theorem D159 : Dec (mCod 159) C159 := decB_ok (by decide +kernel)
set_option maxRecDepth 20000 in
def C160 : Cds := [(0, .aload_n 0, 1), (1, .getfield 26, 3), (4, .iload_n 1, 1), (5, .invokevirtual 155, 3), (8, .ifCond .eq 12, 3), (11, .iload_n 2, 1), (12, .ifCond .lt 8, 3), (15, .iload_n 2, 1), (16, .iconst 3, 1), (17, .if_icmp .le 11, 3), (20, .new 132, 3), (23, .dup, 1), (24, .invokespecial 134, 3), (27, .athrow, 1), (28, .iload_n 2, 1), (29, .tableswitch 57 0 2 #[27, 37, 47], 27), (56, .aload_n 0, 1), (57, .getfield 26, 3), (60, .getfield 158, 3), (63, .iload_n 1, 1), (64, .iaload, 1), (65, .ireturn, 1), (66, .aload_n 0, 1), (67, .getfield 26, 3), (70, .getfield 161, 3), (73, .iload_n 1, 1), (74, .iaload, 1), (75, .ireturn, 1), (76, .aload_n 0, 1), (77, .getfield 26, 3), (80, .getfield 164, 3), (83, .iload_n 1, 1), (84, .iaload, 1), (85, .ireturn, 1), (86, .aload_n 0, 1), (87, .getfield 26, 3), (90, .iload_n 1, 1), (91, .invokevirtual 167, 3), (94, .ifCond .eq 19, 3), (97, .iconst 1, 1), (98, .aload_n 0, 1), (99, .getfield 33, 3), (102, .getfield 170, 3), (105, .iload_n 1, 1), (106, .ishr, 1), (107, .iconst 1, 1), (108, .iand, 1), (109, .iadd, 1), (110, .goto 4, 3), (113, .iconst 0, 1), (114, .ireturn, 1)]
theorem D160 : Dec (mCod 160) C160 := decB_ok (by decide +kernel)
set_option maxRecDepth 20000 in
def C161 : Cds := [(0, .aload_n 0, 1), (1, .getfield 26, 3), (4, .iload_n 1, 1), (5, .invokevirtual 173, 3), (8, .ifCond .eq 12, 3), (11, .iload_n 2, 1), (12, .ifCond .lt 8, 3), (15, .iload_n 2, 1), (16, .iconst 4, 1), (17, .if_icmp .le 11, 3), (20, .new 132, 3), (23, .dup, 1), (24, .invokespecial 134, 3), (27, .athrow, 1), (28, .iload_n 2, 1), (29, .tableswitch 71 0 3 #[31, 41, 51, 61], 31), (60, .aload_n 0, 1), (61, .getfield 33, 3), (64, .getfield 176, 3), (67, .iload_n 1, 1), (68, .iaload, 1), (69, .ireturn, 1), (70, .aload_n 0, 1), (71, .getfield 26, 3), (74, .getfield 179, 3), (77, .iload_n 1, 1), (78, .iaload, 1), (79, .ireturn, 1), (80, .aload_n 0, 1), (81, .getfield 33, 3), (84, .getfield 182, 3), (87, .iload_n 1, 1), (88, .iaload, 1), (89, .ireturn, 1), (90, .aload_n 0, 1), (91, .getfield 33, 3), (94, .getfield 185, 3), (97, .iload_n 1, 1), (98, .iaload, 1), (99, .ireturn, 1), (100, .aload_n 0, 1), (101, .getfield 33, 3), (104, .getfield 188, 3), (107, .iload_n 1, 1), (108, .ishr, 1), (109, .iconst 1, 1), (110, .iand, 1), (111, .ireturn, 1)]
theorem D161 : Dec (mCod 161) C161 := decB_ok (by decide +kernel)
set_option maxRecDepth 20000 in
def C162 : Cds := [(0, .aload_n 0, 1), (1, .getfield 26, 3), (4, .iload_n 1, 1), (5, .invokevirtual 191, 3), (8, .ifCond .eq 13, 3), (11, .iload_n 2, 1), (12, .ifCond .lt 9, 3), (15, .iload_n 2, 1), (16, .bipush 8, 2), (18, .if_icmp .le 11, 3), (21, .new 132, 3), (24, .dup, 1), (25, .invokespecial 134, 3), (28, .athrow, 1), (29, .iload_n 2, 1), (30, .tableswitch 132 0 7 #[46, 56, 66, 78, 92, 102, 112, 122], 46), (76, .aload_n 0, 1), (77, .getfield 26, 3), (80, .getfield 194, 3), (83, .iload_n 1, 1), (84, .iaload, 1), (85, .ireturn, 1), (86, .aload_n 0, 1), (87, .getfield 33, 3), (90, .getfield 197, 3), (93, .iload_n 1, 1), (94, .iaload, 1), (95, .ireturn, 1), (96, .aload_n 0, 1), (97, .getfield 33, 3), (100, .getfield 200, 3), (103, .iconst 2, 1), (104, .iload_n 1, 1), (105, .imul, 1), (106, .iaload, 1), (107, .ireturn, 1), (108, .aload_n 0, 1), (109, .getfield 33, 3), (112, .getfield 200, 3), (115, .iconst 2, 1), (116, .iload_n 1, 1), (117, .imul, 1), (118, .iconst 1, 1), (119, .iadd, 1), (120, .iaload, 1), (121, .ireturn, 1), (122, .aload_n 0, 1), (123, .getfield 33, 3), (126, .getfield 203, 3), (129, .iload_n 1, 1), (130, .iaload, 1), (131, .ireturn, 1), (132, .aload_n 0, 1), (133, .getfield 33, 3), (136, .getfield 206, 3), (139, .iload_n 1, 1), (140, .iaload, 1), (141, .ireturn, 1), (142, .aload_n 0, 1), (143, .getfield 33, 3), (146, .getfield 209, 3), (149, .iload_n 1, 1), (150, .iaload, 1), (151, .ireturn, 1), (152, .aload_n 0, 1), (153, .getfield 33, 3), (156, .getfield 212, 3), (159, .iload_n 1, 1), (160, .iaload, 1), (161, .ireturn, 1), (162, .aload_n 0, 1), (163, .iload_n 1, 1), (164, .invokevirtual 215, 3), (167, .ireturn, 1)]
theorem D162 : Dec (mCod 162) C162 := decB_ok (by decide +kernel)
set_option maxRecDepth 20000 in
def C163 : Cds := [(0, .aload_n 0, 1), (1, .getfield 42, 3), (4, .iload_n 1, 1), (5, .aload_n 0, 1), (6, .getfield 33, 3), (9, .getfield 209, 3), (12, .iload_n 1, 1), (13, .iaload, 1), (14, .invokevirtual 218, 3), (17, .ifCond .eq 17, 3), (20, .aload_n 0, 1), (21, .getfield 19, 3), (24, .aload_n 0, 1), (25, .getfield 42, 3), (28, .invokevirtual 222, 3), (31, .goto 4, 3), (34, .iconst 0, 1), (35, .ireturn, 1)]
theorem D163 : Dec (mCod 163) C163 := decB_ok (by decide +kernel)
set_option maxRecDepth 20000 in
def C164 : Cds := [(0, .iload_n 1, 1), (1, .ifCond .lt 17, 3), (4, .iload_n 1, 1), (5, .aload_n 0, 1), (6, .getfield 395, 3), (9, .if_icmp .ge 9, 3), (12, .iload_n 1, 1), (13, .bipush 16, 2), (15, .if_icmp .lt 11, 3), (18, .new 132, 3), (21, .dup, 1), (22, .invokespecial 134, 3), (25, .athrow, 1), (26, .aload_n 0, 1), (27, .getfield 100, 3), (30, .iload_n 1, 1), (31, .laload, 1), (32, .lreturn, 1)]
theorem D164 : Dec (mCod 164) C164 := decB_ok (by decide +kernel)
set_option maxRecDepth 20000 in
def C165 : Cds := [(0, .aload_n 0, 1), (1, .invokespecial 3, 3), (4, .aload_n 0, 1), (5, .bipush 24, 2), (7, .newarray .long, 2), (9, .putfield 9, 3), (12, .aload_n 0, 1), (13, .bipush 10, 2), (15, .newarray .int, 2), (17, .putfield 13, 3), (20, .aload_n 0, 1), (21, .bipush 14, 2), (23, .newarray .int, 2), (25, .putfield 17, 3), (28, .aload_n 0, 1), (29, .bipush 14, 2), (31, .newarray .int, 2), (33, .putfield 20, 3), (36, .aload_n 0, 1), (37, .bipush 14, 2), (39, .newarray .int, 2), (41, .putfield 23, 3), (44, .aload_n 0, 1), (45, .bipush 14, 2), (47, .newarray .boolean, 2), (49, .putfield 26, 3), (52, .aload_n 0, 1), (53, .iconst 5, 1), (54, .newarray .int, 2), (56, .putfield 30, 3), (59, .aload_n 0, 1), (60, .iconst 5, 1), (61, .newarray .int, 2), (63, .putfield 33, 3), (66, .aload_n 0, 1), (67, .bipush 52, 2), (69, .newarray .int, 2), (71, .putfield 36, 3), (74, .aload_n 0, 1), (75, .bipush 52, 2), (77, .newarray .int, 2), (79, .putfield 39, 3), (82, .aload_n 0, 1), (83, .bipush 80, 2), (85, .newarray .int, 2), (87, .putfield 42, 3), (90, .aload_n 0, 1), (91, .bipush 10, 2), (93, .newarray .int, 2), (95, .putfield 45, 3), (98, .aload_n 0, 1), (99, .bipush 56, 2), (101, .newarray .int, 2), (103, .putfield 48, 3), (106, .aload_n 0, 1), (107, .bipush 15, 2), (109, .newarray .int, 2), (111, .putfield 51, 3), (114, .aload_n 0, 1), (115, .bipush 10, 2), (117, .newarray .int, 2), (119, .putfield 54, 3), (122, .aload_n 0, 1), (123, .bipush 80, 2), (125, .newarray .int, 2), (127, .putfield 57, 3), (130, .aload_n 0, 1), (131, .bipush 80, 2), (133, .newarray .int, 2), (135, .putfield 60, 3), (138, .aload_n 0, 1), (139, .bipush 80, 2), (141, .newarray .int, 2), (143, .putfield 63, 3), (146, .aload_n 0, 1), (147, .bipush 8, 2), (149, .newarray .int, 2), (151, .putfield 66, 3), (154, .aload_n 0, 1), (155, .sipush 832, 3), (158, .newarray .int, 2), (160, .putfield 69, 3), (163, .aload_n 0, 1), (164, .bipush 60, 2), (166, .newarray .int, 2), (168, .putfield 72, 3), (171, .aload_n 0, 1), (172, .bipush 60, 2), (174, .newarray .int, 2), (176, .putfield 75, 3), (179, .aload_n 0, 1), (180, .bipush 60, 2), (182, .newarray .int, 2), (184, .putfield 78, 3), (187, .aload_n 0, 1), (188, .bipush 100, 2), (190, .newarray .int, 2), (192, .putfield 81, 3), (195, .aload_n 0, 1), (196, .bipush 100, 2), (198, .newarray .int, 2), (200, .putfield 84, 3), (203, .aload_n 0, 1), (204, .bipush 10, 2), (206, .newarray .int, 2), (208, .putfield 87, 3), (211, .aload_n 0, 1), (212, .bipush 10, 2), (214, .newarray .int, 2), (216, .putfield 90, 3), (219, .aload_n 0, 1), (220, .bipush 10, 2), (222, .newarray .int, 2), (224, .putfield 93, 3), (227, .aload_n 0, 1), (228, .iconst 5, 1), (229, .newarray .int, 2), (231, .putfield 96, 3), (234, .aload_n 0, 1), (235, .iconst 5, 1), (236, .newarray .int, 2), (238, .putfield 99, 3), (241, .aload_n 0, 1), (242, .bipush 30, 2), (244, .newarray .int, 2), (246, .putfield 102, 3), (249, .aload_n 0, 1), (250, .bipush 8, 2), (252, .newarray .int, 2), (254, .putfield 105, 3), (257, .aload_n 0, 1), (258, .bipush 8, 2), (260, .newarray .int, 2), (262, .putfield 108, 3), (265, .aload_n 0, 1), (266, .bipush 10, 2), (268, .newarray .int, 2), (270, .putfield 111, 3), (273, .aload_n 0, 1), (274, .bipush 10, 2), (276, .newarray .int, 2), (278, .putfield 114, 3), (281, .aload_n 0, 1), (282, .iconst 3, 1), (283, .newarray .boolean, 2), (285, .putfield 117, 3), (288, .aload_n 0, 1), (289, .iconst 3, 1), (290, .newarray .int, 2), (292, .putfield 120, 3), (295, .aload_n 0, 1), (296, .sipush 156, 3), (299, .newarray .int, 2), (301, .putfield 123, 3), (304, .return_, 1)]
theorem D165 : Dec (mCod 165) C165 := decB_ok (by decide +kernel)
set_option maxRecDepth 20000 in
def C166 : Cds := [(0, .aload_n 0, 1), (1, .getfield 126, 3), (4, .ireturn, 1)]
theorem D166 : Dec (mCod 166) C166 := decB_ok (by decide +kernel)
set_option maxRecDepth 20000 in
def C167 : Cds := [(0, .aload_n 0, 1), (1, .iconst 0, 1), (2, .putfield 126, 3), (5, .aload_n 0, 1), (6, .getfield 160, 3), (9, .bipush 76, 2), (11, .if_icmp .le 5, 3), (14, .iconst (-1), 1), (15, .ireturn, 1), (16, .iconst 0, 1), (17, .istore_n 2, 1), (18, .iload_n 2, 1), (19, .iconst 4, 1), (20, .if_icmp .ge 33, 3), (23, .aload_n 0, 1), (24, .getfield 42, 3), (27, .aload_n 0, 1), (28, .getfield 160, 3), (31, .iload_n 2, 1), (32, .iadd, 1), (33, .iload_n 1, 1), (34, .bipush 24, 2), (36, .bipush 8, 2), (38, .iload_n 2, 1), (39, .imul, 1), (40, .isub, 1), (41, .ishr, 1), (42, .sipush 255, 3), (45, .iand, 1), (46, .iastore, 1), (47, .iinc 2 1, 3), (50, .goto (-32), 3), (53, .aload_n 0, 1), (54, .dup, 1), (55, .getfield 160, 3), (58, .iconst 4, 1), (59, .iadd, 1), (60, .putfield 160, 3), (63, .aload_n 0, 1), (64, .getfield 160, 3), (67, .ireturn, 1)]
theorem D167 : Dec (mCod 167) C167 := decB_ok (by decide +kernel)
set_option maxRecDepth 20000 in
def C168 : Cds := [(0, .aload_n 0, 1), (1, .iconst 0, 1), (2, .putfield 126, 3), (5, .iload_n 1, 1), (6, .i2l, 1), (7, .lconst 0, 1), (8, .aload_n 0, 1), (9, .getfield 160, 3), (12, .i2l, 1), (13, .invokestatic 136, 3), (16, .ifCond .ne 5, 3), (19, .iconst 0, 1), (20, .ireturn, 1), (21, .aload_n 0, 1), (22, .iload_n 1, 1), (23, .putfield 160, 3), (26, .iconst 1, 1), (27, .ireturn, 1)]
theorem D168 : Dec (mCod 168) C168 := decB_ok (by decide +kernel)
set_option maxRecDepth 20000 in
def C169 : Cds := [(0, .lload_n 0, 1), (1, .lload_n 2, 1), (2, .lcmp, 1), (3, .ifCond .lt 14, 3), (6, .lload_n 0, 1), (7, .lload 4, 2), (9, .lcmp, 1), (10, .ifCond .gt 7, 3), (13, .iconst 1, 1), (14, .goto 4, 3), (17, .iconst 0, 1), (18, .ireturn, 1)]
theorem D169 : Dec (mCod 169) C169 := decB_ok (by decide +kernel)
set_option maxRecDepth 20000 in
def C170 : Cds := [(0, .aload_n 0, 1), (1, .iconst 0, 1), (2, .putfield 126, 3), (5, .aload_n 0, 1), (6, .bipush 76, 2), (8, .invokevirtual 250, 3), (11, .istore_n 1, 1), (12, .aload_n 0, 1), (13, .iconst 0, 1), (14, .putfield 204, 3), (17, .aload_n 0, 1), (18, .iconst 0, 1), (19, .putfield 212, 3), (22, .aload_n 0, 1), (23, .iconst 0, 1), (24, .putfield 224, 3), (27, .aload_n 0, 1), (28, .iconst 0, 1), (29, .putfield 233, 3), (32, .iconst 1, 1), (33, .istore_n 2, 1), (34, .iload_n 1, 1), (35, .ifCond .le 7, 3), (38, .iconst 1, 1), (39, .goto 4, 3), (42, .iconst 0, 1), (43, .istore_n 3, 1), (44, .iload_n 3, 1), (45, .ifCond .eq 30, 3), (48, .aload_n 0, 1), (49, .invokevirtual 253, 3), (52, .istore_n 2, 1), (53, .iload_n 2, 1), (54, .ifCond .eq 16, 3), (57, .aload_n 0, 1), (58, .bipush 59, 2), (60, .invokevirtual 220, 3), (63, .ifCond .eq 7, 3), (66, .iconst 1, 1), (67, .goto 4, 3), (70, .iconst 0, 1), (71, .istore_n 3, 1), (72, .goto (-28), 3), (75, .aload_n 0, 1), (76, .iload_n 1, 1), (77, .bipush 76, 2), (79, .iload_n 2, 1), (80, .invokevirtual 256, 3), (83, .istore 4, 2), (85, .iload 4, 2), (87, .ifCond .ge 6, 3), (90, .iload 4, 2), (92, .ireturn, 1), (93, .iconst 0, 1), (94, .istore 5, 2), (96, .iload 5, 2), (98, .aload_n 0, 1), (99, .getfield 204, 3), (102, .if_icmp .ge 35, 3), (105, .aload_n 0, 1), (106, .getfield 13, 3), (109, .aload_n 0, 1), (110, .getfield 133, 3), (113, .aload_n 0, 1), (114, .getfield 45, 3), (117, .iload 5, 2), (119, .iaload, 1), (120, .iastore, 1), (121, .aload_n 0, 1), (122, .dup, 1), (123, .getfield 133, 3), (126, .iconst 1, 1), (127, .iadd, 1), (128, .putfield 133, 3), (131, .iinc 5 1, 3), (134, .goto (-38), 3), (137, .iconst 0, 1), (138, .istore 5, 2), (140, .iload 5, 2), (142, .aload_n 0, 1), (143, .getfield 212, 3), (146, .if_icmp .ge 106, 3), (149, .aload_n 0, 1), (150, .getfield 17, 3), (153, .aload_n 0, 1), (154, .getfield 146, 3), (157, .aload_n 0, 1), (158, .getfield 48, 3), (161, .iconst 4, 1), (162, .iload 5, 2), (164, .imul, 1), (165, .iaload, 1), (166, .iastore, 1), (167, .aload_n 0, 1), (168, .getfield 20, 3), (171, .aload_n 0, 1), (172, .getfield 146, 3), (175, .aload_n 0, 1), (176, .getfield 48, 3), (179, .iconst 4, 1), (180, .iload 5, 2), (182, .imul, 1), (183, .iconst 1, 1), (184, .iadd, 1), (185, .iaload, 1), (186, .iastore, 1), (187, .aload_n 0, 1), (188, .getfield 23, 3), (191, .aload_n 0, 1), (192, .getfield 146, 3), (195, .aload_n 0, 1), (196, .getfield 48, 3), (199, .iconst 4, 1), (200, .iload 5, 2), (202, .imul, 1), (203, .iconst 2, 1), (204, .iadd, 1), (205, .iaload, 1), (206, .iastore, 1), (207, .aload_n 0, 1), (208, .getfield 26, 3), (211, .aload_n 0, 1), (212, .getfield 146, 3), (215, .aload_n 0, 1), (216, .getfield 48, 3), (219, .iconst 4, 1), (220, .iload 5, 2), (222, .imul, 1), (223, .iconst 3, 1), (224, .iadd, 1), (225, .iaload, 1), (226, .iconst 1, 1), (227, .if_icmp .ne 7, 3), (230, .iconst 1, 1), (231, .goto 4, 3), (234, .iconst 0, 1), (235, .bastore, 1), (236, .aload_n 0, 1), (237, .dup, 1), (238, .getfield 146, 3), (241, .iconst 1, 1), (242, .iadd, 1), (243, .putfield 146, 3), (246, .iinc 5 1, 3), (249, .goto (-109), 3), (252, .iconst 0, 1), (253, .istore 5, 2), (255, .iload 5, 2), (257, .aload_n 0, 1), (258, .getfield 224, 3), (261, .if_icmp .ge 99, 3), (264, .aload_n 0, 1), (265, .getfield 36, 3), (268, .iconst 3, 1), (269, .aload_n 0, 1), (270, .getfield 140, 3), (273, .imul, 1), (274, .iconst 0, 1), (275, .iadd, 1), (276, .aload_n 0, 1), (277, .getfield 51, 3), (280, .iconst 3, 1), (281, .iload 5, 2), (283, .imul, 1), (284, .iaload, 1), (285, .iastore, 1), (286, .aload_n 0, 1), (287, .getfield 36, 3), (290, .iconst 3, 1), (291, .aload_n 0, 1), (292, .getfield 140, 3), (295, .imul, 1), (296, .iconst 1, 1), (297, .iadd, 1), (298, .aload_n 0, 1), (299, .getfield 51, 3), (302, .iconst 3, 1), (303, .iload 5, 2), (305, .imul, 1), (306, .iconst 2, 1), (307, .iadd, 1), (308, .iaload, 1), (309, .iastore, 1), (310, .aload_n 0, 1), (311, .getfield 36, 3), (314, .iconst 3, 1), (315, .aload_n 0, 1), (316, .getfield 140, 3), (319, .imul, 1), (320, .iconst 2, 1), (321, .iadd, 1), (322, .iconst 0, 1), (323, .iastore, 1), (324, .aload_n 0, 1), (325, .getfield 30, 3), (328, .aload_n 0, 1), (329, .getfield 140, 3), (332, .aload_n 0, 1), (333, .getfield 51, 3), (336, .iconst 3, 1), (337, .iload 5, 2), (339, .imul, 1), (340, .iconst 1, 1), (341, .iadd, 1), (342, .iaload, 1), (343, .iastore, 1), (344, .aload_n 0, 1), (345, .dup, 1), (346, .getfield 140, 3), (349, .iconst 1, 1), (350, .iadd, 1), (351, .putfield 140, 3), (354, .iinc 5 1, 3), (357, .goto (-102), 3), (360, .iconst 0, 1), (361, .istore 5, 2), (363, .iload 5, 2), (365, .aload_n 0, 1), (366, .getfield 233, 3), (369, .if_icmp .ge 98, 3), (372, .aload_n 0, 1), (373, .getfield 33, 3), (376, .aload_n 0, 1), (377, .getfield 143, 3), (380, .aload_n 0, 1), (381, .getfield 54, 3), (384, .iconst 2, 1), (385, .iload 5, 2), (387, .imul, 1), (388, .iaload, 1), (389, .iastore, 1), (390, .iconst 0, 1), (391, .istore 6, 2), (393, .iload 6, 2), (395, .bipush 7, 2), (397, .if_icmp .ge 54, 3), (400, .aload_n 0, 1), (401, .getfield 36, 3), (404, .aload_n 0, 1), (405, .getfield 143, 3), (408, .invokestatic 149, 3), (411, .iload 6, 2), (413, .iadd, 1), (414, .iload 6, 2), (416, .ifCond .ne 17, 3), (419, .aload_n 0, 1), (420, .getfield 54, 3), (423, .iconst 2, 1), (424, .iload 5, 2), (426, .imul, 1), (427, .iconst 1, 1), (428, .iadd, 1), (429, .iaload, 1), (430, .goto 14, 3), (433, .iload 6, 2), (435, .iconst 5, 1), (436, .if_icmp .ne 7, 3), (439, .iconst (-1), 1), (440, .goto 4, 3), (443, .iconst 0, 1), (444, .iastore, 1), (445, .iinc 6 1, 3), (448, .goto (-55), 3), (451, .aload_n 0, 1), (452, .dup, 1), (453, .getfield 143, 3), (456, .iconst 1, 1), (457, .iadd, 1), (458, .putfield 143, 3), (461, .iinc 5 1, 3), (464, .goto (-101), 3), (467, .iload_n 1, 1), (468, .ifCond .le 18, 3), (471, .aload_n 0, 1), (472, .iconst 0, 1), (473, .putfield 260, 3), (476, .aload_n 0, 1), (477, .dup, 1), (478, .getfield 263, 3), (481, .iconst 1, 1), (482, .iadd, 1), (483, .putfield 263, 3), (486, .aload_n 0, 1), (487, .getfield 204, 3), (490, .aload_n 0, 1), (491, .getfield 212, 3), (494, .iadd, 1), (495, .aload_n 0, 1), (496, .getfield 224, 3), (499, .iadd, 1), (500, .aload_n 0, 1), (501, .getfield 233, 3), (504, .iadd, 1), (505, .ireturn, 1)]
theorem D170 : Dec (mCod 170) C170 := decB_ok (by decide +kernel)
set_option maxRecDepth 20000 in
def C171 : Cds := [(0, .aload_n 0, 1), (1, .getfield 160, 3), (4, .istore_n 2, 1), (5, .aload_n 0, 1), (6, .iconst 0, 1), (7, .putfield 160, 3), (10, .aload_n 0, 1), (11, .iconst 0, 1), (12, .putfield 163, 3), (15, .aload_n 0, 1), (16, .iconst 0, 1), (17, .putfield 166, 3), (20, .aload_n 0, 1), (21, .iload_n 2, 1), (22, .iload_n 1, 1), (23, .invokestatic 169, 3), (26, .putfield 175, 3), (29, .iload_n 2, 1), (30, .ireturn, 1)]
theorem D171 : Dec (mCod 171) C171 := decB_ok (by decide +kernel)
set_option maxRecDepth 20000 in
def C172 : Cds := [(0, .aload_n 0, 1), (1, .ldc 236, 2), (3, .invokevirtual 196, 3), (6, .tableswitch 58 0 5 #[38, 38, 38, 43, 48, 53], 38), (44, .aload_n 0, 1), (45, .invokevirtual 238, 3), (48, .ireturn, 1), (49, .aload_n 0, 1), (50, .invokevirtual 241, 3), (53, .ireturn, 1), (54, .aload_n 0, 1), (55, .invokevirtual 244, 3), (58, .ireturn, 1), (59, .aload_n 0, 1), (60, .invokevirtual 247, 3), (63, .ireturn, 1), (64, .iconst 0, 1), (65, .ireturn, 1)]
theorem D172 : Dec (mCod 172) C172 := decB_ok (by decide +kernel)
set_option maxRecDepth 20000 in
def C173 : Cds := [(0, .iconst 0, 1), (1, .istore_n 2, 1), (2, .iload_n 2, 1), (3, .aload_n 1, 1), (4, .invokevirtual 186, 3), (7, .if_icmp .ge 39, 3), (10, .aload_n 0, 1), (11, .getfield 163, 3), (14, .aload_n 0, 1), (15, .getfield 175, 3), (18, .if_icmp .ge 28, 3), (21, .aload_n 1, 1), (22, .iload_n 2, 1), (23, .invokevirtual 192, 3), (26, .aload_n 0, 1), (27, .getfield 42, 3), (30, .aload_n 0, 1), (31, .getfield 163, 3), (34, .iaload, 1), (35, .if_icmp .ne 5, 3), (38, .iload_n 2, 1), (39, .ireturn, 1), (40, .iinc 2 1, 3), (43, .goto (-41), 3), (46, .iconst (-1), 1), (47, .ireturn, 1)]
theorem D173 : Dec (mCod 173) C173 := decB_ok (by decide +kernel)
set_option maxRecDepth 20000 in
def C176 : Cds := [(0, .aload_n 0, 1), (1, .getfield 133, 3), (4, .aload_n 0, 1), (5, .getfield 204, 3), (8, .iadd, 1), (9, .bipush 10, 2), (11, .if_icmp .ne 5, 3), (14, .iconst 0, 1), (15, .ireturn, 1), (16, .aload_n 0, 1), (17, .getfield 45, 3), (20, .aload_n 0, 1), (21, .getfield 204, 3), (24, .aload_n 0, 1), (25, .ldc 207, 2), (27, .invokevirtual 209, 3), (30, .iastore, 1), (31, .aload_n 0, 1), (32, .dup, 1), (33, .getfield 204, 3), (36, .iconst 1, 1), (37, .iadd, 1), (38, .putfield 204, 3), (41, .iconst 1, 1), (42, .ireturn, 1)]
theorem D176 : Dec (mCod 176) C176 := decB_ok (by decide +kernel)
set_option maxRecDepth 20000 in
def C177 : Cds := [(0, .aload_n 0, 1), (1, .aload_n 1, 1), (2, .invokevirtual 196, 3), (5, .istore_n 2, 1), (6, .aload_n 0, 1), (7, .dup, 1), (8, .getfield 163, 3), (11, .iload_n 2, 1), (12, .ifCond .lt 7, 3), (15, .iconst 1, 1), (16, .goto 4, 3), (19, .iconst 0, 1), (20, .invokestatic 178, 3), (23, .iadd, 1), (24, .putfield 163, 3), (27, .iload_n 2, 1), (28, .ireturn, 1)]
theorem D177 : Dec (mCod 177) C177 := decB_ok (by decide +kernel)
set_option maxRecDepth 20000 in
def C178 : Cds := [(0, .iload_n 0, 1), (1, .ifCond .eq 7, 3), (4, .iconst 1, 1), (5, .goto 4, 3), (8, .iconst 0, 1), (9, .ireturn, 1)]
theorem D178 : Dec (mCod 178) C178 := decB_ok (by decide +kernel)
set_option maxRecDepth 20000 in
def C179 : Cds := [(0, .aload_n 0, 1), (1, .getfield 146, 3), (4, .aload_n 0, 1), (5, .getfield 212, 3), (8, .iadd, 1), (9, .bipush 14, 2), (11, .if_icmp .ne 5, 3), (14, .iconst 0, 1), (15, .ireturn, 1), (16, .iconst 4, 1), (17, .aload_n 0, 1), (18, .getfield 212, 3), (21, .imul, 1), (22, .istore_n 1, 1), (23, .aload_n 0, 1), (24, .dup, 1), (25, .getfield 163, 3), (28, .iconst 1, 1), (29, .iadd, 1), (30, .putfield 163, 3), (33, .aload_n 0, 1), (34, .getfield 48, 3), (37, .iload_n 1, 1), (38, .aload_n 0, 1), (39, .invokevirtual 215, 3), (42, .iastore, 1), (43, .aload_n 0, 1), (44, .getfield 48, 3), (47, .iload_n 1, 1), (48, .iaload, 1), (49, .ifCond .lt 35, 3), (52, .aload_n 0, 1), (53, .getfield 163, 3), (56, .aload_n 0, 1), (57, .getfield 175, 3), (60, .if_icmp .ge 26, 3), (63, .aload_n 0, 1), (64, .getfield 42, 3), (67, .aload_n 0, 1), (68, .getfield 163, 3), (71, .iaload, 1), (72, .bipush 97, 2), (74, .isub, 1), (75, .aload_n 0, 1), (76, .getfield 48, 3), (79, .iload_n 1, 1), (80, .iaload, 1), (81, .if_icmp .ne 5, 3), (84, .iconst 0, 1), (85, .ireturn, 1), (86, .aload_n 0, 1), (87, .getfield 48, 3), (90, .iload_n 1, 1), (91, .iconst 1, 1), (92, .iadd, 1), (93, .aload_n 0, 1), (94, .invokevirtual 215, 3), (97, .iastore, 1), (98, .aload_n 0, 1), (99, .getfield 48, 3), (102, .iload_n 1, 1), (103, .iconst 1, 1), (104, .iadd, 1), (105, .iaload, 1), (106, .ifCond .ge 5, 3), (109, .iconst 0, 1), (110, .ireturn, 1), (111, .aload_n 0, 1), (112, .getfield 48, 3), (115, .iload_n 1, 1), (116, .iconst 2, 1), (117, .iadd, 1), (118, .iconst 1, 1), (119, .aload_n 0, 1), (120, .ldc 218, 2), (122, .invokevirtual 209, 3), (125, .iadd, 1), (126, .iastore, 1), (127, .aload_n 0, 1), (128, .getfield 48, 3), (131, .iload_n 1, 1), (132, .iconst 2, 1), (133, .iadd, 1), (134, .iaload, 1), (135, .ifCond .ne 5, 3), (138, .iconst 0, 1), (139, .ireturn, 1), (140, .aload_n 0, 1), (141, .getfield 48, 3), (144, .iload_n 1, 1), (145, .iconst 3, 1), (146, .iadd, 1), (147, .aload_n 0, 1), (148, .bipush 33, 2), (150, .invokevirtual 220, 3), (153, .invokestatic 178, 3), (156, .iastore, 1), (157, .aload_n 0, 1), (158, .dup, 1), (159, .getfield 212, 3), (162, .iconst 1, 1), (163, .iadd, 1), (164, .putfield 212, 3), (167, .iconst 1, 1), (168, .ireturn, 1)]
theorem D179 : Dec (mCod 179) C179 := decB_ok (by decide +kernel)
set_option maxRecDepth 20000 in
def C180 : Cds := [(0, .aload_n 0, 1), (1, .getfield 163, 3), (4, .aload_n 0, 1), (5, .getfield 175, 3), (8, .if_icmp .ge 18, 3), (11, .aload_n 0, 1), (12, .getfield 42, 3), (15, .aload_n 0, 1), (16, .getfield 163, 3), (19, .iaload, 1), (20, .bipush 97, 2), (22, .isub, 1), (23, .goto 4, 3), (26, .iconst (-1), 1), (27, .istore_n 1, 1), (28, .iload_n 1, 1), (29, .i2l, 1), (30, .lconst 0, 1), (31, .aload_n 0, 1), (32, .getfield 133, 3), (35, .aload_n 0, 1), (36, .getfield 204, 3), (39, .iadd, 1), (40, .iconst 1, 1), (41, .isub, 1), (42, .i2l, 1), (43, .invokestatic 136, 3), (46, .ifCond .ne 5, 3), (49, .iconst (-1), 1), (50, .ireturn, 1), (51, .aload_n 0, 1), (52, .dup, 1), (53, .getfield 163, 3), (56, .iconst 1, 1), (57, .iadd, 1), (58, .putfield 163, 3), (61, .iload_n 1, 1), (62, .ireturn, 1)]
theorem D180 : Dec (mCod 180) C180 := decB_ok (by decide +kernel)
set_option maxRecDepth 20000 in
def C181 : Cds := [(0, .aload_n 0, 1), (1, .getfield 163, 3), (4, .aload_n 0, 1), (5, .getfield 175, 3), (8, .if_icmp .ge 20, 3), (11, .aload_n 0, 1), (12, .getfield 42, 3), (15, .aload_n 0, 1), (16, .getfield 163, 3), (19, .iaload, 1), (20, .iload_n 1, 1), (21, .if_icmp .ne 7, 3), (24, .iconst 1, 1), (25, .goto 4, 3), (28, .iconst 0, 1), (29, .istore_n 2, 1), (30, .aload_n 0, 1), (31, .dup, 1), (32, .getfield 163, 3), (35, .iload_n 2, 1), (36, .invokestatic 178, 3), (39, .iadd, 1), (40, .putfield 163, 3), (43, .iload_n 2, 1), (44, .ireturn, 1)]
theorem D181 : Dec (mCod 181) C181 := decB_ok (by decide +kernel)
set_option maxRecDepth 20000 in
def C182 : Cds := [(0, .aload_n 0, 1), (1, .getfield 140, 3), (4, .aload_n 0, 1), (5, .getfield 224, 3), (8, .iadd, 1), (9, .iconst 5, 1), (10, .if_icmp .ne 5, 3), (13, .iconst 0, 1), (14, .ireturn, 1), (15, .iconst 3, 1), (16, .aload_n 0, 1), (17, .getfield 224, 3), (20, .imul, 1), (21, .istore_n 1, 1), (22, .aload_n 0, 1), (23, .dup, 1), (24, .getfield 163, 3), (27, .iconst 1, 1), (28, .iadd, 1), (29, .putfield 163, 3), (32, .aload_n 0, 1), (33, .getfield 51, 3), (36, .iload_n 1, 1), (37, .aload_n 0, 1), (38, .iconst 3, 1), (39, .invokevirtual 227, 3), (42, .iastore, 1), (43, .aload_n 0, 1), (44, .getfield 51, 3), (47, .iload_n 1, 1), (48, .iaload, 1), (49, .ifCond .lt 12, 3), (52, .aload_n 0, 1), (53, .bipush 45, 2), (55, .invokevirtual 220, 3), (58, .ifCond .ne 5, 3), (61, .iconst 0, 1), (62, .ireturn, 1), (63, .aload_n 0, 1), (64, .getfield 51, 3), (67, .iload_n 1, 1), (68, .iconst 1, 1), (69, .iadd, 1), (70, .aload_n 0, 1), (71, .iconst 1, 1), (72, .invokevirtual 227, 3), (75, .iastore, 1), (76, .aload_n 0, 1), (77, .getfield 51, 3), (80, .iload_n 1, 1), (81, .iconst 1, 1), (82, .iadd, 1), (83, .iaload, 1), (84, .ifCond .lt 12, 3), (87, .aload_n 0, 1), (88, .bipush 64, 2), (90, .invokevirtual 220, 3), (93, .ifCond .ne 5, 3), (96, .iconst 0, 1), (97, .ireturn, 1), (98, .aload_n 0, 1), (99, .getfield 51, 3), (102, .iload_n 1, 1), (103, .iconst 2, 1), (104, .iadd, 1), (105, .aload_n 0, 1), (106, .invokevirtual 215, 3), (109, .iastore, 1), (110, .aload_n 0, 1), (111, .getfield 51, 3), (114, .iload_n 1, 1), (115, .iconst 2, 1), (116, .iadd, 1), (117, .iaload, 1), (118, .ifCond .lt 30, 3), (121, .aload_n 0, 1), (122, .aload_n 0, 1), (123, .getfield 51, 3), (126, .iload_n 1, 1), (127, .iconst 2, 1), (128, .iadd, 1), (129, .iaload, 1), (130, .invokevirtual 230, 3), (133, .ifCond .ne 15, 3), (136, .aload_n 0, 1), (137, .dup, 1), (138, .getfield 163, 3), (141, .iconst 1, 1), (142, .isub, 1), (143, .putfield 163, 3), (146, .iconst 0, 1), (147, .ireturn, 1), (148, .aload_n 0, 1), (149, .dup, 1), (150, .getfield 224, 3), (153, .iconst 1, 1), (154, .iadd, 1), (155, .putfield 224, 3), (158, .aload_n 0, 1), (159, .getfield 51, 3), (162, .iload_n 1, 1), (163, .iconst 2, 1), (164, .iadd, 1), (165, .iaload, 1), (166, .ifCond .lt 7, 3), (169, .iconst 1, 1), (170, .goto 4, 3), (173, .iconst 0, 1), (174, .ireturn, 1)]
theorem D182 : Dec (mCod 182) C182 := decB_ok (by decide +kernel)
set_option maxRecDepth 20000 in
def C183 : Cds := [(0, .aload_n 0, 1), (1, .invokevirtual 200, 3), (4, .ifCond .ne 5, 3), (7, .iconst (-1), 1), (8, .ireturn, 1), (9, .iconst 0, 1), (10, .istore_n 2, 1), (11, .iconst 0, 1), (12, .istore_n 3, 1), (13, .iload_n 3, 1), (14, .iload_n 1, 1), (15, .if_icmp .ge 44, 3), (18, .aload_n 0, 1), (19, .invokevirtual 200, 3), (22, .ifCond .eq 37, 3), (25, .bipush 10, 2), (27, .iload_n 2, 1), (28, .imul, 1), (29, .aload_n 0, 1), (30, .getfield 42, 3), (33, .aload_n 0, 1), (34, .getfield 163, 3), (37, .iaload, 1), (38, .iadd, 1), (39, .bipush 48, 2), (41, .isub, 1), (42, .istore_n 2, 1), (43, .aload_n 0, 1), (44, .dup, 1), (45, .getfield 163, 3), (48, .iconst 1, 1), (49, .iadd, 1), (50, .putfield 163, 3), (53, .iinc 3 1, 3), (56, .goto (-43), 3), (59, .iload_n 2, 1), (60, .ireturn, 1)]
theorem D183 : Dec (mCod 183) C183 := decB_ok (by decide +kernel)
set_option maxRecDepth 20000 in
def C184 : Cds := [(0, .aload_n 0, 1), (1, .getfield 163, 3), (4, .aload_n 0, 1), (5, .getfield 175, 3), (8, .if_icmp .ge 29, 3), (11, .aload_n 0, 1), (12, .getfield 42, 3), (15, .aload_n 0, 1), (16, .getfield 163, 3), (19, .iaload, 1), (20, .i2l, 1), (21, .ldc2_w 182, 3), (24, .ldc2_w 184, 3), (27, .invokestatic 136, 3), (30, .ifCond .eq 7, 3), (33, .iconst 1, 1), (34, .goto 4, 3), (37, .iconst 0, 1), (38, .ireturn, 1)]
theorem D184 : Dec (mCod 184) C184 := decB_ok (by decide +kernel)
set_option maxRecDepth 20000 in
def C185 : Cds := [(0, .iload_n 1, 1), (1, .aload_n 0, 1), (2, .getfield 133, 3), (5, .if_icmp .ge 12, 3), (8, .aload_n 0, 1), (9, .getfield 13, 3), (12, .iload_n 1, 1), (13, .iaload, 1), (14, .goto 14, 3), (17, .aload_n 0, 1), (18, .getfield 45, 3), (21, .iload_n 1, 1), (22, .aload_n 0, 1), (23, .getfield 133, 3), (26, .isub, 1), (27, .iaload, 1), (28, .ireturn, 1)]
theorem D185 : Dec (mCod 185) C185 := decB_ok (by decide +kernel)
set_option maxRecDepth 20000 in
def C186 : Cds := [(0, .aload_n 0, 1), (1, .getfield 143, 3), (4, .aload_n 0, 1), (5, .getfield 233, 3), (8, .iadd, 1), (9, .iconst 5, 1), (10, .if_icmp .ne 5, 3), (13, .iconst 0, 1), (14, .ireturn, 1), (15, .iconst 2, 1), (16, .aload_n 0, 1), (17, .getfield 233, 3), (20, .imul, 1), (21, .istore_n 1, 1), (22, .aload_n 0, 1), (23, .dup, 1), (24, .getfield 163, 3), (27, .iconst 1, 1), (28, .iadd, 1), (29, .putfield 163, 3), (32, .aload_n 0, 1), (33, .getfield 54, 3), (36, .iload_n 1, 1), (37, .aload_n 0, 1), (38, .iconst 2, 1), (39, .invokevirtual 227, 3), (42, .iastore, 1), (43, .aload_n 0, 1), (44, .dup, 1), (45, .getfield 163, 3), (48, .aload_n 0, 1), (49, .getfield 54, 3), (52, .iload_n 1, 1), (53, .iaload, 1), (54, .ifCond .ne 7, 3), (57, .iconst 1, 1), (58, .goto 4, 3), (61, .iconst 0, 1), (62, .invokestatic 178, 3), (65, .isub, 1), (66, .putfield 163, 3), (69, .aload_n 0, 1), (70, .getfield 54, 3), (73, .iload_n 1, 1), (74, .iaload, 1), (75, .iconst 1, 1), (76, .if_icmp .lt 12, 3), (79, .aload_n 0, 1), (80, .bipush 64, 2), (82, .invokevirtual 220, 3), (85, .ifCond .ne 5, 3), (88, .iconst 0, 1), (89, .ireturn, 1), (90, .aload_n 0, 1), (91, .getfield 54, 3), (94, .iload_n 1, 1), (95, .iconst 1, 1), (96, .iadd, 1), (97, .aload_n 0, 1), (98, .invokevirtual 215, 3), (101, .iastore, 1), (102, .aload_n 0, 1), (103, .dup, 1), (104, .getfield 233, 3), (107, .iconst 1, 1), (108, .iadd, 1), (109, .putfield 233, 3), (112, .aload_n 0, 1), (113, .getfield 54, 3), (116, .iload_n 1, 1), (117, .iconst 1, 1), (118, .iadd, 1), (119, .iaload, 1), (120, .ifCond .lt 7, 3), (123, .iconst 1, 1), (124, .goto 4, 3), (127, .iconst 0, 1), (128, .ireturn, 1)]
theorem D186 : Dec (mCod 186) C186 := decB_ok (by decide +kernel)
set_option maxRecDepth 20000 in
def C187 : Cds := [(0, .iload_n 3, 1), (1, .ifCond .eq 18, 3), (4, .aload_n 0, 1), (5, .getfield 163, 3), (8, .aload_n 0, 1), (9, .getfield 175, 3), (12, .if_icmp .ne 7, 3), (15, .iconst 1, 1), (16, .goto 4, 3), (19, .iconst 0, 1), (20, .istore 4, 2), (22, .iload_n 1, 1), (23, .iload_n 2, 1), (24, .if_icmp .le 20, 3), (27, .iload 4, 2), (29, .ifCond .ne 11, 3), (32, .aload_n 0, 1), (33, .getfield 163, 3), (36, .iload_n 2, 1), (37, .if_icmp .lt 7, 3), (40, .iconst (-1), 1), (41, .iload_n 2, 1), (42, .isub, 1), (43, .ireturn, 1), (44, .iload 4, 2), (46, .ifCond .eq 7, 3), (49, .iconst 0, 1), (50, .goto 9, 3), (53, .iconst (-1), 1), (54, .aload_n 0, 1), (55, .getfield 163, 3), (58, .isub, 1), (59, .ireturn, 1)]
theorem D187 : Dec (mCod 187) C187 := decB_ok (by decide +kernel)
set_option maxRecDepth 20000 in
def C188 : Cds := [(0, .bipush 15, 2), (2, .bipush 7, 2), (4, .iload_n 0, 1), (5, .imul, 1), (6, .iadd, 1), (7, .ireturn, 1)]
theorem D188 : Dec (mCod 188) C188 := decB_ok (by decide +kernel)
set_option maxRecDepth 20000 in
def C189 : Cds := [(0, .aload_n 0, 1), (1, .iconst 0, 1), (2, .putfield 126, 3), (5, .aload_n 0, 1), (6, .bipush 40, 2), (8, .invokevirtual 250, 3), (11, .istore_n 1, 1), (12, .aload_n 0, 1), (13, .iconst 0, 1), (14, .putfield 266, 3), (17, .iload_n 1, 1), (18, .ifCond .eq 11, 3), (21, .aload_n 0, 1), (22, .iconst 0, 1), (23, .invokevirtual 278, 3), (26, .ifCond .eq 7, 3), (29, .iconst 1, 1), (30, .goto 4, 3), (33, .iconst 0, 1), (34, .istore_n 2, 1), (35, .aload_n 0, 1), (36, .iload_n 1, 1), (37, .bipush 40, 2), (39, .iload_n 2, 1), (40, .invokevirtual 256, 3), (43, .istore_n 3, 1), (44, .iload_n 3, 1), (45, .ifCond .ge 5, 3), (48, .iload_n 3, 1), (49, .ireturn, 1), (50, .aload_n 0, 1), (51, .aload_n 0, 1), (52, .getfield 266, 3), (55, .putfield 287, 3), (58, .iconst 0, 1), (59, .istore 4, 2), (61, .iload 4, 2), (63, .aload_n 0, 1), (64, .getfield 266, 3), (67, .if_icmp .ge 23, 3), (70, .aload_n 0, 1), (71, .getfield 57, 3), (74, .iload 4, 2), (76, .aload_n 0, 1), (77, .getfield 60, 3), (80, .iload 4, 2), (82, .iaload, 1), (83, .iastore, 1), (84, .iinc 4 1, 3), (87, .goto (-26), 3), (90, .iconst 0, 1), (91, .ireturn, 1)]
theorem D189 : Dec (mCod 189) C189 := decB_ok (by decide +kernel)
set_option maxRecDepth 20000 in
def C190 : Cds := [(0, .iload_n 1, 1), (1, .iconst 3, 1), (2, .if_icmp .ne 8, 3), (5, .aload_n 0, 1), (6, .invokevirtual 269, 3), (9, .ireturn, 1), (10, .aload_n 0, 1), (11, .iload_n 1, 1), (12, .iconst 1, 1), (13, .iadd, 1), (14, .invokevirtual 278, 3), (17, .ifCond .ne 5, 3), (20, .iconst 0, 1), (21, .ireturn, 1), (22, .iconst 1, 1), (23, .istore_n 2, 1), (24, .iload_n 2, 1), (25, .ifCond .eq 91, 3), (28, .aload_n 0, 1), (29, .iload_n 1, 1), (30, .ifCond .ne 9, 3), (33, .ldc_w 281, 3), (36, .goto 17, 3), (39, .iload_n 1, 1), (40, .iconst 1, 1), (41, .if_icmp .ne 9, 3), (44, .ldc_w 283, 3), (47, .goto 6, 3), (50, .ldc_w 285, 3), (53, .invokevirtual 209, 3), (56, .istore_n 3, 1), (57, .iload_n 3, 1), (58, .ifCond .ge 5, 3), (61, .iconst 1, 1), (62, .ireturn, 1), (63, .aload_n 0, 1), (64, .iload_n 1, 1), (65, .iconst 1, 1), (66, .iadd, 1), (67, .invokevirtual 278, 3), (70, .ifCond .ne 5, 3), (73, .iconst 0, 1), (74, .ireturn, 1), (75, .aload_n 0, 1), (76, .sipush 2000, 3), (79, .iload_n 3, 1), (80, .iadd, 1), (81, .iload_n 1, 1), (82, .ifCond .ne 7, 3), (85, .iconst 0, 1), (86, .goto 13, 3), (89, .iload_n 1, 1), (90, .iconst 1, 1), (91, .if_icmp .ne 7, 3), (94, .iconst 3, 1), (95, .goto 4, 3), (98, .iconst 5, 1), (99, .iadd, 1), (100, .invokevirtual 272, 3), (103, .iload_n 1, 1), (104, .ifCond .le 7, 3), (107, .iconst 1, 1), (108, .goto 4, 3), (111, .iconst 0, 1), (112, .istore_n 2, 1), (113, .goto (-89), 3), (116, .iconst 1, 1), (117, .ireturn, 1)]
theorem D190 : Dec (mCod 190) C190 := decB_ok (by decide +kernel)
set_option maxRecDepth 20000 in
def C191 : Cds := [(0, .aload_n 0, 1), (1, .bipush 45, 2), (3, .invokevirtual 220, 3), (6, .ifCond .eq 17, 3), (9, .aload_n 0, 1), (10, .invokevirtual 269, 3), (13, .istore_n 1, 1), (14, .aload_n 0, 1), (15, .sipush 3000, 3), (18, .invokevirtual 272, 3), (21, .iload_n 1, 1), (22, .ireturn, 1), (23, .aload_n 0, 1), (24, .invokevirtual 200, 3), (27, .ifCond .eq 14, 3), (30, .aload_n 0, 1), (31, .aload_n 0, 1), (32, .iconst 3, 1), (33, .invokevirtual 227, 3), (36, .invokevirtual 272, 3), (39, .iconst 1, 1), (40, .ireturn, 1), (41, .aload_n 0, 1), (42, .ldc_w 276, 3), (45, .invokevirtual 209, 3), (48, .istore_n 1, 1), (49, .iload_n 1, 1), (50, .ifCond .lt 14, 3), (53, .aload_n 0, 1), (54, .sipush 1000, 3), (57, .iload_n 1, 1), (58, .iadd, 1), (59, .invokevirtual 272, 3), (62, .iconst 1, 1), (63, .ireturn, 1), (64, .aload_n 0, 1), (65, .getfield 166, 3), (68, .iconst 4, 1), (69, .if_icmp .eq 12, 3), (72, .aload_n 0, 1), (73, .bipush 40, 2), (75, .invokevirtual 220, 3), (78, .ifCond .ne 5, 3), (81, .iconst 0, 1), (82, .ireturn, 1), (83, .aload_n 0, 1), (84, .dup, 1), (85, .getfield 166, 3), (88, .iconst 1, 1), (89, .iadd, 1), (90, .putfield 166, 3), (93, .aload_n 0, 1), (94, .iconst 0, 1), (95, .invokevirtual 278, 3), (98, .ifCond .eq 12, 3), (101, .aload_n 0, 1), (102, .bipush 41, 2), (104, .invokevirtual 220, 3), (107, .ifCond .ne 5, 3), (110, .iconst 0, 1), (111, .ireturn, 1), (112, .aload_n 0, 1), (113, .dup, 1), (114, .getfield 166, 3), (117, .iconst 1, 1), (118, .isub, 1), (119, .putfield 166, 3), (122, .iconst 1, 1), (123, .ireturn, 1)]
theorem D191 : Dec (mCod 191) C191 := decB_ok (by decide +kernel)
end
section
/-! the instructions of the methods (by program) -/
set_option maxRecDepth 20000 in
def C192 : Cds := [(0, .aload_n 0, 1), (1, .getfield 60, 3), (4, .aload_n 0, 1), (5, .getfield 266, 3), (8, .iload_n 1, 1), (9, .iastore, 1), (10, .aload_n 0, 1), (11, .dup, 1), (12, .getfield 266, 3), (15, .iconst 1, 1), (16, .iadd, 1), (17, .putfield 266, 3), (20, .return_, 1)]
theorem D192 : Dec (mCod 192) C192 := decB_ok (by decide +kernel)
set_option maxRecDepth 20000 in
def C193 : Cds := [(0, .aload_n 0, 1), (1, .iconst 0, 1), (2, .putfield 126, 3), (5, .aload_n 0, 1), (6, .iload_n 1, 1), (7, .invokevirtual 317, 3), (10, .ifCond .eq 15, 3), (13, .iload_n 2, 1), (14, .i2l, 1), (15, .lconst 0, 1), (16, .ldc2_w 320, 3), (19, .invokestatic 136, 3), (22, .ifCond .ne 8, 3), (25, .aload_n 0, 1), (26, .invokevirtual 322, 3), (29, .ireturn, 1), (30, .iconst 0, 1), (31, .istore_n 3, 1), (32, .iconst 0, 1), (33, .istore 4, 2), (35, .iload_n 2, 1), (36, .iconst 1, 1), (37, .if_icmp .ne 44, 3), (40, .iload 4, 2), (42, .aload_n 0, 1), (43, .getfield 140, 3), (46, .if_icmp .ge 35, 3), (49, .iload_n 3, 1), (50, .aload_n 0, 1), (51, .getfield 36, 3), (54, .iconst 3, 1), (55, .iload 4, 2), (57, .imul, 1), (58, .iconst 1, 1), (59, .iadd, 1), (60, .iaload, 1), (61, .iload_n 1, 1), (62, .if_icmp .ne 10, 3), (65, .iconst 1, 1), (66, .iload 4, 2), (68, .ishl, 1), (69, .goto 4, 3), (72, .iconst 0, 1), (73, .ior, 1), (74, .istore_n 3, 1), (75, .iinc 4 1, 3), (78, .goto (-43), 3), (81, .iconst 0, 1), (82, .istore 4, 2), (84, .iload_n 2, 1), (85, .iconst 2, 1), (86, .if_icmp .ne 45, 3), (89, .iload 4, 2), (91, .aload_n 0, 1), (92, .getfield 143, 3), (95, .if_icmp .ge 36, 3), (98, .iload_n 3, 1), (99, .aload_n 0, 1), (100, .getfield 36, 3), (103, .iload 4, 2), (105, .invokestatic 149, 3), (108, .iconst 0, 1), (109, .iadd, 1), (110, .iaload, 1), (111, .iload_n 1, 1), (112, .if_icmp .ne 10, 3), (115, .iconst 1, 1), (116, .iload 4, 2), (118, .ishl, 1), (119, .goto 4, 3), (122, .iconst 0, 1), (123, .ior, 1), (124, .istore_n 3, 1), (125, .iinc 4 1, 3), (128, .goto (-44), 3), (131, .iconst 0, 1), (132, .istore 4, 2), (134, .iload_n 2, 1), (135, .iconst 3, 1), (136, .if_icmp .ne 51, 3), (139, .iload 4, 2), (141, .aload_n 0, 1), (142, .getfield 146, 3), (145, .if_icmp .ge 42, 3), (148, .iload_n 3, 1), (149, .aload_n 0, 1), (150, .getfield 17, 3), (153, .iload 4, 2), (155, .iaload, 1), (156, .iload_n 1, 1), (157, .if_icmp .eq 14, 3), (160, .aload_n 0, 1), (161, .getfield 20, 3), (164, .iload 4, 2), (166, .iaload, 1), (167, .iload_n 1, 1), (168, .if_icmp .ne 10, 3), (171, .iconst 1, 1), (172, .iload 4, 2), (174, .ishl, 1), (175, .goto 4, 3), (178, .iconst 0, 1), (179, .ior, 1), (180, .istore_n 3, 1), (181, .iinc 4 1, 3), (184, .goto (-50), 3), (187, .iload_n 2, 1), (188, .ifCond .ne 12, 3), (191, .aload_n 0, 1), (192, .getfield 13, 3), (195, .iload_n 1, 1), (196, .iaload, 1), (197, .goto 4, 3), (200, .iload_n 3, 1), (201, .ireturn, 1)]
theorem D193 : Dec (mCod 193) C193 := decB_ok (by decide +kernel)
set_option maxRecDepth 20000 in
def C194 : Cds := [(0, .iload_n 1, 1), (1, .i2l, 1), (2, .lconst 0, 1), (3, .aload_n 0, 1), (4, .getfield 133, 3), (7, .iconst 1, 1), (8, .isub, 1), (9, .i2l, 1), (10, .invokestatic 136, 3), (13, .ireturn, 1)]
theorem D194 : Dec (mCod 194) C194 := decB_ok (by decide +kernel)
set_option maxRecDepth 20000 in
def C195 : Cds := [(0, .aload_n 0, 1), (1, .iconst 1, 1), (2, .putfield 126, 3), (5, .iconst 0, 1), (6, .ireturn, 1)]
theorem D195 : Dec (mCod 195) C195 := decB_ok (by decide +kernel)
set_option maxRecDepth 20000 in
def C196 : Cds := [(0, .aload_n 0, 1), (1, .iconst 0, 1), (2, .putfield 126, 3), (5, .aload_n 0, 1), (6, .iload_n 1, 1), (7, .invokevirtual 325, 3), (10, .ifCond .eq 15, 3), (13, .iload_n 2, 1), (14, .i2l, 1), (15, .lconst 0, 1), (16, .ldc2_w 320, 3), (19, .invokestatic 136, 3), (22, .ifCond .ne 8, 3), (25, .aload_n 0, 1), (26, .invokevirtual 322, 3), (29, .ireturn, 1), (30, .iload_n 2, 1), (31, .tableswitch 46 0 2 #[25, 32, 39], 25), (56, .aload_n 0, 1), (57, .getfield 17, 3), (60, .iload_n 1, 1), (61, .iaload, 1), (62, .ireturn, 1), (63, .aload_n 0, 1), (64, .getfield 20, 3), (67, .iload_n 1, 1), (68, .iaload, 1), (69, .ireturn, 1), (70, .aload_n 0, 1), (71, .getfield 23, 3), (74, .iload_n 1, 1), (75, .iaload, 1), (76, .ireturn, 1), (77, .aload_n 0, 1), (78, .getfield 26, 3), (81, .iload_n 1, 1), (82, .baload, 1), (83, .ifCond .ne 7, 3), (86, .iconst 0, 1), (87, .goto 16, 3), (90, .aload_n 0, 1), (91, .iload_n 1, 1), (92, .invokevirtual 328, 3), (95, .ifCond .eq 7, 3), (98, .iconst 2, 1), (99, .goto 4, 3), (102, .iconst 1, 1), (103, .ireturn, 1)]
theorem D196 : Dec (mCod 196) C196 := decB_ok (by decide +kernel)
set_option maxRecDepth 20000 in
def C197 : Cds := [(0, .iload_n 1, 1), (1, .i2l, 1), (2, .lconst 0, 1), (3, .aload_n 0, 1), (4, .getfield 146, 3), (7, .iconst 1, 1), (8, .isub, 1), (9, .i2l, 1), (10, .invokestatic 136, 3), (13, .ireturn, 1)]
theorem D197 : Dec (mCod 197) C197 := decB_ok (by decide +kernel)
set_option maxRecDepth 20000 in
def C198 : Cds := [(0, .aload_n 0, 1), (1, .getfield 26, 3), (4, .iload_n 1, 1), (5, .baload, 1), (6, .ifCond .eq 17, 3), (9, .aload_n 0, 1), (10, .getfield 36, 3), (13, .bipush 50, 2), (15, .iaload, 1), (16, .iload_n 1, 1), (17, .invokestatic 156, 3), (20, .ifCond .eq 7, 3), (23, .iconst 1, 1), (24, .goto 4, 3), (27, .iconst 0, 1), (28, .ireturn, 1)]
theorem D198 : Dec (mCod 198) C198 := decB_ok (by decide +kernel)
set_option maxRecDepth 20000 in
def C199 : Cds := [(0, .iload_n 0, 1), (1, .iload_n 1, 1), (2, .ishr, 1), (3, .iconst 1, 1), (4, .iand, 1), (5, .iconst 1, 1), (6, .if_icmp .ne 7, 3), (9, .iconst 1, 1), (10, .goto 4, 3), (13, .iconst 0, 1), (14, .ireturn, 1)]
theorem D199 : Dec (mCod 199) C199 := decB_ok (by decide +kernel)
set_option maxRecDepth 20000 in
def C200 : Cds := [(0, .aload_n 0, 1), (1, .iconst 0, 1), (2, .putfield 126, 3), (5, .aload_n 0, 1), (6, .iload_n 1, 1), (7, .invokevirtual 331, 3), (10, .ifCond .eq 15, 3), (13, .iload_n 2, 1), (14, .i2l, 1), (15, .lconst 0, 1), (16, .ldc2_w 334, 3), (19, .invokestatic 136, 3), (22, .ifCond .ne 8, 3), (25, .aload_n 0, 1), (26, .invokevirtual 322, 3), (29, .ireturn, 1), (30, .iload_n 2, 1), (31, .tableswitch 64 0 3 #[29, 40, 47, 58], 29), (60, .aload_n 0, 1), (61, .getfield 36, 3), (64, .iconst 3, 1), (65, .iload_n 1, 1), (66, .imul, 1), (67, .iconst 0, 1), (68, .iadd, 1), (69, .iaload, 1), (70, .ireturn, 1), (71, .aload_n 0, 1), (72, .getfield 30, 3), (75, .iload_n 1, 1), (76, .iaload, 1), (77, .ireturn, 1), (78, .aload_n 0, 1), (79, .getfield 36, 3), (82, .iconst 3, 1), (83, .iload_n 1, 1), (84, .imul, 1), (85, .iconst 1, 1), (86, .iadd, 1), (87, .iaload, 1), (88, .ireturn, 1), (89, .aload_n 0, 1), (90, .iload_n 1, 1), (91, .invokevirtual 336, 3), (94, .ireturn, 1), (95, .aload_n 0, 1), (96, .getfield 36, 3), (99, .iconst 3, 1), (100, .iload_n 1, 1), (101, .imul, 1), (102, .iconst 2, 1), (103, .iadd, 1), (104, .iaload, 1), (105, .ireturn, 1)]
theorem D200 : Dec (mCod 200) C200 := decB_ok (by decide +kernel)
set_option maxRecDepth 20000 in
def C201 : Cds := [(0, .iload_n 1, 1), (1, .i2l, 1), (2, .lconst 0, 1), (3, .aload_n 0, 1), (4, .getfield 140, 3), (7, .iconst 1, 1), (8, .isub, 1), (9, .i2l, 1), (10, .invokestatic 136, 3), (13, .ireturn, 1)]
theorem D201 : Dec (mCod 201) C201 := decB_ok (by decide +kernel)
set_option maxRecDepth 20000 in
def C202 : Cds := [(0, .iconst (-1), 1), (1, .istore_n 2, 1), (2, .iconst 0, 1), (3, .istore_n 3, 1), (4, .iload_n 3, 1), (5, .aload_n 0, 1), (6, .getfield 143, 3), (9, .if_icmp .ge 24, 3), (12, .aload_n 0, 1), (13, .iload_n 3, 1), (14, .invokevirtual 153, 3), (17, .iload_n 1, 1), (18, .if_icmp .ne 7, 3), (21, .iload_n 3, 1), (22, .goto 4, 3), (25, .iload_n 2, 1), (26, .istore_n 2, 1), (27, .iinc 3 1, 3), (30, .goto (-26), 3), (33, .iload_n 2, 1), (34, .ireturn, 1)]
theorem D202 : Dec (mCod 202) C202 := decB_ok (by decide +kernel)
set_option maxRecDepth 20000 in
def C203 : Cds := [(0, .aload_n 0, 1), (1, .getfield 36, 3), (4, .iload_n 1, 1), (5, .invokestatic 149, 3), (8, .iconst 5, 1), (9, .iadd, 1), (10, .iaload, 1), (11, .ireturn, 1)]
theorem D203 : Dec (mCod 203) C203 := decB_ok (by decide +kernel)
set_option maxRecDepth 20000 in
def C204 : Cds := [(0, .aload_n 0, 1), (1, .iconst 0, 1), (2, .putfield 126, 3), (5, .aload_n 0, 1), (6, .iload_n 1, 1), (7, .invokevirtual 339, 3), (10, .ifCond .eq 15, 3), (13, .iload_n 2, 1), (14, .i2l, 1), (15, .lconst 0, 1), (16, .ldc2_w 342, 3), (19, .invokestatic 136, 3), (22, .ifCond .ne 8, 3), (25, .aload_n 0, 1), (26, .invokevirtual 322, 3), (29, .ireturn, 1), (30, .iload_n 2, 1), (31, .ifCond .ne 12, 3), (34, .aload_n 0, 1), (35, .getfield 33, 3), (38, .iload_n 1, 1), (39, .iaload, 1), (40, .goto 34, 3), (43, .iload_n 2, 1), (44, .bipush 8, 2), (46, .if_icmp .ne 15, 3), (49, .aload_n 0, 1), (50, .aload_n 0, 1), (51, .getfield 36, 3), (54, .iload_n 1, 1), (55, .invokevirtual 313, 3), (58, .goto 16, 3), (61, .aload_n 0, 1), (62, .getfield 36, 3), (65, .iload_n 1, 1), (66, .invokestatic 149, 3), (69, .iload_n 2, 1), (70, .iadd, 1), (71, .iconst 1, 1), (72, .isub, 1), (73, .iaload, 1), (74, .ireturn, 1)]
theorem D204 : Dec (mCod 204) C204 := decB_ok (by decide +kernel)
set_option maxRecDepth 20000 in
def C205 : Cds := [(0, .iload_n 1, 1), (1, .i2l, 1), (2, .lconst 0, 1), (3, .aload_n 0, 1), (4, .getfield 143, 3), (7, .iconst 1, 1), (8, .isub, 1), (9, .i2l, 1), (10, .invokestatic 136, 3), (13, .ireturn, 1)]
theorem D205 : Dec (mCod 205) C205 := decB_ok (by decide +kernel)
set_option maxRecDepth 20000 in
def C206 : Cds := [(0, .iload_n 2, 1), (1, .invokestatic 149, 3), (4, .istore_n 3, 1), (5, .aload_n 1, 1), (6, .iload_n 3, 1), (7, .iconst 5, 1), (8, .iadd, 1), (9, .iaload, 1), (10, .istore 4, 2), (12, .iload 4, 2), (14, .ifCond .ge 7, 3), (17, .iconst 0, 1), (18, .goto 43, 3), (21, .aload_n 0, 1), (22, .aload_n 1, 1), (23, .iconst 3, 1), (24, .iload 4, 2), (26, .imul, 1), (27, .iconst 0, 1), (28, .iadd, 1), (29, .iaload, 1), (30, .aload_n 1, 1), (31, .iload_n 3, 1), (32, .iconst 4, 1), (33, .iadd, 1), (34, .iaload, 1), (35, .aload_n 1, 1), (36, .iload_n 3, 1), (37, .iconst 1, 1), (38, .iadd, 1), (39, .aload_n 1, 1), (40, .iload_n 3, 1), (41, .iconst 3, 1), (42, .iadd, 1), (43, .iaload, 1), (44, .iadd, 1), (45, .iaload, 1), (46, .aload_n 1, 1), (47, .bipush 51, 2), (49, .iaload, 1), (50, .iload_n 2, 1), (51, .iload 4, 2), (53, .aload_n 1, 1), (54, .iload_n 3, 1), (55, .iconst 3, 1), (56, .iadd, 1), (57, .iaload, 1), (58, .invokevirtual 300, 3), (61, .ireturn, 1)]
theorem D206 : Dec (mCod 206) C206 := decB_ok (by decide +kernel)
set_option maxRecDepth 20000 in
def C207 : Cds := [(0, .aload_n 0, 1), (1, .getfield 66, 3), (4, .iconst 0, 1), (5, .iload_n 1, 1), (6, .iastore, 1), (7, .aload_n 0, 1), (8, .getfield 66, 3), (11, .iconst 1, 1), (12, .iload_n 2, 1), (13, .iastore, 1), (14, .aload_n 0, 1), (15, .getfield 66, 3), (18, .iconst 2, 1), (19, .iload_n 3, 1), (20, .iastore, 1), (21, .aload_n 0, 1), (22, .getfield 66, 3), (25, .iconst 3, 1), (26, .aload_n 0, 1), (27, .getfield 33, 3), (30, .iload 5, 2), (32, .iaload, 1), (33, .iastore, 1), (34, .aload_n 0, 1), (35, .getfield 66, 3), (38, .iconst 4, 1), (39, .iload 4, 2), (41, .iastore, 1), (42, .aload_n 0, 1), (43, .getfield 66, 3), (46, .iconst 5, 1), (47, .iload 5, 2), (49, .iastore, 1), (50, .aload_n 0, 1), (51, .getfield 66, 3), (54, .bipush 6, 2), (56, .iload 6, 2), (58, .iastore, 1), (59, .aload_n 0, 1), (60, .getfield 66, 3), (63, .bipush 7, 2), (65, .iload 7, 2), (67, .iastore, 1), (68, .aload_n 0, 1), (69, .invokevirtual 297, 3), (72, .ireturn, 1)]
theorem D207 : Dec (mCod 207) C207 := decB_ok (by decide +kernel)
set_option maxRecDepth 20000 in
def C208 : Cds := [(0, .iconst 0, 1), (1, .istore_n 1, 1), (2, .iconst 0, 1), (3, .istore_n 2, 1), (4, .iload_n 2, 1), (5, .aload_n 0, 1), (6, .getfield 287, 3), (9, .if_icmp .ge 116, 3), (12, .aload_n 0, 1), (13, .getfield 57, 3), (16, .iload_n 2, 1), (17, .iaload, 1), (18, .istore_n 3, 1), (19, .iload_n 3, 1), (20, .sipush 3000, 3), (23, .if_icmp .ne 23, 3), (26, .aload_n 0, 1), (27, .getfield 63, 3), (30, .iload_n 1, 1), (31, .iconst 1, 1), (32, .isub, 1), (33, .aload_n 0, 1), (34, .getfield 63, 3), (37, .iload_n 1, 1), (38, .iconst 1, 1), (39, .isub, 1), (40, .iaload, 1), (41, .ineg, 1), (42, .iastore, 1), (43, .goto 76, 3), (46, .iload_n 3, 1), (47, .sipush 2000, 3), (50, .if_icmp .lt 39, 3), (53, .iinc 1 (-1), 3), (56, .aload_n 0, 1), (57, .getfield 63, 3), (60, .iload_n 1, 1), (61, .iconst 1, 1), (62, .isub, 1), (63, .iload_n 3, 1), (64, .sipush 2000, 3), (67, .isub, 1), (68, .aload_n 0, 1), (69, .getfield 63, 3), (72, .iload_n 1, 1), (73, .iconst 1, 1), (74, .isub, 1), (75, .iaload, 1), (76, .aload_n 0, 1), (77, .getfield 63, 3), (80, .iload_n 1, 1), (81, .iaload, 1), (82, .invokestatic 290, 3), (85, .iastore, 1), (86, .goto 33, 3), (89, .aload_n 0, 1), (90, .getfield 63, 3), (93, .iload_n 1, 1), (94, .iload_n 3, 1), (95, .sipush 1000, 3), (98, .if_icmp .lt 16, 3), (101, .aload_n 0, 1), (102, .getfield 66, 3), (105, .iload_n 3, 1), (106, .sipush 1000, 3), (109, .isub, 1), (110, .iaload, 1), (111, .goto 4, 3), (114, .iload_n 3, 1), (115, .iastore, 1), (116, .iinc 1 1, 3), (119, .iinc 2 1, 3), (122, .goto (-118), 3), (125, .aload_n 0, 1), (126, .getfield 287, 3), (129, .ifCond .ne 24, 3), (132, .aload_n 0, 1), (133, .getfield 66, 3), (136, .iconst 0, 1), (137, .iaload, 1), (138, .bipush 10, 2), (140, .aload_n 0, 1), (141, .getfield 66, 3), (144, .iconst 1, 1), (145, .iaload, 1), (146, .imul, 1), (147, .iconst 1, 1), (148, .iadd, 1), (149, .idiv, 1), (150, .goto 9, 3), (153, .aload_n 0, 1), (154, .getfield 63, 3), (157, .iconst 0, 1), (158, .iaload, 1), (159, .istore_n 2, 1), (160, .iconst 0, 1), (161, .sipush 999, 3), (164, .iload_n 2, 1), (165, .invokestatic 169, 3), (168, .invokestatic 294, 3), (171, .ireturn, 1)]
theorem D208 : Dec (mCod 208) C208 := decB_ok (by decide +kernel)
set_option maxRecDepth 20000 in
def C209 : Cds := [(0, .iload_n 0, 1), (1, .tableswitch 93 0 5 #[39, 53, 67, 81, 85, 89], 39), (40, .iload_n 1, 1), (41, .iload_n 2, 1), (42, .if_icmp .ge 7, 3), (45, .iconst 1, 1), (46, .goto 4, 3), (49, .iconst 0, 1), (50, .invokestatic 178, 3), (53, .ireturn, 1), (54, .iload_n 1, 1), (55, .iload_n 2, 1), (56, .if_icmp .le 7, 3), (59, .iconst 1, 1), (60, .goto 4, 3), (63, .iconst 0, 1), (64, .invokestatic 178, 3), (67, .ireturn, 1), (68, .iload_n 1, 1), (69, .iload_n 2, 1), (70, .if_icmp .ne 7, 3), (73, .iconst 1, 1), (74, .goto 4, 3), (77, .iconst 0, 1), (78, .invokestatic 178, 3), (81, .ireturn, 1), (82, .iload_n 1, 1), (83, .iload_n 2, 1), (84, .iadd, 1), (85, .ireturn, 1), (86, .iload_n 1, 1), (87, .iload_n 2, 1), (88, .isub, 1), (89, .ireturn, 1), (90, .iload_n 1, 1), (91, .iload_n 2, 1), (92, .imul, 1), (93, .ireturn, 1), (94, .iload_n 2, 1), (95, .ifCond .ne 7, 3), (98, .iconst 0, 1), (99, .goto 6, 3), (102, .iload_n 1, 1), (103, .iload_n 2, 1), (104, .idiv, 1), (105, .ireturn, 1)]
theorem D209 : Dec (mCod 209) C209 := decB_ok (by decide +kernel)
set_option maxRecDepth 20000 in
def C210 : Cds := [(0, .aload_n 0, 1), (1, .iconst 0, 1), (2, .putfield 126, 3), (5, .aload_n 0, 1), (6, .iload_n 1, 1), (7, .invokevirtual 344, 3), (10, .ifCond .eq 15, 3), (13, .iload_n 2, 1), (14, .i2l, 1), (15, .lconst 0, 1), (16, .ldc2_w 347, 3), (19, .invokestatic 136, 3), (22, .ifCond .ne 5, 3), (25, .iconst (-1), 1), (26, .ireturn, 1), (27, .aload_n 0, 1), (28, .getfield 36, 3), (31, .iconst 3, 1), (32, .iload_n 1, 1), (33, .imul, 1), (34, .iconst 0, 1), (35, .iadd, 1), (36, .iaload, 1), (37, .istore_n 3, 1), (38, .aload_n 0, 1), (39, .getfield 36, 3), (42, .iconst 3, 1), (43, .iload_n 1, 1), (44, .imul, 1), (45, .iconst 0, 1), (46, .iadd, 1), (47, .iload_n 2, 1), (48, .iastore, 1), (49, .iload_n 3, 1), (50, .ireturn, 1)]
theorem D210 : Dec (mCod 210) C210 := decB_ok (by decide +kernel)
set_option maxRecDepth 20000 in
def C211 : Cds := [(0, .aload_n 0, 1), (1, .iload_n 1, 1), (2, .invokevirtual 331, 3), (5, .ifCond .eq 20, 3), (8, .aload_n 0, 1), (9, .getfield 36, 3), (12, .iconst 3, 1), (13, .iload_n 1, 1), (14, .imul, 1), (15, .iconst 2, 1), (16, .iadd, 1), (17, .iaload, 1), (18, .ifCond .ne 7, 3), (21, .iconst 1, 1), (22, .goto 4, 3), (25, .iconst 0, 1), (26, .ireturn, 1)]
theorem D211 : Dec (mCod 211) C211 := decB_ok (by decide +kernel)
set_option maxRecDepth 20000 in
def C212 : Cds := [(0, .aload_n 0, 1), (1, .iconst 0, 1), (2, .putfield 126, 3), (5, .iload_n 1, 1), (6, .i2l, 1), (7, .lconst 0, 1), (8, .ldc2_w 320, 3), (11, .invokestatic 136, 3), (14, .ifCond .eq 8, 3), (17, .iload_n 2, 1), (18, .iconst 5, 1), (19, .if_icmp .le 5, 3), (22, .iconst (-1), 1), (23, .ireturn, 1), (24, .iload_n 1, 1), (25, .iconst 3, 1), (26, .if_icmp .eq 10, 3), (29, .iload_n 2, 1), (30, .ifCond .ge 6, 3), (33, .bipush (-2), 2), (35, .ireturn, 1), (36, .iconst 0, 1), (37, .istore 5, 2), (39, .iload_n 3, 1), (40, .istore 6, 2), (42, .iconst 0, 1), (43, .istore 7, 2), (45, .iload 7, 2), (47, .aload_n 0, 1), (48, .getfield 140, 3), (51, .if_icmp .ge 104, 3), (54, .iload_n 1, 1), (55, .ifCond .ne 9, 3), (58, .iload 6, 2), (60, .i2b, 1), (61, .goto 16, 3), (64, .iload_n 1, 1), (65, .iconst 1, 1), (66, .if_icmp .ne 9, 3), (69, .iload 6, 2), (71, .i2s, 1), (72, .goto 5, 3), (75, .iload 6, 2), (77, .istore 8, 2), (79, .aload_n 0, 1), (80, .iload 7, 2), (82, .invokevirtual 344, 3), (85, .ifCond .eq 57, 3), (88, .aload_n 0, 1), (89, .getfield 36, 3), (92, .iconst 3, 1), (93, .iload 7, 2), (95, .imul, 1), (96, .iconst 0, 1), (97, .iadd, 1), (98, .iload_n 1, 1), (99, .iconst 3, 1), (100, .if_icmp .eq 9, 3), (103, .iload 7, 2), (105, .iload_n 2, 1), (106, .if_icmp .lt 7, 3), (109, .iconst 0, 1), (110, .goto 15, 3), (113, .iconst 0, 1), (114, .sipush 999, 3), (117, .iload 8, 2), (119, .invokestatic 169, 3), (122, .invokestatic 294, 3), (125, .iastore, 1), (126, .iload 5, 2), (128, .aload_n 0, 1), (129, .getfield 36, 3), (132, .iconst 3, 1), (133, .iload 7, 2), (135, .imul, 1), (136, .iconst 0, 1), (137, .iadd, 1), (138, .iaload, 1), (139, .iadd, 1), (140, .istore 5, 2), (142, .iload 6, 2), (144, .iload 4, 2), (146, .iadd, 1), (147, .istore 6, 2), (149, .iinc 7 1, 3), (152, .goto (-107), 3), (155, .iload_n 1, 1), (156, .iconst 3, 1), (157, .if_icmp .ne 8, 3), (160, .bipush (-3), 2), (162, .goto 5, 3), (165, .iload 5, 2), (167, .ireturn, 1)]
theorem D212 : Dec (mCod 212) C212 := decB_ok (by decide +kernel)
set_option maxRecDepth 20000 in
def C213 : Cds := [(0, .aload_n 0, 1), (1, .iconst 0, 1), (2, .putfield 126, 3), (5, .aload_n 0, 1), (6, .getfield 260, 3), (9, .ifCond .ne 5, 3), (12, .iconst (-1), 1), (13, .ireturn, 1), (14, .aload_n 0, 1), (15, .dup, 1), (16, .getfield 260, 3), (19, .iconst 1, 1), (20, .isub, 1), (21, .putfield 260, 3), (24, .iconst 0, 1), (25, .istore_n 1, 1), (26, .iload_n 1, 1), (27, .bipush 52, 2), (29, .if_icmp .ge 29, 3), (32, .aload_n 0, 1), (33, .getfield 36, 3), (36, .iload_n 1, 1), (37, .aload_n 0, 1), (38, .getfield 69, 3), (41, .bipush 52, 2), (43, .aload_n 0, 1), (44, .getfield 260, 3), (47, .imul, 1), (48, .iload_n 1, 1), (49, .iadd, 1), (50, .iaload, 1), (51, .iastore, 1), (52, .iinc 1 1, 3), (55, .goto (-29), 3), (58, .aload_n 0, 1), (59, .getfield 260, 3), (62, .ireturn, 1)]
theorem D213 : Dec (mCod 213) C213 := decB_ok (by decide +kernel)
set_option maxRecDepth 20000 in
def C214 : Cds := [(0, .aload_n 0, 1), (1, .iconst 0, 1), (2, .putfield 126, 3), (5, .aload_n 0, 1), (6, .invokevirtual 363, 3), (9, .aload_n 0, 1), (10, .aload_n 0, 1), (11, .iload_n 1, 1), (12, .iload_n 2, 1), (13, .invokevirtual 366, 3), (16, .invokevirtual 369, 3), (19, .ireturn, 1)]
theorem D214 : Dec (mCod 214) C214 := decB_ok (by decide +kernel)
set_option maxRecDepth 20000 in
def C215 : Cds := [(0, .iconst 0, 1), (1, .istore_n 1, 1), (2, .iload_n 1, 1), (3, .bipush 52, 2), (5, .if_icmp .ge 29, 3), (8, .aload_n 0, 1), (9, .getfield 69, 3), (12, .bipush 52, 2), (14, .aload_n 0, 1), (15, .getfield 260, 3), (18, .imul, 1), (19, .iload_n 1, 1), (20, .iadd, 1), (21, .aload_n 0, 1), (22, .getfield 36, 3), (25, .iload_n 1, 1), (26, .iaload, 1), (27, .iastore, 1), (28, .iinc 1 1, 3), (31, .goto (-29), 3), (34, .return_, 1)]
theorem D215 : Dec (mCod 215) C215 := decB_ok (by decide +kernel)
set_option maxRecDepth 20000 in
def C216 : Cds := [(0, .aload_n 0, 1), (1, .iload_n 1, 1), (2, .invokevirtual 339, 3), (5, .ifCond .ne 5, 3), (8, .iconst (-1), 1), (9, .ireturn, 1), (10, .aload_n 0, 1), (11, .iload_n 1, 1), (12, .invokevirtual 153, 3), (15, .ifCond .lt 6, 3), (18, .bipush (-2), 2), (20, .ireturn, 1), (21, .aload_n 0, 1), (22, .iload_n 2, 1), (23, .invokevirtual 331, 3), (26, .ifCond .eq 27, 3), (29, .aload_n 0, 1), (30, .getfield 36, 3), (33, .iconst 3, 1), (34, .iload_n 2, 1), (35, .imul, 1), (36, .iconst 1, 1), (37, .iadd, 1), (38, .iaload, 1), (39, .aload_n 0, 1), (40, .getfield 36, 3), (43, .iload_n 1, 1), (44, .invokestatic 149, 3), (47, .iconst 0, 1), (48, .iadd, 1), (49, .iaload, 1), (50, .if_icmp .eq 6, 3), (53, .bipush (-3), 2), (55, .ireturn, 1), (56, .aload_n 0, 1), (57, .getfield 36, 3), (60, .iload_n 1, 1), (61, .invokestatic 149, 3), (64, .iconst 5, 1), (65, .iadd, 1), (66, .iload_n 2, 1), (67, .iastore, 1), (68, .aload_n 0, 1), (69, .getfield 36, 3), (72, .iconst 3, 1), (73, .iload_n 2, 1), (74, .imul, 1), (75, .iconst 1, 1), (76, .iadd, 1), (77, .iconst (-1), 1), (78, .iastore, 1), (79, .aload_n 0, 1), (80, .getfield 36, 3), (83, .iconst 3, 1), (84, .iload_n 2, 1), (85, .imul, 1), (86, .iconst 0, 1), (87, .iadd, 1), (88, .iaload, 1), (89, .ireturn, 1)]
theorem D216 : Dec (mCod 216) C216 := decB_ok (by decide +kernel)
set_option maxRecDepth 20000 in
def C217 : Cds := [(0, .iload_n 1, 1), (1, .ifCond .ge 7, 3), (4, .iload_n 1, 1), (5, .goto 8, 3), (8, .aload_n 0, 1), (9, .iload_n 1, 1), (10, .invokevirtual 349, 3), (13, .ireturn, 1)]
theorem D217 : Dec (mCod 217) C217 := decB_ok (by decide +kernel)
set_option maxRecDepth 20000 in
def C218 : Cds := [(0, .aload_n 0, 1), (1, .dup, 1), (2, .getfield 260, 3), (5, .iconst 1, 1), (6, .iadd, 1), (7, .putfield 260, 3), (10, .aload_n 0, 1), (11, .getfield 260, 3), (14, .bipush 15, 2), (16, .if_icmp .le 43, 3), (19, .iconst 0, 1), (20, .istore_n 2, 1), (21, .iload_n 2, 1), (22, .sipush 780, 3), (25, .if_icmp .ge 24, 3), (28, .aload_n 0, 1), (29, .getfield 69, 3), (32, .iload_n 2, 1), (33, .aload_n 0, 1), (34, .getfield 69, 3), (37, .iload_n 2, 1), (38, .bipush 52, 2), (40, .iadd, 1), (41, .iaload, 1), (42, .iastore, 1), (43, .iinc 2 1, 3), (46, .goto (-25), 3), (49, .aload_n 0, 1), (50, .dup, 1), (51, .getfield 260, 3), (54, .iconst 1, 1), (55, .isub, 1), (56, .putfield 260, 3), (59, .iload_n 1, 1), (60, .ireturn, 1)]
theorem D218 : Dec (mCod 218) C218 := decB_ok (by decide +kernel)
set_option maxRecDepth 20000 in
def C219 : Cds := [(0, .aload_n 0, 1), (1, .iconst 0, 1), (2, .putfield 126, 3), (5, .aload_n 0, 1), (6, .invokevirtual 363, 3), (9, .aload_n 0, 1), (10, .aload_n 0, 1), (11, .iload_n 1, 1), (12, .invokevirtual 372, 3), (15, .invokevirtual 369, 3), (18, .ireturn, 1)]
theorem D219 : Dec (mCod 219) C219 := decB_ok (by decide +kernel)
set_option maxRecDepth 20000 in
def C220 : Cds := [(0, .aload_n 0, 1), (1, .iload_n 1, 1), (2, .invokevirtual 339, 3), (5, .ifCond .ne 5, 3), (8, .iconst (-1), 1), (9, .ireturn, 1), (10, .aload_n 0, 1), (11, .iload_n 1, 1), (12, .invokevirtual 153, 3), (15, .istore_n 2, 1), (16, .iload_n 2, 1), (17, .ifCond .ge 6, 3), (20, .bipush (-2), 2), (22, .ireturn, 1), (23, .aload_n 0, 1), (24, .getfield 13, 3), (27, .aload_n 0, 1), (28, .getfield 36, 3), (31, .iload_n 1, 1), (32, .invokestatic 149, 3), (35, .iconst 0, 1), (36, .iadd, 1), (37, .iaload, 1), (38, .iaload, 1), (39, .ifCond .ne 6, 3), (42, .bipush (-3), 2), (44, .ireturn, 1), (45, .aload_n 0, 1), (46, .getfield 36, 3), (49, .iload_n 1, 1), (50, .invokestatic 149, 3), (53, .iconst 5, 1), (54, .iadd, 1), (55, .iconst (-1), 1), (56, .iastore, 1), (57, .aload_n 0, 1), (58, .getfield 36, 3), (61, .iconst 3, 1), (62, .iload_n 2, 1), (63, .imul, 1), (64, .iconst 1, 1), (65, .iadd, 1), (66, .aload_n 0, 1), (67, .getfield 36, 3), (70, .iload_n 1, 1), (71, .invokestatic 149, 3), (74, .iconst 0, 1), (75, .iadd, 1), (76, .iaload, 1), (77, .iastore, 1), (78, .iload_n 2, 1), (79, .ireturn, 1)]
theorem D220 : Dec (mCod 220) C220 := decB_ok (by decide +kernel)
set_option maxRecDepth 20000 in
def C221 : Cds := [(0, .aload_n 0, 1), (1, .iconst 0, 1), (2, .putfield 126, 3), (5, .aload_n 0, 1), (6, .invokevirtual 363, 3), (9, .aload_n 0, 1), (10, .invokevirtual 375, 3), (13, .aload_n 0, 1), (14, .iload_n 1, 1), (15, .iload_n 2, 1), (16, .invokevirtual 378, 3), (19, .istore_n 3, 1), (20, .iload_n 3, 1), (21, .ifCond .lt 45, 3), (24, .aload_n 0, 1), (25, .iconst 0, 1), (26, .putfield 130, 3), (29, .aload_n 0, 1), (30, .aload_n 0, 1), (31, .getfield 304, 3), (34, .i2l, 1), (35, .invokevirtual 381, 3), (38, .aload_n 0, 1), (39, .aload_n 0, 1), (40, .getfield 36, 3), (43, .iload_n 1, 1), (44, .invokestatic 149, 3), (47, .iconst 1, 1), (48, .iadd, 1), (49, .aload_n 0, 1), (50, .getfield 36, 3), (53, .iload_n 1, 1), (54, .invokestatic 149, 3), (57, .iconst 3, 1), (58, .iadd, 1), (59, .iaload, 1), (60, .iadd, 1), (61, .iaload, 1), (62, .i2l, 1), (63, .invokevirtual 381, 3), (66, .aload_n 0, 1), (67, .iload_n 3, 1), (68, .invokevirtual 369, 3), (71, .ireturn, 1)]
theorem D221 : Dec (mCod 221) C221 := decB_ok (by decide +kernel)
set_option maxRecDepth 20000 in
def C222 : Cds := [(0, .aload_n 0, 1), (1, .iconst 0, 1), (2, .putfield 304, 3), (5, .aload_n 0, 1), (6, .iconst 0, 1), (7, .putfield 307, 3), (10, .aload_n 0, 1), (11, .iconst 0, 1), (12, .putfield 310, 3), (15, .return_, 1)]
theorem D222 : Dec (mCod 222) C222 := decB_ok (by decide +kernel)
set_option maxRecDepth 20000 in
def C223 : Cds := [(0, .aload_n 0, 1), (1, .iload_n 1, 1), (2, .invokevirtual 339, 3), (5, .ifCond .ne 5, 3), (8, .iconst (-1), 1), (9, .ireturn, 1), (10, .aload_n 0, 1), (11, .getfield 36, 3), (14, .iload_n 1, 1), (15, .invokestatic 149, 3), (18, .iconst 0, 1), (19, .iadd, 1), (20, .iaload, 1), (21, .istore_n 3, 1), (22, .aload_n 0, 1), (23, .iload_n 2, 1), (24, .invokevirtual 325, 3), (27, .ifCond .eq 23, 3), (30, .aload_n 0, 1), (31, .getfield 17, 3), (34, .iload_n 2, 1), (35, .iaload, 1), (36, .iload_n 3, 1), (37, .if_icmp .eq 16, 3), (40, .aload_n 0, 1), (41, .getfield 20, 3), (44, .iload_n 2, 1), (45, .iaload, 1), (46, .iload_n 3, 1), (47, .if_icmp .eq 6, 3), (50, .bipush (-2), 2), (52, .ireturn, 1), (53, .aload_n 0, 1), (54, .iload_n 2, 1), (55, .invokevirtual 328, 3), (58, .ifCond .ne 6, 3), (61, .bipush (-3), 2), (63, .ireturn, 1), (64, .iconst 0, 1), (65, .istore 4, 2), (67, .iload 4, 2), (69, .aload_n 0, 1), (70, .getfield 23, 3), (73, .iload_n 2, 1), (74, .iaload, 1), (75, .if_icmp .ge 17, 3), (78, .aload_n 0, 1), (79, .aload_n 0, 1), (80, .getfield 36, 3), (83, .invokevirtual 352, 3), (86, .iinc 4 1, 3), (89, .goto (-22), 3), (92, .aload_n 0, 1), (93, .getfield 36, 3), (96, .iload_n 1, 1), (97, .invokestatic 149, 3), (100, .iconst 0, 1), (101, .iadd, 1), (102, .aload_n 0, 1), (103, .getfield 17, 3), (106, .iload_n 2, 1), (107, .iaload, 1), (108, .iload_n 3, 1), (109, .if_icmp .ne 12, 3), (112, .aload_n 0, 1), (113, .getfield 20, 3), (116, .iload_n 2, 1), (117, .iaload, 1), (118, .goto 9, 3), (121, .aload_n 0, 1), (122, .getfield 17, 3), (125, .iload_n 2, 1), (126, .iaload, 1), (127, .iastore, 1), (128, .aload_n 0, 1), (129, .getfield 23, 3), (132, .iload_n 2, 1), (133, .iaload, 1), (134, .ireturn, 1)]
theorem D223 : Dec (mCod 223) C223 := decB_ok (by decide +kernel)
set_option maxRecDepth 20000 in
def C224 : Cds := [(0, .iconst 0, 1), (1, .istore_n 2, 1), (2, .iload_n 2, 1), (3, .aload_n 0, 1), (4, .getfield 143, 3), (7, .if_icmp .ge 140, 3), (10, .iload_n 2, 1), (11, .invokestatic 149, 3), (14, .istore_n 3, 1), (15, .aload_n 1, 1), (16, .iload_n 3, 1), (17, .iconst 5, 1), (18, .iadd, 1), (19, .iaload, 1), (20, .istore 4, 2), (22, .iload 4, 2), (24, .ifCond .lt 117, 3), (27, .iload_n 3, 1), (28, .iconst 1, 1), (29, .iadd, 1), (30, .aload_n 1, 1), (31, .iload_n 3, 1), (32, .iconst 3, 1), (33, .iadd, 1), (34, .iaload, 1), (35, .iadd, 1), (36, .istore 5, 2), (38, .aload_n 1, 1), (39, .iload 5, 2), (41, .sipush 9999, 3), (44, .aload_n 1, 1), (45, .iload 5, 2), (47, .iaload, 1), (48, .aload_n 0, 1), (49, .aload_n 1, 1), (50, .iload_n 2, 1), (51, .invokevirtual 313, 3), (54, .iadd, 1), (55, .invokestatic 169, 3), (58, .iastore, 1), (59, .aload_n 1, 1), (60, .iload 5, 2), (62, .iaload, 1), (63, .aload_n 0, 1), (64, .getfield 33, 3), (67, .iload_n 2, 1), (68, .iaload, 1), (69, .if_icmp .le 72, 3), (72, .aload_n 1, 1), (73, .iload_n 3, 1), (74, .bipush 6, 2), (76, .iadd, 1), (77, .dup2, 1), (78, .iaload, 1), (79, .iconst 1, 1), (80, .iadd, 1), (81, .iastore, 1), (82, .aload_n 1, 1), (83, .iload_n 3, 1), (84, .iconst 5, 1), (85, .iadd, 1), (86, .iconst (-1), 1), (87, .iastore, 1), (88, .aload_n 1, 1), (89, .iconst 3, 1), (90, .iload 4, 2), (92, .imul, 1), (93, .iconst 0, 1), (94, .iadd, 1), (95, .iconst 0, 1), (96, .iastore, 1), (97, .aload_n 1, 1), (98, .iconst 3, 1), (99, .iload 4, 2), (101, .imul, 1), (102, .iconst 2, 1), (103, .iadd, 1), (104, .iconst 1, 1), (105, .iastore, 1), (106, .aload_n 0, 1), (107, .dup, 1), (108, .getfield 304, 3), (111, .iconst 1, 1), (112, .iadd, 1), (113, .putfield 304, 3), (116, .aload_n 0, 1), (117, .dup, 1), (118, .getfield 307, 3), (121, .iconst 1, 1), (122, .iload_n 2, 1), (123, .ishl, 1), (124, .ior, 1), (125, .putfield 307, 3), (128, .aload_n 0, 1), (129, .dup, 1), (130, .getfield 310, 3), (133, .iconst 1, 1), (134, .iload 4, 2), (136, .ishl, 1), (137, .ior, 1), (138, .putfield 310, 3), (141, .iinc 2 1, 3), (144, .goto (-142), 3), (147, .iconst 0, 1), (148, .istore_n 2, 1), (149, .iload_n 2, 1), (150, .aload_n 0, 1), (151, .getfield 143, 3), (154, .if_icmp .ge 84, 3), (157, .iload_n 2, 1), (158, .invokestatic 149, 3), (161, .istore_n 3, 1), (162, .iconst 0, 1), (163, .istore 4, 2), (165, .iload 4, 2), (167, .iconst 2, 1), (168, .if_icmp .ge 64, 3), (171, .aload_n 1, 1), (172, .iload_n 3, 1), (173, .iconst 5, 1), (174, .iadd, 1), (175, .iaload, 1), (176, .ifCond .lt 17, 3), (179, .iload 4, 2), (181, .aload_n 1, 1), (182, .iload_n 3, 1), (183, .iconst 3, 1), (184, .iadd, 1), (185, .iaload, 1), (186, .if_icmp .ne 7, 3), (189, .iconst 1, 1), (190, .goto 4, 3), (193, .iconst 0, 1), (194, .istore 5, 2), (196, .aload_n 1, 1), (197, .iload_n 3, 1), (198, .iconst 1, 1), (199, .iadd, 1), (200, .iload 4, 2), (202, .iadd, 1), (203, .dup2, 1), (204, .iaload, 1), (205, .iload 5, 2), (207, .ifCond .eq 7, 3), (210, .iconst 0, 1), (211, .goto 13, 3), (214, .aload_n 1, 1), (215, .iload_n 3, 1), (216, .iconst 1, 1), (217, .iadd, 1), (218, .iload 4, 2), (220, .iadd, 1), (221, .iaload, 1), (222, .iconst 4, 1), (223, .idiv, 1), (224, .isub, 1), (225, .iastore, 1), (226, .iinc 4 1, 3), (229, .goto (-64), 3), (232, .iinc 2 1, 3), (235, .goto (-86), 3), (238, .iconst 0, 1), (239, .istore_n 2, 1), (240, .iload_n 2, 1), (241, .aload_n 0, 1), (242, .getfield 140, 3), (245, .if_icmp .ge 48, 3), (248, .aload_n 1, 1), (249, .iconst 3, 1), (250, .iload_n 2, 1), (251, .imul, 1), (252, .iconst 0, 1), (253, .iadd, 1), (254, .iconst 0, 1), (255, .aload_n 1, 1), (256, .iconst 3, 1), (257, .iload_n 2, 1), (258, .imul, 1), (259, .iconst 0, 1), (260, .iadd, 1), (261, .iaload, 1), (262, .aload_n 1, 1), (263, .iconst 3, 1), (264, .iload_n 2, 1), (265, .imul, 1), (266, .iconst 2, 1), (267, .iadd, 1), (268, .iaload, 1), (269, .ifCond .ne 12, 3), (272, .aload_n 0, 1), (273, .getfield 30, 3), (276, .iload_n 2, 1), (277, .iaload, 1), (278, .goto 4, 3), (281, .iconst 0, 1), (282, .isub, 1), (283, .invokestatic 294, 3), (286, .iastore, 1), (287, .iinc 2 1, 3), (290, .goto (-50), 3), (293, .aload_n 1, 1), (294, .bipush 51, 2), (296, .dup2, 1), (297, .iaload, 1), (298, .iconst 1, 1), (299, .iadd, 1), (300, .iastore, 1), (301, .return_, 1)]
theorem D224 : Dec (mCod 224) C224 := decB_ok (by decide +kernel)
set_option maxRecDepth 20000 in
def C225 : Cds := [(0, .aload_n 0, 1), (1, .getfield 9, 3), (4, .aload_n 0, 1), (5, .getfield 130, 3), (8, .lload_n 1, 1), (9, .lastore, 1), (10, .aload_n 0, 1), (11, .dup, 1), (12, .getfield 130, 3), (15, .iconst 1, 1), (16, .iadd, 1), (17, .putfield 130, 3), (20, .return_, 1)]
theorem D225 : Dec (mCod 225) C225 := decB_ok (by decide +kernel)
set_option maxRecDepth 20000 in
def C226 : Cds := [(0, .aload_n 0, 1), (1, .iconst 0, 1), (2, .putfield 126, 3), (5, .aload_n 0, 1), (6, .invokevirtual 363, 3), (9, .aload_n 0, 1), (10, .invokevirtual 375, 3), (13, .aload_n 0, 1), (14, .iload_n 1, 1), (15, .invokevirtual 385, 3), (18, .istore_n 2, 1), (19, .iload_n 2, 1), (20, .ifCond .lt 26, 3), (23, .aload_n 0, 1), (24, .iconst 0, 1), (25, .putfield 130, 3), (28, .aload_n 0, 1), (29, .aload_n 0, 1), (30, .getfield 307, 3), (33, .i2l, 1), (34, .invokevirtual 381, 3), (37, .aload_n 0, 1), (38, .aload_n 0, 1), (39, .getfield 310, 3), (42, .i2l, 1), (43, .invokevirtual 381, 3), (46, .iload_n 1, 1), (47, .ifCond .ne 7, 3), (50, .iload_n 2, 1), (51, .goto 8, 3), (54, .aload_n 0, 1), (55, .iload_n 2, 1), (56, .invokevirtual 369, 3), (59, .ireturn, 1)]
theorem D226 : Dec (mCod 226) C226 := decB_ok (by decide +kernel)
set_option maxRecDepth 20000 in
def C227 : Cds := [(0, .iload_n 1, 1), (1, .i2l, 1), (2, .lconst 0, 1), (3, .ldc2_w 356, 3), (6, .invokestatic 136, 3), (9, .ifCond .ne 5, 3), (12, .iconst (-1), 1), (13, .ireturn, 1), (14, .aload_n 0, 1), (15, .getfield 304, 3), (18, .istore_n 2, 1), (19, .iconst 0, 1), (20, .istore_n 3, 1), (21, .iload_n 3, 1), (22, .iload_n 1, 1), (23, .if_icmp .ge 17, 3), (26, .aload_n 0, 1), (27, .aload_n 0, 1), (28, .getfield 36, 3), (31, .invokevirtual 352, 3), (34, .iinc 3 1, 3), (37, .goto (-16), 3), (40, .aload_n 0, 1), (41, .getfield 304, 3), (44, .iload_n 2, 1), (45, .isub, 1), (46, .ireturn, 1)]
theorem D227 : Dec (mCod 227) C227 := decB_ok (by decide +kernel)
set_option maxRecDepth 20000 in
def C228 : Cds := [(0, .aload_n 0, 1), (1, .iconst 0, 1), (2, .putfield 126, 3), (5, .aload_n 0, 1), (6, .invokevirtual 363, 3), (9, .aload_n 0, 1), (10, .aload_n 0, 1), (11, .iload_n 1, 1), (12, .invokevirtual 388, 3), (15, .invokevirtual 369, 3), (18, .ireturn, 1)]
theorem D228 : Dec (mCod 228) C228 := decB_ok (by decide +kernel)
set_option maxRecDepth 20000 in
def C229 : Cds := [(0, .aload_n 0, 1), (1, .iload_n 1, 1), (2, .invokevirtual 339, 3), (5, .ifCond .ne 5, 3), (8, .iconst (-1), 1), (9, .ireturn, 1), (10, .aload_n 0, 1), (11, .getfield 36, 3), (14, .iload_n 1, 1), (15, .invokestatic 149, 3), (18, .iconst 3, 1), (19, .iadd, 1), (20, .iconst 1, 1), (21, .aload_n 0, 1), (22, .getfield 36, 3), (25, .iload_n 1, 1), (26, .invokestatic 149, 3), (29, .iconst 3, 1), (30, .iadd, 1), (31, .iaload, 1), (32, .isub, 1), (33, .iastore, 1), (34, .aload_n 0, 1), (35, .getfield 36, 3), (38, .iload_n 1, 1), (39, .invokestatic 149, 3), (42, .iconst 3, 1), (43, .iadd, 1), (44, .iaload, 1), (45, .ireturn, 1)]
theorem D229 : Dec (mCod 229) C229 := decB_ok (by decide +kernel)
set_option maxRecDepth 20000 in
def C230 : Cds := [(0, .aload_n 0, 1), (1, .iconst 0, 1), (2, .putfield 126, 3), (5, .aload_n 0, 1), (6, .invokevirtual 363, 3), (9, .aload_n 0, 1), (10, .aload_n 0, 1), (11, .iload_n 1, 1), (12, .iload_n 2, 1), (13, .invokevirtual 391, 3), (16, .invokevirtual 369, 3), (19, .ireturn, 1)]
theorem D230 : Dec (mCod 230) C230 := decB_ok (by decide +kernel)
set_option maxRecDepth 20000 in
def C231 : Cds := [(0, .aload_n 0, 1), (1, .iload_n 1, 1), (2, .invokevirtual 339, 3), (5, .ifCond .eq 16, 3), (8, .aload_n 0, 1), (9, .iload_n 2, 1), (10, .invokevirtual 339, 3), (13, .ifCond .eq 8, 3), (16, .iload_n 1, 1), (17, .iload_n 2, 1), (18, .if_icmp .ne 5, 3), (21, .iconst (-1), 1), (22, .ireturn, 1), (23, .aload_n 0, 1), (24, .iload_n 1, 1), (25, .invokevirtual 153, 3), (28, .istore_n 3, 1), (29, .iload_n 3, 1), (30, .ifCond .lt 11, 3), (33, .aload_n 0, 1), (34, .iload_n 2, 1), (35, .invokevirtual 153, 3), (38, .ifCond .lt 6, 3), (41, .bipush (-2), 2), (43, .ireturn, 1), (44, .aload_n 0, 1), (45, .getfield 36, 3), (48, .iload_n 1, 1), (49, .invokestatic 149, 3), (52, .iconst 0, 1), (53, .iadd, 1), (54, .iaload, 1), (55, .aload_n 0, 1), (56, .getfield 36, 3), (59, .iload_n 2, 1), (60, .invokestatic 149, 3), (63, .iconst 0, 1), (64, .iadd, 1), (65, .iaload, 1), (66, .if_icmp .eq 6, 3), (69, .bipush (-3), 2), (71, .ireturn, 1), (72, .aload_n 0, 1), (73, .getfield 36, 3), (76, .iload_n 1, 1), (77, .invokestatic 149, 3), (80, .iconst 5, 1), (81, .iadd, 1), (82, .iconst (-1), 1), (83, .iastore, 1), (84, .aload_n 0, 1), (85, .getfield 36, 3), (88, .iload_n 2, 1), (89, .invokestatic 149, 3), (92, .iconst 5, 1), (93, .iadd, 1), (94, .iload_n 3, 1), (95, .iastore, 1), (96, .iload_n 3, 1), (97, .ireturn, 1)]
theorem D231 : Dec (mCod 231) C231 := decB_ok (by decide +kernel)
set_option maxRecDepth 20000 in
def C232 : Cds := [(0, .aload_n 0, 1), (1, .iconst 0, 1), (2, .putfield 126, 3), (5, .aload_n 0, 1), (6, .iload_n 1, 1), (7, .invokevirtual 339, 3), (10, .ifCond .eq 15, 3), (13, .iload_n 2, 1), (14, .i2l, 1), (15, .lconst 0, 1), (16, .ldc2_w 394, 3), (19, .invokestatic 136, 3), (22, .ifCond .ne 5, 3), (25, .iconst (-1), 1), (26, .ireturn, 1), (27, .aload_n 0, 1), (28, .invokevirtual 363, 3), (31, .aload_n 0, 1), (32, .getfield 36, 3), (35, .iload_n 1, 1), (36, .invokestatic 149, 3), (39, .iconst 4, 1), (40, .iadd, 1), (41, .iaload, 1), (42, .istore_n 3, 1), (43, .aload_n 0, 1), (44, .getfield 36, 3), (47, .iload_n 1, 1), (48, .invokestatic 149, 3), (51, .iconst 4, 1), (52, .iadd, 1), (53, .iload_n 2, 1), (54, .iastore, 1), (55, .aload_n 0, 1), (56, .iload_n 3, 1), (57, .invokevirtual 349, 3), (60, .ireturn, 1)]
theorem D232 : Dec (mCod 232) C232 := decB_ok (by decide +kernel)
set_option maxRecDepth 20000 in
def C233 : Cds := [(0, .aload_n 0, 1), (1, .iconst 0, 1), (2, .putfield 126, 3), (5, .aload_n 0, 1), (6, .invokevirtual 363, 3), (9, .aload_n 0, 1), (10, .aload_n 0, 1), (11, .iload_n 1, 1), (12, .iload_n 2, 1), (13, .invokevirtual 396, 3), (16, .invokevirtual 369, 3), (19, .ireturn, 1)]
theorem D233 : Dec (mCod 233) C233 := decB_ok (by decide +kernel)
set_option maxRecDepth 20000 in
def C234 : Cds := [(0, .aload_n 0, 1), (1, .iload_n 1, 1), (2, .invokevirtual 325, 3), (5, .ifCond .eq 22, 3), (8, .aload_n 0, 1), (9, .getfield 26, 3), (12, .iload_n 1, 1), (13, .baload, 1), (14, .ifCond .eq 13, 3), (17, .iload_n 2, 1), (18, .i2l, 1), (19, .lconst 0, 1), (20, .lconst 1, 1), (21, .invokestatic 136, 3), (24, .ifCond .ne 5, 3), (27, .iconst (-1), 1), (28, .ireturn, 1), (29, .aload_n 0, 1), (30, .getfield 36, 3), (33, .bipush 50, 2), (35, .aload_n 0, 1), (36, .getfield 36, 3), (39, .bipush 50, 2), (41, .iaload, 1), (42, .iconst 1, 1), (43, .iload_n 1, 1), (44, .ishl, 1), (45, .iconst (-1), 1), (46, .ixor, 1), (47, .iand, 1), (48, .iload_n 2, 1), (49, .iload_n 1, 1), (50, .ishl, 1), (51, .ior, 1), (52, .iastore, 1), (53, .aload_n 0, 1), (54, .getfield 36, 3), (57, .bipush 50, 2), (59, .iaload, 1), (60, .invokestatic 358, 3), (63, .ireturn, 1)]
theorem D234 : Dec (mCod 234) C234 := decB_ok (by decide +kernel)
set_option maxRecDepth 20000 in
def C235 : Cds := [(0, .aload_n 0, 1), (1, .iconst 0, 1), (2, .putfield 126, 3), (5, .aload_n 0, 1), (6, .bipush 60, 2), (8, .invokevirtual 250, 3), (11, .istore_n 1, 1), (12, .aload_n 0, 1), (13, .iconst 0, 1), (14, .putfield 399, 3), (17, .iconst 1, 1), (18, .istore_n 2, 1), (19, .iload_n 1, 1), (20, .ifCond .le 7, 3), (23, .iconst 1, 1), (24, .goto 4, 3), (27, .iconst 0, 1), (28, .istore_n 3, 1), (29, .iload_n 3, 1), (30, .ifCond .eq 30, 3), (33, .aload_n 0, 1), (34, .invokevirtual 404, 3), (37, .istore_n 2, 1), (38, .iload_n 2, 1), (39, .ifCond .eq 16, 3), (42, .aload_n 0, 1), (43, .bipush 59, 2), (45, .invokevirtual 220, 3), (48, .ifCond .eq 7, 3), (51, .iconst 1, 1), (52, .goto 4, 3), (55, .iconst 0, 1), (56, .istore_n 3, 1), (57, .goto (-28), 3), (60, .aload_n 0, 1), (61, .iload_n 1, 1), (62, .bipush 60, 2), (64, .iload_n 2, 1), (65, .invokevirtual 256, 3), (68, .istore 4, 2), (70, .iload 4, 2), (72, .ifCond .ge 6, 3), (75, .iload 4, 2), (77, .ireturn, 1), (78, .aload_n 0, 1), (79, .invokevirtual 363, 3), (82, .aload_n 0, 1), (83, .invokevirtual 375, 3), (86, .iconst 0, 1), (87, .istore 5, 2), (89, .iload 5, 2), (91, .aload_n 0, 1), (92, .getfield 399, 3), (95, .if_icmp .ge 18, 3), (98, .aload_n 0, 1), (99, .iload 5, 2), (101, .invokevirtual 407, 3), (104, .ifCond .eq 9, 3), (107, .iinc 5 1, 3), (110, .goto (-21), 3), (113, .aload_n 0, 1), (114, .iconst 0, 1), (115, .putfield 130, 3), (118, .aload_n 0, 1), (119, .iload 5, 2), (121, .aload_n 0, 1), (122, .getfield 399, 3), (125, .if_icmp .ge 7, 3), (128, .iconst 1, 1), (129, .goto 4, 3), (132, .iconst 0, 1), (133, .invokestatic 178, 3), (136, .i2l, 1), (137, .invokevirtual 381, 3), (140, .aload_n 0, 1), (141, .aload_n 0, 1), (142, .getfield 304, 3), (145, .i2l, 1), (146, .invokevirtual 381, 3), (149, .iload 5, 2), (151, .ifCond .le 12, 3), (154, .aload_n 0, 1), (155, .iload 5, 2), (157, .invokevirtual 349, 3), (160, .goto 4, 3), (163, .iconst 0, 1), (164, .ireturn, 1)]
theorem D235 : Dec (mCod 235) C235 := decB_ok (by decide +kernel)
set_option maxRecDepth 20000 in
def C236 : Cds := [(0, .aload_n 0, 1), (1, .getfield 399, 3), (4, .istore_n 1, 1), (5, .aload_n 0, 1), (6, .getfield 72, 3), (9, .iload_n 1, 1), (10, .aload_n 0, 1), (11, .ldc_w 402, 3), (14, .invokevirtual 209, 3), (17, .iastore, 1), (18, .aload_n 0, 1), (19, .dup, 1), (20, .getfield 399, 3), (23, .iconst 1, 1), (24, .iadd, 1), (25, .putfield 399, 3), (28, .aload_n 0, 1), (29, .getfield 72, 3), (32, .iload_n 1, 1), (33, .iaload, 1), (34, .ifCond .ge 5, 3), (37, .iconst 0, 1), (38, .ireturn, 1), (39, .aload_n 0, 1), (40, .getfield 75, 3), (43, .iload_n 1, 1), (44, .aload_n 0, 1), (45, .aload_n 0, 1), (46, .getfield 72, 3), (49, .iload_n 1, 1), (50, .iaload, 1), (51, .iconst 3, 1), (52, .if_icmp .eq 14, 3), (55, .aload_n 0, 1), (56, .getfield 72, 3), (59, .iload_n 1, 1), (60, .iaload, 1), (61, .bipush 6, 2), (63, .if_icmp .ne 7, 3), (66, .iconst 2, 1), (67, .goto 4, 3), (70, .iconst 1, 1), (71, .invokevirtual 227, 3), (74, .iastore, 1), (75, .aload_n 0, 1), (76, .getfield 75, 3), (79, .iload_n 1, 1), (80, .iaload, 1), (81, .ifCond .lt 32, 3), (84, .aload_n 0, 1), (85, .getfield 72, 3), (88, .iload_n 1, 1), (89, .iaload, 1), (90, .ifCond .eq 38, 3), (93, .aload_n 0, 1), (94, .getfield 72, 3), (97, .iload_n 1, 1), (98, .iaload, 1), (99, .iconst 2, 1), (100, .if_icmp .eq 28, 3), (103, .aload_n 0, 1), (104, .getfield 72, 3), (107, .iload_n 1, 1), (108, .iaload, 1), (109, .iconst 5, 1), (110, .if_icmp .eq 18, 3), (113, .aload_n 0, 1), (114, .getfield 75, 3), (117, .iload_n 1, 1), (118, .iaload, 1), (119, .ifCond .lt 7, 3), (122, .iconst 1, 1), (123, .goto 4, 3), (126, .iconst 0, 1), (127, .ireturn, 1), (128, .aload_n 0, 1), (129, .getfield 78, 3), (132, .iload_n 1, 1), (133, .aload_n 0, 1), (134, .aload_n 0, 1), (135, .getfield 72, 3), (138, .iload_n 1, 1), (139, .iaload, 1), (140, .iconst 2, 1), (141, .if_icmp .ne 7, 3), (144, .iconst 2, 1), (145, .goto 4, 3), (148, .iconst 1, 1), (149, .invokevirtual 227, 3), (152, .iastore, 1), (153, .aload_n 0, 1), (154, .getfield 78, 3), (157, .iload_n 1, 1), (158, .iaload, 1), (159, .ifCond .lt 7, 3), (162, .iconst 1, 1), (163, .goto 4, 3), (166, .iconst 0, 1), (167, .ireturn, 1)]
theorem D236 : Dec (mCod 236) C236 := decB_ok (by decide +kernel)
set_option maxRecDepth 20000 in
def C237 : Cds := [(0, .aload_n 0, 1), (1, .getfield 75, 3), (4, .iload_n 1, 1), (5, .iaload, 1), (6, .istore_n 2, 1), (7, .aload_n 0, 1), (8, .getfield 72, 3), (11, .iload_n 1, 1), (12, .iaload, 1), (13, .tableswitch 141 0 5 #[39, 59, 73, 93, 107, 121], 39), (52, .aload_n 0, 1), (53, .iload_n 2, 1), (54, .aload_n 0, 1), (55, .getfield 78, 3), (58, .iload_n 1, 1), (59, .iaload, 1), (60, .invokevirtual 366, 3), (63, .ifCond .lt 7, 3), (66, .iconst 1, 1), (67, .goto 4, 3), (70, .iconst 0, 1), (71, .ireturn, 1), (72, .aload_n 0, 1), (73, .iload_n 2, 1), (74, .invokevirtual 372, 3), (77, .ifCond .lt 7, 3), (80, .iconst 1, 1), (81, .goto 4, 3), (84, .iconst 0, 1), (85, .ireturn, 1), (86, .aload_n 0, 1), (87, .iload_n 2, 1), (88, .aload_n 0, 1), (89, .getfield 78, 3), (92, .iload_n 1, 1), (93, .iaload, 1), (94, .invokevirtual 378, 3), (97, .ifCond .lt 7, 3), (100, .iconst 1, 1), (101, .goto 4, 3), (104, .iconst 0, 1), (105, .ireturn, 1), (106, .aload_n 0, 1), (107, .iload_n 2, 1), (108, .invokevirtual 385, 3), (111, .ifCond .lt 7, 3), (114, .iconst 1, 1), (115, .goto 4, 3), (118, .iconst 0, 1), (119, .ireturn, 1), (120, .aload_n 0, 1), (121, .iload_n 2, 1), (122, .invokevirtual 388, 3), (125, .ifCond .lt 7, 3), (128, .iconst 1, 1), (129, .goto 4, 3), (132, .iconst 0, 1), (133, .ireturn, 1), (134, .aload_n 0, 1), (135, .iload_n 2, 1), (136, .aload_n 0, 1), (137, .getfield 78, 3), (140, .iload_n 1, 1), (141, .iaload, 1), (142, .invokevirtual 391, 3), (145, .ifCond .lt 7, 3), (148, .iconst 1, 1), (149, .goto 4, 3), (152, .iconst 0, 1), (153, .ireturn, 1), (154, .aload_n 0, 1), (155, .iload_n 2, 1), (156, .iconst 1, 1), (157, .invokevirtual 396, 3), (160, .ifCond .lt 7, 3), (163, .iconst 1, 1), (164, .goto 4, 3), (167, .iconst 0, 1), (168, .ireturn, 1)]
theorem D237 : Dec (mCod 237) C237 := decB_ok (by decide +kernel)
set_option maxRecDepth 20000 in
def C238 : Cds := [(0, .aload_n 0, 1), (1, .iconst 0, 1), (2, .putfield 126, 3), (5, .aload_n 0, 1), (6, .iload_n 1, 1), (7, .invokevirtual 420, 3), (10, .ifCond .ne 5, 3), (13, .iconst (-1), 1), (14, .ireturn, 1), (15, .aload_n 0, 1), (16, .iload_n 1, 1), (17, .iconst 0, 1), (18, .invokevirtual 423, 3), (21, .istore_n 2, 1), (22, .aload_n 0, 1), (23, .iconst 0, 1), (24, .putfield 130, 3), (27, .aload_n 0, 1), (28, .iload_n 2, 1), (29, .ifCond .le 11, 3), (32, .aload_n 0, 1), (33, .getfield 417, 3), (36, .i2l, 1), (37, .goto 27, 3), (40, .aload_n 0, 1), (41, .getfield 39, 3), (44, .iload_n 1, 1), (45, .invokestatic 149, 3), (48, .iconst 1, 1), (49, .iadd, 1), (50, .aload_n 0, 1), (51, .getfield 39, 3), (54, .iload_n 1, 1), (55, .invokestatic 149, 3), (58, .iconst 3, 1), (59, .iadd, 1), (60, .iaload, 1), (61, .iadd, 1), (62, .iaload, 1), (63, .i2l, 1), (64, .invokevirtual 381, 3), (67, .iload_n 2, 1), (68, .ireturn, 1)]
theorem D238 : Dec (mCod 238) C238 := decB_ok (by decide +kernel)
set_option maxRecDepth 20000 in
def C239 : Cds := [(0, .aload_n 0, 1), (1, .iload_n 1, 1), (2, .invokevirtual 339, 3), (5, .ifCond .eq 15, 3), (8, .aload_n 0, 1), (9, .iload_n 1, 1), (10, .invokevirtual 153, 3), (13, .ifCond .lt 7, 3), (16, .iconst 1, 1), (17, .goto 4, 3), (20, .iconst 0, 1), (21, .ireturn, 1)]
theorem D239 : Dec (mCod 239) C239 := decB_ok (by decide +kernel)
set_option maxRecDepth 20000 in
def C240 : Cds := [(0, .aload_n 0, 1), (1, .getfield 36, 3), (4, .aload_n 0, 1), (5, .getfield 39, 3), (8, .invokestatic 410, 3), (11, .aload_n 0, 1), (12, .iconst 0, 1), (13, .putfield 414, 3), (16, .aload_n 0, 1), (17, .iconst 0, 1), (18, .putfield 417, 3), (21, .aload_n 0, 1), (22, .getfield 39, 3), (25, .iload_n 1, 1), (26, .invokestatic 149, 3), (29, .bipush 6, 2), (31, .iadd, 1), (32, .iaload, 1), (33, .istore_n 3, 1), (34, .iconst 1, 1), (35, .istore 4, 2), (37, .iload 4, 2), (39, .sipush 300, 3), (42, .if_icmp .gt 99, 3), (45, .iload_n 2, 1), (46, .ifCond .le 44, 3), (49, .iload 4, 2), (51, .iload_n 2, 1), (52, .irem, 1), (53, .ifCond .ne 37, 3), (56, .aload_n 0, 1), (57, .getfield 39, 3), (60, .iload_n 1, 1), (61, .invokestatic 149, 3), (64, .iconst 3, 1), (65, .iadd, 1), (66, .iconst 1, 1), (67, .aload_n 0, 1), (68, .getfield 39, 3), (71, .iload_n 1, 1), (72, .invokestatic 149, 3), (75, .iconst 3, 1), (76, .iadd, 1), (77, .iaload, 1), (78, .isub, 1), (79, .iastore, 1), (80, .aload_n 0, 1), (81, .dup, 1), (82, .getfield 414, 3), (85, .iconst 1, 1), (86, .iadd, 1), (87, .putfield 414, 3), (90, .aload_n 0, 1), (91, .aload_n 0, 1), (92, .getfield 39, 3), (95, .iconst 3, 1), (96, .aload_n 0, 1), (97, .iload_n 1, 1), (98, .invokevirtual 153, 3), (101, .imul, 1), (102, .iconst 0, 1), (103, .iadd, 1), (104, .iaload, 1), (105, .putfield 417, 3), (108, .aload_n 0, 1), (109, .aload_n 0, 1), (110, .getfield 39, 3), (113, .invokevirtual 352, 3), (116, .aload_n 0, 1), (117, .getfield 39, 3), (120, .iload_n 1, 1), (121, .invokestatic 149, 3), (124, .bipush 6, 2), (126, .iadd, 1), (127, .iaload, 1), (128, .iload_n 3, 1), (129, .if_icmp .le 6, 3), (132, .iload 4, 2), (134, .ireturn, 1), (135, .iinc 4 1, 3), (138, .goto (-101), 3), (141, .bipush (-2), 2), (143, .ireturn, 1)]
theorem D240 : Dec (mCod 240) C240 := decB_ok (by decide +kernel)
set_option maxRecDepth 20000 in
def C241 : Cds := [(0, .iconst 0, 1), (1, .istore_n 2, 1), (2, .iload_n 2, 1), (3, .bipush 52, 2), (5, .if_icmp .ge 15, 3), (8, .aload_n 1, 1), (9, .iload_n 2, 1), (10, .aload_n 0, 1), (11, .iload_n 2, 1), (12, .iaload, 1), (13, .iastore, 1), (14, .iinc 2 1, 3), (17, .goto (-15), 3), (20, .return_, 1)]
theorem D241 : Dec (mCod 241) C241 := decB_ok (by decide +kernel)
set_option maxRecDepth 20000 in
def C242 : Cds := [(0, .aload_n 0, 1), (1, .iconst 0, 1), (2, .putfield 126, 3), (5, .aload_n 0, 1), (6, .iload_n 1, 1), (7, .invokevirtual 420, 3), (10, .ifCond .eq 15, 3), (13, .iload_n 2, 1), (14, .i2l, 1), (15, .lconst 1, 1), (16, .ldc2_w 356, 3), (19, .invokestatic 136, 3), (22, .ifCond .ne 5, 3), (25, .iconst (-1), 1), (26, .ireturn, 1), (27, .aload_n 0, 1), (28, .iload_n 1, 1), (29, .iload_n 2, 1), (30, .invokevirtual 423, 3), (33, .istore_n 3, 1), (34, .aload_n 0, 1), (35, .iconst 0, 1), (36, .putfield 130, 3), (39, .aload_n 0, 1), (40, .aload_n 0, 1), (41, .getfield 414, 3), (44, .i2l, 1), (45, .invokevirtual 381, 3), (48, .iload_n 3, 1), (49, .ireturn, 1)]
theorem D242 : Dec (mCod 242) C242 := decB_ok (by decide +kernel)
set_option maxRecDepth 20000 in
def C243 : Cds := [(0, .aload_n 0, 1), (1, .iconst 0, 1), (2, .putfield 126, 3), (5, .aload_n 0, 1), (6, .iload_n 1, 1), (7, .invokevirtual 420, 3), (10, .ifCond .ne 5, 3), (13, .iconst (-1), 1), (14, .ireturn, 1), (15, .iconst 0, 1), (16, .istore_n 2, 1), (17, .iconst 0, 1), (18, .istore_n 3, 1), (19, .iconst 0, 1), (20, .istore 4, 2), (22, .iconst 1, 1), (23, .istore 5, 2), (25, .iload 5, 2), (27, .bipush 99, 2), (29, .if_icmp .gt 52, 3), (32, .aload_n 0, 1), (33, .iload_n 1, 1), (34, .iload 5, 2), (36, .invokevirtual 423, 3), (39, .istore 6, 2), (41, .iload 6, 2), (43, .ifCond .ge 8, 3), (46, .iload 5, 2), (48, .goto 5, 3), (51, .iload 4, 2), (53, .istore 4, 2), (55, .iload 6, 2), (57, .iload_n 3, 1), (58, .if_icmp .le 8, 3), (61, .iload 5, 2), (63, .goto 4, 3), (66, .iload_n 2, 1), (67, .istore_n 2, 1), (68, .iload_n 3, 1), (69, .iload 6, 2), (71, .invokestatic 294, 3), (74, .istore_n 3, 1), (75, .iinc 5 1, 3), (78, .goto (-53), 3), (81, .aload_n 0, 1), (82, .iconst 0, 1), (83, .putfield 130, 3), (86, .aload_n 0, 1), (87, .iload 4, 2), (89, .ifCond .le 9, 3), (92, .ldc2_w 426, 3), (95, .goto 5, 3), (98, .iload_n 3, 1), (99, .i2l, 1), (100, .invokevirtual 381, 3), (103, .iload 4, 2), (105, .ifCond .le 8, 3), (108, .iload 4, 2), (110, .goto 4, 3), (113, .iload_n 2, 1), (114, .ireturn, 1)]
theorem D243 : Dec (mCod 243) C243 := decB_ok (by decide +kernel)
set_option maxRecDepth 20000 in
def C244 : Cds := [(0, .aload_n 0, 1), (1, .iconst 0, 1), (2, .putfield 126, 3), (5, .aload_n 0, 1), (6, .iload_n 1, 1), (7, .iload_n 2, 1), (8, .iload_n 3, 1), (9, .invokevirtual 437, 3), (12, .ifCond .ne 5, 3), (15, .iconst (-1), 1), (16, .ireturn, 1), (17, .iconst 0, 1), (18, .istore 4, 2), (20, .iload 4, 2), (22, .bipush 9, 2), (24, .if_icmp .gt 54, 3), (27, .aload_n 0, 1), (28, .iload_n 1, 1), (29, .aload_n 0, 1), (30, .getfield 36, 3), (33, .iconst 3, 1), (34, .iload_n 2, 1), (35, .imul, 1), (36, .iconst 0, 1), (37, .iadd, 1), (38, .iaload, 1), (39, .invokevirtual 441, 3), (42, .aload_n 0, 1), (43, .iload_n 1, 1), (44, .iload_n 2, 1), (45, .iload 4, 2), (47, .iload_n 3, 1), (48, .invokevirtual 445, 3), (51, .iload_n 3, 1), (52, .if_icmp .ne 20, 3), (55, .aload_n 0, 1), (56, .iconst 0, 1), (57, .putfield 130, 3), (60, .aload_n 0, 1), (61, .aload_n 0, 1), (62, .getfield 428, 3), (65, .i2l, 1), (66, .invokevirtual 381, 3), (69, .iload 4, 2), (71, .ireturn, 1), (72, .iinc 4 1, 3), (75, .goto (-55), 3), (78, .bipush (-2), 2), (80, .ireturn, 1)]
theorem D244 : Dec (mCod 244) C244 := decB_ok (by decide +kernel)
set_option maxRecDepth 20000 in
def C245 : Cds := [(0, .aload_n 0, 1), (1, .iload_n 1, 1), (2, .invokevirtual 339, 3), (5, .ifCond .eq 27, 3), (8, .aload_n 0, 1), (9, .iload_n 2, 1), (10, .invokevirtual 344, 3), (13, .ifCond .eq 19, 3), (16, .iload_n 3, 1), (17, .i2l, 1), (18, .lconst 1, 1), (19, .ldc2_w 356, 3), (22, .invokestatic 136, 3), (25, .ifCond .eq 7, 3), (28, .iconst 1, 1), (29, .goto 4, 3), (32, .iconst 0, 1), (33, .ireturn, 1)]
theorem D245 : Dec (mCod 245) C245 := decB_ok (by decide +kernel)
set_option maxRecDepth 20000 in
def C246 : Cds := [(0, .aload_n 0, 1), (1, .iload_n 2, 1), (2, .putfield 431, 3), (5, .aload_n 0, 1), (6, .aload_n 0, 1), (7, .getfield 36, 3), (10, .iload_n 1, 1), (11, .invokestatic 149, 3), (14, .iconst 1, 1), (15, .iadd, 1), (16, .aload_n 0, 1), (17, .getfield 36, 3), (20, .iload_n 1, 1), (21, .invokestatic 149, 3), (24, .iconst 3, 1), (25, .iadd, 1), (26, .iaload, 1), (27, .iadd, 1), (28, .iaload, 1), (29, .putfield 428, 3), (32, .aload_n 0, 1), (33, .aload_n 0, 1), (34, .getfield 36, 3), (37, .bipush 51, 2), (39, .iaload, 1), (40, .putfield 434, 3), (43, .return_, 1)]
theorem D246 : Dec (mCod 246) C246 := decB_ok (by decide +kernel)
set_option maxRecDepth 20000 in
def C247 : Cds := [(0, .iconst 0, 1), (1, .istore 5, 2), (3, .iload 5, 2), (5, .iload 4, 2), (7, .if_icmp .ge 99, 3), (10, .aload_n 0, 1), (11, .sipush 9999, 3), (14, .aload_n 0, 1), (15, .getfield 428, 3), (18, .aload_n 0, 1), (19, .aload_n 0, 1), (20, .getfield 431, 3), (23, .iload_n 3, 1), (24, .aload_n 0, 1), (25, .getfield 428, 3), (28, .aload_n 0, 1), (29, .getfield 434, 3), (32, .iload_n 1, 1), (33, .iload_n 2, 1), (34, .aload_n 0, 1), (35, .getfield 36, 3), (38, .iload_n 1, 1), (39, .invokestatic 149, 3), (42, .iconst 3, 1), (43, .iadd, 1), (44, .iaload, 1), (45, .invokevirtual 300, 3), (48, .iadd, 1), (49, .invokestatic 169, 3), (52, .putfield 428, 3), (55, .aload_n 0, 1), (56, .getfield 428, 3), (59, .aload_n 0, 1), (60, .getfield 33, 3), (63, .iload_n 1, 1), (64, .iaload, 1), (65, .if_icmp .le 6, 3), (68, .iload 5, 2), (70, .ireturn, 1), (71, .aload_n 0, 1), (72, .iconst 0, 1), (73, .aload_n 0, 1), (74, .getfield 431, 3), (77, .aload_n 0, 1), (78, .getfield 30, 3), (81, .iload_n 2, 1), (82, .iaload, 1), (83, .isub, 1), (84, .invokestatic 294, 3), (87, .putfield 431, 3), (90, .aload_n 0, 1), (91, .dup, 1), (92, .getfield 434, 3), (95, .iconst 1, 1), (96, .iadd, 1), (97, .putfield 434, 3), (100, .iinc 5 1, 3), (103, .goto (-100), 3), (106, .iload 4, 2), (108, .ireturn, 1)]
theorem D247 : Dec (mCod 247) C247 := decB_ok (by decide +kernel)
set_option maxRecDepth 20000 in
def C248 : Cds := [(0, .aload_n 0, 1), (1, .iconst 0, 1), (2, .putfield 126, 3), (5, .aload_n 0, 1), (6, .iload_n 1, 1), (7, .iload_n 2, 1), (8, .iload_n 3, 1), (9, .invokevirtual 437, 3), (12, .ifCond .ne 5, 3), (15, .iconst (-1), 1), (16, .ireturn, 1), (17, .bipush (-2), 2), (19, .istore 4, 2), (21, .iconst 1, 1), (22, .istore 5, 2), (24, .iconst 0, 1), (25, .istore 6, 2), (27, .iload 6, 2), (29, .sipush 999, 3), (32, .if_icmp .gt 64, 3), (35, .iload 5, 2), (37, .ifCond .eq 59, 3), (40, .aload_n 0, 1), (41, .iload_n 1, 1), (42, .iload 6, 2), (44, .invokevirtual 441, 3), (47, .aload_n 0, 1), (48, .iload_n 1, 1), (49, .iload_n 2, 1), (50, .aload_n 0, 1), (51, .getfield 36, 3), (54, .iload_n 1, 1), (55, .invokestatic 149, 3), (58, .iconst 4, 1), (59, .iadd, 1), (60, .iaload, 1), (61, .iload_n 3, 1), (62, .invokevirtual 445, 3), (65, .iload_n 3, 1), (66, .if_icmp .ne 7, 3), (69, .iconst 1, 1), (70, .goto 4, 3), (73, .iconst 0, 1), (74, .istore 5, 2), (76, .iload 5, 2), (78, .ifCond .eq 8, 3), (81, .iload 6, 2), (83, .goto 5, 3), (86, .iload 4, 2), (88, .istore 4, 2), (90, .iinc 6 1, 3), (93, .goto (-66), 3), (96, .iload 4, 2), (98, .ireturn, 1)]
theorem D248 : Dec (mCod 248) C248 := decB_ok (by decide +kernel)
set_option maxRecDepth 20000 in
def C249 : Cds := [(0, .aload_n 0, 1), (1, .iconst 0, 1), (2, .putfield 126, 3), (5, .aload_n 0, 1), (6, .iload_n 1, 1), (7, .invokevirtual 317, 3), (10, .ifCond .eq 11, 3), (13, .aload_n 0, 1), (14, .iload_n 2, 1), (15, .invokevirtual 317, 3), (18, .ifCond .ne 5, 3), (21, .iconst (-1), 1), (22, .ireturn, 1), (23, .aload_n 0, 1), (24, .iload_n 1, 1), (25, .iload_n 2, 1), (26, .invokevirtual 456, 3), (29, .ifCond .ne 6, 3), (32, .bipush (-2), 2), (34, .ireturn, 1), (35, .aload_n 0, 1), (36, .iconst 0, 1), (37, .putfield 130, 3), (40, .iconst 0, 1), (41, .istore_n 3, 1), (42, .iload_n 3, 1), (43, .aload_n 0, 1), (44, .getfield 453, 3), (47, .if_icmp .ge 20, 3), (50, .aload_n 0, 1), (51, .aload_n 0, 1), (52, .getfield 87, 3), (55, .iload_n 3, 1), (56, .iaload, 1), (57, .i2l, 1), (58, .invokevirtual 381, 3), (61, .iinc 3 1, 3), (64, .goto (-22), 3), (67, .aload_n 0, 1), (68, .invokevirtual 459, 3), (71, .ireturn, 1)]
theorem D249 : Dec (mCod 249) C249 := decB_ok (by decide +kernel)
set_option maxRecDepth 20000 in
def C250 : Cds := [(0, .aload_n 0, 1), (1, .aload_n 0, 1), (2, .getfield 36, 3), (5, .bipush 50, 2), (7, .iaload, 1), (8, .invokevirtual 450, 3), (11, .aload_n 0, 1), (12, .getfield 81, 3), (15, .bipush 10, 2), (17, .iload_n 1, 1), (18, .imul, 1), (19, .iload_n 2, 1), (20, .iadd, 1), (21, .iaload, 1), (22, .ldc_w 449, 3), (25, .if_icmp .lt 5, 3), (28, .iconst 0, 1), (29, .ireturn, 1), (30, .aload_n 0, 1), (31, .getfield 87, 3), (34, .iconst 0, 1), (35, .iload_n 1, 1), (36, .iastore, 1), (37, .aload_n 0, 1), (38, .iconst 1, 1), (39, .putfield 453, 3), (42, .iload_n 1, 1), (43, .istore_n 3, 1), (44, .iload_n 3, 1), (45, .iload_n 2, 1), (46, .if_icmp .eq 84, 3), (49, .iconst 0, 1), (50, .istore 4, 2), (52, .iload 4, 2), (54, .iload_n 3, 1), (55, .if_icmp .eq 42, 3), (58, .aload_n 0, 1), (59, .getfield 84, 3), (62, .bipush 10, 2), (64, .iload_n 3, 1), (65, .imul, 1), (66, .iload 4, 2), (68, .iadd, 1), (69, .iaload, 1), (70, .aload_n 0, 1), (71, .getfield 81, 3), (74, .bipush 10, 2), (76, .iload 4, 2), (78, .imul, 1), (79, .iload_n 2, 1), (80, .iadd, 1), (81, .iaload, 1), (82, .iadd, 1), (83, .aload_n 0, 1), (84, .getfield 81, 3), (87, .bipush 10, 2), (89, .iload_n 3, 1), (90, .imul, 1), (91, .iload_n 2, 1), (92, .iadd, 1), (93, .iaload, 1), (94, .if_icmp .eq 9, 3), (97, .iinc 4 1, 3), (100, .goto (-48), 3), (103, .aload_n 0, 1), (104, .getfield 87, 3), (107, .aload_n 0, 1), (108, .getfield 453, 3), (111, .iload 4, 2), (113, .iastore, 1), (114, .aload_n 0, 1), (115, .dup, 1), (116, .getfield 453, 3), (119, .iconst 1, 1), (120, .iadd, 1), (121, .putfield 453, 3), (124, .iload 4, 2), (126, .istore_n 3, 1), (127, .goto (-83), 3), (130, .iconst 1, 1), (131, .ireturn, 1)]
theorem D250 : Dec (mCod 250) C250 := decB_ok (by decide +kernel)
set_option maxRecDepth 20000 in
def C251 : Cds := [(0, .iconst 0, 1), (1, .istore_n 2, 1), (2, .iload_n 2, 1), (3, .bipush 100, 2), (5, .if_icmp .ge 18, 3), (8, .aload_n 0, 1), (9, .getfield 84, 3), (12, .iload_n 2, 1), (13, .ldc_w 449, 3), (16, .iastore, 1), (17, .iinc 2 1, 3), (20, .goto (-18), 3), (23, .iconst 0, 1), (24, .istore_n 2, 1), (25, .iload_n 2, 1), (26, .aload_n 0, 1), (27, .getfield 146, 3), (30, .if_icmp .ge 95, 3), (33, .aload_n 0, 1), (34, .getfield 26, 3), (37, .iload_n 2, 1), (38, .baload, 1), (39, .ifCond .eq 11, 3), (42, .iload_n 1, 1), (43, .iload_n 2, 1), (44, .invokestatic 156, 3), (47, .ifCond .eq 72, 3), (50, .bipush 10, 2), (52, .aload_n 0, 1), (53, .getfield 17, 3), (56, .iload_n 2, 1), (57, .iaload, 1), (58, .imul, 1), (59, .aload_n 0, 1), (60, .getfield 20, 3), (63, .iload_n 2, 1), (64, .iaload, 1), (65, .iadd, 1), (66, .istore_n 3, 1), (67, .bipush 10, 2), (69, .aload_n 0, 1), (70, .getfield 20, 3), (73, .iload_n 2, 1), (74, .iaload, 1), (75, .imul, 1), (76, .aload_n 0, 1), (77, .getfield 17, 3), (80, .iload_n 2, 1), (81, .iaload, 1), (82, .iadd, 1), (83, .istore 4, 2), (85, .aload_n 0, 1), (86, .getfield 84, 3), (89, .iload_n 3, 1), (90, .aload_n 0, 1), (91, .getfield 84, 3), (94, .iload_n 3, 1), (95, .iaload, 1), (96, .aload_n 0, 1), (97, .getfield 23, 3), (100, .iload_n 2, 1), (101, .iaload, 1), (102, .invokestatic 169, 3), (105, .iastore, 1), (106, .aload_n 0, 1), (107, .getfield 84, 3), (110, .iload 4, 2), (112, .aload_n 0, 1), (113, .getfield 84, 3), (116, .iload_n 3, 1), (117, .iaload, 1), (118, .iastore, 1), (119, .iinc 2 1, 3), (122, .goto (-97), 3), (125, .iconst 0, 1), (126, .istore_n 2, 1), (127, .iload_n 2, 1), (128, .aload_n 0, 1), (129, .getfield 133, 3), (132, .if_icmp .ge 56, 3), (135, .iconst 0, 1), (136, .istore_n 3, 1), (137, .iload_n 3, 1), (138, .aload_n 0, 1), (139, .getfield 133, 3), (142, .if_icmp .ge 40, 3), (145, .aload_n 0, 1), (146, .getfield 81, 3), (149, .bipush 10, 2), (151, .iload_n 2, 1), (152, .imul, 1), (153, .iload_n 3, 1), (154, .iadd, 1), (155, .iload_n 2, 1), (156, .iload_n 3, 1), (157, .if_icmp .ne 7, 3), (160, .iconst 0, 1), (161, .goto 14, 3), (164, .aload_n 0, 1), (165, .getfield 84, 3), (168, .bipush 10, 2), (170, .iload_n 2, 1), (171, .imul, 1), (172, .iload_n 3, 1), (173, .iadd, 1), (174, .iaload, 1), (175, .iastore, 1), (176, .iinc 3 1, 3), (179, .goto (-42), 3), (182, .iinc 2 1, 3), (185, .goto (-58), 3), (188, .iconst 0, 1), (189, .istore_n 2, 1), (190, .iload_n 2, 1), (191, .aload_n 0, 1), (192, .getfield 133, 3), (195, .if_icmp .ge 98, 3), (198, .iconst 0, 1), (199, .istore_n 3, 1), (200, .iload_n 3, 1), (201, .aload_n 0, 1), (202, .getfield 133, 3), (205, .if_icmp .ge 82, 3), (208, .iconst 0, 1), (209, .istore 4, 2), (211, .iload 4, 2), (213, .aload_n 0, 1), (214, .getfield 133, 3), (217, .if_icmp .ge 64, 3), (220, .aload_n 0, 1), (221, .getfield 81, 3), (224, .bipush 10, 2), (226, .iload_n 3, 1), (227, .imul, 1), (228, .iload_n 2, 1), (229, .iadd, 1), (230, .iaload, 1), (231, .aload_n 0, 1), (232, .getfield 81, 3), (235, .bipush 10, 2), (237, .iload_n 2, 1), (238, .imul, 1), (239, .iload 4, 2), (241, .iadd, 1), (242, .iaload, 1), (243, .iadd, 1), (244, .istore 5, 2), (246, .aload_n 0, 1), (247, .getfield 81, 3), (250, .bipush 10, 2), (252, .iload_n 3, 1), (253, .imul, 1), (254, .iload 4, 2), (256, .iadd, 1), (257, .aload_n 0, 1), (258, .getfield 81, 3), (261, .bipush 10, 2), (263, .iload_n 3, 1), (264, .imul, 1), (265, .iload 4, 2), (267, .iadd, 1), (268, .iaload, 1), (269, .iload 5, 2), (271, .invokestatic 169, 3), (274, .iastore, 1), (275, .iinc 4 1, 3), (278, .goto (-67), 3), (281, .iinc 3 1, 3), (284, .goto (-84), 3), (287, .iinc 2 1, 3), (290, .goto (-100), 3), (293, .return_, 1)]
theorem D251 : Dec (mCod 251) C251 := decB_ok (by decide +kernel)
set_option maxRecDepth 20000 in
def C252 : Cds := [(0, .aload_n 0, 1), (1, .getfield 81, 3), (4, .bipush 10, 2), (6, .aload_n 0, 1), (7, .getfield 87, 3), (10, .iconst 0, 1), (11, .iaload, 1), (12, .imul, 1), (13, .aload_n 0, 1), (14, .getfield 87, 3), (17, .aload_n 0, 1), (18, .getfield 453, 3), (21, .iconst 1, 1), (22, .isub, 1), (23, .iaload, 1), (24, .iadd, 1), (25, .iaload, 1), (26, .ireturn, 1)]
theorem D252 : Dec (mCod 252) C252 := decB_ok (by decide +kernel)
set_option maxRecDepth 20000 in
def C253 : Cds := [(0, .aload_n 0, 1), (1, .iconst 0, 1), (2, .putfield 126, 3), (5, .aload_n 0, 1), (6, .iload_n 1, 1), (7, .invokevirtual 317, 3), (10, .ifCond .eq 11, 3), (13, .aload_n 0, 1), (14, .iload_n 2, 1), (15, .invokevirtual 317, 3), (18, .ifCond .ne 5, 3), (21, .iconst (-1), 1), (22, .ireturn, 1), (23, .iconst 1, 1), (24, .aload_n 0, 1), (25, .getfield 146, 3), (28, .ishl, 1), (29, .iconst 1, 1), (30, .isub, 1), (31, .istore_n 3, 1), (32, .aload_n 0, 1), (33, .iload_n 3, 1), (34, .invokevirtual 450, 3), (37, .aload_n 0, 1), (38, .getfield 81, 3), (41, .bipush 10, 2), (43, .iload_n 1, 1), (44, .imul, 1), (45, .iload_n 2, 1), (46, .iadd, 1), (47, .iaload, 1), (48, .istore 4, 2), (50, .iload 4, 2), (52, .ldc_w 449, 3), (55, .if_icmp .lt 6, 3), (58, .bipush (-2), 2), (60, .ireturn, 1), (61, .iconst 0, 1), (62, .istore 5, 2), (64, .iconst 0, 1), (65, .istore 6, 2), (67, .iload 6, 2), (69, .aload_n 0, 1), (70, .getfield 146, 3), (73, .if_icmp .ge 31, 3), (76, .iload 5, 2), (78, .aload_n 0, 1), (79, .iload 6, 2), (81, .invokevirtual 328, 3), (84, .ifCond .eq 7, 3), (87, .iconst 0, 1), (88, .goto 7, 3), (91, .iconst 1, 1), (92, .iload 6, 2), (94, .ishl, 1), (95, .ior, 1), (96, .istore 5, 2), (98, .iinc 6 1, 3), (101, .goto (-34), 3), (104, .iload 5, 2), (106, .istore 6, 2), (108, .iconst 0, 1), (109, .istore 7, 2), (111, .iload 7, 2), (113, .iload 5, 2), (115, .if_icmp .gt 71, 3), (118, .iload 7, 2), (120, .iload 5, 2), (122, .iconst (-1), 1), (123, .ixor, 1), (124, .iand, 1), (125, .ifCond .ne 55, 3), (128, .iload 7, 2), (130, .invokestatic 358, 3), (133, .iload 6, 2), (135, .invokestatic 358, 3), (138, .if_icmp .ge 42, 3), (141, .aload_n 0, 1), (142, .aload_n 0, 1), (143, .getfield 36, 3), (146, .bipush 50, 2), (148, .iaload, 1), (149, .iload 7, 2), (151, .ior, 1), (152, .invokevirtual 450, 3), (155, .aload_n 0, 1), (156, .getfield 81, 3), (159, .bipush 10, 2), (161, .iload_n 1, 1), (162, .imul, 1), (163, .iload_n 2, 1), (164, .iadd, 1), (165, .iaload, 1), (166, .iload 4, 2), (168, .if_icmp .ne 8, 3), (171, .iload 7, 2), (173, .goto 5, 3), (176, .iload 6, 2), (178, .istore 6, 2), (180, .iinc 7 1, 3), (183, .goto (-72), 3), (186, .aload_n 0, 1), (187, .iconst 0, 1), (188, .putfield 130, 3), (191, .aload_n 0, 1), (192, .iload 6, 2), (194, .i2l, 1), (195, .invokevirtual 381, 3), (198, .aload_n 0, 1), (199, .iload 4, 2), (201, .i2l, 1), (202, .invokevirtual 381, 3), (205, .iload 6, 2), (207, .invokestatic 358, 3), (210, .ireturn, 1)]
theorem D253 : Dec (mCod 253) C253 := decB_ok (by decide +kernel)
set_option maxRecDepth 20000 in
def C254 : Cds := [(0, .aload_n 0, 1), (1, .iconst 0, 1), (2, .putfield 126, 3), (5, .aload_n 0, 1), (6, .iload_n 1, 1), (7, .invokevirtual 420, 3), (10, .ifCond .eq 11, 3), (13, .aload_n 0, 1), (14, .iload_n 2, 1), (15, .invokevirtual 317, 3), (18, .ifCond .ne 5, 3), (21, .iconst (-1), 1), (22, .ireturn, 1), (23, .aload_n 0, 1), (24, .aload_n 0, 1), (25, .getfield 36, 3), (28, .iload_n 1, 1), (29, .invokestatic 149, 3), (32, .iconst 0, 1), (33, .iadd, 1), (34, .iaload, 1), (35, .iload_n 2, 1), (36, .invokevirtual 456, 3), (39, .ifCond .ne 6, 3), (42, .bipush (-2), 2), (44, .ireturn, 1), (45, .aload_n 0, 1), (46, .iload_n 1, 1), (47, .aload_n 0, 1), (48, .getfield 36, 3), (51, .iconst 3, 1), (52, .aload_n 0, 1), (53, .iload_n 1, 1), (54, .invokevirtual 153, 3), (57, .imul, 1), (58, .iconst 0, 1), (59, .iadd, 1), (60, .iaload, 1), (61, .invokevirtual 441, 3), (64, .iconst 0, 1), (65, .istore_n 3, 1), (66, .iconst 0, 1), (67, .istore 4, 2), (69, .iconst 1, 1), (70, .istore 5, 2), (72, .iload 5, 2), (74, .ifCond .eq 79, 3), (77, .iload 4, 2), (79, .aload_n 0, 1), (80, .getfield 453, 3), (83, .iconst 1, 1), (84, .isub, 1), (85, .if_icmp .ge 68, 3), (88, .aload_n 0, 1), (89, .iload_n 1, 1), (90, .aload_n 0, 1), (91, .iload_n 1, 1), (92, .invokevirtual 153, 3), (95, .aload_n 0, 1), (96, .getfield 36, 3), (99, .iload_n 1, 1), (100, .invokestatic 149, 3), (103, .iconst 4, 1), (104, .iadd, 1), (105, .iaload, 1), (106, .aload_n 0, 1), (107, .iload 4, 2), (109, .invokevirtual 462, 3), (112, .invokevirtual 445, 3), (115, .istore 6, 2), (117, .iload_n 3, 1), (118, .iload 6, 2), (120, .iadd, 1), (121, .istore_n 3, 1), (122, .iload 6, 2), (124, .aload_n 0, 1), (125, .iload 4, 2), (127, .invokevirtual 462, 3), (130, .if_icmp .ne 7, 3), (133, .iconst 1, 1), (134, .goto 4, 3), (137, .iconst 0, 1), (138, .istore 5, 2), (140, .iload 4, 2), (142, .iload 5, 2), (144, .invokestatic 178, 3), (147, .iadd, 1), (148, .istore 4, 2), (150, .goto (-78), 3), (153, .aload_n 0, 1), (154, .iconst 0, 1), (155, .putfield 130, 3), (158, .aload_n 0, 1), (159, .iload 5, 2), (161, .invokestatic 178, 3), (164, .i2l, 1), (165, .invokevirtual 381, 3), (168, .aload_n 0, 1), (169, .iload_n 3, 1), (170, .i2l, 1), (171, .invokevirtual 381, 3), (174, .iload 4, 2), (176, .ireturn, 1)]
theorem D254 : Dec (mCod 254) C254 := decB_ok (by decide +kernel)
set_option maxRecDepth 20000 in
def C255 : Cds := [(0, .aload_n 0, 1), (1, .getfield 84, 3), (4, .bipush 10, 2), (6, .aload_n 0, 1), (7, .getfield 87, 3), (10, .iload_n 1, 1), (11, .iaload, 1), (12, .imul, 1), (13, .aload_n 0, 1), (14, .getfield 87, 3), (17, .iload_n 1, 1), (18, .iconst 1, 1), (19, .iadd, 1), (20, .iaload, 1), (21, .iadd, 1), (22, .iaload, 1), (23, .ireturn, 1)]
theorem D255 : Dec (mCod 255) C255 := decB_ok (by decide +kernel)
set_option maxRecDepth 20000 in
def C256 : Cds := [(0, .aload_n 0, 1), (1, .iconst 0, 1), (2, .putfield 126, 3), (5, .aload_n 0, 1), (6, .iload_n 1, 1), (7, .invokevirtual 420, 3), (10, .ifCond .eq 23, 3), (13, .aload_n 0, 1), (14, .iload_n 2, 1), (15, .invokevirtual 317, 3), (18, .ifCond .eq 15, 3), (21, .iload_n 3, 1), (22, .i2l, 1), (23, .lconst 1, 1), (24, .ldc2_w 480, 3), (27, .invokestatic 136, 3), (30, .ifCond .ne 5, 3), (33, .iconst (-1), 1), (34, .ireturn, 1), (35, .aload_n 0, 1), (36, .aload_n 0, 1), (37, .getfield 36, 3), (40, .iload_n 1, 1), (41, .invokestatic 149, 3), (44, .iconst 0, 1), (45, .iadd, 1), (46, .iaload, 1), (47, .iload_n 2, 1), (48, .invokevirtual 456, 3), (51, .ifCond .ne 6, 3), (54, .bipush (-3), 2), (56, .ireturn, 1), (57, .aload_n 0, 1), (58, .iload_n 1, 1), (59, .iload_n 3, 1), (60, .invokevirtual 482, 3), (63, .istore 4, 2), (65, .iload 4, 2), (67, .ifCond .ge 6, 3), (70, .bipush (-2), 2), (72, .ireturn, 1), (73, .aload_n 0, 1), (74, .iconst 0, 1), (75, .putfield 130, 3), (78, .iconst 0, 1), (79, .istore 5, 2), (81, .iload 5, 2), (83, .aload_n 0, 1), (84, .getfield 453, 3), (87, .if_icmp .ge 31, 3), (90, .iload 4, 2), (92, .iload 5, 2), (94, .invokestatic 156, 3), (97, .ifCond .eq 15, 3), (100, .aload_n 0, 1), (101, .aload_n 0, 1), (102, .getfield 87, 3), (105, .iload 5, 2), (107, .iaload, 1), (108, .i2l, 1), (109, .invokevirtual 381, 3), (112, .iinc 5 1, 3), (115, .goto (-34), 3), (118, .iload 4, 2), (120, .invokestatic 358, 3), (123, .ireturn, 1)]
theorem D256 : Dec (mCod 256) C256 := decB_ok (by decide +kernel)
set_option maxRecDepth 20000 in
def C257 : Cds := [(0, .iconst (-1), 1), (1, .istore_n 3, 1), (2, .iconst 0, 1), (3, .istore 4, 2), (5, .iload 4, 2), (7, .iconst 1, 1), (8, .aload_n 0, 1), (9, .getfield 453, 3), (12, .ishl, 1), (13, .if_icmp .ge 72, 3), (16, .iload_n 3, 1), (17, .ifCond .ge 7, 3), (20, .iconst (-1), 1), (21, .goto 13, 3), (24, .iload 4, 2), (26, .invokestatic 358, 3), (29, .iload_n 3, 1), (30, .invokestatic 358, 3), (33, .isub, 1), (34, .istore 5, 2), (36, .iload 5, 2), (38, .ifCond .lt 18, 3), (41, .iload 5, 2), (43, .ifCond .ne 36, 3), (46, .aload_n 0, 1), (47, .iload 4, 2), (49, .iload_n 3, 1), (50, .invokevirtual 471, 3), (53, .ifCond .eq 26, 3), (56, .aload_n 0, 1), (57, .iload 4, 2), (59, .invokevirtual 474, 3), (62, .ifCond .eq 17, 3), (65, .aload_n 0, 1), (66, .iload_n 1, 1), (67, .iload 4, 2), (69, .iload_n 2, 1), (70, .invokevirtual 477, 3), (73, .ifCond .eq 6, 3), (76, .iload 4, 2), (78, .istore_n 3, 1), (79, .iinc 4 1, 3), (82, .goto (-77), 3), (85, .iload_n 3, 1), (86, .ireturn, 1)]
theorem D257 : Dec (mCod 257) C257 := decB_ok (by decide +kernel)
set_option maxRecDepth 20000 in
def C258 : Cds := [(0, .iload_n 1, 1), (1, .istore_n 3, 1), (2, .iload_n 2, 1), (3, .istore 4, 2), (5, .iload_n 3, 1), (6, .ifCond .eq 69, 3), (9, .iload 4, 2), (11, .ifCond .eq 64, 3), (14, .aload_n 0, 1), (15, .getfield 87, 3), (18, .iload_n 3, 1), (19, .invokestatic 468, 3), (22, .iaload, 1), (23, .istore 5, 2), (25, .aload_n 0, 1), (26, .getfield 87, 3), (29, .iload 4, 2), (31, .invokestatic 468, 3), (34, .iaload, 1), (35, .istore 6, 2), (37, .iload 5, 2), (39, .iload 6, 2), (41, .if_icmp .eq 16, 3), (44, .iload 5, 2), (46, .iload 6, 2), (48, .if_icmp .ge 7, 3), (51, .iconst 1, 1), (52, .goto 4, 3), (55, .iconst 0, 1), (56, .ireturn, 1), (57, .iload_n 3, 1), (58, .iload_n 3, 1), (59, .iconst 1, 1), (60, .isub, 1), (61, .iand, 1), (62, .istore_n 3, 1), (63, .iload 4, 2), (65, .iload 4, 2), (67, .iconst 1, 1), (68, .isub, 1), (69, .iand, 1), (70, .istore 4, 2), (72, .goto (-67), 3), (75, .iconst 0, 1), (76, .ireturn, 1)]
theorem D258 : Dec (mCod 258) C258 := decB_ok (by decide +kernel)
set_option maxRecDepth 20000 in
def C259 : Cds := [(0, .iload_n 0, 1), (1, .iconst (-1), 1), (2, .ixor, 1), (3, .iload_n 0, 1), (4, .iconst 1, 1), (5, .isub, 1), (6, .iand, 1), (7, .istore_n 0, 1), (8, .iload_n 0, 1), (9, .ifCond .gt 8, 3), (12, .iload_n 0, 1), (13, .bipush 32, 2), (15, .iand, 1), (16, .ireturn, 1), (17, .iconst 1, 1), (18, .istore_n 1, 1), (19, .iload_n 0, 1), (20, .ldc_w 264, 3), (23, .if_icmp .le 11, 3), (26, .iinc 1 16, 3), (29, .iload_n 0, 1), (30, .bipush 16, 2), (32, .iushr, 1), (33, .istore_n 0, 1), (34, .iload_n 0, 1), (35, .sipush 256, 3), (38, .if_icmp .le 11, 3), (41, .iinc 1 8, 3), (44, .iload_n 0, 1), (45, .bipush 8, 2), (47, .iushr, 1), (48, .istore_n 0, 1), (49, .iload_n 0, 1), (50, .bipush 16, 2), (52, .if_icmp .le 10, 3), (55, .iinc 1 4, 3), (58, .iload_n 0, 1), (59, .iconst 4, 1), (60, .iushr, 1), (61, .istore_n 0, 1), (62, .iload_n 0, 1), (63, .iconst 4, 1), (64, .if_icmp .le 10, 3), (67, .iinc 1 2, 3), (70, .iload_n 0, 1), (71, .iconst 2, 1), (72, .iushr, 1), (73, .istore_n 0, 1), (74, .iload_n 1, 1), (75, .iload_n 0, 1), (76, .iconst 1, 1), (77, .iushr, 1), (78, .iadd, 1), (79, .ireturn, 1)]
theorem D259 : Dec (mCod 259) C259 := decB_ok (by decide +kernel)
set_option maxRecDepth 20000 in
def C260 : Cds := [(0, .iconst 1, 1), (1, .istore_n 2, 1), (2, .iconst 0, 1), (3, .istore_n 3, 1), (4, .iload_n 3, 1), (5, .aload_n 0, 1), (6, .getfield 453, 3), (9, .if_icmp .ge 55, 3), (12, .iload_n 2, 1), (13, .ifCond .eq 43, 3), (16, .iload_n 1, 1), (17, .iload_n 3, 1), (18, .invokestatic 156, 3), (21, .ifCond .eq 31, 3), (24, .iload_n 3, 1), (25, .ifCond .eq 31, 3), (28, .iload_n 3, 1), (29, .aload_n 0, 1), (30, .getfield 453, 3), (33, .iconst 1, 1), (34, .isub, 1), (35, .if_icmp .eq 21, 3), (38, .aload_n 0, 1), (39, .getfield 13, 3), (42, .aload_n 0, 1), (43, .getfield 87, 3), (46, .iload_n 3, 1), (47, .iaload, 1), (48, .iaload, 1), (49, .ifCond .eq 7, 3), (52, .iconst 1, 1), (53, .goto 4, 3), (56, .iconst 0, 1), (57, .istore_n 2, 1), (58, .iinc 3 1, 3), (61, .goto (-57), 3), (64, .iload_n 2, 1), (65, .ireturn, 1)]
theorem D260 : Dec (mCod 260) C260 := decB_ok (by decide +kernel)
set_option maxRecDepth 20000 in
def C261 : Cds := [(0, .aload_n 0, 1), (1, .iload_n 1, 1), (2, .invokevirtual 153, 3), (5, .istore 4, 2), (7, .aload_n 0, 1), (8, .iload_n 1, 1), (9, .aload_n 0, 1), (10, .getfield 36, 3), (13, .iconst 3, 1), (14, .iload 4, 2), (16, .imul, 1), (17, .iconst 0, 1), (18, .iadd, 1), (19, .iaload, 1), (20, .invokevirtual 441, 3), (23, .iconst 0, 1), (24, .istore 5, 2), (26, .iload 5, 2), (28, .aload_n 0, 1), (29, .getfield 453, 3), (32, .iconst 1, 1), (33, .isub, 1), (34, .if_icmp .ge 60, 3), (37, .iload_n 2, 1), (38, .iload 5, 2), (40, .invokestatic 156, 3), (43, .ifCond .eq 10, 3), (46, .aload_n 0, 1), (47, .iload 4, 2), (49, .iload_n 3, 1), (50, .invokevirtual 465, 3), (53, .aload_n 0, 1), (54, .iload_n 1, 1), (55, .iload 4, 2), (57, .aload_n 0, 1), (58, .getfield 36, 3), (61, .iload_n 1, 1), (62, .invokestatic 149, 3), (65, .iconst 4, 1), (66, .iadd, 1), (67, .iaload, 1), (68, .aload_n 0, 1), (69, .iload 5, 2), (71, .invokevirtual 462, 3), (74, .invokevirtual 445, 3), (77, .aload_n 0, 1), (78, .iload 5, 2), (80, .invokevirtual 462, 3), (83, .if_icmp .ge 5, 3), (86, .iconst 0, 1), (87, .ireturn, 1), (88, .iinc 5 1, 3), (91, .goto (-65), 3), (94, .iconst 1, 1), (95, .ireturn, 1)]
theorem D261 : Dec (mCod 261) C261 := decB_ok (by decide +kernel)
set_option maxRecDepth 20000 in
def C262 : Cds := [(0, .iconst 0, 1), (1, .istore_n 3, 1), (2, .iload_n 3, 1), (3, .iload_n 2, 1), (4, .if_icmp .ge 53, 3), (7, .aload_n 0, 1), (8, .dup, 1), (9, .getfield 428, 3), (12, .aload_n 0, 1), (13, .getfield 428, 3), (16, .iconst 4, 1), (17, .idiv, 1), (18, .isub, 1), (19, .putfield 428, 3), (22, .aload_n 0, 1), (23, .iconst 0, 1), (24, .aload_n 0, 1), (25, .getfield 431, 3), (28, .aload_n 0, 1), (29, .getfield 30, 3), (32, .iload_n 1, 1), (33, .iaload, 1), (34, .isub, 1), (35, .invokestatic 294, 3), (38, .putfield 431, 3), (41, .aload_n 0, 1), (42, .dup, 1), (43, .getfield 434, 3), (46, .iconst 1, 1), (47, .iadd, 1), (48, .putfield 434, 3), (51, .iinc 3 1, 3), (54, .goto (-52), 3), (57, .return_, 1)]
theorem D262 : Dec (mCod 262) C262 := decB_ok (by decide +kernel)
set_option maxRecDepth 20000 in
def C263 : Cds := [(0, .aload_n 0, 1), (1, .iconst 0, 1), (2, .putfield 126, 3), (5, .aload_n 0, 1), (6, .iload_n 1, 1), (7, .invokevirtual 420, 3), (10, .ifCond .eq 11, 3), (13, .aload_n 0, 1), (14, .iload_n 2, 1), (15, .invokevirtual 317, 3), (18, .ifCond .ne 5, 3), (21, .iconst (-1), 1), (22, .ireturn, 1), (23, .aload_n 0, 1), (24, .aload_n 0, 1), (25, .getfield 36, 3), (28, .iload_n 1, 1), (29, .invokestatic 149, 3), (32, .iconst 0, 1), (33, .iadd, 1), (34, .iaload, 1), (35, .iload_n 2, 1), (36, .invokevirtual 456, 3), (39, .ifCond .ne 6, 3), (42, .bipush (-3), 2), (44, .ireturn, 1), (45, .iconst (-1), 1), (46, .istore_n 3, 1), (47, .iconst 0, 1), (48, .istore 4, 2), (50, .iconst 0, 1), (51, .istore 5, 2), (53, .iconst 1, 1), (54, .istore 6, 2), (56, .iload 6, 2), (58, .bipush 60, 2), (60, .if_icmp .gt 80, 3), (63, .iload_n 3, 1), (64, .ifCond .lt 8, 3), (67, .iload 4, 2), (69, .ifCond .le 71, 3), (72, .aload_n 0, 1), (73, .iload_n 1, 1), (74, .iload 6, 2), (76, .invokevirtual 482, 3), (79, .istore 7, 2), (81, .iload 7, 2), (83, .ifCond .lt 51, 3), (86, .aload_n 0, 1), (87, .invokevirtual 459, 3), (90, .iload 6, 2), (92, .iload 7, 2), (94, .invokestatic 358, 3), (97, .imul, 1), (98, .iadd, 1), (99, .istore 8, 2), (101, .iload_n 3, 1), (102, .ifCond .lt 9, 3), (105, .iload 8, 2), (107, .iload_n 3, 1), (108, .if_icmp .ge 26, 3), (111, .iload 8, 2), (113, .istore_n 3, 1), (114, .iload 7, 2), (116, .ifCond .ne 7, 3), (119, .iconst 0, 1), (120, .goto 5, 3), (123, .iload 6, 2), (125, .istore 4, 2), (127, .iload 7, 2), (129, .invokestatic 358, 3), (132, .istore 5, 2), (134, .iinc 6 1, 3), (137, .goto (-81), 3), (140, .iload_n 3, 1), (141, .ifCond .ge 6, 3), (144, .bipush (-2), 2), (146, .ireturn, 1), (147, .aload_n 0, 1), (148, .iconst 0, 1), (149, .putfield 130, 3), (152, .aload_n 0, 1), (153, .iload 4, 2), (155, .i2l, 1), (156, .invokevirtual 381, 3), (159, .aload_n 0, 1), (160, .iload 5, 2), (162, .i2l, 1), (163, .invokevirtual 381, 3), (166, .iload_n 3, 1), (167, .ireturn, 1)]
theorem D263 : Dec (mCod 263) C263 := decB_ok (by decide +kernel)
set_option maxRecDepth 20000 in
def C264 : Cds := [(0, .aload_n 0, 1), (1, .iconst 0, 1), (2, .putfield 126, 3), (5, .aload_n 0, 1), (6, .iload_n 1, 1), (7, .invokevirtual 331, 3), (10, .ifCond .eq 42, 3), (13, .aload_n 0, 1), (14, .getfield 36, 3), (17, .iconst 3, 1), (18, .iload_n 1, 1), (19, .imul, 1), (20, .iconst 1, 1), (21, .iadd, 1), (22, .iaload, 1), (23, .ifCond .lt 29, 3), (26, .aload_n 0, 1), (27, .iload_n 2, 1), (28, .invokevirtual 317, 3), (31, .ifCond .eq 21, 3), (34, .iload_n 3, 1), (35, .i2l, 1), (36, .lconst 0, 1), (37, .iconst 1, 1), (38, .aload_n 0, 1), (39, .getfield 143, 3), (42, .ishl, 1), (43, .iconst 1, 1), (44, .isub, 1), (45, .i2l, 1), (46, .invokestatic 136, 3), (49, .ifCond .ne 5, 3), (52, .iconst (-1), 1), (53, .ireturn, 1), (54, .iconst 0, 1), (55, .istore 4, 2), (57, .iload 4, 2), (59, .aload_n 0, 1), (60, .getfield 143, 3), (63, .if_icmp .ge 29, 3), (66, .iload_n 3, 1), (67, .iload 4, 2), (69, .invokestatic 156, 3), (72, .ifCond .eq 14, 3), (75, .aload_n 0, 1), (76, .iload 4, 2), (78, .invokevirtual 153, 3), (81, .ifCond .lt 5, 3), (84, .iconst (-1), 1), (85, .ireturn, 1), (86, .iinc 4 1, 3), (89, .goto (-32), 3), (92, .aload_n 0, 1), (93, .aload_n 0, 1), (94, .getfield 36, 3), (97, .iconst 3, 1), (98, .iload_n 1, 1), (99, .imul, 1), (100, .iconst 1, 1), (101, .iadd, 1), (102, .iaload, 1), (103, .iload_n 2, 1), (104, .invokevirtual 456, 3), (107, .ifCond .ne 6, 3), (110, .bipush (-3), 2), (112, .ireturn, 1), (113, .aload_n 0, 1), (114, .ldc_w 449, 3), (117, .putfield 485, 3), (120, .aload_n 0, 1), (121, .iload_n 1, 1), (122, .iload_n 3, 1), (123, .iconst 0, 1), (124, .iconst 0, 1), (125, .aload_n 0, 1), (126, .getfield 36, 3), (129, .iconst 3, 1), (130, .iload_n 1, 1), (131, .imul, 1), (132, .iconst 0, 1), (133, .iadd, 1), (134, .iaload, 1), (135, .iconst 0, 1), (136, .aload_n 0, 1), (137, .getfield 36, 3), (140, .bipush 51, 2), (142, .iaload, 1), (143, .invokevirtual 488, 3), (146, .aload_n 0, 1), (147, .getfield 485, 3), (150, .ldc_w 449, 3), (153, .if_icmp .ne 6, 3), (156, .bipush (-2), 2), (158, .ireturn, 1), (159, .aload_n 0, 1), (160, .iconst 0, 1), (161, .putfield 130, 3), (164, .iconst 0, 1), (165, .istore 4, 2), (167, .iload 4, 2), (169, .aload_n 0, 1), (170, .getfield 453, 3), (173, .iconst 1, 1), (174, .isub, 1), (175, .if_icmp .ge 21, 3), (178, .aload_n 0, 1), (179, .aload_n 0, 1), (180, .getfield 93, 3), (183, .iload 4, 2), (185, .iaload, 1), (186, .i2l, 1), (187, .invokevirtual 381, 3), (190, .iinc 4 1, 3), (193, .goto (-26), 3), (196, .aload_n 0, 1), (197, .getfield 485, 3), (200, .ireturn, 1)]
theorem D264 : Dec (mCod 264) C264 := decB_ok (by decide +kernel)
set_option maxRecDepth 20000 in
def C265 : Cds := [(0, .iload 4, 2), (2, .invokestatic 358, 3), (5, .aload_n 0, 1), (6, .getfield 485, 3), (9, .if_icmp .lt 4, 3), (12, .return_, 1), (13, .iload_n 3, 1), (14, .aload_n 0, 1), (15, .getfield 453, 3), (18, .iconst 1, 1), (19, .isub, 1), (20, .if_icmp .ne 54, 3), (23, .iload 4, 2), (25, .invokestatic 358, 3), (28, .aload_n 0, 1), (29, .getfield 485, 3), (32, .if_icmp .ge 41, 3), (35, .aload_n 0, 1), (36, .iload 4, 2), (38, .invokestatic 358, 3), (41, .putfield 485, 3), (44, .iconst 0, 1), (45, .istore 8, 2), (47, .iload 8, 2), (49, .iload_n 3, 1), (50, .if_icmp .ge 23, 3), (53, .aload_n 0, 1), (54, .getfield 93, 3), (57, .iload 8, 2), (59, .aload_n 0, 1), (60, .getfield 90, 3), (63, .iload 8, 2), (65, .iaload, 1), (66, .iastore, 1), (67, .iinc 8 1, 3), (70, .goto (-23), 3), (73, .return_, 1), (74, .iconst 0, 1), (75, .istore 8, 2), (77, .iload 8, 2), (79, .aload_n 0, 1), (80, .getfield 143, 3), (83, .if_icmp .ge 176, 3), (86, .iload_n 3, 1), (87, .ifCond .le 20, 3), (90, .aload_n 0, 1), (91, .getfield 90, 3), (94, .iload_n 3, 1), (95, .iconst 1, 1), (96, .isub, 1), (97, .iaload, 1), (98, .iload 8, 2), (100, .if_icmp .ne 7, 3), (103, .iconst 1, 1), (104, .goto 4, 3), (107, .iconst 0, 1), (108, .istore 9, 2), (110, .iload_n 2, 1), (111, .iload 8, 2), (113, .invokestatic 156, 3), (116, .ifCond .eq 137, 3), (119, .iload 9, 2), (121, .ifCond .ne 13, 3), (124, .iload 4, 2), (126, .iload 8, 2), (128, .invokestatic 156, 3), (131, .ifCond .ne 122, 3), (134, .aload_n 0, 1), (135, .iload 5, 2), (137, .putfield 431, 3), (140, .aload_n 0, 1), (141, .iload 9, 2), (143, .ifCond .eq 8, 3), (146, .iload 6, 2), (148, .goto 28, 3), (151, .aload_n 0, 1), (152, .getfield 36, 3), (155, .iload 8, 2), (157, .invokestatic 149, 3), (160, .iconst 1, 1), (161, .iadd, 1), (162, .aload_n 0, 1), (163, .getfield 36, 3), (166, .iload 8, 2), (168, .invokestatic 149, 3), (171, .iconst 3, 1), (172, .iadd, 1), (173, .iaload, 1), (174, .iadd, 1), (175, .iaload, 1), (176, .putfield 428, 3), (179, .aload_n 0, 1), (180, .iload 7, 2), (182, .putfield 434, 3), (185, .aload_n 0, 1), (186, .iload 8, 2), (188, .iload_n 1, 1), (189, .aload_n 0, 1), (190, .getfield 36, 3), (193, .iload 8, 2), (195, .invokestatic 149, 3), (198, .iconst 4, 1), (199, .iadd, 1), (200, .iaload, 1), (201, .aload_n 0, 1), (202, .iload_n 3, 1), (203, .invokevirtual 462, 3), (206, .invokevirtual 445, 3), (209, .aload_n 0, 1), (210, .iload_n 3, 1), (211, .invokevirtual 462, 3), (214, .if_icmp .ne 39, 3), (217, .aload_n 0, 1), (218, .getfield 90, 3), (221, .iload_n 3, 1), (222, .iload 8, 2), (224, .iastore, 1), (225, .aload_n 0, 1), (226, .iload_n 1, 1), (227, .iload_n 2, 1), (228, .iload_n 3, 1), (229, .iconst 1, 1), (230, .iadd, 1), (231, .iload 4, 2), (233, .iconst 1, 1), (234, .iload 8, 2), (236, .ishl, 1), (237, .ior, 1), (238, .aload_n 0, 1), (239, .getfield 431, 3), (242, .aload_n 0, 1), (243, .getfield 428, 3), (246, .aload_n 0, 1), (247, .getfield 434, 3), (250, .invokevirtual 488, 3), (253, .iinc 8 1, 3), (256, .goto (-179), 3), (259, .return_, 1)]
theorem D265 : Dec (mCod 265) C265 := decB_ok (by decide +kernel)
set_option maxRecDepth 20000 in
def C266 : Cds := [(0, .aload_n 0, 1), (1, .iconst 0, 1), (2, .putfield 126, 3), (5, .aload_n 0, 1), (6, .iload_n 1, 1), (7, .invokevirtual 339, 3), (10, .ifCond .eq 60, 3), (13, .aload_n 0, 1), (14, .iload_n 1, 1), (15, .invokevirtual 153, 3), (18, .ifCond .ge 52, 3), (21, .aload_n 0, 1), (22, .iload_n 3, 1), (23, .invokevirtual 317, 3), (26, .ifCond .eq 44, 3), (29, .aload_n 0, 1), (30, .getfield 13, 3), (33, .iload_n 3, 1), (34, .iaload, 1), (35, .iconst 2, 1), (36, .if_icmp .ne 34, 3), (39, .iload_n 2, 1), (40, .i2l, 1), (41, .lconst 1, 1), (42, .iconst 1, 1), (43, .aload_n 0, 1), (44, .getfield 140, 3), (47, .ishl, 1), (48, .iconst 1, 1), (49, .isub, 1), (50, .i2l, 1), (51, .invokestatic 136, 3), (54, .ifCond .eq 16, 3), (57, .iload 4, 2), (59, .i2l, 1), (60, .lconst 0, 1), (61, .ldc2_w 347, 3), (64, .invokestatic 136, 3), (67, .ifCond .ne 5, 3), (70, .iconst (-1), 1), (71, .ireturn, 1), (72, .iconst 0, 1), (73, .istore 5, 2), (75, .iload 5, 2), (77, .aload_n 0, 1), (78, .getfield 140, 3), (81, .if_icmp .ge 52, 3), (84, .iload_n 2, 1), (85, .iload 5, 2), (87, .invokestatic 156, 3), (90, .ifCond .eq 19, 3), (93, .aload_n 0, 1), (94, .getfield 36, 3), (97, .iconst 3, 1), (98, .iload 5, 2), (100, .imul, 1), (101, .iconst 1, 1), (102, .iadd, 1), (103, .iaload, 1), (104, .ifCond .ge 5, 3), (107, .iconst (-1), 1), (108, .ireturn, 1), (109, .aload_n 0, 1), (110, .getfield 102, 3), (113, .iload 5, 2), (115, .aload_n 0, 1), (116, .getfield 36, 3), (119, .iconst 3, 1), (120, .iload 5, 2), (122, .imul, 1), (123, .iconst 0, 1), (124, .iadd, 1), (125, .iaload, 1), (126, .iastore, 1), (127, .iinc 5 1, 3), (130, .goto (-55), 3), (133, .aload_n 0, 1), (134, .aload_n 0, 1), (135, .getfield 36, 3), (138, .bipush 50, 2), (140, .iaload, 1), (141, .invokevirtual 450, 3), (144, .aload_n 0, 1), (145, .iconst (-1), 1), (146, .putfield 492, 3), (149, .aload_n 0, 1), (150, .iload_n 1, 1), (151, .iload_n 3, 1), (152, .iload 4, 2), (154, .iconst 0, 1), (155, .iload_n 2, 1), (156, .aload_n 0, 1), (157, .getfield 36, 3), (160, .iload_n 1, 1), (161, .invokestatic 149, 3), (164, .iconst 0, 1), (165, .iadd, 1), (166, .iaload, 1), (167, .aload_n 0, 1), (168, .getfield 36, 3), (171, .iload_n 1, 1), (172, .invokestatic 149, 3), (175, .iconst 1, 1), (176, .iadd, 1), (177, .aload_n 0, 1), (178, .getfield 36, 3), (181, .iload_n 1, 1), (182, .invokestatic 149, 3), (185, .iconst 3, 1), (186, .iadd, 1), (187, .iaload, 1), (188, .iadd, 1), (189, .iaload, 1), (190, .iconst 0, 1), (191, .invokevirtual 501, 3), (194, .aload_n 0, 1), (195, .getfield 492, 3), (198, .ifCond .ge 6, 3), (201, .bipush (-2), 2), (203, .ireturn, 1), (204, .aload_n 0, 1), (205, .iconst 0, 1), (206, .putfield 130, 3), (209, .iconst 0, 1), (210, .istore 5, 2), (212, .iload 5, 2), (214, .iload_n 2, 1), (215, .invokestatic 358, 3), (218, .if_icmp .ge 21, 3), (221, .aload_n 0, 1), (222, .aload_n 0, 1), (223, .getfield 99, 3), (226, .iload 5, 2), (228, .iaload, 1), (229, .i2l, 1), (230, .invokevirtual 381, 3), (233, .iinc 5 1, 3), (236, .goto (-24), 3), (239, .aload_n 0, 1), (240, .aload_n 0, 1), (241, .getfield 495, 3), (244, .i2l, 1), (245, .invokevirtual 381, 3), (248, .aload_n 0, 1), (249, .getfield 492, 3), (252, .ireturn, 1)]
theorem D266 : Dec (mCod 266) C266 := decB_ok (by decide +kernel)
set_option maxRecDepth 20000 in
def C267 : Cds := [(0, .iload 5, 2), (2, .ifCond .ne 113, 3), (5, .ldc_w 449, 3), (8, .istore 9, 2), (10, .iconst 0, 1), (11, .istore 10, 2), (13, .iload 10, 2), (15, .iload 4, 2), (17, .if_icmp .ge 33, 3), (20, .iload 9, 2), (22, .aload_n 0, 1), (23, .getfield 102, 3), (26, .iconst 5, 1), (27, .iload 4, 2), (29, .imul, 1), (30, .aload_n 0, 1), (31, .getfield 96, 3), (34, .iload 10, 2), (36, .iaload, 1), (37, .iadd, 1), (38, .iaload, 1), (39, .invokestatic 169, 3), (42, .istore 9, 2), (44, .iinc 10 1, 3), (47, .goto (-34), 3), (50, .iload 9, 2), (52, .iload_n 3, 1), (53, .if_icmp .lt 61, 3), (56, .aload_n 0, 1), (57, .getfield 492, 3), (60, .ifCond .lt 12, 3), (63, .iload 8, 2), (65, .aload_n 0, 1), (66, .getfield 492, 3), (69, .if_icmp .ge 45, 3), (72, .aload_n 0, 1), (73, .iload 8, 2), (75, .putfield 492, 3), (78, .aload_n 0, 1), (79, .iload 9, 2), (81, .putfield 495, 3), (84, .iconst 0, 1), (85, .istore 10, 2), (87, .iload 10, 2), (89, .iload 4, 2), (91, .if_icmp .ge 23, 3), (94, .aload_n 0, 1), (95, .getfield 99, 3), (98, .iload 10, 2), (100, .aload_n 0, 1), (101, .getfield 96, 3), (104, .iload 10, 2), (106, .iaload, 1), (107, .iastore, 1), (108, .iinc 10 1, 3), (111, .goto (-24), 3), (114, .return_, 1), (115, .iconst 0, 1), (116, .istore 9, 2), (118, .iload 9, 2), (120, .aload_n 0, 1), (121, .getfield 140, 3), (124, .if_icmp .ge 276, 3), (127, .iload 5, 2), (129, .iload 9, 2), (131, .invokestatic 156, 3), (134, .ifCond .eq 260, 3), (137, .aload_n 0, 1), (138, .getfield 36, 3), (141, .iconst 3, 1), (142, .iload 9, 2), (144, .imul, 1), (145, .iconst 1, 1), (146, .iadd, 1), (147, .iaload, 1), (148, .istore 10, 2), (150, .aload_n 0, 1), (151, .getfield 81, 3), (154, .bipush 10, 2), (156, .iload 6, 2), (158, .imul, 1), (159, .iload 10, 2), (161, .iadd, 1), (162, .iaload, 1), (163, .istore 11, 2), (165, .aload_n 0, 1), (166, .getfield 81, 3), (169, .bipush 10, 2), (171, .iload 10, 2), (173, .imul, 1), (174, .iload_n 2, 1), (175, .iadd, 1), (176, .iaload, 1), (177, .istore 12, 2), (179, .iload 8, 2), (181, .iload 11, 2), (183, .iadd, 1), (184, .iload 12, 2), (186, .iadd, 1), (187, .sipush 300, 3), (190, .if_icmp .gt 204, 3), (193, .iconst 0, 1), (194, .istore 13, 2), (196, .iload 13, 2), (198, .aload_n 0, 1), (199, .getfield 140, 3), (202, .if_icmp .ge 35, 3), (205, .aload_n 0, 1), (206, .getfield 102, 3), (209, .iconst 5, 1), (210, .iload 4, 2), (212, .iconst 1, 1), (213, .iadd, 1), (214, .imul, 1), (215, .iload 13, 2), (217, .iadd, 1), (218, .aload_n 0, 1), (219, .getfield 102, 3), (222, .iconst 5, 1), (223, .iload 4, 2), (225, .imul, 1), (226, .iload 13, 2), (228, .iadd, 1), (229, .iaload, 1), (230, .iastore, 1), (231, .iinc 13 1, 3), (234, .goto (-38), 3), (237, .iload 7, 2), (239, .istore 13, 2), (241, .iconst 0, 1), (242, .istore 14, 2), (244, .iload 14, 2), (246, .iload 11, 2), (248, .if_icmp .ge 18, 3), (251, .iload 13, 2), (253, .iload 13, 2), (255, .iconst 4, 1), (256, .idiv, 1), (257, .isub, 1), (258, .istore 13, 2), (260, .iinc 14 1, 3), (263, .goto (-19), 3), (266, .aload_n 0, 1), (267, .iload 4, 2), (269, .iconst 1, 1), (270, .iadd, 1), (271, .iload 11, 2), (273, .invokevirtual 498, 3), (276, .aload_n 0, 1), (277, .aload_n 0, 1), (278, .getfield 102, 3), (281, .iconst 5, 1), (282, .iload 4, 2), (284, .iconst 1, 1), (285, .iadd, 1), (286, .imul, 1), (287, .iload 9, 2), (289, .iadd, 1), (290, .iaload, 1), (291, .putfield 431, 3), (294, .aload_n 0, 1), (295, .iload 13, 2), (297, .putfield 428, 3), (300, .aload_n 0, 1), (301, .aload_n 0, 1), (302, .getfield 36, 3), (305, .bipush 51, 2), (307, .iaload, 1), (308, .iload 8, 2), (310, .iadd, 1), (311, .iload 11, 2), (313, .iadd, 1), (314, .putfield 434, 3), (317, .aload_n 0, 1), (318, .iload_n 1, 1), (319, .iload 9, 2), (321, .aload_n 0, 1), (322, .getfield 36, 3), (325, .iload_n 1, 1), (326, .invokestatic 149, 3), (329, .iconst 4, 1), (330, .iadd, 1), (331, .iaload, 1), (332, .iload 12, 2), (334, .invokevirtual 445, 3), (337, .iload 12, 2), (339, .if_icmp .ne 55, 3), (342, .aload_n 0, 1), (343, .iload 4, 2), (345, .iconst 1, 1), (346, .iadd, 1), (347, .iload 12, 2), (349, .invokevirtual 498, 3), (352, .aload_n 0, 1), (353, .getfield 96, 3), (356, .iload 4, 2), (358, .iload 9, 2), (360, .iastore, 1), (361, .aload_n 0, 1), (362, .iload_n 1, 1), (363, .iload_n 2, 1), (364, .iload_n 3, 1), (365, .iload 4, 2), (367, .iconst 1, 1), (368, .iadd, 1), (369, .iload 5, 2), (371, .iconst 1, 1), (372, .iload 9, 2), (374, .ishl, 1), (375, .iconst (-1), 1), (376, .ixor, 1), (377, .iand, 1), (378, .iload_n 2, 1), (379, .aload_n 0, 1), (380, .getfield 428, 3), (383, .iload 8, 2), (385, .iload 11, 2), (387, .iadd, 1), (388, .iload 12, 2), (390, .iadd, 1), (391, .invokevirtual 501, 3), (394, .iinc 9 1, 3), (397, .goto (-279), 3), (400, .return_, 1)]
theorem D267 : Dec (mCod 267) C267 := decB_ok (by decide +kernel)
set_option maxRecDepth 20000 in
def C268 : Cds := [(0, .iconst 0, 1), (1, .istore_n 3, 1), (2, .iload_n 3, 1), (3, .aload_n 0, 1), (4, .getfield 140, 3), (7, .if_icmp .ge 43, 3), (10, .iconst 5, 1), (11, .iload_n 1, 1), (12, .imul, 1), (13, .iload_n 3, 1), (14, .iadd, 1), (15, .istore 4, 2), (17, .aload_n 0, 1), (18, .getfield 102, 3), (21, .iload 4, 2), (23, .iconst 0, 1), (24, .aload_n 0, 1), (25, .getfield 102, 3), (28, .iload 4, 2), (30, .iaload, 1), (31, .iload_n 2, 1), (32, .aload_n 0, 1), (33, .getfield 30, 3), (36, .iload_n 3, 1), (37, .iaload, 1), (38, .imul, 1), (39, .isub, 1), (40, .invokestatic 294, 3), (43, .iastore, 1), (44, .iinc 3 1, 3), (47, .goto (-45), 3), (50, .return_, 1)]
theorem D268 : Dec (mCod 268) C268 := decB_ok (by decide +kernel)
set_option maxRecDepth 20000 in
def C269 : Cds := [(0, .aload_n 0, 1), (1, .iconst 0, 1), (2, .putfield 126, 3), (5, .aload_n 0, 1), (6, .iload_n 1, 1), (7, .invokevirtual 317, 3), (10, .ifCond .eq 24, 3), (13, .iload_n 2, 1), (14, .i2l, 1), (15, .lconst 0, 1), (16, .ldc2_w 505, 3), (19, .invokestatic 136, 3), (22, .ifCond .eq 12, 3), (25, .aload_n 0, 1), (26, .getfield 507, 3), (29, .bipush 8, 2), (31, .if_icmp .ne 5, 3), (34, .iconst (-1), 1), (35, .ireturn, 1), (36, .aload_n 0, 1), (37, .getfield 105, 3), (40, .aload_n 0, 1), (41, .getfield 507, 3), (44, .iload_n 1, 1), (45, .iastore, 1), (46, .aload_n 0, 1), (47, .getfield 108, 3), (50, .aload_n 0, 1), (51, .getfield 507, 3), (54, .iload_n 2, 1), (55, .iastore, 1), (56, .aload_n 0, 1), (57, .dup, 1), (58, .getfield 507, 3), (61, .iconst 1, 1), (62, .iadd, 1), (63, .putfield 507, 3), (66, .aload_n 0, 1), (67, .getfield 507, 3), (70, .ireturn, 1)]
theorem D269 : Dec (mCod 269) C269 := decB_ok (by decide +kernel)
set_option maxRecDepth 20000 in
def C270 : Cds := [(0, .aload_n 0, 1), (1, .iconst 0, 1), (2, .putfield 126, 3), (5, .aload_n 0, 1), (6, .getfield 507, 3), (9, .istore_n 1, 1), (10, .aload_n 0, 1), (11, .iconst 0, 1), (12, .putfield 507, 3), (15, .iload_n 1, 1), (16, .ireturn, 1)]
theorem D270 : Dec (mCod 270) C270 := decB_ok (by decide +kernel)
set_option maxRecDepth 20000 in
def C271 : Cds := [(0, .aload_n 0, 1), (1, .iconst 0, 1), (2, .putfield 126, 3), (5, .aload_n 0, 1), (6, .iload_n 1, 1), (7, .invokevirtual 317, 3), (10, .ifCond .eq 16, 3), (13, .aload_n 0, 1), (14, .iload_n 2, 1), (15, .invokevirtual 317, 3), (18, .ifCond .eq 8, 3), (21, .iload_n 1, 1), (22, .iload_n 2, 1), (23, .if_icmp .ne 5, 3), (26, .iconst (-1), 1), (27, .ireturn, 1), (28, .aload_n 0, 1), (29, .iconst 0, 1), (30, .putfield 516, 3), (33, .aload_n 0, 1), (34, .getfield 114, 3), (37, .iconst 0, 1), (38, .iload_n 1, 1), (39, .iastore, 1), (40, .aload_n 0, 1), (41, .iload_n 2, 1), (42, .iconst 1, 1), (43, .iconst 1, 1), (44, .iload_n 1, 1), (45, .ishl, 1), (46, .iconst 0, 1), (47, .iconst 0, 1), (48, .invokevirtual 522, 3), (51, .aload_n 0, 1), (52, .iconst 0, 1), (53, .putfield 130, 3), (56, .iconst 0, 1), (57, .istore_n 3, 1), (58, .iload_n 3, 1), (59, .aload_n 0, 1), (60, .getfield 510, 3), (63, .if_icmp .ge 27, 3), (66, .aload_n 0, 1), (67, .getfield 516, 3), (70, .ifCond .le 20, 3), (73, .aload_n 0, 1), (74, .aload_n 0, 1), (75, .getfield 111, 3), (78, .iload_n 3, 1), (79, .iaload, 1), (80, .i2l, 1), (81, .invokevirtual 381, 3), (84, .iinc 3 1, 3), (87, .goto (-29), 3), (90, .aload_n 0, 1), (91, .getfield 516, 3), (94, .ireturn, 1)]
theorem D271 : Dec (mCod 271) C271 := decB_ok (by decide +kernel)
set_option maxRecDepth 20000 in
def C272 : Cds := [(0, .aload_n 0, 1), (1, .getfield 114, 3), (4, .iload_n 2, 1), (5, .iconst 1, 1), (6, .isub, 1), (7, .iaload, 1), (8, .istore 6, 2), (10, .iload 5, 2), (12, .aload_n 0, 1), (13, .iload 6, 2), (15, .iload 4, 2), (17, .invokevirtual 513, 3), (20, .ior, 1), (21, .istore 7, 2), (23, .iload 6, 2), (25, .iload_n 1, 1), (26, .if_icmp .ne 76, 3), (29, .iload 7, 2), (31, .iconst 1, 1), (32, .aload_n 0, 1), (33, .getfield 507, 3), (36, .ishl, 1), (37, .iconst 1, 1), (38, .isub, 1), (39, .if_icmp .ne 62, 3), (42, .aload_n 0, 1), (43, .getfield 516, 3), (46, .ifCond .eq 11, 3), (49, .aload_n 0, 1), (50, .iload_n 2, 1), (51, .invokevirtual 519, 3), (54, .ifCond .eq 37, 3), (57, .aload_n 0, 1), (58, .iload_n 2, 1), (59, .putfield 510, 3), (62, .iconst 0, 1), (63, .istore 8, 2), (65, .iload 8, 2), (67, .iload_n 2, 1), (68, .if_icmp .ge 23, 3), (71, .aload_n 0, 1), (72, .getfield 111, 3), (75, .iload 8, 2), (77, .aload_n 0, 1), (78, .getfield 114, 3), (81, .iload 8, 2), (83, .iaload, 1), (84, .iastore, 1), (85, .iinc 8 1, 3), (88, .goto (-23), 3), (91, .aload_n 0, 1), (92, .dup, 1), (93, .getfield 516, 3), (96, .iconst 1, 1), (97, .iadd, 1), (98, .putfield 516, 3), (101, .return_, 1), (102, .iconst 0, 1), (103, .istore 8, 2), (105, .iload 8, 2), (107, .aload_n 0, 1), (108, .getfield 146, 3), (111, .if_icmp .ge 117, 3), (114, .aload_n 0, 1), (115, .getfield 17, 3), (118, .iload 8, 2), (120, .iaload, 1), (121, .iload 6, 2), (123, .if_icmp .eq 15, 3), (126, .aload_n 0, 1), (127, .getfield 20, 3), (130, .iload 8, 2), (132, .iaload, 1), (133, .iload 6, 2), (135, .if_icmp .ne 7, 3), (138, .iconst 1, 1), (139, .goto 4, 3), (142, .iconst 0, 1), (143, .istore 9, 2), (145, .aload_n 0, 1), (146, .getfield 17, 3), (149, .iload 8, 2), (151, .iaload, 1), (152, .aload_n 0, 1), (153, .getfield 20, 3), (156, .iload 8, 2), (158, .iaload, 1), (159, .iadd, 1), (160, .iload 6, 2), (162, .isub, 1), (163, .istore 10, 2), (165, .iload 9, 2), (167, .ifCond .eq 55, 3), (170, .aload_n 0, 1), (171, .iload 8, 2), (173, .invokevirtual 328, 3), (176, .ifCond .eq 46, 3), (179, .iload_n 3, 1), (180, .iload 10, 2), (182, .invokestatic 156, 3), (185, .ifCond .ne 37, 3), (188, .aload_n 0, 1), (189, .getfield 114, 3), (192, .iload_n 2, 1), (193, .iload 10, 2), (195, .iastore, 1), (196, .aload_n 0, 1), (197, .iload_n 1, 1), (198, .iload_n 2, 1), (199, .iconst 1, 1), (200, .iadd, 1), (201, .iload_n 3, 1), (202, .iconst 1, 1), (203, .iload 10, 2), (205, .ishl, 1), (206, .ior, 1), (207, .iload 4, 2), (209, .aload_n 0, 1), (210, .getfield 23, 3), (213, .iload 8, 2), (215, .iaload, 1), (216, .iadd, 1), (217, .iload 7, 2), (219, .invokevirtual 522, 3), (222, .iinc 8 1, 3), (225, .goto (-120), 3), (228, .return_, 1)]
theorem D272 : Dec (mCod 272) C272 := decB_ok (by decide +kernel)
set_option maxRecDepth 20000 in
def C273 : Cds := [(0, .iconst 0, 1), (1, .istore_n 3, 1), (2, .iconst 0, 1), (3, .istore 4, 2), (5, .iload 4, 2), (7, .aload_n 0, 1), (8, .getfield 507, 3), (11, .if_icmp .ge 42, 3), (14, .iload_n 3, 1), (15, .aload_n 0, 1), (16, .getfield 105, 3), (19, .iload 4, 2), (21, .iaload, 1), (22, .iload_n 1, 1), (23, .if_icmp .ne 21, 3), (26, .aload_n 0, 1), (27, .getfield 108, 3), (30, .iload 4, 2), (32, .iaload, 1), (33, .iload_n 2, 1), (34, .if_icmp .ne 10, 3), (37, .iconst 1, 1), (38, .iload 4, 2), (40, .ishl, 1), (41, .goto 4, 3), (44, .iconst 0, 1), (45, .ior, 1), (46, .istore_n 3, 1), (47, .iinc 4 1, 3), (50, .goto (-45), 3), (53, .iload_n 3, 1), (54, .ireturn, 1)]
theorem D273 : Dec (mCod 273) C273 := decB_ok (by decide +kernel)
set_option maxRecDepth 20000 in
def C274 : Cds := [(0, .iconst 0, 1), (1, .istore_n 2, 1), (2, .iload_n 2, 1), (3, .iload_n 1, 1), (4, .if_icmp .ge 53, 3), (7, .iload_n 2, 1), (8, .aload_n 0, 1), (9, .getfield 510, 3), (12, .if_icmp .ge 45, 3), (15, .aload_n 0, 1), (16, .getfield 114, 3), (19, .iload_n 2, 1), (20, .iaload, 1), (21, .aload_n 0, 1), (22, .getfield 111, 3), (25, .iload_n 2, 1), (26, .iaload, 1), (27, .if_icmp .eq 24, 3), (30, .aload_n 0, 1), (31, .getfield 114, 3), (34, .iload_n 2, 1), (35, .iaload, 1), (36, .aload_n 0, 1), (37, .getfield 111, 3), (40, .iload_n 2, 1), (41, .iaload, 1), (42, .if_icmp .ge 7, 3), (45, .iconst 1, 1), (46, .goto 4, 3), (49, .iconst 0, 1), (50, .ireturn, 1), (51, .iinc 2 1, 3), (54, .goto (-52), 3), (57, .iload_n 1, 1), (58, .aload_n 0, 1), (59, .getfield 510, 3), (62, .if_icmp .ge 7, 3), (65, .iconst 1, 1), (66, .goto 4, 3), (69, .iconst 0, 1), (70, .ireturn, 1)]
theorem D274 : Dec (mCod 274) C274 := decB_ok (by decide +kernel)
set_option maxRecDepth 20000 in
def C275 : Cds := [(0, .aload_n 0, 1), (1, .iconst 0, 1), (2, .putfield 126, 3), (5, .aload_n 0, 1), (6, .iload_n 1, 1), (7, .invokevirtual 420, 3), (10, .ifCond .eq 24, 3), (13, .aload_n 0, 1), (14, .iload_n 2, 1), (15, .invokevirtual 317, 3), (18, .ifCond .eq 16, 3), (21, .iload 4, 2), (23, .i2l, 1), (24, .lconst 1, 1), (25, .ldc2_w 526, 3), (28, .invokestatic 136, 3), (31, .ifCond .ne 5, 3), (34, .iconst (-1), 1), (35, .ireturn, 1), (36, .aload_n 0, 1), (37, .aload_n 0, 1), (38, .getfield 36, 3), (41, .iload_n 1, 1), (42, .invokestatic 149, 3), (45, .iconst 0, 1), (46, .iadd, 1), (47, .iaload, 1), (48, .iload_n 2, 1), (49, .invokevirtual 456, 3), (52, .ifCond .ne 6, 3), (55, .bipush (-2), 2), (57, .ireturn, 1), (58, .iload_n 3, 1), (59, .istore 5, 2), (61, .iconst 0, 1), (62, .istore 6, 2), (64, .iconst (-1), 1), (65, .istore 7, 2), (67, .iconst (-1), 1), (68, .istore 8, 2), (70, .aload_n 0, 1), (71, .iload_n 1, 1), (72, .invokevirtual 153, 3), (75, .istore 9, 2), (77, .iconst 0, 1), (78, .istore 10, 2), (80, .iload 10, 2), (82, .iload 4, 2), (84, .if_icmp .ge 148, 3), (87, .iload 5, 2), (89, .ldc_w 528, 3), (92, .imul, 1), (93, .sipush 12345, 3), (96, .iadd, 1), (97, .istore 5, 2), (99, .sipush 999, 3), (102, .aload_n 0, 1), (103, .getfield 36, 3), (106, .iconst 3, 1), (107, .iload 9, 2), (109, .imul, 1), (110, .iconst 0, 1), (111, .iadd, 1), (112, .iaload, 1), (113, .iload 5, 2), (115, .bipush 16, 2), (117, .iushr, 1), (118, .sipush 200, 3), (121, .irem, 1), (122, .iadd, 1), (123, .invokestatic 169, 3), (126, .istore 11, 2), (128, .aload_n 0, 1), (129, .iload_n 1, 1), (130, .iload 11, 2), (132, .invokevirtual 441, 3), (135, .aload_n 0, 1), (136, .iload_n 1, 1), (137, .iload 9, 2), (139, .aload_n 0, 1), (140, .getfield 36, 3), (143, .iload_n 1, 1), (144, .invokestatic 149, 3), (147, .iconst 4, 1), (148, .iadd, 1), (149, .iaload, 1), (150, .aload_n 0, 1), (151, .invokevirtual 459, 3), (154, .invokevirtual 445, 3), (157, .aload_n 0, 1), (158, .invokevirtual 459, 3), (161, .if_icmp .ne 7, 3), (164, .iconst 1, 1), (165, .goto 4, 3), (168, .iconst 0, 1), (169, .istore 12, 2), (171, .iload 6, 2), (173, .iload 12, 2), (175, .invokestatic 178, 3), (178, .iadd, 1), (179, .istore 6, 2), (181, .iload 12, 2), (183, .ifCond .eq 13, 3), (186, .iload 7, 2), (188, .iload 11, 2), (190, .invokestatic 294, 3), (193, .goto 5, 3), (196, .iload 7, 2), (198, .istore 7, 2), (200, .iload 12, 2), (202, .ifCond .ne 20, 3), (205, .iload 8, 2), (207, .ifCond .lt 10, 3), (210, .iload 11, 2), (212, .iload 8, 2), (214, .if_icmp .ge 8, 3), (217, .iload 11, 2), (219, .goto 5, 3), (222, .iload 8, 2), (224, .istore 8, 2), (226, .iinc 10 1, 3), (229, .goto (-149), 3), (232, .aload_n 0, 1), (233, .iconst 0, 1), (234, .putfield 130, 3), (237, .aload_n 0, 1), (238, .iload 7, 2), (240, .i2l, 1), (241, .invokevirtual 381, 3), (244, .aload_n 0, 1), (245, .iload 8, 2), (247, .i2l, 1), (248, .invokevirtual 381, 3), (251, .iload 6, 2), (253, .ireturn, 1)]
theorem D275 : Dec (mCod 275) C275 := decB_ok (by decide +kernel)
set_option maxRecDepth 20000 in
def C276 : Cds := [(0, .aload_n 0, 1), (1, .iconst 0, 1), (2, .putfield 126, 3), (5, .iload_n 1, 1), (6, .i2l, 1), (7, .lconst 0, 1), (8, .ldc2_w 529, 3), (11, .invokestatic 136, 3), (14, .ifCond .ne 5, 3), (17, .iconst 0, 1), (18, .ireturn, 1), (19, .aload_n 0, 1), (20, .getfield 117, 3), (23, .iload_n 1, 1), (24, .iconst 1, 1), (25, .bastore, 1), (26, .aload_n 0, 1), (27, .getfield 120, 3), (30, .iload_n 1, 1), (31, .aload_n 0, 1), (32, .getfield 263, 3), (35, .iastore, 1), (36, .iconst 0, 1), (37, .istore_n 2, 1), (38, .iload_n 2, 1), (39, .bipush 52, 2), (41, .if_icmp .ge 26, 3), (44, .aload_n 0, 1), (45, .getfield 123, 3), (48, .bipush 52, 2), (50, .iload_n 1, 1), (51, .imul, 1), (52, .iload_n 2, 1), (53, .iadd, 1), (54, .aload_n 0, 1), (55, .getfield 36, 3), (58, .iload_n 2, 1), (59, .iaload, 1), (60, .iastore, 1), (61, .iinc 2 1, 3), (64, .goto (-26), 3), (67, .iconst 1, 1), (68, .ireturn, 1)]
theorem D276 : Dec (mCod 276) C276 := decB_ok (by decide +kernel)
set_option maxRecDepth 20000 in
def C277 : Cds := [(0, .aload_n 0, 1), (1, .iconst 0, 1), (2, .putfield 126, 3), (5, .iload_n 1, 1), (6, .i2l, 1), (7, .lconst 0, 1), (8, .ldc2_w 529, 3), (11, .invokestatic 136, 3), (14, .ifCond .eq 25, 3), (17, .aload_n 0, 1), (18, .getfield 117, 3), (21, .iload_n 1, 1), (22, .baload, 1), (23, .ifCond .eq 16, 3), (26, .aload_n 0, 1), (27, .getfield 120, 3), (30, .iload_n 1, 1), (31, .iaload, 1), (32, .aload_n 0, 1), (33, .getfield 263, 3), (36, .if_icmp .eq 5, 3), (39, .iconst 0, 1), (40, .ireturn, 1), (41, .iconst 0, 1), (42, .istore_n 2, 1), (43, .iload_n 2, 1), (44, .bipush 52, 2), (46, .if_icmp .ge 26, 3), (49, .aload_n 0, 1), (50, .getfield 36, 3), (53, .iload_n 2, 1), (54, .aload_n 0, 1), (55, .getfield 123, 3), (58, .bipush 52, 2), (60, .iload_n 1, 1), (61, .imul, 1), (62, .iload_n 2, 1), (63, .iadd, 1), (64, .iaload, 1), (65, .iastore, 1), (66, .iinc 2 1, 3), (69, .goto (-26), 3), (72, .aload_n 0, 1), (73, .iconst 0, 1), (74, .putfield 260, 3), (77, .iconst 1, 1), (78, .ireturn, 1)]
theorem D277 : Dec (mCod 277) C277 := decB_ok (by decide +kernel)
set_option maxRecDepth 20000 in
def C278 : Cds := [(0, .aload_n 0, 1), (1, .iconst 0, 1), (2, .putfield 126, 3), (5, .iload_n 1, 1), (6, .tableswitch 128 0 11 #[62, 67, 72, 77, 82, 90, 98, 103, 108, 113, 118, 123], 62), (68, .aload_n 0, 1), (69, .getfield 133, 3), (72, .ireturn, 1), (73, .aload_n 0, 1), (74, .getfield 146, 3), (77, .ireturn, 1), (78, .aload_n 0, 1), (79, .getfield 140, 3), (82, .ireturn, 1), (83, .aload_n 0, 1), (84, .getfield 143, 3), (87, .ireturn, 1), (88, .aload_n 0, 1), (89, .getfield 36, 3), (92, .bipush 51, 2), (94, .iaload, 1), (95, .ireturn, 1), (96, .aload_n 0, 1), (97, .getfield 36, 3), (100, .bipush 50, 2), (102, .iaload, 1), (103, .ireturn, 1), (104, .aload_n 0, 1), (105, .invokevirtual 531, 3), (108, .ireturn, 1), (109, .aload_n 0, 1), (110, .invokevirtual 534, 3), (113, .ireturn, 1), (114, .aload_n 0, 1), (115, .getfield 260, 3), (118, .ireturn, 1), (119, .aload_n 0, 1), (120, .getfield 507, 3), (123, .ireturn, 1), (124, .aload_n 0, 1), (125, .getfield 130, 3), (128, .ireturn, 1), (129, .aload_n 0, 1), (130, .getfield 160, 3), (133, .ireturn, 1), (134, .bipush (-100), 2), (136, .ireturn, 1)]
theorem D278 : Dec (mCod 278) C278 := decB_ok (by decide +kernel)
set_option maxRecDepth 20000 in
def C279 : Cds := [(0, .iconst 0, 1), (1, .istore_n 1, 1), (2, .iconst 0, 1), (3, .istore_n 2, 1), (4, .iload_n 2, 1), (5, .aload_n 0, 1), (6, .getfield 140, 3), (9, .if_icmp .ge 24, 3), (12, .iload_n 1, 1), (13, .aload_n 0, 1), (14, .getfield 36, 3), (17, .iconst 3, 1), (18, .iload_n 2, 1), (19, .imul, 1), (20, .iconst 2, 1), (21, .iadd, 1), (22, .iaload, 1), (23, .iload_n 2, 1), (24, .ishl, 1), (25, .ior, 1), (26, .istore_n 1, 1), (27, .iinc 2 1, 3), (30, .goto (-26), 3), (33, .iload_n 1, 1), (34, .ireturn, 1)]
theorem D279 : Dec (mCod 279) C279 := decB_ok (by decide +kernel)
set_option maxRecDepth 20000 in
def C280 : Cds := [(0, .iconst 0, 1), (1, .istore_n 1, 1), (2, .iconst 0, 1), (3, .istore_n 2, 1), (4, .iload_n 2, 1), (5, .aload_n 0, 1), (6, .getfield 143, 3), (9, .if_icmp .ge 24, 3), (12, .iload_n 1, 1), (13, .aload_n 0, 1), (14, .getfield 36, 3), (17, .iload_n 2, 1), (18, .invokestatic 149, 3), (21, .bipush 6, 2), (23, .iadd, 1), (24, .iaload, 1), (25, .iadd, 1), (26, .istore_n 1, 1), (27, .iinc 2 1, 3), (30, .goto (-26), 3), (33, .iload_n 1, 1), (34, .ireturn, 1)]
theorem D280 : Dec (mCod 280) C280 := decB_ok (by decide +kernel)
set_option maxRecDepth 20000 in
def C281 : Cds := [(0, .aload_n 0, 1), (1, .iconst 0, 1), (2, .putfield 126, 3), (5, .iload_n 1, 1), (6, .i2l, 1), (7, .lconst 0, 1), (8, .aload_n 0, 1), (9, .getfield 130, 3), (12, .iconst 1, 1), (13, .isub, 1), (14, .i2l, 1), (15, .invokestatic 136, 3), (18, .ifCond .ne 10, 3), (21, .aload_n 0, 1), (22, .iconst 1, 1), (23, .putfield 126, 3), (26, .lconst 0, 1), (27, .lreturn, 1), (28, .aload_n 0, 1), (29, .getfield 9, 3), (32, .iload_n 1, 1), (33, .laload, 1), (34, .lreturn, 1)]
theorem D281 : Dec (mCod 281) C281 := decB_ok (by decide +kernel)
end
section
/-! the trees of the methods (by program) -/
/-- HotThrough.init -/
theorem ma_0 : mArg 0 = [2] := rfl
def B0 : SX 101 := seq 4 (oini o_101_1 (lda 0)) (seq 15 (pfi (by decide) zf_101_10 (lda 0) (nwo n_101_7 i_101_9 (anil))) (seq 26 (pfi (by decide) zf_101_19 (lda 0) (nwo n_101_16 i_101_18 (anil))) (seq 37 (pfi (by decide) zf_101_26 (lda 0) (nwo n_101_23 i_101_25 (anil))) (seq 48 (pfi (by decide) zf_101_33 (lda 0) (nwo n_101_30 i_101_32 (anil))) (seq 71 (pfi (by decide) zf_101_42 (lda 0) (nwo n_101_37 i_101_39 (acons (get f_101_26 (lda 0)) (acons (get f_101_33 (lda 0)) (acons (get f_101_19 (lda 0)) (anil)))))) (seq 98 (pfi (by decide) zf_101_51 (lda 0) (nwo n_101_46 i_101_48 (acons (get f_101_26 (lda 0)) (acons (get f_101_33 (lda 0)) (acons (get f_101_19 (lda 0)) (acons (get f_101_42 (lda 0)) (anil))))))) (seq 117 (pfi (by decide) zf_101_60 (lda 0) (nwo n_101_55 i_101_57 (acons (get f_101_26 (lda 0)) (acons (get f_101_33 (lda 0)) (anil))))) (seq 140 (pfi (by decide) zf_101_69 (lda 0) (nwo n_101_64 i_101_66 (acons (get f_101_26 (lda 0)) (acons (get f_101_60 (lda 0)) (acons (get f_101_42 (lda 0)) (anil)))))) (seq 167 (pfi (by decide) zf_101_78 (lda 0) (nwo n_101_73 i_101_75 (acons (get f_101_26 (lda 0)) (acons (get f_101_33 (lda 0)) (acons (get f_101_60 (lda 0)) (acons (get f_101_42 (lda 0)) (anil))))))) (seq 194 (pfi (by decide) zf_101_85 (lda 0) (nwo n_101_82 i_101_84 (acons (get f_101_26 (lda 0)) (acons (get f_101_33 (lda 0)) (acons (get f_101_60 (lda 0)) (acons (get f_101_42 (lda 0)) (anil))))))) (seq 213 (pfi (by decide) zf_101_92 (lda 0) (nwo n_101_89 i_101_91 (acons (get f_101_26 (lda 0)) (acons (get f_101_33 (lda 0)) (anil))))) (seq 221 (pfi (by decide) zf_101_96 (lda 0) (nwq q_101_30 (cst 3))) (seq 229 (pfi (by decide) zf_101_100 (lda 0) (nwa a_15 (cst 16))) (seq 255 (seq 231 (asi 1 (cst 0)) (wk [0, 1] (whl true 249 (cmp 2 (by decide) (ldi 1) (cst 3)) (asq (get f_101_96 (lda 0)) (ldi 1) (nwo n_101_30 i_101_32 (anil))) (inc 1 1)))) (rtv)))))))))))))))
theorem O0 : BodyOK 0 (runB 0 B0) := body_ok 101 0 B0 C0 (by decide +kernel) (fun _ => by decide +kernel) (by decide +kernel) D0 rfl (Or.inr (Or.inr (Or.inr ⟨rfl, rfl⟩))) (by decide +kernel) (by decide +kernel)
/-- HotThrough.Text.init -/
theorem ma_1 : mArg 1 = [2] := rfl
def B1 : SX 102 := seq 4 (oini o_102_3 (lda 0)) (seq 12 (pfi (by decide) zf_102_9 (lda 0) (nwa a_17 (cst 80))) (rtv))
theorem O1 : BodyOK 1 (runB 1 B1) := body_ok 102 1 B1 C1 (by decide +kernel) (fun _ => by decide +kernel) (by decide +kernel) D1 rfl (Or.inr (Or.inr (Or.inr ⟨rfl, rfl⟩))) (by decide +kernel) (by decide +kernel)
/-- HotThrough.Rule.init -/
theorem ma_2 : mArg 2 = [2] := rfl
def B2 : SX 103 := seq 4 (oini o_103_3 (lda 0)) (seq 12 (pfi (by decide) zf_103_9 (lda 0) (nwa a_14 (cst 40))) (seq 20 (pfi (by decide) zf_103_15 (lda 0) (nwa a_14 (cst 40))) (seq 28 (pfi (by decide) zf_103_18 (lda 0) (nwa a_14 (cst 40))) (rtv))))
theorem O2 : BodyOK 2 (runB 2 B2) := body_ok 103 2 B2 C2 (by decide +kernel) (fun _ => by decide +kernel) (by decide +kernel) D2 rfl (Or.inr (Or.inr (Or.inr ⟨rfl, rfl⟩))) (by decide +kernel) (by decide +kernel)
/-- HotThrough.Kitchen.init -/
theorem ma_3 : mArg 3 = [2] := rfl
def B3 : SX 104 := seq 4 (oini o_104_3 (lda 0)) (seq 12 (pfi (by decide) zf_104_9 (lda 0) (nwa a_14 (cst 10))) (seq 20 (pfi (by decide) zf_104_15 (lda 0) (nwa a_14 (cst 14))) (seq 28 (pfi (by decide) zf_104_18 (lda 0) (nwa a_14 (cst 14))) (seq 36 (pfi (by decide) zf_104_21 (lda 0) (nwa a_14 (cst 14))) (seq 43 (pfi (by decide) zf_104_24 (lda 0) (nwa a_14 (cst 5))) (seq 50 (pfi (by decide) zf_104_27 (lda 0) (nwa a_14 (cst 5))) (rtv)))))))
theorem O3 : BodyOK 3 (runB 3 B3) := body_ok 104 3 B3 C3 (by decide +kernel) (fun _ => by decide +kernel) (by decide +kernel) D3 rfl (Or.inr (Or.inr (Or.inr ⟨rfl, rfl⟩))) (by decide +kernel) (by decide +kernel)
/-- HotThrough.State.init -/
theorem ma_4 : mArg 4 = [2] := rfl
def B4 : SX 105 := seq 4 (oini o_105_3 (lda 0)) (seq 11 (pfi (by decide) zf_105_9 (lda 0) (nwa a_14 (cst 5))) (seq 18 (pfi (by decide) zf_105_15 (lda 0) (nwa a_14 (cst 5))) (seq 25 (pfi (by decide) zf_105_18 (lda 0) (nwa a_14 (cst 5))) (seq 32 (pfi (by decide) zf_105_21 (lda 0) (nwa a_14 (cst 5))) (seq 40 (pfi (by decide) zf_105_24 (lda 0) (nwa a_14 (cst 10))) (seq 47 (pfi (by decide) zf_105_27 (lda 0) (nwa a_14 (cst 5))) (seq 54 (pfi (by decide) zf_105_30 (lda 0) (nwa a_14 (cst 5))) (seq 61 (pfi (by decide) zf_105_33 (lda 0) (nwa a_14 (cst 5))) (seq 68 (pfi (by decide) zf_105_36 (lda 0) (nwa a_14 (cst 5))) (rtv))))))))))
theorem O4 : BodyOK 4 (runB 4 B4) := body_ok 105 4 B4 C4 (by decide +kernel) (fun _ => by decide +kernel) (by decide +kernel) D4 rfl (Or.inr (Or.inr (Or.inr ⟨rfl, rfl⟩))) (by decide +kernel) (by decide +kernel)
/-- HotThrough.Carrier.init -/
theorem ma_5 : mArg 5 = [2, 2, 2, 2] := rfl
def B5 : SX 106 := seq 4 (oini o_106_3 (lda 0)) (seq 9 (pfi (by decide) zf_106_9 (lda 0) (lda 1)) (seq 14 (pfi (by decide) zf_106_15 (lda 0) (lda 2)) (seq 19 (pfi (by decide) zf_106_19 (lda 0) (lda 3)) (rtv))))
theorem O5 : BodyOK 5 (runB 5 B5) := body_ok 106 5 B5 C5 (by decide +kernel) (fun _ => by decide +kernel) (by decide +kernel) D5 rfl (Or.inr (Or.inr (Or.inr ⟨rfl, rfl⟩))) (by decide +kernel) (by decide +kernel)
/-- HotThrough.Acts.init -/
theorem ma_6 : mArg 6 = [2, 2, 2, 2, 2] := rfl
def B6 : SX 107 := seq 4 (oini o_107_3 (lda 0)) (seq 13 (pfi (by decide) zf_107_11 (lda 0) (nwq q_107_9 (cst 16))) (seq 21 (pfi (by decide) zf_107_17 (lda 0) (nwa a_14 (cst 30))) (seq 29 (pfi (by decide) zf_107_21 (lda 0) (nwa a_14 (cst 30))) (seq 37 (pfi (by decide) zf_107_24 (lda 0) (nwa a_14 (cst 30))) (seq 42 (pfi (by decide) zf_107_27 (lda 0) (lda 1)) (seq 47 (pfi (by decide) zf_107_31 (lda 0) (lda 2)) (seq 52 (pfi (by decide) zf_107_35 (lda 0) (lda 3)) (seq 58 (pfi (by decide) zf_107_39 (lda 0) (lda 4)) (seq 88 (seq 61 (asi 5 (cst 0)) (wk [0, 1, 2, 3, 4, 5] (whl true 82 (cmp 5 (by decide) (ldi 5) (cst 15)) (asq (get f_107_11 (lda 0)) (ldi 5) (nwo n_107_9 i_107_43 (anil))) (inc 5 1)))) (rtv))))))))))
theorem O6 : BodyOK 6 (runB 6 B6) := body_ok 107 6 B6 C6 (by decide +kernel) (fun _ => by decide +kernel) (by decide +kernel) D6 rfl (Or.inr (Or.inr (Or.inr ⟨rfl, rfl⟩))) (by decide +kernel) (by decide +kernel)
/-- HotThrough.Paths.init -/
theorem ma_7 : mArg 7 = [2, 2, 2] := rfl
def B7 : SX 108 := seq 4 (oini o_108_5 (lda 0)) (seq 12 (pfi (by decide) zf_108_11 (lda 0) (nwa a_14 (cst 14))) (seq 20 (pfi (by decide) zf_108_15 (lda 0) (nwa a_14 (cst 10))) (seq 28 (pfi (by decide) zf_108_18 (lda 0) (nwa a_14 (cst 10))) (seq 36 (pfi (by decide) zf_108_21 (lda 0) (nwa a_14 (cst 10))) (seq 41 (pfi (by decide) zf_108_24 (lda 0) (lda 1)) (seq 46 (pfi (by decide) zf_108_28 (lda 0) (lda 2)) (rtv)))))))
theorem O7 : BodyOK 7 (runB 7 B7) := body_ok 108 7 B7 C7 (by decide +kernel) (fun _ => by decide +kernel) (by decide +kernel) D7 rfl (Or.inr (Or.inr (Or.inr ⟨rfl, rfl⟩))) (by decide +kernel) (by decide +kernel)
/-- HotThrough.Rester.init -/
theorem ma_8 : mArg 8 = [2, 2, 2, 2] := rfl
def B8 : SX 109 := seq 4 (oini o_109_3 (lda 0)) (seq 12 (pfi (by decide) zf_109_9 (lda 0) (nwa a_14 (cst 10))) (seq 20 (pfi (by decide) zf_109_15 (lda 0) (nwa a_14 (cst 10))) (seq 28 (pfi (by decide) zf_109_18 (lda 0) (nwa a_14 (cst 10))) (seq 36 (pfi (by decide) zf_109_21 (lda 0) (nwa a_14 (cst 10))) (seq 44 (pfi (by decide) zf_109_24 (lda 0) (nwa a_14 (cst 10))) (seq 49 (pfi (by decide) zf_109_27 (lda 0) (lda 1)) (seq 54 (pfi (by decide) zf_109_31 (lda 0) (lda 2)) (seq 59 (pfi (by decide) zf_109_35 (lda 0) (lda 3)) (rtv)))))))))
theorem O8 : BodyOK 8 (runB 8 B8) := body_ok 109 8 B8 C8 (by decide +kernel) (fun _ => by decide +kernel) (by decide +kernel) D8 rfl (Or.inr (Or.inr (Or.inr ⟨rfl, rfl⟩))) (by decide +kernel) (by decide +kernel)
/-- HotThrough.Line.init -/
theorem ma_9 : mArg 9 = [2, 2, 2, 2, 2] := rfl
def B9 : SX 110 := seq 4 (oini o_110_3 (lda 0)) (seq 12 (pfi (by decide) zf_110_9 (lda 0) (nwa a_14 (cst 50))) (seq 20 (pfi (by decide) zf_110_15 (lda 0) (nwa a_14 (cst 10))) (seq 25 (pfi (by decide) zf_110_18 (lda 0) (lda 1)) (seq 30 (pfi (by decide) zf_110_22 (lda 0) (lda 2)) (seq 35 (pfi (by decide) zf_110_26 (lda 0) (lda 3)) (seq 41 (pfi (by decide) zf_110_30 (lda 0) (lda 4)) (rtv)))))))
theorem O9 : BodyOK 9 (runB 9 B9) := body_ok 110 9 B9 C9 (by decide +kernel) (fun _ => by decide +kernel) (by decide +kernel) D9 rfl (Or.inr (Or.inr (Or.inr ⟨rfl, rfl⟩))) (by decide +kernel) (by decide +kernel)
/-- HotThrough.Dishes.init -/
theorem ma_10 : mArg 10 = [2, 2, 2, 2, 2] := rfl
def B10 : SX 111 := seq 4 (oini o_111_3 (lda 0)) (seq 11 (pfi (by decide) zf_111_9 (lda 0) (nwa a_14 (cst 5))) (seq 18 (pfi (by decide) zf_111_15 (lda 0) (nwa a_14 (cst 5))) (seq 25 (pfi (by decide) zf_111_18 (lda 0) (nwa a_14 (cst 5))) (seq 32 (pfi (by decide) zf_111_21 (lda 0) (nwa a_14 (cst 5))) (seq 39 (pfi (by decide) zf_111_24 (lda 0) (nwa a_14 (cst 5))) (seq 44 (pfi (by decide) zf_111_27 (lda 0) (lda 1)) (seq 49 (pfi (by decide) zf_111_31 (lda 0) (lda 2)) (seq 54 (pfi (by decide) zf_111_35 (lda 0) (lda 3)) (seq 60 (pfi (by decide) zf_111_39 (lda 0) (lda 4)) (rtv))))))))))
theorem O10 : BodyOK 10 (runB 10 B10) := body_ok 111 10 B10 C10 (by decide +kernel) (fun _ => by decide +kernel) (by decide +kernel) D10 rfl (Or.inr (Or.inr (Or.inr ⟨rfl, rfl⟩))) (by decide +kernel) (by decide +kernel)
/-- HotThrough.Marks.init -/
theorem ma_11 : mArg 11 = [2, 2, 2] := rfl
def B11 : SX 112 := seq 4 (oini o_112_3 (lda 0)) (seq 12 (pfi (by decide) zf_112_9 (lda 0) (nwa a_14 (cst 8))) (seq 20 (pfi (by decide) zf_112_15 (lda 0) (nwa a_14 (cst 8))) (seq 28 (pfi (by decide) zf_112_18 (lda 0) (nwa a_14 (cst 10))) (seq 36 (pfi (by decide) zf_112_21 (lda 0) (nwa a_14 (cst 10))) (seq 44 (pfi (by decide) zf_112_24 (lda 0) (nwa a_14 (cst 10))) (seq 49 (pfi (by decide) zf_112_27 (lda 0) (lda 1)) (seq 54 (pfi (by decide) zf_112_31 (lda 0) (lda 2)) (rtv))))))))
theorem O11 : BodyOK 11 (runB 11 B11) := body_ok 112 11 B11 C11 (by decide +kernel) (fun _ => by decide +kernel) (by decide +kernel) D11 rfl (Or.inr (Or.inr (Or.inr ⟨rfl, rfl⟩))) (by decide +kernel) (by decide +kernel)
/-- HotThrough.sign -/
theorem ma_12 : mArg 12 = [2, 0] := rfl
def B12 : SX 1 := rets 0 (cvi v_1_104 (acons (get f_1_10 (lda 0)) (acons (ldi 1) (anil))))
theorem O12 : BodyOK 12 (runB 12 B12) := body_ok 1 12 B12 C12 (by decide +kernel) (fun h => absurd h (by decide)) (by decide +kernel) D12 rfl (Or.inl ⟨rfl, rfl⟩) (by decide +kernel) (by decide +kernel)
/-- HotThrough.Text.append -/
theorem ma_13 : mArg 13 = [2, 0] := rfl
def B13 : SX 2 := seq 13 (ifs (cmp 4 (by decide) (add (get f_2_15 (lda 0)) (cst 4)) (cst 80)) (rets 0 (cst (-1)))) (seq 53 (seq 16 (asi 2 (cst 24)) (wk [0, 1, 2] (whl true 47 (cz 3 (by decide) (ldi 2)) (seq 37 (astc (get f_2_9 (lda 0)) (get f_2_15 (lda 0)) (cvc (ban (ush (ldi 1) (ldi 2)) (cst 255)))) (popadd pf_2_15 (lda 0) (cst 1))) (inc 2 (-8))))) (rets 0 (get f_2_15 (lda 0))))
theorem O13 : BodyOK 13 (runB 13 B13) := body_ok 2 13 B13 C13 (by decide +kernel) (fun h => absurd h (by decide)) (by decide +kernel) D13 rfl (Or.inl ⟨rfl, rfl⟩) (by decide +kernel) (by decide +kernel)
/-- HotThrough.end -/
theorem ma_14 : mArg 14 = [2, 0] := rfl
def B14 : SX 1 := rets 3 (cvi v_1_108 (acons (get f_1_10 (lda 0)) (acons (ldi 1) (anil))))
theorem O14 : BodyOK 14 (runB 14 B14) := body_ok 1 14 B14 C14 (by decide +kernel) (fun h => absurd h (by decide)) (by decide +kernel) D14 rfl (Or.inr (Or.inr (Or.inl ⟨rfl, rfl⟩))) (by decide +kernel) (by decide +kernel)
/-- HotThrough.Text.shorten -/
theorem ma_15 : mArg 15 = [2, 0] := rfl
def B15 : SX 2 := seq 14 (ifs (cor 12 (cz 2 (by decide) (ldi 1)) (cmp 4 (by decide) (ldi 1) (get f_2_15 (lda 0)))) (rets 3 (cst 0))) (seq 19 (put pf_2_15 (lda 0) (ldi 1)) (rets 3 (cst 1)))
theorem O15 : BodyOK 15 (runB 15 B15) := body_ok 2 15 B15 C15 (by decide +kernel) (fun h => absurd h (by decide)) (by decide +kernel) D15 rfl (Or.inr (Or.inr (Or.inl ⟨rfl, rfl⟩))) (by decide +kernel) (by decide +kernel)
/-- HotThrough.kitchen -/
theorem ma_16 : mArg 16 = [2] := rfl
def B16 : SX 1 := seq 12 (ifs (cz 0 (by decide) (get f_1_112 (get f_1_10 (lda 0)))) (rets 0 (cst 0))) (seq 28 (asi 1 (cvi v_1_116 (acons (get f_1_26 (lda 0)) (acons (get f_1_10 (lda 0)) (acons (get f_1_33 (lda 0)) (anil)))))) (seq 44 (ifs (cz 4 (by decide) (ldi 1)) (seq 39 (cvv v_1_120 (acons (get f_1_51 (lda 0)) (anil))) (put pf_1_123 (lda 0) (cst 0)))) (rets 0 (ldi 1))))
theorem O16 : BodyOK 16 (runB 16 B16) := body_ok 1 16 B16 C16 (by decide +kernel) (fun h => absurd h (by decide)) (by decide +kernel) D16 rfl (Or.inl ⟨rfl, rfl⟩) (by decide +kernel) (by decide +kernel)
/-- HotThrough.Kitchen.read -/
theorem ma_17 : mArg 17 = [2, 2, 2] := rfl
def B17 : SX 4 := seq 5 (asi 3 (get f_4_30 (lda 0))) (seq 11 (asi 4 (get f_4_34 (lda 0))) (seq 17 (asi 5 (get f_4_37 (lda 0))) (seq 23 (asi 6 (get f_4_40 (lda 0))) (seq 29 (cvv v_4_53 (acons (lda 1) (acons (cst 76) (anil)))) (seq 32 (asi 7 (cst 0)) (seq 35 (asi 8 (cst 1)) (seq 67 (wk [0, 1, 2, 3, 4, 5, 6, 7, 8] (whl false 35 (cand 0 (cz 1 (by decide) (ldi 8)) (cmp 2 (by decide) (ldi 7) (cst 76))) (seq 53 (cvv v_4_59 (acons (lda 0) (acons (lda 1) (acons (lda 2) (anil))))) (seq 56 (inc 7 1) (asi 8 (cvi v_4_63 (acons (lda 1) (acons (cst 59) (anil))))))) rtv)) (seq 73 (asi 9 (cvi v_4_67 (acons (lda 1) (anil)))) (seq 82 (ifs (cmp 0 (by decide) (ldi 9) (cst (-1))) (rets 0 (ldi 7))) (seq 87 (put pf_4_30 (lda 0) (ldi 3)) (seq 93 (put pf_4_34 (lda 0) (ldi 4)) (seq 99 (put pf_4_37 (lda 0) (ldi 5)) (seq 105 (put pf_4_40 (lda 0) (ldi 6)) (rets 0 (sub (cst (-1)) (ldi 9))))))))))))))))
theorem O17 : BodyOK 17 (runB 17 B17) := body_ok 4 17 B17 C17 (by decide +kernel) (fun h => absurd h (by decide)) (by decide +kernel) D17 rfl (Or.inl ⟨rfl, rfl⟩) (by decide +kernel) (by decide +kernel)
/-- HotThrough.Text.open -/
theorem ma_18 : mArg 18 = [2, 0] := rfl
def B18 : SX 2 := seq 39 (seq 12 (put pf_2_25 (lda 0) (csta s_2_19 (acons (get f_2_15 (lda 0)) (acons (ldi 1) (anil))))) (seq 29 (put pf_2_28 (lda 0) (ite 25 26 (cmp 4 (by decide) (get f_2_15 (lda 0)) (ldi 1)) (cst 1) (cst 0))) (seq 34 (put pf_2_32 (lda 0) (cst 0)) (put pf_2_35 (lda 0) (cst 0))))) rtv
theorem O18 : BodyOK 18 (runB 18 B18) := body_ok 2 18 B18 C18 (by decide +kernel) (fun h => absurd h (by decide)) (by decide +kernel) D18 rfl (Or.inr (Or.inr (Or.inr ⟨rfl, rfl⟩))) (by decide +kernel) (by decide +kernel)
/-- java/lang/Math.min -/
theorem ma_19 : mArg 19 = [0, 0] := rfl
def B19 : SX 20 := rets 0 (ite 9 10 (cmp 5 (by decide) (ldi 0) (ldi 1)) (ldi 0) (ldi 1))
theorem O19 : BodyOK 19 (runB 19 B19) := body_ok 20 19 B19 C19 (by decide +kernel) (fun h => absurd h (by decide)) (by decide +kernel) D19 rfl (Or.inl ⟨rfl, rfl⟩) (by decide +kernel) (by decide +kernel)
/-- HotThrough.Kitchen.readLine -/
theorem ma_20 : mArg 20 = [2, 2, 2] := rfl
def B20 : SX 4 := seq 108 (seq 5 (asi 3 (cvi v_4_71 (acons (lda 1) (anil)))) (seq 18 (ifs (cnot (cz 1 (by decide) (cvi v_4_74 (acons (lda 0) (acons (ldi 3) (anil)))))) (seq 17 (cvv v_4_77 (acons (lda 1) (anil))) (rtv))) (seq 22 (cvv v_4_80 (acons (lda 1) (anil))) (sw true (ldi 3) [([119], sbr (cvv v_4_83 (acons (lda 0) (acons (lda 1) (acons (lda 2) (anil)))))), ([112], sbr (cvv v_4_86 (acons (lda 0) (acons (lda 1) (acons (lda 2) (anil)))))), ([104], sbr (cvv v_4_89 (acons (lda 0) (acons (lda 1) (acons (lda 2) (anil))))))] (cvv v_4_92 (acons (lda 0) (acons (ite 94 105 (cmp 0 (by decide) (ldi 3) (cst 102)) (cst 0) (ite 104 105 (cmp 0 (by decide) (ldi 3) (cst 98)) (cst 1) (cst 2))) (anil)))))))) rtv
theorem O20 : BodyOK 20 (runB 20 B20) := body_ok 4 20 B20 C20 (by decide +kernel) (fun h => absurd h (by decide)) (by decide +kernel) D20 rfl (Or.inr (Or.inr (Or.inr ⟨rfl, rfl⟩))) (by decide +kernel) (by decide +kernel)
/-- HotThrough.Text.peek -/
theorem ma_21 : mArg 21 = [2] := rfl
def B21 : SX 2 := rets 0 (ite 38 47 (cor 34 (cor 0 (cor 0 (cz 1 (by decide) (get f_2_35 (lda 0))) (cz 2 (by decide) (get f_2_32 (lda 0)))) (cmp 3 (by decide) (get f_2_32 (lda 0)) (get f_2_25 (lda 0)))) (cmp 3 (by decide) (get f_2_32 (lda 0)) (cst 80))) (cst (-1)) (aldc (get f_2_9 (lda 0)) (get f_2_32 (lda 0))))
theorem O21 : BodyOK 21 (runB 21 B21) := body_ok 2 21 B21 C21 (by decide +kernel) (fun h => absurd h (by decide)) (by decide +kernel) D21 rfl (Or.inl ⟨rfl, rfl⟩) (by decide +kernel) (by decide +kernel)
/-- HotThrough.Kitchen.hasRoom -/
theorem ma_22 : mArg 22 = [2, 0] := rfl
def B22 : SX 4 := sw true (ldi 1) [([102, 98, 116], rets 3 (ite 73 74 (cmp 2 (by decide) (get f_4_30 (lda 0)) (cst 10)) (cst 1) (cst 0))), ([119], rets 3 (ite 88 89 (cmp 2 (by decide) (get f_4_34 (lda 0)) (cst 14)) (cst 1) (cst 0))), ([112], rets 3 (ite 102 103 (cmp 2 (by decide) (get f_4_37 (lda 0)) (cst 5)) (cst 1) (cst 0))), ([104], rets 3 (ite 116 117 (cmp 2 (by decide) (get f_4_40 (lda 0)) (cst 5)) (cst 1) (cst 0)))] (rets 3 (cst 0))
theorem O22 : BodyOK 22 (runB 22 B22) := body_ok 4 22 B22 C22 (by decide +kernel) (fun h => absurd h (by decide)) (by decide +kernel) D22 rfl (Or.inr (Or.inr (Or.inl ⟨rfl, rfl⟩))) (by decide +kernel) (by decide +kernel)
/-- HotThrough.Text.fail -/
theorem ma_23 : mArg 23 = [2] := rfl
def B23 : SX 2 := seq 5 (put pf_2_35 (lda 0) (cst 1)) rtv
theorem O23 : BodyOK 23 (runB 23 B23) := body_ok 2 23 B23 C23 (by decide +kernel) (fun h => absurd h (by decide)) (by decide +kernel) D23 rfl (Or.inr (Or.inr (Or.inr ⟨rfl, rfl⟩))) (by decide +kernel) (by decide +kernel)
/-- HotThrough.Text.next -/
theorem ma_24 : mArg 24 = [2] := rfl
def B24 : SX 2 := seq 17 (ifs (cnot (cz 1 (by decide) (get f_2_35 (lda 0)))) (popadd pf_2_32 (lda 0) (cst 1))) rtv
theorem O24 : BodyOK 24 (runB 24 B24) := body_ok 2 24 B24 C24 (by decide +kernel) (fun h => absurd h (by decide)) (by decide +kernel) D24 rfl (Or.inr (Or.inr (Or.inr ⟨rfl, rfl⟩))) (by decide +kernel) (by decide +kernel)
/-- HotThrough.Kitchen.readWay -/
theorem ma_25 : mArg 25 = [2, 2, 2] := rfl
def B25 : SX 4 := seq 145 (seq 10 (asi 3 (cvi v_4_95 (acons (lda 1) (acons (get f_4_30 (lda 0)) (acons (cst (-1)) (anil)))))) (seq 21 (asi 4 (cvi v_4_95 (acons (lda 1) (acons (get f_4_30 (lda 0)) (acons (ldi 3) (anil)))))) (seq 28 (asi 5 (cvi v_4_99 (acons (lda 1) (acons (cst 1) (anil))))) (seq 36 (asi 6 (cvi v_4_63 (acons (lda 1) (acons (cst 33) (anil))))) (seq 53 (ifs (cor 52 (cz 1 (by decide) (get f_4_103 (lda 1))) (cmp 3 (by decide) (get f_4_34 (lda 0)) (cst 14))) (rtv)) (seq 63 (asti (get f_4_15 (lda 0)) (get f_4_34 (lda 0)) (ldi 3)) (seq 74 (asti (get f_4_18 (lda 0)) (get f_4_34 (lda 0)) (ldi 4)) (seq 85 (asti (get f_4_21 (lda 0)) (get f_4_34 (lda 0)) (ldi 5)) (seq 118 (put pf_4_43 (lda 0) (bor (ban (get f_4_43 (lda 0)) (bxo (shl (cst 1) (get f_4_34 (lda 0))) (cst (-1)))) (ite 113 114 (cz 1 (by decide) (ldi 6)) (shl (cst 1) (get f_4_34 (lda 0))) (cst 0)))) (seq 135 (popand pf_4_107 (lda 2) (bxo (shl (cst 1) (get f_4_34 (lda 0))) (cst (-1)))) (popadd pf_4_34 (lda 0) (cst 1)))))))))))) rtv
theorem O25 : BodyOK 25 (runB 25 B25) := body_ok 4 25 B25 C25 (by decide +kernel) (fun h => absurd h (by decide)) (by decide +kernel) D25 rfl (Or.inr (Or.inr (Or.inr ⟨rfl, rfl⟩))) (by decide +kernel) (by decide +kernel)
/-- HotThrough.Text.letter -/
theorem ma_26 : mArg 26 = [2, 0, 0] := rfl
def B26 : SX 2 := seq 8 (asi 3 (sub (cvi v_2_38 (acons (lda 0) (anil))) (cst 97))) (seq 29 (ifs (cor 22 (cor 0 (cz 2 (by decide) (ldi 3)) (cmp 3 (by decide) (ldi 3) (ldi 1))) (cmp 0 (by decide) (ldi 3) (ldi 2))) (seq 27 (put pf_2_35 (lda 0) (cst 1)) (rets 0 (cst (-1))))) (seq 39 (popadd pf_2_32 (lda 0) (cst 1)) (rets 0 (ldi 3))))
theorem O26 : BodyOK 26 (runB 26 B26) := body_ok 2 26 B26 C26 (by decide +kernel) (fun h => absurd h (by decide)) (by decide +kernel) D26 rfl (Or.inl ⟨rfl, rfl⟩) (by decide +kernel) (by decide +kernel)
/-- HotThrough.Text.digit -/
theorem ma_27 : mArg 27 = [2, 0] := rfl
def B27 : SX 2 := seq 8 (asi 2 (sub (cvi v_2_38 (acons (lda 0) (anil))) (cst 48))) (seq 26 (ifs (cor 19 (cmp 2 (by decide) (ldi 2) (ldi 1)) (cmp 4 (by decide) (ldi 2) (cst 9))) (seq 24 (put pf_2_35 (lda 0) (cst 1)) (rets 0 (ldi 1)))) (seq 36 (popadd pf_2_32 (lda 0) (cst 1)) (rets 0 (ldi 2))))
theorem O27 : BodyOK 27 (runB 27 B27) := body_ok 2 27 B27 C27 (by decide +kernel) (fun h => absurd h (by decide)) (by decide +kernel) D27 rfl (Or.inl ⟨rfl, rfl⟩) (by decide +kernel) (by decide +kernel)
/-- HotThrough.Text.skip -/
theorem ma_28 : mArg 28 = [2, 0] := rfl
def B28 : SX 2 := seq 10 (ifs (cmp 1 (by decide) (cvi v_2_38 (acons (lda 0) (anil))) (ldi 1)) (rets 3 (cst 0))) (seq 20 (popadd pf_2_32 (lda 0) (cst 1)) (rets 3 (cst 1)))
theorem O28 : BodyOK 28 (runB 28 B28) := body_ok 2 28 B28 C28 (by decide +kernel) (fun h => absurd h (by decide)) (by decide +kernel) D28 rfl (Or.inr (Or.inr (Or.inl ⟨rfl, rfl⟩))) (by decide +kernel) (by decide +kernel)
/-- HotThrough.Kitchen.readPot -/
theorem ma_29 : mArg 29 = [2, 2, 2] := rfl
def B29 : SX 4 := seq 115 (seq 6 (asi 3 (cvi v_4_111 (acons (lda 1) (acons (cst 3) (anil))))) (seq 12 (cvv v_4_114 (acons (lda 1) (acons (cst 45) (anil)))) (seq 19 (asi 4 (cvi v_4_99 (acons (lda 1) (acons (cst 0) (anil))))) (seq 25 (cvv v_4_114 (acons (lda 1) (acons (cst 64) (anil)))) (seq 31 (asi 5 (get f_4_118 (lda 1))) (seq 42 (asi 6 (cvi v_4_95 (acons (lda 1) (acons (get f_4_30 (lda 0)) (acons (cst (-1)) (anil)))))) (seq 67 (ifs (cand 0 (cz 1 (by decide) (cvi v_4_121 (acons (lda 0) (acons (ldi 6) (anil))))) (cz 0 (by decide) (aldi (get f_4_9 (lda 0)) (ldi 6)))) (cvv v_4_124 (acons (lda 1) (acons (ldi 5) (anil))))) (seq 83 (ifs (cor 82 (cz 1 (by decide) (get f_4_103 (lda 1))) (cmp 3 (by decide) (get f_4_37 (lda 0)) (cst 5))) (rtv)) (seq 94 (asti (get f_4_24 (lda 0)) (get f_4_37 (lda 0)) (ldi 4)) (seq 105 (cvv v_4_127 (acons (lda 2) (acons (get f_4_37 (lda 0)) (acons (ldi 3) (acons (ldi 6) (anil)))))) (popadd pf_4_37 (lda 0) (cst 1)))))))))))) rtv
theorem O29 : BodyOK 29 (runB 29 B29) := body_ok 4 29 B29 C29 (by decide +kernel) (fun h => absurd h (by decide)) (by decide +kernel) D29 rfl (Or.inr (Or.inr (Or.inr ⟨rfl, rfl⟩))) (by decide +kernel) (by decide +kernel)
/-- HotThrough.Text.number -/
theorem ma_30 : mArg 30 = [2, 0] := rfl
def B30 : SX 2 := seq 6 (asi 2 (cvi v_2_46 (acons (lda 0) (acons (cst 0) (anil))))) (seq 37 (seq 8 (asi 3 (cst 1)) (wk [0, 1, 2, 3] (whl true 31 (cand 0 (cmp 2 (by decide) (ldi 3) (ldi 1)) (cz 1 (by decide) (cvi v_2_50 (acons (lda 0) (anil))))) (asi 2 (add (mul (cst 10) (ldi 2)) (cvi v_2_46 (acons (lda 0) (acons (cst 0) (anil)))))) (inc 3 1)))) (rets 0 (ldi 2)))
theorem O30 : BodyOK 30 (runB 30 B30) := body_ok 2 30 B30 C30 (by decide +kernel) (fun h => absurd h (by decide)) (by decide +kernel) D30 rfl (Or.inl ⟨rfl, rfl⟩) (by decide +kernel) (by decide +kernel)
/-- HotThrough.Text.isDigit -/
theorem ma_31 : mArg 31 = [2] := rfl
def B31 : SX 2 := rets 3 (ite 22 23 (cand 0 (cmp 3 (by decide) (cvi v_2_38 (acons (lda 0) (anil))) (cst 48)) (cmp 5 (by decide) (cvi v_2_38 (acons (lda 0) (anil))) (cst 57))) (cst 1) (cst 0))
theorem O31 : BodyOK 31 (runB 31 B31) := body_ok 2 31 B31 C31 (by decide +kernel) (fun h => absurd h (by decide)) (by decide +kernel) D31 rfl (Or.inr (Or.inr (Or.inl ⟨rfl, rfl⟩))) (by decide +kernel) (by decide +kernel)
/-- HotThrough.Text.expect -/
theorem ma_32 : mArg 32 = [2, 0] := rfl
def B32 : SX 2 := seq 13 (ifs (cnot (cz 1 (by decide) (cvi v_2_42 (acons (lda 0) (acons (ldi 1) (anil)))))) (put pf_2_35 (lda 0) (cst 1))) rtv
theorem O32 : BodyOK 32 (runB 32 B32) := body_ok 2 32 B32 C32 (by decide +kernel) (fun h => absurd h (by decide)) (by decide +kernel) D32 rfl (Or.inr (Or.inr (Or.inr ⟨rfl, rfl⟩))) (by decide +kernel) (by decide +kernel)
/-- HotThrough.Kitchen.isPlace -/
theorem ma_33 : mArg 33 = [2, 0] := rfl
def B33 : SX 4 := rets 3 (ite 22 23 (cand 0 (cand 0 (cz 3 (by decide) (ldi 1)) (cmp 2 (by decide) (ldi 1) (get f_4_30 (lda 0)))) (cmp 2 (by decide) (ldi 1) (cst 10))) (cst 1) (cst 0))
theorem O33 : BodyOK 33 (runB 33 B33) := body_ok 4 33 B33 C33 (by decide +kernel) (fun h => absurd h (by decide)) (by decide +kernel) D33 rfl (Or.inr (Or.inr (Or.inl ⟨rfl, rfl⟩))) (by decide +kernel) (by decide +kernel)
/-- HotThrough.Text.failAt -/
theorem ma_34 : mArg 34 = [2, 0] := rfl
def B34 : SX 2 := seq 17 (ifs (cnot (cz 1 (by decide) (get f_2_35 (lda 0)))) (seq 12 (put pf_2_35 (lda 0) (cst 1)) (put pf_2_32 (lda 0) (ldi 1)))) rtv
theorem O34 : BodyOK 34 (runB 34 B34) := body_ok 2 34 B34 C34 (by decide +kernel) (fun h => absurd h (by decide)) (by decide +kernel) D34 rfl (Or.inr (Or.inr (Or.inr ⟨rfl, rfl⟩))) (by decide +kernel) (by decide +kernel)
/-- HotThrough.State.addPot -/
theorem ma_35 : mArg 35 = [2, 0, 0, 0] := rfl
def B35 : SX 5 := seq 45 (seq 10 (ifs (cor 9 (cz 2 (by decide) (ldi 1)) (cmp 3 (by decide) (ldi 1) (cst 5))) (rtv)) (seq 17 (asti (get f_5_9 (lda 0)) (ldi 1) (ldi 2)) (seq 24 (asti (get f_5_15 (lda 0)) (ldi 1) (ldi 3)) (seq 31 (asti (get f_5_18 (lda 0)) (ldi 1) (cst (-1))) (popand pf_5_45 (lda 0) (bxo (shl (cst 1) (ldi 1)) (cst (-1)))))))) rtv
theorem O35 : BodyOK 35 (runB 35 B35) := body_ok 5 35 B35 C35 (by decide +kernel) (fun h => absurd h (by decide)) (by decide +kernel) D35 rfl (Or.inr (Or.inr (Or.inr ⟨rfl, rfl⟩))) (by decide +kernel) (by decide +kernel)
/-- HotThrough.Kitchen.readPerson -/
theorem ma_36 : mArg 36 = [2, 2, 2] := rfl
def B36 : SX 4 := seq 131 (seq 5 (asi 3 (get f_4_118 (lda 1))) (seq 12 (asi 4 (cvi v_4_111 (acons (lda 1) (acons (cst 2) (anil))))) (seq 47 (asi 5 (ite 44 45 (cand 0 (cand 0 (cz 1 (by decide) (get f_4_131 (lda 1))) (cmp 0 (by decide) (get f_4_118 (lda 1)) (get f_4_134 (lda 1)))) (cmp 2 (by decide) (sub (get f_4_118 (lda 1)) (ldi 3)) (cst 2))) (cst 1) (cst 0))) (seq 67 (ifs (cand 0 (cz 0 (by decide) (ldi 4)) (cnot (cz 1 (by decide) (ldi 5)))) (cvv v_4_124 (acons (lda 1) (acons (sub (get f_4_118 (lda 1)) (cst 1)) (anil))))) (seq 73 (cvv v_4_114 (acons (lda 1) (acons (cst 64) (anil)))) (seq 84 (asi 6 (cvi v_4_95 (acons (lda 1) (acons (get f_4_30 (lda 0)) (acons (cst (-1)) (anil)))))) (seq 100 (ifs (cor 99 (cz 1 (by decide) (get f_4_103 (lda 1))) (cmp 3 (by decide) (get f_4_40 (lda 0)) (cst 5))) (rtv)) (seq 111 (asti (get f_4_27 (lda 0)) (get f_4_40 (lda 0)) (ldi 4)) (seq 121 (cvv v_4_137 (acons (lda 2) (acons (get f_4_40 (lda 0)) (acons (ldi 6) (anil))))) (popadd pf_4_40 (lda 0) (cst 1))))))))))) rtv
theorem O36 : BodyOK 36 (runB 36 B36) := body_ok 4 36 B36 C36 (by decide +kernel) (fun h => absurd h (by decide)) (by decide +kernel) D36 rfl (Or.inr (Or.inr (Or.inr ⟨rfl, rfl⟩))) (by decide +kernel) (by decide +kernel)
/-- HotThrough.State.addPerson -/
theorem ma_37 : mArg 37 = [2, 0, 0] := rfl
def B37 : SX 5 := seq 65 (seq 10 (ifs (cor 9 (cz 2 (by decide) (ldi 1)) (cmp 3 (by decide) (ldi 1) (cst 5))) (rtv)) (seq 17 (asti (get f_5_21 (lda 0)) (ldi 1) (ldi 2)) (seq 26 (asti (get f_5_24 (lda 0)) (mul (cst 2) (ldi 1)) (cst 0)) (seq 37 (asti (get f_5_24 (lda 0)) (add (mul (cst 2) (ldi 1)) (cst 1)) (cst 0)) (seq 44 (asti (get f_5_27 (lda 0)) (ldi 1) (cst 0)) (seq 51 (asti (get f_5_30 (lda 0)) (ldi 1) (cst 0)) (seq 58 (asti (get f_5_33 (lda 0)) (ldi 1) (cst (-1))) (asti (get f_5_36 (lda 0)) (ldi 1) (cst 0))))))))) rtv
theorem O37 : BodyOK 37 (runB 37 B37) := body_ok 5 37 B37 C37 (by decide +kernel) (fun h => absurd h (by decide)) (by decide +kernel) D37 rfl (Or.inr (Or.inr (Or.inr ⟨rfl, rfl⟩))) (by decide +kernel) (by decide +kernel)
/-- HotThrough.Kitchen.addPlace -/
theorem ma_38 : mArg 38 = [2, 0] := rfl
def B38 : SX 4 := seq 29 (ifs (cmp 2 (by decide) (get f_4_30 (lda 0)) (cst 10)) (seq 19 (asti (get f_4_9 (lda 0)) (get f_4_30 (lda 0)) (ldi 1)) (popadd pf_4_30 (lda 0) (cst 1)))) rtv
theorem O38 : BodyOK 38 (runB 38 B38) := body_ok 4 38 B38 C38 (by decide +kernel) (fun h => absurd h (by decide)) (by decide +kernel) D38 rfl (Or.inr (Or.inr (Or.inr ⟨rfl, rfl⟩))) (by decide +kernel) (by decide +kernel)
/-- HotThrough.Text.close -/
theorem ma_39 : mArg 39 = [2] := rfl
def B39 : SX 2 := seq 5 (put pf_2_15 (lda 0) (cst 0)) (seq 28 (ifs (cor 23 (cz 1 (by decide) (get f_2_35 (lda 0))) (cmp 2 (by decide) (get f_2_32 (lda 0)) (get f_2_25 (lda 0)))) (rets 0 (get f_2_32 (lda 0)))) (rets 0 (ite 42 43 (cz 1 (by decide) (get f_2_28 (lda 0))) (get f_2_25 (lda 0)) (cst (-1)))))
theorem O39 : BodyOK 39 (runB 39 B39) := body_ok 2 39 B39 C39 (by decide +kernel) (fun h => absurd h (by decide)) (by decide +kernel) D39 rfl (Or.inl ⟨rfl, rfl⟩) (by decide +kernel) (by decide +kernel)
/-- HotThrough.Acts.forget -/
theorem ma_40 : mArg 40 = [2] := rfl
def B40 : SX 7 := seq 5 (put pf_7_54 (lda 0) (cst 0)) rtv
theorem O40 : BodyOK 40 (runB 40 B40) := body_ok 7 40 B40 C40 (by decide +kernel) (fun h => absurd h (by decide)) (by decide +kernel) D40 rfl (Or.inr (Or.inr (Or.inr ⟨rfl, rfl⟩))) (by decide +kernel) (by decide +kernel)
/-- HotThrough.rule -/
theorem ma_41 : mArg 41 = [2] := rfl
def B41 : SX 1 := rets 0 (cvi v_1_126 (acons (get f_1_19 (lda 0)) (acons (get f_1_10 (lda 0)) (anil))))
theorem O41 : BodyOK 41 (runB 41 B41) := body_ok 1 41 B41 C41 (by decide +kernel) (fun h => absurd h (by decide)) (by decide +kernel) D41 rfl (Or.inl ⟨rfl, rfl⟩) (by decide +kernel) (by decide +kernel)
/-- HotThrough.Rule.read -/
theorem ma_42 : mArg 42 = [2, 2] := rfl
def B42 : SX 3 := seq 6 (cvv v_3_21 (acons (lda 1) (acons (cst 40) (anil)))) (seq 11 (put pf_3_27 (lda 0) (cst 0)) (seq 24 (ifs (cnot (cz 1 (by decide) (cvi v_3_31 (acons (lda 1) (anil))))) (cvv v_3_35 (acons (lda 0) (acons (lda 1) (acons (cst 0) (anil)))))) (seq 29 (asi 2 (cvi v_3_39 (acons (lda 1) (anil)))) (seq 38 (ifs (cmp 1 (by decide) (ldi 2) (cst (-1))) (rets 0 (sub (cst (-1)) (ldi 2)))) (seq 55 (cpy y_3_43 (acons (get f_3_15 (lda 0)) (acons (cst 0) (acons (get f_3_9 (lda 0)) (acons (cst 0) (acons (get f_3_27 (lda 0)) (anil))))))) (seq 63 (put pf_3_49 (lda 0) (get f_3_27 (lda 0))) (rets 0 (cst 0))))))))
theorem O42 : BodyOK 42 (runB 42 B42) := body_ok 3 42 B42 C42 (by decide +kernel) (fun h => absurd h (by decide)) (by decide +kernel) D42 rfl (Or.inl ⟨rfl, rfl⟩) (by decide +kernel) (by decide +kernel)
/-- HotThrough.Text.atEnd -/
theorem ma_43 : mArg 43 = [2] := rfl
def B43 : SX 2 := rets 3 (ite 22 23 (cor 18 (cz 1 (by decide) (get f_2_35 (lda 0))) (cmp 3 (by decide) (get f_2_32 (lda 0)) (get f_2_25 (lda 0)))) (cst 1) (cst 0))
theorem O43 : BodyOK 43 (runB 43 B43) := body_ok 2 43 B43 C43 (by decide +kernel) (fun h => absurd h (by decide)) (by decide +kernel) D43 rfl (Or.inr (Or.inr (Or.inl ⟨rfl, rfl⟩))) (by decide +kernel) (by decide +kernel)
/-- HotThrough.Rule.expression -/
theorem ma_44 : mArg 44 = [2, 2, 0] := rfl
def B44 : SX 3 := seq 45 (seq 6 (cvv v_3_52 (acons (lda 0) (acons (lda 1) (acons (ldi 2) (anil))))) (seq 11 (asi 3 (cvi v_3_55 (acons (lda 1) (anil)))) (ifs (cor 29 (cor 0 (cmp 0 (by decide) (ldi 3) (cst 60)) (cmp 0 (by decide) (ldi 3) (cst 62))) (cmp 0 (by decide) (ldi 3) (cst 61))) (seq 33 (cvv v_3_58 (acons (lda 1) (anil))) (seq 39 (cvv v_3_52 (acons (lda 0) (acons (lda 1) (acons (ldi 2) (anil))))) (cvv v_3_61 (acons (lda 0) (acons (neg (ldi 3)) (anil))))))))) rtv
theorem O44 : BodyOK 44 (runB 44 B44) := body_ok 3 44 B44 C44 (by decide +kernel) (fun h => absurd h (by decide)) (by decide +kernel) D44 rfl (Or.inr (Or.inr (Or.inr ⟨rfl, rfl⟩))) (by decide +kernel) (by decide +kernel)
/-- HotThrough.Rule.sum -/
theorem ma_45 : mArg 45 = [2, 2, 0] := rfl
def B45 : SX 3 := seq 60 (seq 6 (cvv v_3_64 (acons (lda 0) (acons (lda 1) (acons (ldi 2) (anil))))) (seq 11 (asi 3 (cvi v_3_55 (acons (lda 1) (anil)))) (seq 14 (asi 4 (cst 0)) (wk [0, 1, 2, 3, 4] (whl true 54 (cand 0 (cmp 2 (by decide) (ldi 4) (cst 40)) (cor 33 (cmp 0 (by decide) (ldi 3) (cst 43)) (cmp 0 (by decide) (ldi 3) (cst 45)))) (seq 37 (cvv v_3_58 (acons (lda 1) (anil))) (seq 43 (cvv v_3_64 (acons (lda 0) (acons (lda 1) (acons (ldi 2) (anil))))) (seq 49 (cvv v_3_61 (acons (lda 0) (acons (neg (ldi 3)) (anil)))) (asi 3 (cvi v_3_55 (acons (lda 1) (anil))))))) (inc 4 1)))))) rtv
theorem O45 : BodyOK 45 (runB 45 B45) := body_ok 3 45 B45 C45 (by decide +kernel) (fun h => absurd h (by decide)) (by decide +kernel) D45 rfl (Or.inr (Or.inr (Or.inr ⟨rfl, rfl⟩))) (by decide +kernel) (by decide +kernel)
/-- HotThrough.Rule.product -/
theorem ma_46 : mArg 46 = [2, 2, 0] := rfl
def B46 : SX 3 := seq 60 (seq 6 (cvv v_3_67 (acons (lda 0) (acons (lda 1) (acons (ldi 2) (anil))))) (seq 11 (asi 3 (cvi v_3_55 (acons (lda 1) (anil)))) (seq 14 (asi 4 (cst 0)) (wk [0, 1, 2, 3, 4] (whl true 54 (cand 0 (cmp 2 (by decide) (ldi 4) (cst 40)) (cor 33 (cmp 0 (by decide) (ldi 3) (cst 42)) (cmp 0 (by decide) (ldi 3) (cst 47)))) (seq 37 (cvv v_3_58 (acons (lda 1) (anil))) (seq 43 (cvv v_3_67 (acons (lda 0) (acons (lda 1) (acons (ldi 2) (anil))))) (seq 49 (cvv v_3_61 (acons (lda 0) (acons (neg (ldi 3)) (anil)))) (asi 3 (cvi v_3_55 (acons (lda 1) (anil))))))) (inc 4 1)))))) rtv
theorem O46 : BodyOK 46 (runB 46 B46) := body_ok 3 46 B46 C46 (by decide +kernel) (fun h => absurd h (by decide)) (by decide +kernel) D46 rfl (Or.inr (Or.inr (Or.inr ⟨rfl, rfl⟩))) (by decide +kernel) (by decide +kernel)
/-- HotThrough.Rule.factor -/
theorem ma_47 : mArg 47 = [2, 2, 0] := rfl
def B47 : SX 3 := seq 53 (seq 2 (asi 3 (cst 0)) (seq 37 (seq 5 (asi 4 (cst 0)) (wk [0, 1, 2, 3, 4] (whl true 31 (cand 0 (cmp 2 (by decide) (ldi 4) (cst 40)) (cz 1 (by decide) (cvi v_3_70 (acons (lda 1) (acons (cst 45) (anil)))))) (asi 3 (ite 29 30 (cnot (cz 1 (by decide) (ldi 3))) (cst 1) (cst 0))) (inc 4 1)))) (seq 43 (cvv v_3_74 (acons (lda 0) (acons (lda 1) (acons (ldi 2) (anil))))) (ifs (cz 1 (by decide) (ldi 3)) (cvv v_3_61 (acons (lda 0) (acons (cst (-33)) (anil)))))))) rtv
theorem O47 : BodyOK 47 (runB 47 B47) := body_ok 3 47 B47 C47 (by decide +kernel) (fun h => absurd h (by decide)) (by decide +kernel) D47 rfl (Or.inr (Or.inr (Or.inr ⟨rfl, rfl⟩))) (by decide +kernel) (by decide +kernel)
/-- HotThrough.Rule.thing -/
theorem ma_48 : mArg 48 = [2, 2, 0] := rfl
def B48 : SX 3 := seq 80 (seq 5 (asi 3 (cvi v_3_55 (acons (lda 1) (anil)))) (ife true 37 (cand 0 (cmp 0 (by decide) (ldi 3) (cst 40)) (cmp 2 (by decide) (ldi 2) (cst 4))) (seq 20 (cvv v_3_58 (acons (lda 1) (anil))) (seq 28 (cvv v_3_35 (acons (lda 0) (acons (lda 1) (acons (add (ldi 2) (cst 1)) (anil))))) (cvv v_3_77 (acons (lda 1) (acons (cst 41) (anil)))))) (ife true 56 (cz 1 (by decide) (cvi v_3_81 (acons (lda 1) (anil)))) (cvv v_3_61 (acons (lda 0) (acons (cvi v_3_84 (acons (lda 1) (acons (cst 3) (anil)))) (anil)))) (ife true 76 (cz 1 (by decide) (csta s_3_88 (acons (ldi 3) (anil)))) (seq 67 (cvv v_3_58 (acons (lda 1) (anil))) (cvv v_3_61 (acons (lda 0) (acons (neg (ldi 3)) (anil))))) (cvv v_3_92 (acons (lda 1) (anil))))))) rtv
theorem O48 : BodyOK 48 (runB 48 B48) := body_ok 3 48 B48 C48 (by decide +kernel) (fun h => absurd h (by decide)) (by decide +kernel) D48 rfl (Or.inr (Or.inr (Or.inr ⟨rfl, rfl⟩))) (by decide +kernel) (by decide +kernel)
/-- HotThrough.Rule.emit -/
theorem ma_49 : mArg 49 = [2, 0] := rfl
def B49 : SX 3 := seq 29 (ifs (cmp 2 (by decide) (get f_3_27 (lda 0)) (cst 40)) (seq 19 (asti (get f_3_15 (lda 0)) (get f_3_27 (lda 0)) (ldi 1)) (popadd pf_3_27 (lda 0) (cst 1)))) rtv
theorem O49 : BodyOK 49 (runB 49 B49) := body_ok 3 49 B49 C49 (by decide +kernel) (fun h => absurd h (by decide)) (by decide +kernel) D49 rfl (Or.inr (Or.inr (Or.inr ⟨rfl, rfl⟩))) (by decide +kernel) (by decide +kernel)
/-- HotThrough.Rule.isName -/
theorem ma_50 : mArg 50 = [0] := rfl
def B50 : SX 3 := sw true (ldi 0) [([104, 102, 110, 98, 115, 105, 112, 114], rets 3 (cst 1))] (rets 3 (cst 0))
theorem O50 : BodyOK 50 (runB 50 B50) := body_ok 3 50 B50 C50 (by decide +kernel) (fun h => absurd h (by decide)) (by decide +kernel) D50 rfl (Or.inr (Or.inr (Or.inl ⟨rfl, rfl⟩))) (by decide +kernel) (by decide +kernel)
/-- HotThrough.heat -/
theorem ma_51 : mArg 51 = [2, 0, 0] := rfl
def B51 : SX 1 := seq 35 (ifs (cor 33 (cor 0 (cor 0 (cnot (cz 1 (by decide) (cvi v_1_173 (acons (get f_1_26 (lda 0)) (acons (ldi 1) (anil)))))) (cz 1 (by decide) (cvi v_1_226 (acons (get f_1_33 (lda 0)) (acons (ldi 1) (anil)))))) (cz 2 (by decide) (ldi 2))) (cmp 4 (by decide) (ldi 2) (cst 999))) (rets 0 (cst (-1)))) (seq 45 (asi 3 (aldi (get f_1_176 (get f_1_33 (lda 0))) (ldi 1))) (seq 55 (asti (get f_1_176 (get f_1_33 (lda 0))) (ldi 1) (ldi 2)) (rets 0 (ldi 3))))
theorem O51 : BodyOK 51 (runB 51 B51) := body_ok 1 51 B51 C51 (by decide +kernel) (fun h => absurd h (by decide)) (by decide +kernel) D51 rfl (Or.inl ⟨rfl, rfl⟩) (by decide +kernel) (by decide +kernel)
/-- HotThrough.Kitchen.isPot -/
theorem ma_52 : mArg 52 = [2, 0] := rfl
def B52 : SX 4 := rets 3 (ite 21 22 (cand 0 (cand 0 (cz 3 (by decide) (ldi 1)) (cmp 2 (by decide) (ldi 1) (get f_4_37 (lda 0)))) (cmp 2 (by decide) (ldi 1) (cst 5))) (cst 1) (cst 0))
theorem O52 : BodyOK 52 (runB 52 B52) := body_ok 4 52 B52 C52 (by decide +kernel) (fun h => absurd h (by decide)) (by decide +kernel) D52 rfl (Or.inr (Or.inr (Or.inl ⟨rfl, rfl⟩))) (by decide +kernel) (by decide +kernel)
/-- HotThrough.State.isDropped -/
theorem ma_53 : mArg 53 = [2, 0] := rfl
def B53 : SX 5 := rets 3 (ite 15 16 (cz 1 (by decide) (ban (shr (get f_5_45 (lda 0)) (ldi 1)) (cst 1))) (cst 1) (cst 0))
theorem O53 : BodyOK 53 (runB 53 B53) := body_ok 5 53 B53 C53 (by decide +kernel) (fun h => absurd h (by decide)) (by decide +kernel) D53 rfl (Or.inr (Or.inr (Or.inl ⟨rfl, rfl⟩))) (by decide +kernel) (by decide +kernel)
/-- HotThrough.sheet -/
theorem ma_54 : mArg 54 = [2, 0, 0, 0, 0] := rfl
def B54 : SX 1 := seq 16 (ifs (cor 14 (cor 0 (cz 2 (by decide) (ldi 1)) (cmp 4 (by decide) (ldi 1) (cst 3))) (cmp 4 (by decide) (ldi 2) (cst 5))) (rets 0 (cst (-1)))) (seq 28 (ifs (cand 0 (cmp 2 (by decide) (ldi 1) (cst 3)) (cz 2 (by decide) (ldi 2))) (rets 0 (cst (-2)))) (seq 40 (asi 5 (ite 37 38 (cmp 0 (by decide) (ldi 1) (cst 3)) (cst 0) (ldi 2))) (seq 43 (asi 6 (cst 0)) (seq 123 (seq 46 (asi 7 (cst 0)) (wk [0, 1, 2, 3, 4, 5, 6, 7] (whl true 117 (cmp 2 (by decide) (ldi 7) (get f_1_139 (get f_1_26 (lda 0)))) (ifs (cnot (cz 1 (by decide) (cvi v_1_226 (acons (get f_1_33 (lda 0)) (acons (ldi 7) (anil)))))) (seq 102 (asti (get f_1_176 (get f_1_33 (lda 0))) (ldi 7) (ite 100 101 (cmp 2 (by decide) (ldi 7) (ldi 5)) (csta s_1_229 (acons (ldi 1) (acons (add (ldi 3) (mul (ldi 7) (ldi 4))) (anil)))) (cst 0))) (asi 6 (add (ldi 6) (aldi (get f_1_176 (get f_1_33 (lda 0))) (ldi 7)))))) (inc 7 1)))) (rets 0 (ite 133 135 (cmp 0 (by decide) (ldi 1) (cst 3)) (cst (-3)) (ldi 6)))))))
theorem O54 : BodyOK 54 (runB 54 B54) := body_ok 1 54 B54 C54 (by decide +kernel) (fun h => absurd h (by decide)) (by decide +kernel) D54 rfl (Or.inl ⟨rfl, rfl⟩) (by decide +kernel) (by decide +kernel)
/-- HotThrough.entry -/
theorem ma_55 : mArg 55 = [0, 0] := rfl
def B55 : SX 1 := seq 21 (asi 2 (ite 9 20 (cz 0 (by decide) (ldi 0)) (cvb (ldi 1)) (ite 19 20 (cmp 0 (by decide) (ldi 0) (cst 1)) (cvs (ldi 1)) (ldi 1)))) (rets 0 (csta s_1_237 (acons (cst 0) (acons (csta s_1_232 (acons (cst 999) (acons (ldi 2) (anil)))) (anil)))))
theorem O55 : BodyOK 55 (runB 55 B55) := body_ok 1 55 B55 C55 (by decide +kernel) (fun h => absurd h (by decide)) (by decide +kernel) D55 rfl (Or.inl ⟨rfl, rfl⟩) (by decide +kernel) (by decide +kernel)
/-- java/lang/Math.max -/
theorem ma_56 : mArg 56 = [0, 0] := rfl
def B56 : SX 20 := rets 0 (ite 9 10 (cmp 3 (by decide) (ldi 0) (ldi 1)) (ldi 0) (ldi 1))
theorem O56 : BodyOK 56 (runB 56 B56) := body_ok 20 56 B56 C56 (by decide +kernel) (fun h => absurd h (by decide)) (by decide +kernel) D56 rfl (Or.inl ⟨rfl, rfl⟩) (by decide +kernel) (by decide +kernel)
/-- HotThrough.take -/
theorem ma_57 : mArg 57 = [2, 0, 0] := rfl
def B57 : SX 1 := seq 7 (cvv v_1_240 (acons (get f_1_51 (lda 0)) (anil))) (rets 0 (cvi v_1_246 (acons (get f_1_51 (lda 0)) (acons (cvi v_1_243 (acons (get f_1_51 (lda 0)) (acons (ldi 1) (acons (ldi 2) (anil))))) (anil)))))
theorem O57 : BodyOK 57 (runB 57 B57) := body_ok 1 57 B57 C57 (by decide +kernel) (fun h => absurd h (by decide)) (by decide +kernel) D57 rfl (Or.inl ⟨rfl, rfl⟩) (by decide +kernel) (by decide +kernel)
/-- HotThrough.Acts.note -/
theorem ma_58 : mArg 58 = [2] := rfl
def B58 : SX 7 := seq 35 (seq 20 (cvv v_7_61 (acons (alda (get f_7_11 (lda 0)) (cvi v_7_57 (acons (lda 0) (acons (get f_7_54 (lda 0)) (anil))))) (acons (get f_7_31 (lda 0)) (anil)))) (seq 25 (put pf_7_65 (lda 0) (cst 0)) (seq 30 (put pf_7_68 (lda 0) (cst 0)) (put pf_7_71 (lda 0) (cst 0))))) rtv
theorem O58 : BodyOK 58 (runB 58 B58) := body_ok 7 58 B58 C58 (by decide +kernel) (fun h => absurd h (by decide)) (by decide +kernel) D58 rfl (Or.inr (Or.inr (Or.inr ⟨rfl, rfl⟩))) (by decide +kernel) (by decide +kernel)
/-- HotThrough.Acts.slot -/
theorem ma_59 : mArg 59 = [2, 0] := rfl
def B59 : SX 7 := rets 0 (csta s_7_48 (acons (add (get f_7_44 (lda 0)) (ldi 1)) (acons (cst 16) (anil))))
theorem O59 : BodyOK 59 (runB 59 B59) := body_ok 7 59 B59 C59 (by decide +kernel) (fun h => absurd h (by decide)) (by decide +kernel) D59 rfl (Or.inl ⟨rfl, rfl⟩) (by decide +kernel) (by decide +kernel)
/-- java/lang/Math.floorMod -/
theorem ma_60 : mArg 60 = [0, 0] := rfl
def B60 : SX 20 := seq 4 (asi 2 (rmi (ldi 0) (ldi 1))) (seq 18 (ifs (cand 0 (cz 2 (by decide) (bxo (ldi 0) (ldi 1))) (cz 1 (by decide) (ldi 2))) (rets 0 (add (ldi 2) (ldi 1)))) (rets 0 (ldi 2)))
theorem O60 : BodyOK 60 (runB 60 B60) := body_ok 20 60 B60 C60 (by decide +kernel) (fun h => absurd h (by decide)) (by decide +kernel) D60 rfl (Or.inl ⟨rfl, rfl⟩) (by decide +kernel) (by decide +kernel)
/-- HotThrough.State.copyFrom -/
theorem ma_61 : mArg 61 = [2, 2] := rfl
def B61 : SX 5 := seq 151 (seq 14 (cpy y_5_39 (acons (get f_5_9 (lda 1)) (acons (cst 0) (acons (get f_5_9 (lda 0)) (acons (cst 0) (acons (cst 5) (anil))))))) (seq 28 (cpy y_5_39 (acons (get f_5_15 (lda 1)) (acons (cst 0) (acons (get f_5_15 (lda 0)) (acons (cst 0) (acons (cst 5) (anil))))))) (seq 42 (cpy y_5_39 (acons (get f_5_18 (lda 1)) (acons (cst 0) (acons (get f_5_18 (lda 0)) (acons (cst 0) (acons (cst 5) (anil))))))) (seq 50 (put pf_5_45 (lda 0) (get f_5_45 (lda 1))) (seq 64 (cpy y_5_39 (acons (get f_5_21 (lda 1)) (acons (cst 0) (acons (get f_5_21 (lda 0)) (acons (cst 0) (acons (cst 5) (anil))))))) (seq 79 (cpy y_5_39 (acons (get f_5_24 (lda 1)) (acons (cst 0) (acons (get f_5_24 (lda 0)) (acons (cst 0) (acons (cst 10) (anil))))))) (seq 93 (cpy y_5_39 (acons (get f_5_27 (lda 1)) (acons (cst 0) (acons (get f_5_27 (lda 0)) (acons (cst 0) (acons (cst 5) (anil))))))) (seq 107 (cpy y_5_39 (acons (get f_5_30 (lda 1)) (acons (cst 0) (acons (get f_5_30 (lda 0)) (acons (cst 0) (acons (cst 5) (anil))))))) (seq 121 (cpy y_5_39 (acons (get f_5_33 (lda 1)) (acons (cst 0) (acons (get f_5_33 (lda 0)) (acons (cst 0) (acons (cst 5) (anil))))))) (seq 135 (cpy y_5_39 (acons (get f_5_36 (lda 1)) (acons (cst 0) (acons (get f_5_36 (lda 0)) (acons (cst 0) (acons (cst 5) (anil))))))) (seq 143 (put pf_5_49 (lda 0) (get f_5_49 (lda 1))) (put pf_5_52 (lda 0) (get f_5_52 (lda 1)))))))))))))) rtv
theorem O61 : BodyOK 61 (runB 61 B61) := body_ok 5 61 B61 C61 (by decide +kernel) (fun h => absurd h (by decide)) (by decide +kernel) D61 rfl (Or.inr (Or.inr (Or.inr ⟨rfl, rfl⟩))) (by decide +kernel) (by decide +kernel)
/-- HotThrough.Acts.taken -/
theorem ma_62 : mArg 62 = [2, 0, 0] := rfl
def B62 : SX 7 := seq 13 (ifs (cnot (cz 1 (by decide) (cvi v_7_74 (acons (get f_7_27 (lda 0)) (acons (ldi 1) (anil)))))) (rets 0 (cst (-1)))) (seq 29 (ifs (cmp 1 (by decide) (aldi (get f_7_80 (get f_7_31 (lda 0))) (ldi 1)) (cst (-1))) (rets 0 (cst (-2)))) (seq 64 (ifs (cor 61 (cnot (cz 1 (by decide) (cvi v_7_83 (acons (get f_7_27 (lda 0)) (acons (ldi 2) (anil)))))) (cmp 1 (by decide) (aldi (get f_7_86 (get f_7_31 (lda 0))) (ldi 2)) (aldi (get f_7_89 (get f_7_31 (lda 0))) (ldi 1)))) (rets 0 (cst (-3)))) (seq 74 (asti (get f_7_86 (get f_7_31 (lda 0))) (ldi 2) (cst (-1))) (seq 84 (asti (get f_7_92 (get f_7_31 (lda 0))) (ldi 2) (ldi 1)) (seq 94 (asti (get f_7_80 (get f_7_31 (lda 0))) (ldi 1) (ldi 2)) (rets 0 (aldi (get f_7_95 (get f_7_31 (lda 0))) (ldi 2))))))))
theorem O62 : BodyOK 62 (runB 62 B62) := body_ok 7 62 B62 C62 (by decide +kernel) (fun h => absurd h (by decide)) (by decide +kernel) D62 rfl (Or.inl ⟨rfl, rfl⟩) (by decide +kernel) (by decide +kernel)
/-- HotThrough.Kitchen.isPerson -/
theorem ma_63 : mArg 63 = [2, 0] := rfl
def B63 : SX 4 := rets 3 (ite 21 22 (cand 0 (cand 0 (cz 3 (by decide) (ldi 1)) (cmp 2 (by decide) (ldi 1) (get f_4_40 (lda 0)))) (cmp 2 (by decide) (ldi 1) (cst 5))) (cst 1) (cst 0))
theorem O63 : BodyOK 63 (runB 63 B63) := body_ok 4 63 B63 C63 (by decide +kernel) (fun h => absurd h (by decide)) (by decide +kernel) D63 rfl (Or.inr (Or.inr (Or.inl ⟨rfl, rfl⟩))) (by decide +kernel) (by decide +kernel)
/-- HotThrough.Acts.settled -/
theorem ma_64 : mArg 64 = [2, 0] := rfl
def B64 : SX 7 := seq 35 (ifs (cz 3 (by decide) (ldi 1)) (ife true 26 (cmp 2 (by decide) (get f_7_54 (lda 0)) (cst 15)) (popadd pf_7_54 (lda 0) (cst 1)) (put pf_7_44 (lda 0) (cvi v_7_57 (acons (lda 0) (acons (cst 1) (anil))))))) (rets 0 (ldi 1))
theorem O64 : BodyOK 64 (runB 64 B64) := body_ok 7 64 B64 C64 (by decide +kernel) (fun h => absurd h (by decide)) (by decide +kernel) D64 rfl (Or.inl ⟨rfl, rfl⟩) (by decide +kernel) (by decide +kernel)
/-- HotThrough.down -/
theorem ma_65 : mArg 65 = [2, 0] := rfl
def B65 : SX 1 := seq 7 (cvv v_1_240 (acons (get f_1_51 (lda 0)) (anil))) (rets 0 (cvi v_1_246 (acons (get f_1_51 (lda 0)) (acons (cvi v_1_249 (acons (get f_1_51 (lda 0)) (acons (ldi 1) (anil)))) (anil)))))
theorem O65 : BodyOK 65 (runB 65 B65) := body_ok 1 65 B65 C65 (by decide +kernel) (fun h => absurd h (by decide)) (by decide +kernel) D65 rfl (Or.inl ⟨rfl, rfl⟩) (by decide +kernel) (by decide +kernel)
/-- HotThrough.Acts.setDown -/
theorem ma_66 : mArg 66 = [2, 0] := rfl
def B66 : SX 7 := seq 13 (ifs (cnot (cz 1 (by decide) (cvi v_7_74 (acons (get f_7_27 (lda 0)) (acons (ldi 1) (anil)))))) (rets 0 (cst (-1)))) (seq 23 (asi 2 (aldi (get f_7_80 (get f_7_31 (lda 0))) (ldi 1))) (seq 37 (ifs (cnot (cz 1 (by decide) (cvi v_7_83 (acons (get f_7_27 (lda 0)) (acons (ldi 2) (anil)))))) (rets 0 (cst (-2)))) (seq 47 (asi 3 (aldi (get f_7_89 (get f_7_31 (lda 0))) (ldi 1))) (seq 73 (ifs (cor 70 (cnot (cz 1 (by decide) (cvi v_7_98 (acons (get f_7_27 (lda 0)) (acons (ldi 3) (anil)))))) (cz 0 (by decide) (aldi (get f_7_101 (get f_7_27 (lda 0))) (ldi 3)))) (rets 0 (cst (-3)))) (seq 83 (asti (get f_7_80 (get f_7_31 (lda 0))) (ldi 1) (cst (-1))) (seq 93 (asti (get f_7_92 (get f_7_31 (lda 0))) (ldi 2) (cst (-1))) (seq 103 (asti (get f_7_86 (get f_7_31 (lda 0))) (ldi 2) (ldi 3)) (rets 0 (ldi 2)))))))))
theorem O66 : BodyOK 66 (runB 66 B66) := body_ok 7 66 B66 C66 (by decide +kernel) (fun h => absurd h (by decide)) (by decide +kernel) D66 rfl (Or.inl ⟨rfl, rfl⟩) (by decide +kernel) (by decide +kernel)
/-- HotThrough.walk -/
theorem ma_67 : mArg 67 = [2, 0, 0] := rfl
def B67 : SX 1 := seq 7 (cvv v_1_240 (acons (get f_1_51 (lda 0)) (anil))) (seq 24 (asi 3 (cvi v_1_246 (acons (get f_1_51 (lda 0)) (acons (cvi v_1_252 (acons (get f_1_51 (lda 0)) (acons (ldi 1) (acons (ldi 2) (anil))))) (anil))))) (seq 81 (ifs (cand 0 (cz 3 (by decide) (ldi 3)) (cz 1 (by decide) (cvi v_1_191 (acons (get f_1_26 (lda 0)) (acons (ldi 1) (anil)))))) (seq 43 (cvv v_1_255 (acons (lda 0) (anil))) (seq 55 (cvv v_1_261 (acons (lda 0) (acons (cvj (get f_1_258 (get f_1_51 (lda 0)))) (anil)))) (cvv v_1_261 (acons (lda 0) (acons (cvj (aldi (get f_1_200 (get f_1_33 (lda 0))) (add (mul (cst 2) (ldi 1)) (aldi (get f_1_203 (get f_1_33 (lda 0))) (ldi 1))))) (anil))))))) (rets 0 (ldi 3))))
theorem O67 : BodyOK 67 (runB 67 B67) := body_ok 1 67 B67 C67 (by decide +kernel) (fun h => absurd h (by decide)) (by decide +kernel) D67 rfl (Or.inl ⟨rfl, rfl⟩) (by decide +kernel) (by decide +kernel)
/-- HotThrough.Acts.walked -/
theorem ma_68 : mArg 68 = [2, 0, 0] := rfl
def B68 : SX 7 := seq 13 (ifs (cnot (cz 1 (by decide) (cvi v_7_74 (acons (get f_7_27 (lda 0)) (acons (ldi 1) (anil)))))) (rets 0 (cst (-1)))) (seq 31 (asi 3 (cvi v_7_104 (acons (get f_7_27 (lda 0)) (acons (ldi 2) (acons (aldi (get f_7_89 (get f_7_31 (lda 0))) (ldi 1)) (anil)))))) (seq 39 (ifs (cmp 0 (by decide) (ldi 3) (cst (-1))) (rets 0 (cst (-2)))) (seq 60 (ifs (cnot (cz 1 (by decide) (cvi v_7_110 (acons (get f_7_27 (lda 0)) (acons (ldi 2) (acons (get f_7_107 (get f_7_31 (lda 0))) (anil))))))) (rets 0 (cst (-3)))) (seq 87 (seq 63 (asi 4 (cst 0)) (wk [0, 1, 2, 3, 4] (whl true 81 (cmp 2 (by decide) (ldi 4) (aldi (get f_7_114 (get f_7_27 (lda 0))) (ldi 2))) (cvv v_7_117 (acons (lda 0) (anil))) (inc 4 1)))) (seq 97 (asti (get f_7_89 (get f_7_31 (lda 0))) (ldi 1) (ldi 3)) (rets 0 (aldi (get f_7_114 (get f_7_27 (lda 0))) (ldi 2))))))))
theorem O68 : BodyOK 68 (runB 68 B68) := body_ok 7 68 B68 C68 (by decide +kernel) (fun h => absurd h (by decide)) (by decide +kernel) D68 rfl (Or.inl ⟨rfl, rfl⟩) (by decide +kernel) (by decide +kernel)
/-- HotThrough.Kitchen.otherEnd -/
theorem ma_69 : mArg 69 = [2, 0, 0] := rfl
def B69 : SX 4 := seq 10 (ifs (cnot (cz 1 (by decide) (cvi v_4_50 (acons (lda 0) (acons (ldi 1) (anil)))))) (rets 0 (cst (-1)))) (rets 0 (ite 29 49 (cmp 0 (by decide) (aldi (get f_4_15 (lda 0)) (ldi 1)) (ldi 2)) (aldi (get f_4_18 (lda 0)) (ldi 1)) (ite 48 49 (cmp 0 (by decide) (aldi (get f_4_18 (lda 0)) (ldi 1)) (ldi 2)) (aldi (get f_4_15 (lda 0)) (ldi 1)) (cst (-1)))))
theorem O69 : BodyOK 69 (runB 69 B69) := body_ok 4 69 B69 C69 (by decide +kernel) (fun h => absurd h (by decide)) (by decide +kernel) D69 rfl (Or.inl ⟨rfl, rfl⟩) (by decide +kernel) (by decide +kernel)
/-- HotThrough.Kitchen.isWay -/
theorem ma_70 : mArg 70 = [2, 0] := rfl
def B70 : SX 4 := rets 3 (ite 22 23 (cand 0 (cand 0 (cz 3 (by decide) (ldi 1)) (cmp 2 (by decide) (ldi 1) (get f_4_34 (lda 0)))) (cmp 2 (by decide) (ldi 1) (cst 14))) (cst 1) (cst 0))
theorem O70 : BodyOK 70 (runB 70 B70) := body_ok 4 70 B70 C70 (by decide +kernel) (fun h => absurd h (by decide)) (by decide +kernel) D70 rfl (Or.inr (Or.inr (Or.inl ⟨rfl, rfl⟩))) (by decide +kernel) (by decide +kernel)
/-- HotThrough.Kitchen.isPassable -/
theorem ma_71 : mArg 71 = [2, 0, 0] := rfl
def B71 : SX 4 := rets 3 (ite 20 21 (cor 16 (cnot (cz 1 (by decide) (cvi v_4_46 (acons (lda 0) (acons (ldi 1) (anil)))))) (cz 1 (by decide) (ban (shr (ldi 2) (ldi 1)) (cst 1)))) (cst 1) (cst 0))
theorem O71 : BodyOK 71 (runB 71 B71) := body_ok 4 71 B71 C71 (by decide +kernel) (fun h => absurd h (by decide)) (by decide +kernel) D71 rfl (Or.inr (Or.inr (Or.inl ⟨rfl, rfl⟩))) (by decide +kernel) (by decide +kernel)
/-- HotThrough.Kitchen.hasDoor -/
theorem ma_72 : mArg 72 = [2, 0] := rfl
def B72 : SX 4 := rets 3 (ite 15 16 (cz 1 (by decide) (ban (shr (get f_4_43 (lda 0)) (ldi 1)) (cst 1))) (cst 1) (cst 0))
theorem O72 : BodyOK 72 (runB 72 B72) := body_ok 4 72 B72 C72 (by decide +kernel) (fun h => absurd h (by decide)) (by decide +kernel) D72 rfl (Or.inr (Or.inr (Or.inl ⟨rfl, rfl⟩))) (by decide +kernel) (by decide +kernel)
/-- HotThrough.Acts.second -/
theorem ma_73 : mArg 73 = [2] := rfl
def B73 : SX 7 := seq 137 (seq 73 (seq 2 (asi 1 (cst 0)) (wk [0, 1] (whl true 67 (cmp 2 (by decide) (ldi 1) (get f_7_120 (get f_7_27 (lda 0)))) (seq 18 (cvv v_7_123 (acons (lda 0) (acons (ldi 1) (anil)))) (seq 48 (ifs (cmp 0 (by decide) (aldi (get f_7_80 (get f_7_31 (lda 0))) (ldi 1)) (cst (-1))) (cvv v_7_130 (acons (lda 0) (acons (add (mul (cst 2) (ldi 1)) (aldi (get f_7_127 (get f_7_31 (lda 0))) (ldi 1))) (anil))))) (cvv v_7_130 (acons (lda 0) (acons (sub (add (mul (cst 2) (ldi 1)) (cst 1)) (aldi (get f_7_127 (get f_7_31 (lda 0))) (ldi 1))) (anil)))))) (inc 1 1)))) (seq 124 (seq 75 (asi 1 (cst 0)) (wk [0, 1] (whl true 118 (cmp 2 (by decide) (ldi 1) (get f_7_133 (get f_7_27 (lda 0)))) (asti (get f_7_95 (get f_7_31 (lda 0))) (ldi 1) (csta s_7_139 (acons (cst 0) (acons (sub (aldi (get f_7_95 (get f_7_31 (lda 0))) (ldi 1)) (aldi (get f_7_136 (get f_7_27 (lda 0))) (ldi 1))) (anil))))) (inc 1 1)))) (popadd pf_7_142 (get f_7_31 (lda 0)) (cst 1)))) rtv
theorem O73 : BodyOK 73 (runB 73 B73) := body_ok 7 73 B73 C73 (by decide +kernel) (fun h => absurd h (by decide)) (by decide +kernel) D73 rfl (Or.inr (Or.inr (Or.inr ⟨rfl, rfl⟩))) (by decide +kernel) (by decide +kernel)
/-- HotThrough.Acts.hold -/
theorem ma_74 : mArg 74 = [2, 0] := rfl
def B74 : SX 7 := seq 174 (seq 10 (asi 2 (aldi (get f_7_80 (get f_7_31 (lda 0))) (ldi 1))) (seq 23 (ifs (cnot (cz 1 (by decide) (cvi v_7_148 (acons (get f_7_39 (lda 0)) (acons (ldi 1) (acons (ldi 2) (anil))))))) (rtv)) (seq 49 (asi 3 (csta s_7_161 (acons (cst 9999) (acons (add (get f_7_153 (get f_7_39 (lda 0))) (cvi v_7_155 (acons (get f_7_35 (lda 0)) (acons (get f_7_39 (lda 0)) (anil))))) (anil))))) (seq 69 (asti (get f_7_145 (get f_7_31 (lda 0))) (add (mul (cst 2) (ldi 1)) (get f_7_164 (get f_7_39 (lda 0)))) (ldi 3)) (ifs (cmp 4 (by decide) (ldi 3) (aldi (get f_7_166 (get f_7_27 (lda 0))) (ldi 1))) (seq 95 (aopadd (get f_7_169 (get f_7_31 (lda 0))) (ldi 1) (cst 1)) (seq 105 (popadd pf_7_65 (lda 0) (cst 1)) (seq 117 (popor pf_7_68 (lda 0) (shl (cst 1) (ldi 1))) (seq 129 (popor pf_7_71 (lda 0) (shl (cst 1) (ldi 2))) (seq 139 (asti (get f_7_80 (get f_7_31 (lda 0))) (ldi 1) (cst (-1))) (seq 149 (asti (get f_7_92 (get f_7_31 (lda 0))) (ldi 2) (cst (-1))) (seq 159 (asti (get f_7_95 (get f_7_31 (lda 0))) (ldi 2) (cst 0)) (popor pf_7_172 (get f_7_31 (lda 0)) (shl (cst 1) (ldi 2))))))))))))))) rtv
theorem O74 : BodyOK 74 (runB 74 B74) := body_ok 7 74 B74 C74 (by decide +kernel) (fun h => absurd h (by decide)) (by decide +kernel) D74 rfl (Or.inr (Or.inr (Or.inr ⟨rfl, rfl⟩))) (by decide +kernel) (by decide +kernel)
/-- HotThrough.Carrier.begin -/
theorem ma_75 : mArg 75 = [2, 0, 0] := rfl
def B75 : SX 6 := rets 3 (ite 20 21 (cand 0 (cz 1 (by decide) (cvi v_6_85 (acons (lda 0) (acons (ldi 1) (anil))))) (cz 1 (by decide) (cvi v_6_88 (acons (lda 0) (acons (ldi 2) (anil)))))) (cst 1) (cst 0))
theorem O75 : BodyOK 75 (runB 75 B75) := body_ok 6 75 B75 C75 (by decide +kernel) (fun h => absurd h (by decide)) (by decide +kernel) D75 rfl (Or.inr (Or.inr (Or.inl ⟨rfl, rfl⟩))) (by decide +kernel) (by decide +kernel)
/-- HotThrough.Carrier.stand -/
theorem ma_76 : mArg 76 = [2, 0] := rfl
def B76 : SX 6 := seq 13 (ifs (cnot (cz 1 (by decide) (cvi v_6_23 (acons (get f_6_9 (lda 0)) (acons (ldi 1) (anil)))))) (rets 3 (cst 0))) (seq 18 (put pf_6_29 (lda 0) (ldi 1)) (seq 31 (put pf_6_37 (lda 0) (aldi (get f_6_33 (get f_6_9 (lda 0))) (ldi 1))) (seq 44 (put pf_6_44 (lda 0) (aldi (get f_6_39 (get f_6_15 (lda 0))) (ldi 1))) (seq 59 (put pf_6_49 (lda 0) (ban (aldi (get f_6_46 (get f_6_15 (lda 0))) (ldi 1)) (cst 1))) (seq 79 (put pf_6_54 (lda 0) (aldi (get f_6_51 (get f_6_15 (lda 0))) (add (mul (cst 2) (ldi 1)) (get f_6_49 (lda 0))))) (seq 101 (put pf_6_56 (lda 0) (aldi (get f_6_51 (get f_6_15 (lda 0))) (sub (add (mul (cst 2) (ldi 1)) (cst 1)) (get f_6_49 (lda 0))))) (seq 112 (put pf_6_62 (lda 0) (get f_6_59 (get f_6_15 (lda 0)))) (rets 3 (cst 1)))))))))
theorem O76 : BodyOK 76 (runB 76 B76) := body_ok 6 76 B76 C76 (by decide +kernel) (fun h => absurd h (by decide)) (by decide +kernel) D76 rfl (Or.inr (Or.inr (Or.inl ⟨rfl, rfl⟩))) (by decide +kernel) (by decide +kernel)
/-- HotThrough.Carrier.lift -/
theorem ma_77 : mArg 77 = [2, 0] := rfl
def B77 : SX 6 := seq 13 (ifs (cnot (cz 1 (by decide) (cvi v_6_63 (acons (get f_6_9 (lda 0)) (acons (ldi 1) (anil)))))) (rets 3 (cst 0))) (seq 18 (put pf_6_66 (lda 0) (ldi 1)) (seq 31 (put pf_6_72 (lda 0) (aldi (get f_6_69 (get f_6_9 (lda 0))) (ldi 1))) (seq 66 (put pf_6_83 (lda 0) (csta s_6_77 (acons (cst 0) (acons (sub (aldi (get f_6_74 (get f_6_15 (lda 0))) (ldi 1)) (mul (get f_6_72 (lda 0)) (sub (get f_6_62 (lda 0)) (get f_6_59 (get f_6_15 (lda 0)))))) (anil))))) (rets 3 (cst 1)))))
theorem O77 : BodyOK 77 (runB 77 B77) := body_ok 6 77 B77 C77 (by decide +kernel) (fun h => absurd h (by decide)) (by decide +kernel) D77 rfl (Or.inr (Or.inr (Or.inl ⟨rfl, rfl⟩))) (by decide +kernel) (by decide +kernel)
/-- HotThrough.Rule.through -/
theorem ma_78 : mArg 78 = [2, 2] := rfl
def B78 : SX 3 := seq 29 (ifs (cz 0 (by decide) (get f_3_49 (lda 0))) (rets 0 (csta s_3_107 (acons (csta s_3_103 (acons (cst 47) (acons (get f_3_95 (lda 1)) (acons (add (mul (cst 10) (get f_3_100 (lda 1))) (cst 1)) (anil))))) (anil))))) (seq 31 (asi 2 (cst 0)) (seq 172 (seq 33 (asi 3 (cst 0)) (wk [0, 1, 2, 3] (whl true 166 (cmp 2 (by decide) (ldi 3) (get f_3_49 (lda 0))) (seq 49 (asi 4 (aldi (get f_3_9 (lda 0)) (ldi 3))) (ife true 98 (cor 63 (cz 3 (by decide) (ldi 4)) (cz 1 (by decide) (csta s_3_88 (acons (neg (ldi 4)) (anil))))) (ifs (cmp 2 (by decide) (ldi 2) (cst 40)) (seq 92 (asti (get f_3_18 (lda 0)) (ldi 2) (ite 84 91 (cz 3 (by decide) (ldi 4)) (ldi 4) (cvi v_3_110 (acons (lda 1) (acons (neg (ldi 4)) (anil)))))) (inc 2 1))) (ife true 130 (cmp 0 (by decide) (ldi 4) (cst (-33))) (ifs (cmp 3 (by decide) (ldi 2) (cst 1)) (asti (get f_3_18 (lda 0)) (sub (ldi 2) (cst 1)) (neg (aldi (get f_3_18 (lda 0)) (sub (ldi 2) (cst 1)))))) (ifs (cmp 3 (by decide) (ldi 2) (cst 2)) (seq 138 (inc 2 (-1)) (asti (get f_3_18 (lda 0)) (sub (ldi 2) (cst 1)) (csta s_3_103 (acons (neg (ldi 4)) (acons (aldi (get f_3_18 (lda 0)) (sub (ldi 2) (cst 1))) (acons (aldi (get f_3_18 (lda 0)) (ldi 2)) (anil))))))))))) (inc 3 1)))) (rets 0 (csta s_3_107 (acons (aldi (get f_3_18 (lda 0)) (cst 0)) (anil))))))
theorem O78 : BodyOK 78 (runB 78 B78) := body_ok 3 78 B78 C78 (by decide +kernel) (fun h => absurd h (by decide)) (by decide +kernel) D78 rfl (Or.inl ⟨rfl, rfl⟩) (by decide +kernel) (by decide +kernel)
/-- HotThrough.Rule.combine -/
theorem ma_79 : mArg 79 = [0, 0, 0] := rfl
def B79 : SX 3 := sw true (ldi 0) [([60], rets 0 (ite 69 70 (cmp 2 (by decide) (ldi 1) (ldi 2)) (cst 1) (cst 0))), ([62], rets 0 (ite 80 81 (cmp 4 (by decide) (ldi 1) (ldi 2)) (cst 1) (cst 0))), ([61], rets 0 (ite 91 92 (cmp 0 (by decide) (ldi 1) (ldi 2)) (cst 1) (cst 0))), ([43], rets 0 (add (ldi 1) (ldi 2))), ([45], rets 0 (sub (ldi 1) (ldi 2))), ([42], rets 0 (mul (ldi 1) (ldi 2)))] (rets 0 (ite 113 116 (cz 0 (by decide) (ldi 2)) (cst 0) (dvi (ldi 1) (ldi 2))))
theorem O79 : BodyOK 79 (runB 79 B79) := body_ok 3 79 B79 C79 (by decide +kernel) (fun h => absurd h (by decide)) (by decide +kernel) D79 rfl (Or.inl ⟨rfl, rfl⟩) (by decide +kernel) (by decide +kernel)
/-- HotThrough.Rule.within -/
theorem ma_80 : mArg 80 = [0] := rfl
def B80 : SX 3 := rets 0 (csta s_3_119 (acons (cst 0) (acons (csta s_3_113 (acons (cst 999) (acons (ldi 0) (anil)))) (anil))))
theorem O80 : BodyOK 80 (runB 80 B80) := body_ok 3 80 B80 C80 (by decide +kernel) (fun h => absurd h (by decide)) (by decide +kernel) D80 rfl (Or.inl ⟨rfl, rfl⟩) (by decide +kernel) (by decide +kernel)
/-- HotThrough.Carrier.valueOf -/
theorem ma_81 : mArg 81 = [2, 0] := rfl
def B81 : SX 6 := sw true (ldi 1) [([104], rets 0 (get f_6_83 (lda 0))), ([102], rets 0 (get f_6_44 (lda 0))), ([110], rets 0 (get f_6_54 (lda 0))), ([98], rets 0 (get f_6_37 (lda 0))), ([115], rets 0 (get f_6_62 (lda 0))), ([105], rets 0 (get f_6_29 (lda 0))), ([112], rets 0 (get f_6_66 (lda 0)))] (rets 0 (get f_6_49 (lda 0)))
theorem O81 : BodyOK 81 (runB 81 B81) := body_ok 6 81 B81 C81 (by decide +kernel) (fun h => absurd h (by decide)) (by decide +kernel) D81 rfl (Or.inl ⟨rfl, rfl⟩) (by decide +kernel) (by decide +kernel)
/-- HotThrough.Acts.coolHand -/
theorem ma_82 : mArg 82 = [2, 0] := rfl
def B82 : SX 7 := seq 33 (ifs (cand 0 (cz 3 (by decide) (ldi 1)) (cmp 2 (by decide) (ldi 1) (cst 10))) (aopsub (get f_7_145 (get f_7_31 (lda 0))) (ldi 1) (dvi (aldi (get f_7_145 (get f_7_31 (lda 0))) (ldi 1)) (cst 4)))) rtv
theorem O82 : BodyOK 82 (runB 82 B82) := body_ok 7 82 B82 C82 (by decide +kernel) (fun h => absurd h (by decide)) (by decide +kernel) D82 rfl (Or.inr (Or.inr (Or.inr ⟨rfl, rfl⟩))) (by decide +kernel) (by decide +kernel)
/-- HotThrough.startRow -/
theorem ma_83 : mArg 83 = [2] := rfl
def B83 : SX 1 := seq 5 (put pf_1_395 (lda 0) (cst 0)) rtv
theorem O83 : BodyOK 83 (runB 83 B83) := body_ok 1 83 B83 C83 (by decide +kernel) (fun h => absurd h (by decide)) (by decide +kernel) D83 rfl (Or.inr (Or.inr (Or.inr ⟨rfl, rfl⟩))) (by decide +kernel) (by decide +kernel)
/-- HotThrough.tell -/
theorem ma_84 : mArg 84 = [2, 1] := rfl
def B84 : SX 1 := seq 29 (ifs (cmp 2 (by decide) (get f_1_395 (lda 0)) (cst 16)) (seq 19 (astj (get f_1_100 (lda 0)) (get f_1_395 (lda 0)) (ldj 1)) (popadd pf_1_395 (lda 0) (cst 1)))) rtv
theorem O84 : BodyOK 84 (runB 84 B84) := body_ok 1 84 B84 C84 (by decide +kernel) (fun h => absurd h (by decide)) (by decide +kernel) D84 rfl (Or.inr (Or.inr (Or.inr ⟨rfl, rfl⟩))) (by decide +kernel) (by decide +kernel)
/-- HotThrough.pass -/
theorem ma_85 : mArg 85 = [2, 0] := rfl
def B85 : SX 1 := seq 7 (cvv v_1_240 (acons (get f_1_51 (lda 0)) (anil))) (seq 16 (asi 2 (cvi v_1_265 (acons (get f_1_51 (lda 0)) (acons (ldi 1) (anil))))) (seq 29 (ifs (cz 4 (by decide) (ldi 1)) (exs (cvi v_1_246 (acons (get f_1_51 (lda 0)) (acons (ldi 2) (anil)))))) (seq 61 (ifs (cz 3 (by decide) (ldi 2)) (seq 37 (cvv v_1_255 (acons (lda 0) (anil))) (seq 49 (cvv v_1_261 (acons (lda 0) (acons (cvj (get f_1_268 (get f_1_51 (lda 0)))) (anil)))) (cvv v_1_261 (acons (lda 0) (acons (cvj (get f_1_271 (get f_1_51 (lda 0)))) (anil))))))) (rets 0 (ldi 2)))))
theorem O85 : BodyOK 85 (runB 85 B85) := body_ok 1 85 B85 C85 (by decide +kernel) (fun h => absurd h (by decide)) (by decide +kernel) D85 rfl (Or.inl ⟨rfl, rfl⟩) (by decide +kernel) (by decide +kernel)
/-- HotThrough.Acts.elapsed -/
theorem ma_86 : mArg 86 = [2, 0] := rfl
def B86 : SX 7 := seq 12 (ifs (cor 10 (cz 2 (by decide) (ldi 1)) (cmp 4 (by decide) (ldi 1) (cst 99))) (rets 0 (cst (-1)))) (seq 29 (seq 14 (asi 2 (cst 0)) (wk [0, 1, 2] (whl true 23 (cmp 2 (by decide) (ldi 2) (ldi 1)) (cvv v_7_117 (acons (lda 0) (anil))) (inc 2 1)))) (rets 0 (get f_7_65 (lda 0))))
theorem O86 : BodyOK 86 (runB 86 B86) := body_ok 7 86 B86 C86 (by decide +kernel) (fun h => absurd h (by decide)) (by decide +kernel) D86 rfl (Or.inl ⟨rfl, rfl⟩) (by decide +kernel) (by decide +kernel)
/-- HotThrough.change -/
theorem ma_87 : mArg 87 = [2, 0] := rfl
def B87 : SX 1 := seq 7 (cvv v_1_240 (acons (get f_1_51 (lda 0)) (anil))) (rets 0 (cvi v_1_246 (acons (get f_1_51 (lda 0)) (acons (cvi v_1_274 (acons (get f_1_51 (lda 0)) (acons (ldi 1) (anil)))) (anil)))))
theorem O87 : BodyOK 87 (runB 87 B87) := body_ok 1 87 B87 C87 (by decide +kernel) (fun h => absurd h (by decide)) (by decide +kernel) D87 rfl (Or.inl ⟨rfl, rfl⟩) (by decide +kernel) (by decide +kernel)
/-- HotThrough.Acts.changed -/
theorem ma_88 : mArg 88 = [2, 0] := rfl
def B88 : SX 7 := seq 13 (ifs (cnot (cz 1 (by decide) (cvi v_7_74 (acons (get f_7_27 (lda 0)) (acons (ldi 1) (anil)))))) (rets 0 (cst (-1)))) (seq 33 (asti (get f_7_127 (get f_7_31 (lda 0))) (ldi 1) (sub (cst 1) (aldi (get f_7_127 (get f_7_31 (lda 0))) (ldi 1)))) (rets 0 (aldi (get f_7_127 (get f_7_31 (lda 0))) (ldi 1))))
theorem O88 : BodyOK 88 (runB 88 B88) := body_ok 7 88 B88 C88 (by decide +kernel) (fun h => absurd h (by decide)) (by decide +kernel) D88 rfl (Or.inl ⟨rfl, rfl⟩) (by decide +kernel) (by decide +kernel)
/-- HotThrough.give -/
theorem ma_89 : mArg 89 = [2, 0, 0] := rfl
def B89 : SX 1 := seq 7 (cvv v_1_240 (acons (get f_1_51 (lda 0)) (anil))) (rets 0 (cvi v_1_246 (acons (get f_1_51 (lda 0)) (acons (cvi v_1_277 (acons (get f_1_51 (lda 0)) (acons (ldi 1) (acons (ldi 2) (anil))))) (anil)))))
theorem O89 : BodyOK 89 (runB 89 B89) := body_ok 1 89 B89 C89 (by decide +kernel) (fun h => absurd h (by decide)) (by decide +kernel) D89 rfl (Or.inl ⟨rfl, rfl⟩) (by decide +kernel) (by decide +kernel)
/-- HotThrough.Acts.given -/
theorem ma_90 : mArg 90 = [2, 0, 0] := rfl
def B90 : SX 7 := seq 29 (ifs (cor 27 (cor 0 (cnot (cz 1 (by decide) (cvi v_7_74 (acons (get f_7_27 (lda 0)) (acons (ldi 1) (anil)))))) (cnot (cz 1 (by decide) (cvi v_7_74 (acons (get f_7_27 (lda 0)) (acons (ldi 2) (anil))))))) (cmp 0 (by decide) (ldi 1) (ldi 2))) (rets 0 (cst (-1)))) (seq 39 (asi 3 (aldi (get f_7_80 (get f_7_31 (lda 0))) (ldi 1))) (seq 66 (ifs (cor 63 (cnot (cz 1 (by decide) (cvi v_7_83 (acons (get f_7_27 (lda 0)) (acons (ldi 3) (anil)))))) (cmp 1 (by decide) (aldi (get f_7_80 (get f_7_31 (lda 0))) (ldi 2)) (cst (-1)))) (rets 0 (cst (-2)))) (seq 90 (ifs (cmp 1 (by decide) (aldi (get f_7_89 (get f_7_31 (lda 0))) (ldi 1)) (aldi (get f_7_89 (get f_7_31 (lda 0))) (ldi 2))) (rets 0 (cst (-3)))) (seq 100 (asti (get f_7_80 (get f_7_31 (lda 0))) (ldi 1) (cst (-1))) (seq 110 (asti (get f_7_80 (get f_7_31 (lda 0))) (ldi 2) (ldi 3)) (seq 120 (asti (get f_7_92 (get f_7_31 (lda 0))) (ldi 3) (ldi 2)) (rets 0 (ldi 3))))))))
theorem O90 : BodyOK 90 (runB 90 B90) := body_ok 7 90 B90 C90 (by decide +kernel) (fun h => absurd h (by decide)) (by decide +kernel) D90 rfl (Or.inl ⟨rfl, rfl⟩) (by decide +kernel) (by decide +kernel)
/-- HotThrough.fold -/
theorem ma_91 : mArg 91 = [2, 0, 0] := rfl
def B91 : SX 1 := seq 7 (cvv v_1_240 (acons (get f_1_51 (lda 0)) (anil))) (rets 0 (cvi v_1_246 (acons (get f_1_51 (lda 0)) (acons (cvi v_1_280 (acons (get f_1_51 (lda 0)) (acons (ldi 1) (acons (ldi 2) (anil))))) (anil)))))
theorem O91 : BodyOK 91 (runB 91 B91) := body_ok 1 91 B91 C91 (by decide +kernel) (fun h => absurd h (by decide)) (by decide +kernel) D91 rfl (Or.inl ⟨rfl, rfl⟩) (by decide +kernel) (by decide +kernel)
/-- HotThrough.Acts.folded -/
theorem ma_92 : mArg 92 = [2, 0, 0] := rfl
def B92 : SX 7 := seq 23 (ifs (cor 21 (cor 0 (cnot (cz 1 (by decide) (cvi v_7_74 (acons (get f_7_27 (lda 0)) (acons (ldi 1) (anil)))))) (cz 2 (by decide) (ldi 2))) (cmp 4 (by decide) (ldi 2) (cst 9))) (rets 0 (cst (-1)))) (seq 33 (asi 3 (aldi (get f_7_175 (get f_7_31 (lda 0))) (ldi 1))) (seq 43 (asti (get f_7_175 (get f_7_31 (lda 0))) (ldi 1) (ldi 2)) (rets 0 (ldi 3))))
theorem O92 : BodyOK 92 (runB 92 B92) := body_ok 7 92 B92 C92 (by decide +kernel) (fun h => absurd h (by decide)) (by decide +kernel) D92 rfl (Or.inl ⟨rfl, rfl⟩) (by decide +kernel) (by decide +kernel)
/-- HotThrough.door -/
theorem ma_93 : mArg 93 = [2, 0, 0] := rfl
def B93 : SX 1 := seq 7 (cvv v_1_240 (acons (get f_1_51 (lda 0)) (anil))) (rets 0 (cvi v_1_246 (acons (get f_1_51 (lda 0)) (acons (cvi v_1_283 (acons (get f_1_51 (lda 0)) (acons (ldi 1) (acons (ldi 2) (anil))))) (anil)))))
theorem O93 : BodyOK 93 (runB 93 B93) := body_ok 1 93 B93 C93 (by decide +kernel) (fun h => absurd h (by decide)) (by decide +kernel) D93 rfl (Or.inl ⟨rfl, rfl⟩) (by decide +kernel) (by decide +kernel)
/-- HotThrough.Acts.opened -/
theorem ma_94 : mArg 94 = [2, 0, 0] := rfl
def B94 : SX 7 := seq 33 (ifs (cor 31 (cor 0 (cor 0 (cnot (cz 1 (by decide) (cvi v_7_178 (acons (get f_7_27 (lda 0)) (acons (ldi 1) (anil)))))) (cnot (cz 1 (by decide) (cvi v_7_181 (acons (get f_7_27 (lda 0)) (acons (ldi 1) (anil))))))) (cz 2 (by decide) (ldi 2))) (cmp 4 (by decide) (ldi 2) (cst 1))) (rets 0 (cst (-1)))) (seq 57 (put pf_7_107 (get f_7_31 (lda 0)) (bor (ban (get f_7_107 (get f_7_31 (lda 0))) (bxo (shl (cst 1) (ldi 1)) (cst (-1)))) (shl (ldi 2) (ldi 1)))) (rets 0 (csta s_7_184 (acons (get f_7_107 (get f_7_31 (lda 0))) (anil)))))
theorem O94 : BodyOK 94 (runB 94 B94) := body_ok 7 94 B94 C94 (by decide +kernel) (fun h => absurd h (by decide)) (by decide +kernel) D94 rfl (Or.inl ⟨rfl, rfl⟩) (by decide +kernel) (by decide +kernel)
end
