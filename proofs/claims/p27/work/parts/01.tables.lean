-- ===== PART A: goes FIRST, ahead of the names: the tables' words, and 'selects' of the private methods out of them =====
/-- a private method of a class that the tables say can be made, by its rows of tables_1 -/
def lw_okq (q : MethodName × Nat) : Prop := (q.1.cls ≠ "java/lang/invoke/MethodHandle" ∧ q.1.cls ≠ "java/lang/invoke/VarHandle") ∧ Cond.instantiable q.1.cls q.2 ∈ tables_1 ∧ Cond.privateMethod q.1 ∈ tables_1 ∧ Cond.instanceMethod q.1 ∈ tables_1
theorem lw_t1 {w : Cond} (i : Nat) (h : tables_1_1[i]? = some w) : w ∈ tables_1 := List.mem_append_left _ (List.mem_of_getElem? h)
theorem lw_t2 {w : Cond} (i : Nat) (h : tables_1_2[i]? = some w) : w ∈ tables_1 := List.mem_append_right _ (List.mem_append_left _ (List.mem_of_getElem? h))
theorem lw_t3 {w : Cond} (i : Nat) (h : tables_1_3[i]? = some w) : w ∈ tables_1 := List.mem_append_right _ (List.mem_append_right _ (List.mem_append_left _ (List.mem_of_getElem? h)))
theorem lw_t4 {w : Cond} (i : Nat) (h : tables_1_4[i]? = some w) : w ∈ tables_1 := List.mem_append_right _ (List.mem_append_right _ (List.mem_append_right _ (List.mem_append_left _ (List.mem_of_getElem? h))))
theorem lw_t5 {w : Cond} (i : Nat) (h : tables_1_5[i]? = some w) : w ∈ tables_1 := List.mem_append_right _ (List.mem_append_right _ (List.mem_append_right _ (List.mem_append_right _ (List.mem_append_left _ (List.mem_of_getElem? h)))))
theorem lw_t6 {w : Cond} (i : Nat) (h : tables_1_6[i]? = some w) : w ∈ tables_1 := List.mem_append_right _ (List.mem_append_right _ (List.mem_append_right _ (List.mem_append_right _ (List.mem_append_right _ (List.mem_append_left _ (List.mem_of_getElem? h))))))
theorem lw_t7 {w : Cond} (i : Nat) (h : tables_1_7[i]? = some w) : w ∈ tables_1 := List.mem_append_right _ (List.mem_append_right _ (List.mem_append_right _ (List.mem_append_right _ (List.mem_append_right _ (List.mem_append_right _ (List.mem_append_left _ (List.mem_of_getElem? h)))))))
theorem lw_t8 {w : Cond} (i : Nat) (h : tables_1_8[i]? = some w) : w ∈ tables_1 := List.mem_append_right _ (List.mem_append_right _ (List.mem_append_right _ (List.mem_append_right _ (List.mem_append_right _ (List.mem_append_right _ (List.mem_append_right _ (List.mem_append_left _ (List.mem_of_getElem? h))))))))
theorem lw_t9 {w : Cond} (i : Nat) (h : tables_1_9[i]? = some w) : w ∈ tables_1 := List.mem_append_right _ (List.mem_append_right _ (List.mem_append_right _ (List.mem_append_right _ (List.mem_append_right _ (List.mem_append_right _ (List.mem_append_right _ (List.mem_append_right _ (List.mem_of_getElem? h))))))))
theorem lw_c0 : (("HotThrough$Kitchen" : String) ≠ "java/lang/invoke/MethodHandle" ∧ ("HotThrough$Kitchen" : String) ≠ "java/lang/invoke/VarHandle") ∧ Cond.instantiable "HotThrough$Kitchen" 11 ∈ tables_1 := ⟨by decide +kernel, lw_t1 88 rfl⟩
theorem lw_c1 : (("HotThrough$Rule" : String) ≠ "java/lang/invoke/MethodHandle" ∧ ("HotThrough$Rule" : String) ≠ "java/lang/invoke/VarHandle") ∧ Cond.instantiable "HotThrough$Rule" 5 ∈ tables_1 := ⟨by decide +kernel, lw_t1 65 rfl⟩
theorem lw_c2 : (("HotThrough$Acts" : String) ≠ "java/lang/invoke/MethodHandle" ∧ ("HotThrough$Acts" : String) ≠ "java/lang/invoke/VarHandle") ∧ Cond.instantiable "HotThrough$Acts" 13 ∈ tables_1 := ⟨by decide +kernel, lw_t2 57 rfl⟩
theorem lw_c3 : (("HotThrough" : String) ≠ "java/lang/invoke/MethodHandle" ∧ ("HotThrough" : String) ≠ "java/lang/invoke/VarHandle") ∧ Cond.instantiable "HotThrough" 15 ∈ tables_1 := ⟨by decide +kernel, lw_t1 26 rfl⟩
theorem lw_c4 : (("HotThrough$Carrier" : String) ≠ "java/lang/invoke/MethodHandle" ∧ ("HotThrough$Carrier" : String) ≠ "java/lang/invoke/VarHandle") ∧ Cond.instantiable "HotThrough$Carrier" 13 ∈ tables_1 := ⟨by decide +kernel, lw_t1 238 rfl⟩
theorem lw_c5 : (("HotThrough$Paths" : String) ≠ "java/lang/invoke/MethodHandle" ∧ ("HotThrough$Paths" : String) ≠ "java/lang/invoke/VarHandle") ∧ Cond.instantiable "HotThrough$Paths" 9 ∈ tables_1 := ⟨by decide +kernel, lw_t2 110 rfl⟩
theorem lw_c6 : (("HotThrough$Rester" : String) ≠ "java/lang/invoke/MethodHandle" ∧ ("HotThrough$Rester" : String) ≠ "java/lang/invoke/VarHandle") ∧ Cond.instantiable "HotThrough$Rester" 11 ∈ tables_1 := ⟨by decide +kernel, lw_t2 155 rfl⟩
theorem lw_c7 : (("HotThrough$Line" : String) ≠ "java/lang/invoke/MethodHandle" ∧ ("HotThrough$Line" : String) ≠ "java/lang/invoke/VarHandle") ∧ Cond.instantiable "HotThrough$Line" 7 ∈ tables_1 := ⟨by decide +kernel, lw_t2 196 rfl⟩
theorem lw_c8 : (("HotThrough$Dishes" : String) ≠ "java/lang/invoke/MethodHandle" ∧ ("HotThrough$Dishes" : String) ≠ "java/lang/invoke/VarHandle") ∧ Cond.instantiable "HotThrough$Dishes" 13 ∈ tables_1 := ⟨by decide +kernel, lw_t2 225 rfl⟩
theorem lw_c9 : (("HotThrough$Marks" : String) ≠ "java/lang/invoke/MethodHandle" ∧ ("HotThrough$Marks" : String) ≠ "java/lang/invoke/VarHandle") ∧ Cond.instantiable "HotThrough$Marks" 11 ∈ tables_1 := ⟨by decide +kernel, lw_t3 33 rfl⟩
theorem lw_c10 : (("java/lang/Throwable" : String) ≠ "java/lang/invoke/MethodHandle" ∧ ("java/lang/Throwable" : String) ≠ "java/lang/invoke/VarHandle") ∧ Cond.instantiable "java/lang/Throwable" 6 ∈ tables_1 := ⟨by decide +kernel, lw_t6 94 rfl⟩
theorem lw_c11 : (("HotThroughModel" : String) ≠ "java/lang/invoke/MethodHandle" ∧ ("HotThroughModel" : String) ≠ "java/lang/invoke/VarHandle") ∧ Cond.instantiable "HotThroughModel" 72 ∈ tables_1 := ⟨by decide +kernel, lw_t6 166 rfl⟩
theorem lw_p0 : lw_okq (⟨"HotThrough$Kitchen", "readLine", "(LHotThrough$Text;LHotThrough$State;)V"⟩, 11) := ⟨lw_c0.1, lw_c0.2, lw_t3 154 rfl, lw_t3 155 rfl⟩
theorem lw_p1 : lw_okq (⟨"HotThrough$Kitchen", "hasRoom", "(I)Z"⟩, 11) := ⟨lw_c0.1, lw_c0.2, lw_t3 162 rfl, lw_t3 163 rfl⟩
theorem lw_p2 : lw_okq (⟨"HotThrough$Kitchen", "readWay", "(LHotThrough$Text;LHotThrough$State;)V"⟩, 11) := ⟨lw_c0.1, lw_c0.2, lw_t3 174 rfl, lw_t3 175 rfl⟩
theorem lw_p3 : lw_okq (⟨"HotThrough$Kitchen", "readPot", "(LHotThrough$Text;LHotThrough$State;)V"⟩, 11) := ⟨lw_c0.1, lw_c0.2, lw_t3 191 rfl, lw_t3 192 rfl⟩
theorem lw_p4 : lw_okq (⟨"HotThrough$Kitchen", "readPerson", "(LHotThrough$Text;LHotThrough$State;)V"⟩, 11) := ⟨lw_c0.1, lw_c0.2, lw_t3 221 rfl, lw_t3 222 rfl⟩
theorem lw_p5 : lw_okq (⟨"HotThrough$Kitchen", "addPlace", "(I)V"⟩, 11) := ⟨lw_c0.1, lw_c0.2, lw_t3 229 rfl, lw_t3 230 rfl⟩
theorem lw_p6 : lw_okq (⟨"HotThrough$Rule", "expression", "(LHotThrough$Text;I)V"⟩, 5) := ⟨lw_c1.1, lw_c1.2, lw_t4 14 rfl, lw_t4 15 rfl⟩
theorem lw_p7 : lw_okq (⟨"HotThrough$Rule", "sum", "(LHotThrough$Text;I)V"⟩, 5) := ⟨lw_c1.1, lw_c1.2, lw_t4 18 rfl, lw_t4 19 rfl⟩
theorem lw_p8 : lw_okq (⟨"HotThrough$Rule", "product", "(LHotThrough$Text;I)V"⟩, 5) := ⟨lw_c1.1, lw_c1.2, lw_t4 22 rfl, lw_t4 23 rfl⟩
theorem lw_p9 : lw_okq (⟨"HotThrough$Rule", "factor", "(LHotThrough$Text;I)V"⟩, 5) := ⟨lw_c1.1, lw_c1.2, lw_t4 26 rfl, lw_t4 27 rfl⟩
theorem lw_p10 : lw_okq (⟨"HotThrough$Rule", "thing", "(LHotThrough$Text;I)V"⟩, 5) := ⟨lw_c1.1, lw_c1.2, lw_t4 31 rfl, lw_t4 32 rfl⟩
theorem lw_p11 : lw_okq (⟨"HotThrough$Rule", "emit", "(I)V"⟩, 5) := ⟨lw_c1.1, lw_c1.2, lw_t4 40 rfl, lw_t4 41 rfl⟩
theorem lw_p12 : lw_okq (⟨"HotThrough$Acts", "slot", "(I)I"⟩, 13) := ⟨lw_c2.1, lw_c2.2, lw_t4 83 rfl, lw_t4 84 rfl⟩
theorem lw_p13 : lw_okq (⟨"HotThrough$Acts", "second", "()V"⟩, 13) := ⟨lw_c2.1, lw_c2.2, lw_t4 141 rfl, lw_t4 142 rfl⟩
theorem lw_p14 : lw_okq (⟨"HotThrough$Acts", "hold", "(I)V"⟩, 13) := ⟨lw_c2.1, lw_c2.2, lw_t4 145 rfl, lw_t4 146 rfl⟩
theorem lw_p15 : lw_okq (⟨"HotThrough$Acts", "coolHand", "(I)V"⟩, 13) := ⟨lw_c2.1, lw_c2.2, lw_t4 181 rfl, lw_t4 182 rfl⟩
def lw_privs_1 : List (MethodName × Nat) := [(⟨"HotThrough$Kitchen", "readLine", "(LHotThrough$Text;LHotThrough$State;)V"⟩, 11), (⟨"HotThrough$Kitchen", "hasRoom", "(I)Z"⟩, 11), (⟨"HotThrough$Kitchen", "readWay", "(LHotThrough$Text;LHotThrough$State;)V"⟩, 11), (⟨"HotThrough$Kitchen", "readPot", "(LHotThrough$Text;LHotThrough$State;)V"⟩, 11), (⟨"HotThrough$Kitchen", "readPerson", "(LHotThrough$Text;LHotThrough$State;)V"⟩, 11), (⟨"HotThrough$Kitchen", "addPlace", "(I)V"⟩, 11), (⟨"HotThrough$Rule", "expression", "(LHotThrough$Text;I)V"⟩, 5), (⟨"HotThrough$Rule", "sum", "(LHotThrough$Text;I)V"⟩, 5), (⟨"HotThrough$Rule", "product", "(LHotThrough$Text;I)V"⟩, 5), (⟨"HotThrough$Rule", "factor", "(LHotThrough$Text;I)V"⟩, 5), (⟨"HotThrough$Rule", "thing", "(LHotThrough$Text;I)V"⟩, 5), (⟨"HotThrough$Rule", "emit", "(I)V"⟩, 5), (⟨"HotThrough$Acts", "slot", "(I)I"⟩, 13), (⟨"HotThrough$Acts", "second", "()V"⟩, 13), (⟨"HotThrough$Acts", "hold", "(I)V"⟩, 13), (⟨"HotThrough$Acts", "coolHand", "(I)V"⟩, 13)]
theorem lw_r1 : ∀ q ∈ lw_privs_1, lw_okq q := List.forall_mem_cons.mpr ⟨lw_p0, List.forall_mem_cons.mpr ⟨lw_p1, List.forall_mem_cons.mpr ⟨lw_p2, List.forall_mem_cons.mpr ⟨lw_p3, List.forall_mem_cons.mpr ⟨lw_p4, List.forall_mem_cons.mpr ⟨lw_p5, List.forall_mem_cons.mpr ⟨lw_p6, List.forall_mem_cons.mpr ⟨lw_p7, List.forall_mem_cons.mpr ⟨lw_p8, List.forall_mem_cons.mpr ⟨lw_p9, List.forall_mem_cons.mpr ⟨lw_p10, List.forall_mem_cons.mpr ⟨lw_p11, List.forall_mem_cons.mpr ⟨lw_p12, List.forall_mem_cons.mpr ⟨lw_p13, List.forall_mem_cons.mpr ⟨lw_p14, List.forall_mem_cons.mpr ⟨lw_p15, fun _ h => absurd h List.not_mem_nil⟩⟩⟩⟩⟩⟩⟩⟩⟩⟩⟩⟩⟩⟩⟩⟩
theorem lw_p16 : lw_okq (⟨"HotThrough", "startRow", "()V"⟩, 15) := ⟨lw_c3.1, lw_c3.2, lw_t4 187 rfl, lw_t4 188 rfl⟩
theorem lw_p17 : lw_okq (⟨"HotThrough", "tell", "(J)V"⟩, 15) := ⟨lw_c3.1, lw_c3.2, lw_t4 191 rfl, lw_t4 192 rfl⟩
theorem lw_p18 : lw_okq (⟨"HotThrough$Acts", "readAct", "(LHotThrough$Text;I)V"⟩, 13) := ⟨lw_c2.1, lw_c2.2, lw_t5 13 rfl, lw_t5 14 rfl⟩
theorem lw_p19 : lw_okq (⟨"HotThrough", "holds", "(I)Z"⟩, 15) := ⟨lw_c3.1, lw_c3.2, lw_t5 50 rfl, lw_t5 51 rfl⟩
theorem lw_p20 : lw_okq (⟨"HotThrough$Carrier", "changeHands", "()V"⟩, 13) := ⟨lw_c4.1, lw_c4.2, lw_t5 59 rfl, lw_t5 60 rfl⟩
theorem lw_p21 : lw_okq (⟨"HotThrough", "mayHold", "(III)Z"⟩, 15) := ⟨lw_c3.1, lw_c3.2, lw_t5 81 rfl, lw_t5 82 rfl⟩
theorem lw_p22 : lw_okq (⟨"HotThrough$Paths", "spread", "(II)Z"⟩, 9) := ⟨lw_c5.1, lw_c5.2, lw_t5 103 rfl, lw_t5 104 rfl⟩
theorem lw_p23 : lw_okq (⟨"HotThrough$Paths", "relax", "(III)V"⟩, 9) := ⟨lw_c5.1, lw_c5.2, lw_t5 109 rfl, lw_t5 110 rfl⟩
theorem lw_p24 : lw_okq (⟨"HotThrough$Paths", "trace", "(II)V"⟩, 9) := ⟨lw_c5.1, lw_c5.2, lw_t5 113 rfl, lw_t5 114 rfl⟩
theorem lw_p25 : lw_okq (⟨"HotThrough$Paths", "nextFrom", "(I)I"⟩, 9) := ⟨lw_c5.1, lw_c5.2, lw_t5 117 rfl, lw_t5 118 rfl⟩
theorem lw_p26 : lw_okq (⟨"HotThrough$Rester", "stop", "(II)V"⟩, 11) := ⟨lw_c6.1, lw_c6.2, lw_t5 145 rfl, lw_t5 146 rfl⟩
theorem lw_p27 : lw_okq (⟨"HotThrough$Rester", "arrived", "(I)V"⟩, 11) := ⟨lw_c6.1, lw_c6.2, lw_t5 149 rfl, lw_t5 150 rfl⟩
theorem lw_p28 : lw_okq (⟨"HotThrough$Rester", "isLess", "(I)Z"⟩, 11) := ⟨lw_c6.1, lw_c6.2, lw_t5 153 rfl, lw_t5 154 rfl⟩
theorem lw_p29 : lw_okq (⟨"HotThrough$Rester", "goOn", "(II)V"⟩, 11) := ⟨lw_c6.1, lw_c6.2, lw_t5 158 rfl, lw_t5 159 rfl⟩
theorem lw_p30 : lw_okq (⟨"HotThrough", "areFree", "(I)Z"⟩, 15) := ⟨lw_c3.1, lw_c3.2, lw_t5 175 rfl, lw_t5 176 rfl⟩
theorem lw_p31 : lw_okq (⟨"HotThrough$Line", "measure", "(II)V"⟩, 7) := ⟨lw_c7.1, lw_c7.2, lw_t5 183 rfl, lw_t5 184 rfl⟩
def lw_privs_2 : List (MethodName × Nat) := [(⟨"HotThrough", "startRow", "()V"⟩, 15), (⟨"HotThrough", "tell", "(J)V"⟩, 15), (⟨"HotThrough$Acts", "readAct", "(LHotThrough$Text;I)V"⟩, 13), (⟨"HotThrough", "holds", "(I)Z"⟩, 15), (⟨"HotThrough$Carrier", "changeHands", "()V"⟩, 13), (⟨"HotThrough", "mayHold", "(III)Z"⟩, 15), (⟨"HotThrough$Paths", "spread", "(II)Z"⟩, 9), (⟨"HotThrough$Paths", "relax", "(III)V"⟩, 9), (⟨"HotThrough$Paths", "trace", "(II)V"⟩, 9), (⟨"HotThrough$Paths", "nextFrom", "(I)I"⟩, 9), (⟨"HotThrough$Rester", "stop", "(II)V"⟩, 11), (⟨"HotThrough$Rester", "arrived", "(I)V"⟩, 11), (⟨"HotThrough$Rester", "isLess", "(I)Z"⟩, 11), (⟨"HotThrough$Rester", "goOn", "(II)V"⟩, 11), (⟨"HotThrough", "areFree", "(I)Z"⟩, 15), (⟨"HotThrough$Line", "measure", "(II)V"⟩, 7)]
theorem lw_r2 : ∀ q ∈ lw_privs_2, lw_okq q := List.forall_mem_cons.mpr ⟨lw_p16, List.forall_mem_cons.mpr ⟨lw_p17, List.forall_mem_cons.mpr ⟨lw_p18, List.forall_mem_cons.mpr ⟨lw_p19, List.forall_mem_cons.mpr ⟨lw_p20, List.forall_mem_cons.mpr ⟨lw_p21, List.forall_mem_cons.mpr ⟨lw_p22, List.forall_mem_cons.mpr ⟨lw_p23, List.forall_mem_cons.mpr ⟨lw_p24, List.forall_mem_cons.mpr ⟨lw_p25, List.forall_mem_cons.mpr ⟨lw_p26, List.forall_mem_cons.mpr ⟨lw_p27, List.forall_mem_cons.mpr ⟨lw_p28, List.forall_mem_cons.mpr ⟨lw_p29, List.forall_mem_cons.mpr ⟨lw_p30, List.forall_mem_cons.mpr ⟨lw_p31, fun _ h => absurd h List.not_mem_nil⟩⟩⟩⟩⟩⟩⟩⟩⟩⟩⟩⟩⟩⟩⟩⟩
theorem lw_p32 : lw_okq (⟨"HotThrough$Line", "covers", "(IIIII)Z"⟩, 7) := ⟨lw_c7.1, lw_c7.2, lw_t5 190 rfl, lw_t5 191 rfl⟩
theorem lw_p33 : lw_okq (⟨"HotThrough", "areOnPlaces", "(I)Z"⟩, 15) := ⟨lw_c3.1, lw_c3.2, lw_t5 198 rfl, lw_t5 199 rfl⟩
theorem lw_p34 : lw_okq (⟨"HotThrough$Dishes", "measure", "(II)Z"⟩, 13) := ⟨lw_c8.1, lw_c8.2, lw_t5 207 rfl, lw_t5 208 rfl⟩
theorem lw_p35 : lw_okq (⟨"HotThrough$Dishes", "bring", "(III)V"⟩, 13) := ⟨lw_c8.1, lw_c8.2, lw_t5 213 rfl, lw_t5 214 rfl⟩
theorem lw_p36 : lw_okq (⟨"HotThrough$Dishes", "arrived", "(I)V"⟩, 13) := ⟨lw_c8.1, lw_c8.2, lw_t5 217 rfl, lw_t5 218 rfl⟩
theorem lw_p37 : lw_okq (⟨"HotThrough$Marks", "visit", "(III)V"⟩, 11) := ⟨lw_c9.1, lw_c9.2, lw_t6 12 rfl, lw_t6 13 rfl⟩
theorem lw_p38 : lw_okq (⟨"HotThrough$Marks", "arrived", "(I)V"⟩, 11) := ⟨lw_c9.1, lw_c9.2, lw_t6 17 rfl, lw_t6 18 rfl⟩
theorem lw_p39 : lw_okq (⟨"HotThrough$Marks", "visitBy", "(III)V"⟩, 11) := ⟨lw_c9.1, lw_c9.2, lw_t6 22 rfl, lw_t6 23 rfl⟩
theorem lw_p40 : lw_okq (⟨"java/lang/Throwable", "fillInStackTrace", "(I)Ljava/lang/Throwable;"⟩, 6) := ⟨lw_c10.1, lw_c10.2, lw_t6 92 rfl, lw_t6 93 rfl⟩
theorem lw_p41 : lw_okq (⟨"HotThrough", "throughNext", "(I)I"⟩, 15) := ⟨lw_c3.1, lw_c3.2, lw_t6 154 rfl, lw_t6 155 rfl⟩
theorem lw_p42 : lw_okq (⟨"HotThroughModel", "begins", "(I)I"⟩, 72) := ⟨lw_c11.1, lw_c11.2, lw_t7 165 rfl, lw_t7 166 rfl⟩
theorem lw_p43 : lw_okq (⟨"HotThroughModel", "readsLine", "()Z"⟩, 72) := ⟨lw_c11.1, lw_c11.2, lw_t7 170 rfl, lw_t7 171 rfl⟩
theorem lw_p44 : lw_okq (⟨"HotThroughModel", "among", "(Ljava/lang/String;)I"⟩, 72) := ⟨lw_c11.1, lw_c11.2, lw_t7 175 rfl, lw_t7 176 rfl⟩
theorem lw_p45 : lw_okq (⟨"HotThroughModel", "readsPlace", "()Z"⟩, 72) := ⟨lw_c11.1, lw_c11.2, lw_t7 227 rfl, lw_t7 228 rfl⟩
theorem lw_p46 : lw_okq (⟨"HotThroughModel", "takesOf", "(Ljava/lang/String;)I"⟩, 72) := ⟨lw_c11.1, lw_c11.2, lw_t7 232 rfl, lw_t7 233 rfl⟩
theorem lw_p47 : lw_okq (⟨"HotThroughModel", "readsWay", "()Z"⟩, 72) := ⟨lw_c11.1, lw_c11.2, lw_t7 239 rfl, lw_t8 0 rfl⟩
def lw_privs_3 : List (MethodName × Nat) := [(⟨"HotThrough$Line", "covers", "(IIIII)Z"⟩, 7), (⟨"HotThrough", "areOnPlaces", "(I)Z"⟩, 15), (⟨"HotThrough$Dishes", "measure", "(II)Z"⟩, 13), (⟨"HotThrough$Dishes", "bring", "(III)V"⟩, 13), (⟨"HotThrough$Dishes", "arrived", "(I)V"⟩, 13), (⟨"HotThrough$Marks", "visit", "(III)V"⟩, 11), (⟨"HotThrough$Marks", "arrived", "(I)V"⟩, 11), (⟨"HotThrough$Marks", "visitBy", "(III)V"⟩, 11), (⟨"java/lang/Throwable", "fillInStackTrace", "(I)Ljava/lang/Throwable;"⟩, 6), (⟨"HotThrough", "throughNext", "(I)I"⟩, 15), (⟨"HotThroughModel", "begins", "(I)I"⟩, 72), (⟨"HotThroughModel", "readsLine", "()Z"⟩, 72), (⟨"HotThroughModel", "among", "(Ljava/lang/String;)I"⟩, 72), (⟨"HotThroughModel", "readsPlace", "()Z"⟩, 72), (⟨"HotThroughModel", "takesOf", "(Ljava/lang/String;)I"⟩, 72), (⟨"HotThroughModel", "readsWay", "()Z"⟩, 72)]
theorem lw_r3 : ∀ q ∈ lw_privs_3, lw_okq q := List.forall_mem_cons.mpr ⟨lw_p32, List.forall_mem_cons.mpr ⟨lw_p33, List.forall_mem_cons.mpr ⟨lw_p34, List.forall_mem_cons.mpr ⟨lw_p35, List.forall_mem_cons.mpr ⟨lw_p36, List.forall_mem_cons.mpr ⟨lw_p37, List.forall_mem_cons.mpr ⟨lw_p38, List.forall_mem_cons.mpr ⟨lw_p39, List.forall_mem_cons.mpr ⟨lw_p40, List.forall_mem_cons.mpr ⟨lw_p41, List.forall_mem_cons.mpr ⟨lw_p42, List.forall_mem_cons.mpr ⟨lw_p43, List.forall_mem_cons.mpr ⟨lw_p44, List.forall_mem_cons.mpr ⟨lw_p45, List.forall_mem_cons.mpr ⟨lw_p46, List.forall_mem_cons.mpr ⟨lw_p47, fun _ h => absurd h List.not_mem_nil⟩⟩⟩⟩⟩⟩⟩⟩⟩⟩⟩⟩⟩⟩⟩⟩
theorem lw_p48 : lw_okq (⟨"HotThroughModel", "letter", "()I"⟩, 72) := ⟨lw_c11.1, lw_c11.2, lw_t8 3 rfl, lw_t8 4 rfl⟩
theorem lw_p49 : lw_okq (⟨"HotThroughModel", "takes", "(I)Z"⟩, 72) := ⟨lw_c11.1, lw_c11.2, lw_t8 8 rfl, lw_t8 9 rfl⟩
theorem lw_p50 : lw_okq (⟨"HotThroughModel", "readsPot", "()Z"⟩, 72) := ⟨lw_c11.1, lw_c11.2, lw_t8 12 rfl, lw_t8 13 rfl⟩
theorem lw_p51 : lw_okq (⟨"HotThroughModel", "number", "(I)I"⟩, 72) := ⟨lw_c11.1, lw_c11.2, lw_t8 16 rfl, lw_t8 17 rfl⟩
theorem lw_p52 : lw_okq (⟨"HotThroughModel", "isDigit", "()Z"⟩, 72) := ⟨lw_c11.1, lw_c11.2, lw_t8 20 rfl, lw_t8 21 rfl⟩
theorem lw_p53 : lw_okq (⟨"HotThroughModel", "kindOf", "(I)I"⟩, 72) := ⟨lw_c11.1, lw_c11.2, lw_t8 26 rfl, lw_t8 27 rfl⟩
theorem lw_p54 : lw_okq (⟨"HotThroughModel", "readsOne", "()Z"⟩, 72) := ⟨lw_c11.1, lw_c11.2, lw_t8 30 rfl, lw_t8 31 rfl⟩
theorem lw_p55 : lw_okq (⟨"HotThroughModel", "faultOf", "(IIZ)I"⟩, 72) := ⟨lw_c11.1, lw_c11.2, lw_t8 34 rfl, lw_t8 35 rfl⟩
theorem lw_p56 : lw_okq (⟨"HotThroughModel", "readsRank", "(I)Z"⟩, 72) := ⟨lw_c11.1, lw_c11.2, lw_t8 46 rfl, lw_t8 47 rfl⟩
theorem lw_p57 : lw_okq (⟨"HotThroughModel", "readsThing", "()Z"⟩, 72) := ⟨lw_c11.1, lw_c11.2, lw_t8 50 rfl, lw_t8 51 rfl⟩
theorem lw_p58 : lw_okq (⟨"HotThroughModel", "codes", "(I)V"⟩, 72) := ⟨lw_c11.1, lw_c11.2, lw_t8 54 rfl, lw_t8 55 rfl⟩
theorem lw_p59 : lw_okq (⟨"HotThroughModel", "isPlace", "(I)Z"⟩, 72) := ⟨lw_c11.1, lw_c11.2, lw_t8 66 rfl, lw_t8 67 rfl⟩
theorem lw_p60 : lw_okq (⟨"HotThroughModel", "refuse", "()I"⟩, 72) := ⟨lw_c11.1, lw_c11.2, lw_t8 71 rfl, lw_t8 72 rfl⟩
theorem lw_p61 : lw_okq (⟨"HotThroughModel", "isWay", "(I)Z"⟩, 72) := ⟨lw_c11.1, lw_c11.2, lw_t8 79 rfl, lw_t8 80 rfl⟩
theorem lw_p62 : lw_okq (⟨"HotThroughModel", "isOpen", "(I)Z"⟩, 72) := ⟨lw_c11.1, lw_c11.2, lw_t8 83 rfl, lw_t8 84 rfl⟩
theorem lw_p63 : lw_okq (⟨"HotThroughModel", "isPot", "(I)Z"⟩, 72) := ⟨lw_c11.1, lw_c11.2, lw_t8 94 rfl, lw_t8 95 rfl⟩
def lw_privs_4 : List (MethodName × Nat) := [(⟨"HotThroughModel", "letter", "()I"⟩, 72), (⟨"HotThroughModel", "takes", "(I)Z"⟩, 72), (⟨"HotThroughModel", "readsPot", "()Z"⟩, 72), (⟨"HotThroughModel", "number", "(I)I"⟩, 72), (⟨"HotThroughModel", "isDigit", "()Z"⟩, 72), (⟨"HotThroughModel", "kindOf", "(I)I"⟩, 72), (⟨"HotThroughModel", "readsOne", "()Z"⟩, 72), (⟨"HotThroughModel", "faultOf", "(IIZ)I"⟩, 72), (⟨"HotThroughModel", "readsRank", "(I)Z"⟩, 72), (⟨"HotThroughModel", "readsThing", "()Z"⟩, 72), (⟨"HotThroughModel", "codes", "(I)V"⟩, 72), (⟨"HotThroughModel", "isPlace", "(I)Z"⟩, 72), (⟨"HotThroughModel", "refuse", "()I"⟩, 72), (⟨"HotThroughModel", "isWay", "(I)Z"⟩, 72), (⟨"HotThroughModel", "isOpen", "(I)Z"⟩, 72), (⟨"HotThroughModel", "isPot", "(I)Z"⟩, 72)]
theorem lw_r4 : ∀ q ∈ lw_privs_4, lw_okq q := List.forall_mem_cons.mpr ⟨lw_p48, List.forall_mem_cons.mpr ⟨lw_p49, List.forall_mem_cons.mpr ⟨lw_p50, List.forall_mem_cons.mpr ⟨lw_p51, List.forall_mem_cons.mpr ⟨lw_p52, List.forall_mem_cons.mpr ⟨lw_p53, List.forall_mem_cons.mpr ⟨lw_p54, List.forall_mem_cons.mpr ⟨lw_p55, List.forall_mem_cons.mpr ⟨lw_p56, List.forall_mem_cons.mpr ⟨lw_p57, List.forall_mem_cons.mpr ⟨lw_p58, List.forall_mem_cons.mpr ⟨lw_p59, List.forall_mem_cons.mpr ⟨lw_p60, List.forall_mem_cons.mpr ⟨lw_p61, List.forall_mem_cons.mpr ⟨lw_p62, List.forall_mem_cons.mpr ⟨lw_p63, fun _ h => absurd h List.not_mem_nil⟩⟩⟩⟩⟩⟩⟩⟩⟩⟩⟩⟩⟩⟩⟩⟩
theorem lw_p64 : lw_okq (⟨"HotThroughModel", "holder", "(I)I"⟩, 72) := ⟨lw_c11.1, lw_c11.2, lw_t8 99 rfl, lw_t8 100 rfl⟩
theorem lw_p65 : lw_okq (⟨"HotThroughModel", "holds", "(I)I"⟩, 72) := ⟨lw_c11.1, lw_c11.2, lw_t8 103 rfl, lw_t8 104 rfl⟩
theorem lw_p66 : lw_okq (⟨"HotThroughModel", "isPerson", "(I)Z"⟩, 72) := ⟨lw_c11.1, lw_c11.2, lw_t8 111 rfl, lw_t8 112 rfl⟩
theorem lw_p67 : lw_okq (⟨"HotThroughModel", "throughOf", "([II)I"⟩, 72) := ⟨lw_c11.1, lw_c11.2, lw_t8 116 rfl, lw_t8 117 rfl⟩
theorem lw_p68 : lw_okq (⟨"HotThroughModel", "throughBy", "(IIIIIII)I"⟩, 72) := ⟨lw_c11.1, lw_c11.2, lw_t8 120 rfl, lw_t8 121 rfl⟩
theorem lw_p69 : lw_okq (⟨"HotThroughModel", "through", "()I"⟩, 72) := ⟨lw_c11.1, lw_c11.2, lw_t8 124 rfl, lw_t8 125 rfl⟩
theorem lw_p70 : lw_okq (⟨"HotThroughModel", "isThere", "(I)Z"⟩, 72) := ⟨lw_c11.1, lw_c11.2, lw_t8 136 rfl, lw_t8 137 rfl⟩
theorem lw_p71 : lw_okq (⟨"HotThroughModel", "putsBy", "()V"⟩, 72) := ⟨lw_c11.1, lw_c11.2, lw_t8 153 rfl, lw_t8 154 rfl⟩
theorem lw_p72 : lw_okq (⟨"HotThroughModel", "takesPot", "(II)I"⟩, 72) := ⟨lw_c11.1, lw_c11.2, lw_t8 157 rfl, lw_t8 158 rfl⟩
theorem lw_p73 : lw_okq (⟨"HotThroughModel", "counts", "(I)I"⟩, 72) := ⟨lw_c11.1, lw_c11.2, lw_t8 161 rfl, lw_t8 162 rfl⟩
theorem lw_p74 : lw_okq (⟨"HotThroughModel", "adds", "(I)I"⟩, 72) := ⟨lw_c11.1, lw_c11.2, lw_t8 165 rfl, lw_t8 166 rfl⟩
theorem lw_p75 : lw_okq (⟨"HotThroughModel", "setsDown", "(I)I"⟩, 72) := ⟨lw_c11.1, lw_c11.2, lw_t8 173 rfl, lw_t8 174 rfl⟩
theorem lw_p76 : lw_okq (⟨"HotThroughModel", "startsCounting", "()V"⟩, 72) := ⟨lw_c11.1, lw_c11.2, lw_t8 181 rfl, lw_t8 182 rfl⟩
theorem lw_p77 : lw_okq (⟨"HotThroughModel", "walks", "(II)I"⟩, 72) := ⟨lw_c11.1, lw_c11.2, lw_t8 185 rfl, lw_t8 186 rfl⟩
theorem lw_p78 : lw_okq (⟨"HotThroughModel", "secondGoes", "([I)V"⟩, 72) := ⟨lw_c11.1, lw_c11.2, lw_t8 189 rfl, lw_t8 190 rfl⟩
theorem lw_p79 : lw_okq (⟨"HotThroughModel", "enters", "(J)V"⟩, 72) := ⟨lw_c11.1, lw_c11.2, lw_t8 193 rfl, lw_t8 194 rfl⟩
def lw_privs_5 : List (MethodName × Nat) := [(⟨"HotThroughModel", "holder", "(I)I"⟩, 72), (⟨"HotThroughModel", "holds", "(I)I"⟩, 72), (⟨"HotThroughModel", "isPerson", "(I)Z"⟩, 72), (⟨"HotThroughModel", "throughOf", "([II)I"⟩, 72), (⟨"HotThroughModel", "throughBy", "(IIIIIII)I"⟩, 72), (⟨"HotThroughModel", "through", "()I"⟩, 72), (⟨"HotThroughModel", "isThere", "(I)Z"⟩, 72), (⟨"HotThroughModel", "putsBy", "()V"⟩, 72), (⟨"HotThroughModel", "takesPot", "(II)I"⟩, 72), (⟨"HotThroughModel", "counts", "(I)I"⟩, 72), (⟨"HotThroughModel", "adds", "(I)I"⟩, 72), (⟨"HotThroughModel", "setsDown", "(I)I"⟩, 72), (⟨"HotThroughModel", "startsCounting", "()V"⟩, 72), (⟨"HotThroughModel", "walks", "(II)I"⟩, 72), (⟨"HotThroughModel", "secondGoes", "([I)V"⟩, 72), (⟨"HotThroughModel", "enters", "(J)V"⟩, 72)]
theorem lw_r5 : ∀ q ∈ lw_privs_5, lw_okq q := List.forall_mem_cons.mpr ⟨lw_p64, List.forall_mem_cons.mpr ⟨lw_p65, List.forall_mem_cons.mpr ⟨lw_p66, List.forall_mem_cons.mpr ⟨lw_p67, List.forall_mem_cons.mpr ⟨lw_p68, List.forall_mem_cons.mpr ⟨lw_p69, List.forall_mem_cons.mpr ⟨lw_p70, List.forall_mem_cons.mpr ⟨lw_p71, List.forall_mem_cons.mpr ⟨lw_p72, List.forall_mem_cons.mpr ⟨lw_p73, List.forall_mem_cons.mpr ⟨lw_p74, List.forall_mem_cons.mpr ⟨lw_p75, List.forall_mem_cons.mpr ⟨lw_p76, List.forall_mem_cons.mpr ⟨lw_p77, List.forall_mem_cons.mpr ⟨lw_p78, List.forall_mem_cons.mpr ⟨lw_p79, fun _ h => absurd h List.not_mem_nil⟩⟩⟩⟩⟩⟩⟩⟩⟩⟩⟩⟩⟩⟩⟩⟩
theorem lw_p80 : lw_okq (⟨"HotThroughModel", "passes", "(I)I"⟩, 72) := ⟨lw_c11.1, lw_c11.2, lw_t8 201 rfl, lw_t8 202 rfl⟩
theorem lw_p81 : lw_okq (⟨"HotThroughModel", "changesHand", "(I)I"⟩, 72) := ⟨lw_c11.1, lw_c11.2, lw_t8 210 rfl, lw_t8 211 rfl⟩
theorem lw_p82 : lw_okq (⟨"HotThroughModel", "gives", "(II)I"⟩, 72) := ⟨lw_c11.1, lw_c11.2, lw_t8 218 rfl, lw_t8 219 rfl⟩
theorem lw_p83 : lw_okq (⟨"HotThroughModel", "opens", "(II)I"⟩, 72) := ⟨lw_c11.1, lw_c11.2, lw_t8 231 rfl, lw_t8 232 rfl⟩
theorem lw_p84 : lw_okq (⟨"HotThroughModel", "readsAct", "()Z"⟩, 72) := ⟨lw_c11.1, lw_c11.2, lw_t9 0 rfl, lw_t9 1 rfl⟩
theorem lw_p85 : lw_okq (⟨"HotThroughModel", "does", "(I)Z"⟩, 72) := ⟨lw_c11.1, lw_c11.2, lw_t9 5 rfl, lw_t9 6 rfl⟩
theorem lw_p86 : lw_okq (⟨"HotThroughModel", "canHold", "(I)Z"⟩, 72) := ⟨lw_c11.1, lw_c11.2, lw_t9 13 rfl, lw_t9 14 rfl⟩
theorem lw_p87 : lw_okq (⟨"HotThroughModel", "holdsOut", "(II)I"⟩, 72) := ⟨lw_c11.1, lw_c11.2, lw_t9 17 rfl, lw_t9 18 rfl⟩
theorem lw_p88 : lw_okq (⟨"HotThroughModel", "canThink", "(III)Z"⟩, 72) := ⟨lw_c11.1, lw_c11.2, lw_t9 37 rfl, lw_t9 38 rfl⟩
theorem lw_p89 : lw_okq (⟨"HotThroughModel", "soloBegins", "(II)V"⟩, 72) := ⟨lw_c11.1, lw_c11.2, lw_t9 41 rfl, lw_t9 42 rfl⟩
theorem lw_p90 : lw_okq (⟨"HotThroughModel", "soloHolds", "(IIII)I"⟩, 72) := ⟨lw_c11.1, lw_c11.2, lw_t9 45 rfl, lw_t9 46 rfl⟩
theorem lw_p91 : lw_okq (⟨"HotThroughModel", "laysWay", "(II)Z"⟩, 72) := ⟨lw_c11.1, lw_c11.2, lw_t9 57 rfl, lw_t9 58 rfl⟩
theorem lw_p92 : lw_okq (⟨"HotThroughModel", "laysApart", "(I)V"⟩, 72) := ⟨lw_c11.1, lw_c11.2, lw_t9 61 rfl, lw_t9 62 rfl⟩
theorem lw_p93 : lw_okq (⟨"HotThroughModel", "stepsOfWay", "()I"⟩, 72) := ⟨lw_c11.1, lw_c11.2, lw_t9 66 rfl, lw_t9 67 rfl⟩
theorem lw_p94 : lw_okq (⟨"HotThroughModel", "legOf", "(I)I"⟩, 72) := ⟨lw_c11.1, lw_c11.2, lw_t9 78 rfl, lw_t9 79 rfl⟩
theorem lw_p95 : lw_okq (⟨"HotThroughModel", "fewestRests", "(II)I"⟩, 72) := ⟨lw_c11.1, lw_c11.2, lw_t9 87 rfl, lw_t9 88 rfl⟩
def lw_privs_6 : List (MethodName × Nat) := [(⟨"HotThroughModel", "passes", "(I)I"⟩, 72), (⟨"HotThroughModel", "changesHand", "(I)I"⟩, 72), (⟨"HotThroughModel", "gives", "(II)I"⟩, 72), (⟨"HotThroughModel", "opens", "(II)I"⟩, 72), (⟨"HotThroughModel", "readsAct", "()Z"⟩, 72), (⟨"HotThroughModel", "does", "(I)Z"⟩, 72), (⟨"HotThroughModel", "canHold", "(I)Z"⟩, 72), (⟨"HotThroughModel", "holdsOut", "(II)I"⟩, 72), (⟨"HotThroughModel", "canThink", "(III)Z"⟩, 72), (⟨"HotThroughModel", "soloBegins", "(II)V"⟩, 72), (⟨"HotThroughModel", "soloHolds", "(IIII)I"⟩, 72), (⟨"HotThroughModel", "laysWay", "(II)Z"⟩, 72), (⟨"HotThroughModel", "laysApart", "(I)V"⟩, 72), (⟨"HotThroughModel", "stepsOfWay", "()I"⟩, 72), (⟨"HotThroughModel", "legOf", "(I)I"⟩, 72), (⟨"HotThroughModel", "fewestRests", "(II)I"⟩, 72)]
theorem lw_r6 : ∀ q ∈ lw_privs_6, lw_okq q := List.forall_mem_cons.mpr ⟨lw_p80, List.forall_mem_cons.mpr ⟨lw_p81, List.forall_mem_cons.mpr ⟨lw_p82, List.forall_mem_cons.mpr ⟨lw_p83, List.forall_mem_cons.mpr ⟨lw_p84, List.forall_mem_cons.mpr ⟨lw_p85, List.forall_mem_cons.mpr ⟨lw_p86, List.forall_mem_cons.mpr ⟨lw_p87, List.forall_mem_cons.mpr ⟨lw_p88, List.forall_mem_cons.mpr ⟨lw_p89, List.forall_mem_cons.mpr ⟨lw_p90, List.forall_mem_cons.mpr ⟨lw_p91, List.forall_mem_cons.mpr ⟨lw_p92, List.forall_mem_cons.mpr ⟨lw_p93, List.forall_mem_cons.mpr ⟨lw_p94, List.forall_mem_cons.mpr ⟨lw_p95, fun _ h => absurd h List.not_mem_nil⟩⟩⟩⟩⟩⟩⟩⟩⟩⟩⟩⟩⟩⟩⟩⟩
theorem lw_p96 : lw_okq (⟨"HotThroughModel", "isAhead", "(II)Z"⟩, 72) := ⟨lw_c11.1, lw_c11.2, lw_t9 91 rfl, lw_t9 92 rfl⟩
theorem lw_p97 : lw_okq (⟨"HotThroughModel", "canRest", "(I)Z"⟩, 72) := ⟨lw_c11.1, lw_c11.2, lw_t9 99 rfl, lw_t9 100 rfl⟩
theorem lw_p98 : lw_okq (⟨"HotThroughModel", "carries", "(III)Z"⟩, 72) := ⟨lw_c11.1, lw_c11.2, lw_t9 103 rfl, lw_t9 104 rfl⟩
theorem lw_p99 : lw_okq (⟨"HotThroughModel", "soloRests", "(II)V"⟩, 72) := ⟨lw_c11.1, lw_c11.2, lw_t9 107 rfl, lw_t9 108 rfl⟩
theorem lw_p100 : lw_okq (⟨"HotThroughModel", "carriesOn", "(IIIIIII)V"⟩, 72) := ⟨lw_c11.1, lw_c11.2, lw_t9 119 rfl, lw_t9 120 rfl⟩
theorem lw_p101 : lw_okq (⟨"HotThroughModel", "brings", "(IIIIIIII)V"⟩, 72) := ⟨lw_c11.1, lw_c11.2, lw_t9 127 rfl, lw_t9 128 rfl⟩
theorem lw_p102 : lw_okq (⟨"HotThroughModel", "coolsAll", "(II)V"⟩, 72) := ⟨lw_c11.1, lw_c11.2, lw_t9 131 rfl, lw_t9 132 rfl⟩
theorem lw_p103 : lw_okq (⟨"HotThroughModel", "walksOn", "(IIIII)V"⟩, 72) := ⟨lw_c11.1, lw_c11.2, lw_t9 148 rfl, lw_t9 149 rfl⟩
theorem lw_p104 : lw_okq (⟨"HotThroughModel", "marksAt", "(II)I"⟩, 72) := ⟨lw_c11.1, lw_c11.2, lw_t9 152 rfl, lw_t9 153 rfl⟩
theorem lw_p105 : lw_okq (⟨"HotThroughModel", "isLess", "(I)Z"⟩, 72) := ⟨lw_c11.1, lw_c11.2, lw_t9 156 rfl, lw_t9 157 rfl⟩
theorem lw_p106 : lw_okq (⟨"HotThroughModel", "dropped", "()I"⟩, 72) := ⟨lw_c11.1, lw_c11.2, lw_t9 179 rfl, lw_t9 180 rfl⟩
theorem lw_p107 : lw_okq (⟨"HotThroughModel", "burntAll", "()I"⟩, 72) := ⟨lw_c11.1, lw_c11.2, lw_t9 183 rfl, lw_t9 184 rfl⟩
def lw_privs_7 : List (MethodName × Nat) := [(⟨"HotThroughModel", "isAhead", "(II)Z"⟩, 72), (⟨"HotThroughModel", "canRest", "(I)Z"⟩, 72), (⟨"HotThroughModel", "carries", "(III)Z"⟩, 72), (⟨"HotThroughModel", "soloRests", "(II)V"⟩, 72), (⟨"HotThroughModel", "carriesOn", "(IIIIIII)V"⟩, 72), (⟨"HotThroughModel", "brings", "(IIIIIIII)V"⟩, 72), (⟨"HotThroughModel", "coolsAll", "(II)V"⟩, 72), (⟨"HotThroughModel", "walksOn", "(IIIII)V"⟩, 72), (⟨"HotThroughModel", "marksAt", "(II)I"⟩, 72), (⟨"HotThroughModel", "isLess", "(I)Z"⟩, 72), (⟨"HotThroughModel", "dropped", "()I"⟩, 72), (⟨"HotThroughModel", "burntAll", "()I"⟩, 72)]
theorem lw_r7 : ∀ q ∈ lw_privs_7, lw_okq q := List.forall_mem_cons.mpr ⟨lw_p96, List.forall_mem_cons.mpr ⟨lw_p97, List.forall_mem_cons.mpr ⟨lw_p98, List.forall_mem_cons.mpr ⟨lw_p99, List.forall_mem_cons.mpr ⟨lw_p100, List.forall_mem_cons.mpr ⟨lw_p101, List.forall_mem_cons.mpr ⟨lw_p102, List.forall_mem_cons.mpr ⟨lw_p103, List.forall_mem_cons.mpr ⟨lw_p104, List.forall_mem_cons.mpr ⟨lw_p105, List.forall_mem_cons.mpr ⟨lw_p106, List.forall_mem_cons.mpr ⟨lw_p107, fun _ h => absurd h List.not_mem_nil⟩⟩⟩⟩⟩⟩⟩⟩⟩⟩⟩⟩
def lw_privs : List (MethodName × Nat) := lw_privs_1 ++ (lw_privs_2 ++ (lw_privs_3 ++ (lw_privs_4 ++ (lw_privs_5 ++ (lw_privs_6 ++ (lw_privs_7))))))
def lw_tbl : List Cond := k2_sels lw_privs ++ tables_1
theorem lw_privs_ok : ∀ q ∈ lw_privs, lw_okq q := by
  show ∀ q ∈ lw_privs_1 ++ (lw_privs_2 ++ (lw_privs_3 ++ (lw_privs_4 ++ (lw_privs_5 ++ (lw_privs_6 ++ (lw_privs_7)))))), lw_okq q
  exact List.forall_mem_append.mpr ⟨lw_r1, List.forall_mem_append.mpr ⟨lw_r2, List.forall_mem_append.mpr ⟨lw_r3, List.forall_mem_append.mpr ⟨lw_r4, List.forall_mem_append.mpr ⟨lw_r5, List.forall_mem_append.mpr ⟨lw_r6, lw_r7⟩⟩⟩⟩⟩⟩
-- ===== end of PART A; then your names; then what follows =====
