/-! the law, case by case -/
theorem case_25 {p : Program} {l : Launch} {e : Env} {s : State} {m : MethodId} {b L i : Nat} {below : List Frame} {meth : Method} {c : Code} {xs : Nat → Int32} {G : Geo} {cb wb : Nat} {m0 : Mem} (C : LCx p l s m meth c b L xs G) (h5 : i + 5 ≤ L) (hL : L ≤ 2560) (hm : JJ (cb + 1) m0) (fin : ∀ m9 : Mem, JJ cb m9 → LW p l e s m b below meth c G (T9 cb wb m9) (lv0 b G i) 1575 []) : LW p l e s m b below meth c G (T9 (cb + 1) (wb + 6) m0) (lv0 b G i) 1017 [] := by
  refine r_less ?_
  have d : Dec code [(1017, .aload_n 1, 1), (1018, .aload_n 0, 1), (1019, .iload 4, 2), (1021, .iconst 1, 1), (1022, .iadd, 1), (1023, .iaload, 1), (1024, .aload_n 0, 1), (1025, .iload 4, 2), (1027, .iconst 2, 1), (1028, .iadd, 1), (1029, .iaload, 1), (1030, .invokevirtual 136, 3), (1033, .aload_n 2, 1), (1034, .aload_n 0, 1), (1035, .iload 4, 2), (1037, .iconst 1, 1), (1038, .iadd, 1), (1039, .iaload, 1), (1040, .aload_n 0, 1), (1041, .iload 4, 2), (1043, .iconst 2, 1), (1044, .iadd, 1), (1045, .iaload, 1), (1046, .invokevirtual 139, 3), (1049, .if_icmp .eq 526, 3)] := decG_ok (by decide +kernel)
  have dt1 := d.2.2
  have dt2 := dt1.2.2
  have dt3 := dt2.2.2
  have dt4 := dt3.2.2
  have dt5 := dt4.2.2
  have dt6 := dt5.2.2
  have dt7 := dt6.2.2
  have dt8 := dt7.2.2
  have dt9 := dt8.2.2
  have dt10 := dt9.2.2
  have dt11 := dt10.2.2
  have dt12 := dt11.2.2
  have dt13 := dt12.2.2
  have dt14 := dt13.2.2
  have dt15 := dt14.2.2
  have dt16 := dt15.2.2
  have dt17 := dt16.2.2
  have dt18 := dt17.2.2
  have dt19 := dt18.2.2
  have dt20 := dt19.2.2
  have dt21 := dt20.2.2
  have dt22 := dt21.2.2
  have dt23 := dt22.2.2
  have dt24 := dt23.2.2
  refine r_al C 1 rfl d.1 ?_
  refine r_push C h5 hL (k := 1) (by decide) 0 4 rfl rfl dt1.1 dt2.1 dt3.1 dt4.1 dt5.1 ?_
  refine r_push C h5 hL (k := 2) (by decide) 0 4 rfl rfl dt6.1 dt7.1 dt8.1 dt9.1 dt10.1 ?_
  refine r_call C v_19_136 (a0 := 1) ⟨rfl, rfl⟩ ma_114 (es2 1 (xs (i + 1)) (xs (i + 2)) (by decide)) (ok2 1 (xs (i + 1)) (xs (i + 2))) (Nat.le_of_ble_eq_true rfl) (lv_1 _) (P := fun v m1 => Cl 230 249 [249, (xs (i + 1)).toInt, (xs (i + 2)).toInt] (fun w u' => ∃ m2, u' = S9 0 m2 ∧ JJ cb m2 ∧ w = v) (S9 0 m1)) (two_114 hm) dt11.1 ?_
  intro v m1 hv1 h1
  rw [encR_i (t := mRty 114) (Or.inl rfl)]
  refine r_al C 2 rfl dt12.1 ?_
  refine r_push C h5 hL (k := 1) (by decide) 0 4 rfl rfl dt13.1 dt14.1 dt15.1 dt16.1 dt17.1 ?_
  refine r_push C h5 hL (k := 2) (by decide) 0 4 rfl rfl dt18.1 dt19.1 dt20.1 dt21.1 dt22.1 ?_
  refine r_call C v_19_139 (a0 := 249) ⟨rfl, rfl⟩ ma_249 (es2 249 (xs (i + 1)) (xs (i + 2)) (by decide)) (ok2 249 (xs (i + 1)) (xs (i + 2))) (Nat.le_of_ble_eq_true rfl) (lv_249 _) (P := fun w m2 => JJ cb m2 ∧ w = v) h1 dt23.1 ?_
  intro w m2 hw1 h2
  rw [encR_i (t := mRty 249) (Or.inl rfl)]
  exact r_eq C dt24.1 (by decide) (by rw [h2.2]) (fin m2 h2.1)
theorem case_26 {p : Program} {l : Launch} {e : Env} {s : State} {m : MethodId} {b L i : Nat} {below : List Frame} {meth : Method} {c : Code} {xs : Nat → Int32} {G : Geo} {cb wb : Nat} {m0 : Mem} (C : LCx p l s m meth c b L xs G) (h5 : i + 5 ≤ L) (hL : L ≤ 2560) (hm : JJ (cb + 1) m0) (fin : ∀ m9 : Mem, JJ cb m9 → LW p l e s m b below meth c G (T9 cb wb m9) (lv0 b G i) 1575 []) : LW p l e s m b below meth c G (T9 (cb + 1) (wb + 6) m0) (lv0 b G i) 1054 [] := by
  refine r_less ?_
  have d : Dec code [(1054, .aload_n 1, 1), (1055, .aload_n 0, 1), (1056, .iload 4, 2), (1058, .iconst 1, 1), (1059, .iadd, 1), (1060, .iaload, 1), (1061, .aload_n 0, 1), (1062, .iload 4, 2), (1064, .iconst 2, 1), (1065, .iadd, 1), (1066, .iaload, 1), (1067, .invokevirtual 140, 3), (1070, .pop, 1), (1071, .aload_n 2, 1), (1072, .aload_n 0, 1), (1073, .iload 4, 2), (1075, .iconst 1, 1), (1076, .iadd, 1), (1077, .iaload, 1), (1078, .aload_n 0, 1), (1079, .iload 4, 2), (1081, .iconst 2, 1), (1082, .iadd, 1), (1083, .iaload, 1), (1084, .invokevirtual 143, 3), (1087, .pop, 1), (1088, .goto 487, 3)] := decG_ok (by decide +kernel)
  have dt1 := d.2.2
  have dt2 := dt1.2.2
  have dt3 := dt2.2.2
  have dt4 := dt3.2.2
  have dt5 := dt4.2.2
  have dt6 := dt5.2.2
  have dt7 := dt6.2.2
  have dt8 := dt7.2.2
  have dt9 := dt8.2.2
  have dt10 := dt9.2.2
  have dt11 := dt10.2.2
  have dt12 := dt11.2.2
  have dt13 := dt12.2.2
  have dt14 := dt13.2.2
  have dt15 := dt14.2.2
  have dt16 := dt15.2.2
  have dt17 := dt16.2.2
  have dt18 := dt17.2.2
  have dt19 := dt18.2.2
  have dt20 := dt19.2.2
  have dt21 := dt20.2.2
  have dt22 := dt21.2.2
  have dt23 := dt22.2.2
  have dt24 := dt23.2.2
  have dt25 := dt24.2.2
  have dt26 := dt25.2.2
  refine r_al C 1 rfl d.1 ?_
  refine r_push C h5 hL (k := 1) (by decide) 0 4 rfl rfl dt1.1 dt2.1 dt3.1 dt4.1 dt5.1 ?_
  refine r_push C h5 hL (k := 2) (by decide) 0 4 rfl rfl dt6.1 dt7.1 dt8.1 dt9.1 dt10.1 ?_
  refine r_call C v_19_140 (a0 := 1) ⟨rfl, rfl⟩ ma_120 (es2 1 (xs (i + 1)) (xs (i + 2)) (by decide)) (ok2 1 (xs (i + 1)) (xs (i + 2))) (Nat.le_of_ble_eq_true rfl) (lv_1 _) (P := fun v m1 => Cl 230 253 [249, (xs (i + 1)).toInt, (xs (i + 2)).toInt] (fun w u' => ∃ m2, u' = S9 0 m2 ∧ JJ cb m2) (S9 0 m1)) (two_120 hm) dt11.1 ?_
  intro v m1 hv1 h1
  rw [encR_i (t := mRty 120) (Or.inl rfl)]
  refine r_pop C dt12.1 rfl ?_
  refine r_al C 2 rfl dt13.1 ?_
  refine r_push C h5 hL (k := 1) (by decide) 0 4 rfl rfl dt14.1 dt15.1 dt16.1 dt17.1 dt18.1 ?_
  refine r_push C h5 hL (k := 2) (by decide) 0 4 rfl rfl dt19.1 dt20.1 dt21.1 dt22.1 dt23.1 ?_
  refine r_call C v_19_143 (a0 := 249) ⟨rfl, rfl⟩ ma_253 (es2 249 (xs (i + 1)) (xs (i + 2)) (by decide)) (ok2 249 (xs (i + 1)) (xs (i + 2))) (Nat.le_of_ble_eq_true rfl) (lv_249 _) (P := fun w m2 => JJ cb m2) h1 dt24.1 ?_
  intro w m2 hw1 h2
  rw [encR_i (t := mRty 253) (Or.inl rfl)]
  refine r_pop C dt25.1 rfl ?_
  exact r_go C (tgt := 1575) dt26.1 (by decide) (fin m2 h2)
theorem case_27 {p : Program} {l : Launch} {e : Env} {s : State} {m : MethodId} {b L i : Nat} {below : List Frame} {meth : Method} {c : Code} {xs : Nat → Int32} {G : Geo} {cb wb : Nat} {m0 : Mem} (C : LCx p l s m meth c b L xs G) (h5 : i + 5 ≤ L) (hL : L ≤ 2560) (hm : JJ (cb + 1) m0) (fin : ∀ m9 : Mem, JJ cb m9 → LW p l e s m b below meth c G (T9 cb wb m9) (lv0 b G i) 1575 []) : LW p l e s m b below meth c G (T9 (cb + 1) (wb + 6) m0) (lv0 b G i) 1091 [] := by
  refine r_less ?_
  have d : Dec code [(1091, .aload_n 1, 1), (1092, .aload_n 0, 1), (1093, .iload 4, 2), (1095, .iconst 1, 1), (1096, .iadd, 1), (1097, .iaload, 1), (1098, .aload_n 0, 1), (1099, .iload 4, 2), (1101, .iconst 2, 1), (1102, .iadd, 1), (1103, .iaload, 1), (1104, .invokevirtual 144, 3), (1107, .pop, 1), (1108, .aload_n 2, 1), (1109, .aload_n 0, 1), (1110, .iload 4, 2), (1112, .iconst 1, 1), (1113, .iadd, 1), (1114, .iaload, 1), (1115, .aload_n 0, 1), (1116, .iload 4, 2), (1118, .iconst 2, 1), (1119, .iadd, 1), (1120, .iaload, 1), (1121, .invokevirtual 147, 3), (1124, .pop, 1), (1125, .goto 450, 3)] := decG_ok (by decide +kernel)
  have dt1 := d.2.2
  have dt2 := dt1.2.2
  have dt3 := dt2.2.2
  have dt4 := dt3.2.2
  have dt5 := dt4.2.2
  have dt6 := dt5.2.2
  have dt7 := dt6.2.2
  have dt8 := dt7.2.2
  have dt9 := dt8.2.2
  have dt10 := dt9.2.2
  have dt11 := dt10.2.2
  have dt12 := dt11.2.2
  have dt13 := dt12.2.2
  have dt14 := dt13.2.2
  have dt15 := dt14.2.2
  have dt16 := dt15.2.2
  have dt17 := dt16.2.2
  have dt18 := dt17.2.2
  have dt19 := dt18.2.2
  have dt20 := dt19.2.2
  have dt21 := dt20.2.2
  have dt22 := dt21.2.2
  have dt23 := dt22.2.2
  have dt24 := dt23.2.2
  have dt25 := dt24.2.2
  have dt26 := dt25.2.2
  refine r_al C 1 rfl d.1 ?_
  refine r_push C h5 hL (k := 1) (by decide) 0 4 rfl rfl dt1.1 dt2.1 dt3.1 dt4.1 dt5.1 ?_
  refine r_push C h5 hL (k := 2) (by decide) 0 4 rfl rfl dt6.1 dt7.1 dt8.1 dt9.1 dt10.1 ?_
  refine r_call C v_19_144 (a0 := 1) ⟨rfl, rfl⟩ ma_122 (es2 1 (xs (i + 1)) (xs (i + 2)) (by decide)) (ok2 1 (xs (i + 1)) (xs (i + 2))) (Nat.le_of_ble_eq_true rfl) (lv_1 _) (P := fun v m1 => Cl 230 254 [249, (xs (i + 1)).toInt, (xs (i + 2)).toInt] (fun w u' => ∃ m2, u' = S9 0 m2 ∧ JJ cb m2) (S9 0 m1)) (two_122 hm) dt11.1 ?_
  intro v m1 hv1 h1
  rw [encR_i (t := mRty 122) (Or.inl rfl)]
  refine r_pop C dt12.1 rfl ?_
  refine r_al C 2 rfl dt13.1 ?_
  refine r_push C h5 hL (k := 1) (by decide) 0 4 rfl rfl dt14.1 dt15.1 dt16.1 dt17.1 dt18.1 ?_
  refine r_push C h5 hL (k := 2) (by decide) 0 4 rfl rfl dt19.1 dt20.1 dt21.1 dt22.1 dt23.1 ?_
  refine r_call C v_19_147 (a0 := 249) ⟨rfl, rfl⟩ ma_254 (es2 249 (xs (i + 1)) (xs (i + 2)) (by decide)) (ok2 249 (xs (i + 1)) (xs (i + 2))) (Nat.le_of_ble_eq_true rfl) (lv_249 _) (P := fun w m2 => JJ cb m2) h1 dt24.1 ?_
  intro w m2 hw1 h2
  rw [encR_i (t := mRty 254) (Or.inl rfl)]
  refine r_pop C dt25.1 rfl ?_
  exact r_go C (tgt := 1575) dt26.1 (by decide) (fin m2 h2)
theorem case_28 {p : Program} {l : Launch} {e : Env} {s : State} {m : MethodId} {b L i : Nat} {below : List Frame} {meth : Method} {c : Code} {xs : Nat → Int32} {G : Geo} {cb wb : Nat} {m0 : Mem} (C : LCx p l s m meth c b L xs G) (h5 : i + 5 ≤ L) (hL : L ≤ 2560) (hm : JJ (cb + 1) m0) (fin : ∀ m9 : Mem, JJ cb m9 → LW p l e s m b below meth c G (T9 cb wb m9) (lv0 b G i) 1575 []) : LW p l e s m b below meth c G (T9 (cb + 1) (wb + 6) m0) (lv0 b G i) 1128 [] := by
  refine r_less ?_
  have d : Dec code [(1128, .aload_n 1, 1), (1129, .aload_n 0, 1), (1130, .iload 4, 2), (1132, .iconst 1, 1), (1133, .iadd, 1), (1134, .iaload, 1), (1135, .aload_n 0, 1), (1136, .iload 4, 2), (1138, .iconst 2, 1), (1139, .iadd, 1), (1140, .iaload, 1), (1141, .aload_n 0, 1), (1142, .iload 4, 2), (1144, .iconst 3, 1), (1145, .iadd, 1), (1146, .iaload, 1), (1147, .invokevirtual 148, 3), (1150, .pop, 1), (1151, .aload_n 2, 1), (1152, .aload_n 0, 1), (1153, .iload 4, 2), (1155, .iconst 1, 1), (1156, .iadd, 1), (1157, .iaload, 1), (1158, .aload_n 0, 1), (1159, .iload 4, 2), (1161, .iconst 2, 1), (1162, .iadd, 1), (1163, .iaload, 1), (1164, .aload_n 0, 1), (1165, .iload 4, 2), (1167, .iconst 3, 1), (1168, .iadd, 1), (1169, .iaload, 1), (1170, .invokevirtual 151, 3), (1173, .pop, 1), (1174, .goto 401, 3)] := decG_ok (by decide +kernel)
  have dt1 := d.2.2
  have dt2 := dt1.2.2
  have dt3 := dt2.2.2
  have dt4 := dt3.2.2
  have dt5 := dt4.2.2
  have dt6 := dt5.2.2
  have dt7 := dt6.2.2
  have dt8 := dt7.2.2
  have dt9 := dt8.2.2
  have dt10 := dt9.2.2
  have dt11 := dt10.2.2
  have dt12 := dt11.2.2
  have dt13 := dt12.2.2
  have dt14 := dt13.2.2
  have dt15 := dt14.2.2
  have dt16 := dt15.2.2
  have dt17 := dt16.2.2
  have dt18 := dt17.2.2
  have dt19 := dt18.2.2
  have dt20 := dt19.2.2
  have dt21 := dt20.2.2
  have dt22 := dt21.2.2
  have dt23 := dt22.2.2
  have dt24 := dt23.2.2
  have dt25 := dt24.2.2
  have dt26 := dt25.2.2
  have dt27 := dt26.2.2
  have dt28 := dt27.2.2
  have dt29 := dt28.2.2
  have dt30 := dt29.2.2
  have dt31 := dt30.2.2
  have dt32 := dt31.2.2
  have dt33 := dt32.2.2
  have dt34 := dt33.2.2
  have dt35 := dt34.2.2
  have dt36 := dt35.2.2
  refine r_al C 1 rfl d.1 ?_
  refine r_push C h5 hL (k := 1) (by decide) 0 4 rfl rfl dt1.1 dt2.1 dt3.1 dt4.1 dt5.1 ?_
  refine r_push C h5 hL (k := 2) (by decide) 0 4 rfl rfl dt6.1 dt7.1 dt8.1 dt9.1 dt10.1 ?_
  refine r_push C h5 hL (k := 3) (by decide) 0 4 rfl rfl dt11.1 dt12.1 dt13.1 dt14.1 dt15.1 ?_
  refine r_call C v_19_148 (a0 := 1) ⟨rfl, rfl⟩ ma_123 (es3 1 (xs (i + 1)) (xs (i + 2)) (xs (i + 3)) (by decide)) (ok3 1 (xs (i + 1)) (xs (i + 2)) (xs (i + 3))) (Nat.le_of_ble_eq_true rfl) (lv_1 _) (P := fun v m1 => Cl 230 256 [249, (xs (i + 1)).toInt, (xs (i + 2)).toInt, (xs (i + 3)).toInt] (fun w u' => ∃ m2, u' = S9 0 m2 ∧ JJ cb m2) (S9 0 m1)) (two_123 hm) dt16.1 ?_
  intro v m1 hv1 h1
  rw [encR_i (t := mRty 123) (Or.inl rfl)]
  refine r_pop C dt17.1 rfl ?_
  refine r_al C 2 rfl dt18.1 ?_
  refine r_push C h5 hL (k := 1) (by decide) 0 4 rfl rfl dt19.1 dt20.1 dt21.1 dt22.1 dt23.1 ?_
  refine r_push C h5 hL (k := 2) (by decide) 0 4 rfl rfl dt24.1 dt25.1 dt26.1 dt27.1 dt28.1 ?_
  refine r_push C h5 hL (k := 3) (by decide) 0 4 rfl rfl dt29.1 dt30.1 dt31.1 dt32.1 dt33.1 ?_
  refine r_call C v_19_151 (a0 := 249) ⟨rfl, rfl⟩ ma_256 (es3 249 (xs (i + 1)) (xs (i + 2)) (xs (i + 3)) (by decide)) (ok3 249 (xs (i + 1)) (xs (i + 2)) (xs (i + 3))) (Nat.le_of_ble_eq_true rfl) (lv_249 _) (P := fun w m2 => JJ cb m2) h1 dt34.1 ?_
  intro w m2 hw1 h2
  rw [encR_i (t := mRty 256) (Or.inl rfl)]
  refine r_pop C dt35.1 rfl ?_
  exact r_go C (tgt := 1575) dt36.1 (by decide) (fin m2 h2)
theorem case_29 {p : Program} {l : Launch} {e : Env} {s : State} {m : MethodId} {b L i : Nat} {below : List Frame} {meth : Method} {c : Code} {xs : Nat → Int32} {G : Geo} {cb wb : Nat} {m0 : Mem} (C : LCx p l s m meth c b L xs G) (h5 : i + 5 ≤ L) (hL : L ≤ 2560) (hm : JJ (cb + 1) m0) (fin : ∀ m9 : Mem, JJ cb m9 → LW p l e s m b below meth c G (T9 cb wb m9) (lv0 b G i) 1575 []) : LW p l e s m b below meth c G (T9 (cb + 1) (wb + 6) m0) (lv0 b G i) 1177 [] := by
  refine r_less ?_
  have d : Dec code [(1177, .aload_n 1, 1), (1178, .aload_n 0, 1), (1179, .iload 4, 2), (1181, .iconst 1, 1), (1182, .iadd, 1), (1183, .iaload, 1), (1184, .aload_n 0, 1), (1185, .iload 4, 2), (1187, .iconst 2, 1), (1188, .iadd, 1), (1189, .iaload, 1), (1190, .invokevirtual 152, 3), (1193, .pop, 1), (1194, .aload_n 2, 1), (1195, .aload_n 0, 1), (1196, .iload 4, 2), (1198, .iconst 1, 1), (1199, .iadd, 1), (1200, .iaload, 1), (1201, .aload_n 0, 1), (1202, .iload 4, 2), (1204, .iconst 2, 1), (1205, .iadd, 1), (1206, .iaload, 1), (1207, .invokevirtual 155, 3), (1210, .pop, 1), (1211, .goto 364, 3)] := decG_ok (by decide +kernel)
  have dt1 := d.2.2
  have dt2 := dt1.2.2
  have dt3 := dt2.2.2
  have dt4 := dt3.2.2
  have dt5 := dt4.2.2
  have dt6 := dt5.2.2
  have dt7 := dt6.2.2
  have dt8 := dt7.2.2
  have dt9 := dt8.2.2
  have dt10 := dt9.2.2
  have dt11 := dt10.2.2
  have dt12 := dt11.2.2
  have dt13 := dt12.2.2
  have dt14 := dt13.2.2
  have dt15 := dt14.2.2
  have dt16 := dt15.2.2
  have dt17 := dt16.2.2
  have dt18 := dt17.2.2
  have dt19 := dt18.2.2
  have dt20 := dt19.2.2
  have dt21 := dt20.2.2
  have dt22 := dt21.2.2
  have dt23 := dt22.2.2
  have dt24 := dt23.2.2
  have dt25 := dt24.2.2
  have dt26 := dt25.2.2
  refine r_al C 1 rfl d.1 ?_
  refine r_push C h5 hL (k := 1) (by decide) 0 4 rfl rfl dt1.1 dt2.1 dt3.1 dt4.1 dt5.1 ?_
  refine r_push C h5 hL (k := 2) (by decide) 0 4 rfl rfl dt6.1 dt7.1 dt8.1 dt9.1 dt10.1 ?_
  refine r_call C v_19_152 (a0 := 1) ⟨rfl, rfl⟩ ma_130 (es2 1 (xs (i + 1)) (xs (i + 2)) (by decide)) (ok2 1 (xs (i + 1)) (xs (i + 2))) (Nat.le_of_ble_eq_true rfl) (lv_1 _) (P := fun v m1 => Cl 230 263 [249, (xs (i + 1)).toInt, (xs (i + 2)).toInt] (fun w u' => ∃ m2, u' = S9 0 m2 ∧ JJ cb m2) (S9 0 m1)) (two_130 hm) dt11.1 ?_
  intro v m1 hv1 h1
  rw [encR_i (t := mRty 130) (Or.inl rfl)]
  refine r_pop C dt12.1 rfl ?_
  refine r_al C 2 rfl dt13.1 ?_
  refine r_push C h5 hL (k := 1) (by decide) 0 4 rfl rfl dt14.1 dt15.1 dt16.1 dt17.1 dt18.1 ?_
  refine r_push C h5 hL (k := 2) (by decide) 0 4 rfl rfl dt19.1 dt20.1 dt21.1 dt22.1 dt23.1 ?_
  refine r_call C v_19_155 (a0 := 249) ⟨rfl, rfl⟩ ma_263 (es2 249 (xs (i + 1)) (xs (i + 2)) (by decide)) (ok2 249 (xs (i + 1)) (xs (i + 2))) (Nat.le_of_ble_eq_true rfl) (lv_249 _) (P := fun w m2 => JJ cb m2) h1 dt24.1 ?_
  intro w m2 hw1 h2
  rw [encR_i (t := mRty 263) (Or.inl rfl)]
  refine r_pop C dt25.1 rfl ?_
  exact r_go C (tgt := 1575) dt26.1 (by decide) (fin m2 h2)
theorem case_30 {p : Program} {l : Launch} {e : Env} {s : State} {m : MethodId} {b L i : Nat} {below : List Frame} {meth : Method} {c : Code} {xs : Nat → Int32} {G : Geo} {cb wb : Nat} {m0 : Mem} (C : LCx p l s m meth c b L xs G) (h5 : i + 5 ≤ L) (hL : L ≤ 2560) (hm : JJ (cb + 1) m0) (fin : ∀ m9 : Mem, JJ cb m9 → LW p l e s m b below meth c G (T9 cb wb m9) (lv0 b G i) 1575 []) : LW p l e s m b below meth c G (T9 (cb + 1) (wb + 6) m0) (lv0 b G i) 1214 [] := by
  refine r_less ?_
  have d : Dec code [(1214, .aload_n 1, 1), (1215, .aload_n 0, 1), (1216, .iload 4, 2), (1218, .iconst 1, 1), (1219, .iadd, 1), (1220, .iaload, 1), (1221, .aload_n 0, 1), (1222, .iload 4, 2), (1224, .iconst 2, 1), (1225, .iadd, 1), (1226, .iaload, 1), (1227, .aload_n 0, 1), (1228, .iload 4, 2), (1230, .iconst 3, 1), (1231, .iadd, 1), (1232, .iaload, 1), (1233, .invokevirtual 156, 3), (1236, .pop, 1), (1237, .aload_n 2, 1), (1238, .aload_n 0, 1), (1239, .iload 4, 2), (1241, .iconst 1, 1), (1242, .iadd, 1), (1243, .iaload, 1), (1244, .aload_n 0, 1), (1245, .iload 4, 2), (1247, .iconst 2, 1), (1248, .iadd, 1), (1249, .iaload, 1), (1250, .aload_n 0, 1), (1251, .iload 4, 2), (1253, .iconst 3, 1), (1254, .iadd, 1), (1255, .iaload, 1), (1256, .invokevirtual 159, 3), (1259, .pop, 1), (1260, .goto 315, 3)] := decG_ok (by decide +kernel)
  have dt1 := d.2.2
  have dt2 := dt1.2.2
  have dt3 := dt2.2.2
  have dt4 := dt3.2.2
  have dt5 := dt4.2.2
  have dt6 := dt5.2.2
  have dt7 := dt6.2.2
  have dt8 := dt7.2.2
  have dt9 := dt8.2.2
  have dt10 := dt9.2.2
  have dt11 := dt10.2.2
  have dt12 := dt11.2.2
  have dt13 := dt12.2.2
  have dt14 := dt13.2.2
  have dt15 := dt14.2.2
  have dt16 := dt15.2.2
  have dt17 := dt16.2.2
  have dt18 := dt17.2.2
  have dt19 := dt18.2.2
  have dt20 := dt19.2.2
  have dt21 := dt20.2.2
  have dt22 := dt21.2.2
  have dt23 := dt22.2.2
  have dt24 := dt23.2.2
  have dt25 := dt24.2.2
  have dt26 := dt25.2.2
  have dt27 := dt26.2.2
  have dt28 := dt27.2.2
  have dt29 := dt28.2.2
  have dt30 := dt29.2.2
  have dt31 := dt30.2.2
  have dt32 := dt31.2.2
  have dt33 := dt32.2.2
  have dt34 := dt33.2.2
  have dt35 := dt34.2.2
  have dt36 := dt35.2.2
  refine r_al C 1 rfl d.1 ?_
  refine r_push C h5 hL (k := 1) (by decide) 0 4 rfl rfl dt1.1 dt2.1 dt3.1 dt4.1 dt5.1 ?_
  refine r_push C h5 hL (k := 2) (by decide) 0 4 rfl rfl dt6.1 dt7.1 dt8.1 dt9.1 dt10.1 ?_
  refine r_push C h5 hL (k := 3) (by decide) 0 4 rfl rfl dt11.1 dt12.1 dt13.1 dt14.1 dt15.1 ?_
  refine r_call C v_19_156 (a0 := 1) ⟨rfl, rfl⟩ ma_131 (es3 1 (xs (i + 1)) (xs (i + 2)) (xs (i + 3)) (by decide)) (ok3 1 (xs (i + 1)) (xs (i + 2)) (xs (i + 3))) (Nat.le_of_ble_eq_true rfl) (lv_1 _) (P := fun v m1 => Cl 230 264 [249, (xs (i + 1)).toInt, (xs (i + 2)).toInt, (xs (i + 3)).toInt] (fun w u' => ∃ m2, u' = S9 0 m2 ∧ JJ cb m2) (S9 0 m1)) (two_131 hm) dt16.1 ?_
  intro v m1 hv1 h1
  rw [encR_i (t := mRty 131) (Or.inl rfl)]
  refine r_pop C dt17.1 rfl ?_
  refine r_al C 2 rfl dt18.1 ?_
  refine r_push C h5 hL (k := 1) (by decide) 0 4 rfl rfl dt19.1 dt20.1 dt21.1 dt22.1 dt23.1 ?_
  refine r_push C h5 hL (k := 2) (by decide) 0 4 rfl rfl dt24.1 dt25.1 dt26.1 dt27.1 dt28.1 ?_
  refine r_push C h5 hL (k := 3) (by decide) 0 4 rfl rfl dt29.1 dt30.1 dt31.1 dt32.1 dt33.1 ?_
  refine r_call C v_19_159 (a0 := 249) ⟨rfl, rfl⟩ ma_264 (es3 249 (xs (i + 1)) (xs (i + 2)) (xs (i + 3)) (by decide)) (ok3 249 (xs (i + 1)) (xs (i + 2)) (xs (i + 3))) (Nat.le_of_ble_eq_true rfl) (lv_249 _) (P := fun w m2 => JJ cb m2) h1 dt34.1 ?_
  intro w m2 hw1 h2
  rw [encR_i (t := mRty 264) (Or.inl rfl)]
  refine r_pop C dt35.1 rfl ?_
  exact r_go C (tgt := 1575) dt36.1 (by decide) (fin m2 h2)
theorem case_31 {p : Program} {l : Launch} {e : Env} {s : State} {m : MethodId} {b L i : Nat} {below : List Frame} {meth : Method} {c : Code} {xs : Nat → Int32} {G : Geo} {cb wb : Nat} {m0 : Mem} (C : LCx p l s m meth c b L xs G) (h5 : i + 5 ≤ L) (hL : L ≤ 2560) (hm : JJ (cb + 1) m0) (fin : ∀ m9 : Mem, JJ cb m9 → LW p l e s m b below meth c G (T9 cb wb m9) (lv0 b G i) 1575 []) : LW p l e s m b below meth c G (T9 (cb + 1) (wb + 6) m0) (lv0 b G i) 1263 [] := by
  refine r_less ?_
  have d : Dec code [(1263, .aload_n 1, 1), (1264, .aload_n 0, 1), (1265, .iload 4, 2), (1267, .iconst 1, 1), (1268, .iadd, 1), (1269, .iaload, 1), (1270, .aload_n 0, 1), (1271, .iload 4, 2), (1273, .iconst 2, 1), (1274, .iadd, 1), (1275, .iaload, 1), (1276, .aload_n 0, 1), (1277, .iload 4, 2), (1279, .iconst 3, 1), (1280, .iadd, 1), (1281, .iaload, 1), (1282, .aload_n 0, 1), (1283, .iload 4, 2), (1285, .iconst 4, 1), (1286, .iadd, 1), (1287, .iaload, 1), (1288, .invokevirtual 160, 3), (1291, .pop, 1), (1292, .aload_n 2, 1), (1293, .aload_n 0, 1), (1294, .iload 4, 2), (1296, .iconst 1, 1), (1297, .iadd, 1), (1298, .iaload, 1), (1299, .aload_n 0, 1), (1300, .iload 4, 2), (1302, .iconst 2, 1), (1303, .iadd, 1), (1304, .iaload, 1), (1305, .aload_n 0, 1), (1306, .iload 4, 2), (1308, .iconst 3, 1), (1309, .iadd, 1), (1310, .iaload, 1), (1311, .aload_n 0, 1), (1312, .iload 4, 2), (1314, .iconst 4, 1), (1315, .iadd, 1), (1316, .iaload, 1), (1317, .invokevirtual 163, 3), (1320, .pop, 1), (1321, .goto 254, 3)] := decG_ok (by decide +kernel)
  have dt1 := d.2.2
  have dt2 := dt1.2.2
  have dt3 := dt2.2.2
  have dt4 := dt3.2.2
  have dt5 := dt4.2.2
  have dt6 := dt5.2.2
  have dt7 := dt6.2.2
  have dt8 := dt7.2.2
  have dt9 := dt8.2.2
  have dt10 := dt9.2.2
  have dt11 := dt10.2.2
  have dt12 := dt11.2.2
  have dt13 := dt12.2.2
  have dt14 := dt13.2.2
  have dt15 := dt14.2.2
  have dt16 := dt15.2.2
  have dt17 := dt16.2.2
  have dt18 := dt17.2.2
  have dt19 := dt18.2.2
  have dt20 := dt19.2.2
  have dt21 := dt20.2.2
  have dt22 := dt21.2.2
  have dt23 := dt22.2.2
  have dt24 := dt23.2.2
  have dt25 := dt24.2.2
  have dt26 := dt25.2.2
  have dt27 := dt26.2.2
  have dt28 := dt27.2.2
  have dt29 := dt28.2.2
  have dt30 := dt29.2.2
  have dt31 := dt30.2.2
  have dt32 := dt31.2.2
  have dt33 := dt32.2.2
  have dt34 := dt33.2.2
  have dt35 := dt34.2.2
  have dt36 := dt35.2.2
  have dt37 := dt36.2.2
  have dt38 := dt37.2.2
  have dt39 := dt38.2.2
  have dt40 := dt39.2.2
  have dt41 := dt40.2.2
  have dt42 := dt41.2.2
  have dt43 := dt42.2.2
  have dt44 := dt43.2.2
  have dt45 := dt44.2.2
  have dt46 := dt45.2.2
  refine r_al C 1 rfl d.1 ?_
  refine r_push C h5 hL (k := 1) (by decide) 0 4 rfl rfl dt1.1 dt2.1 dt3.1 dt4.1 dt5.1 ?_
  refine r_push C h5 hL (k := 2) (by decide) 0 4 rfl rfl dt6.1 dt7.1 dt8.1 dt9.1 dt10.1 ?_
  refine r_push C h5 hL (k := 3) (by decide) 0 4 rfl rfl dt11.1 dt12.1 dt13.1 dt14.1 dt15.1 ?_
  refine r_push C h5 hL (k := 4) (by decide) 0 4 rfl rfl dt16.1 dt17.1 dt18.1 dt19.1 dt20.1 ?_
  refine r_call C v_19_160 (a0 := 1) ⟨rfl, rfl⟩ ma_136 (es4 1 (xs (i + 1)) (xs (i + 2)) (xs (i + 3)) (xs (i + 4)) (by decide)) (ok4 1 (xs (i + 1)) (xs (i + 2)) (xs (i + 3)) (xs (i + 4))) (Nat.le_of_ble_eq_true rfl) (lv_1 _) (P := fun v m1 => Cl 230 266 [249, (xs (i + 1)).toInt, (xs (i + 2)).toInt, (xs (i + 3)).toInt, (xs (i + 4)).toInt] (fun w u' => ∃ m2, u' = S9 0 m2 ∧ JJ cb m2) (S9 0 m1)) (two_136 (toInt_in _) hm) dt21.1 ?_
  intro v m1 hv1 h1
  rw [encR_i (t := mRty 136) (Or.inl rfl)]
  refine r_pop C dt22.1 rfl ?_
  refine r_al C 2 rfl dt23.1 ?_
  refine r_push C h5 hL (k := 1) (by decide) 0 4 rfl rfl dt24.1 dt25.1 dt26.1 dt27.1 dt28.1 ?_
  refine r_push C h5 hL (k := 2) (by decide) 0 4 rfl rfl dt29.1 dt30.1 dt31.1 dt32.1 dt33.1 ?_
  refine r_push C h5 hL (k := 3) (by decide) 0 4 rfl rfl dt34.1 dt35.1 dt36.1 dt37.1 dt38.1 ?_
  refine r_push C h5 hL (k := 4) (by decide) 0 4 rfl rfl dt39.1 dt40.1 dt41.1 dt42.1 dt43.1 ?_
  refine r_call C v_19_163 (a0 := 249) ⟨rfl, rfl⟩ ma_266 (es4 249 (xs (i + 1)) (xs (i + 2)) (xs (i + 3)) (xs (i + 4)) (by decide)) (ok4 249 (xs (i + 1)) (xs (i + 2)) (xs (i + 3)) (xs (i + 4))) (Nat.le_of_ble_eq_true rfl) (lv_249 _) (P := fun w m2 => JJ cb m2) h1 dt44.1 ?_
  intro w m2 hw1 h2
  rw [encR_i (t := mRty 266) (Or.inl rfl)]
  refine r_pop C dt45.1 rfl ?_
  exact r_go C (tgt := 1575) dt46.1 (by decide) (fin m2 h2)
