/-! the law, case by case -/
theorem case_32 {p : Program} {l : Launch} {e : Env} {s : State} {m : MethodId} {b L i : Nat} {below : List Frame} {meth : Method} {c : Code} {xs : Nat → Int32} {G : Geo} {cb wb : Nat} {m0 : Mem} (C : LCx p l s m meth c b L xs G) (h5 : i + 5 ≤ L) (hL : L ≤ 2560) (hm : JJ (cb + 1) m0) (fin : ∀ m9 : Mem, JJ cb m9 → LW p l e s m b below meth c G (T9 cb wb m9) (lv0 b G i) 1575 []) : LW p l e s m b below meth c G (T9 (cb + 1) (wb + 6) m0) (lv0 b G i) 1324 [] := by
  refine r_less ?_
  have d : Dec code [(1324, .aload_n 1, 1), (1325, .aload_n 0, 1), (1326, .iload 4, 2), (1328, .iconst 1, 1), (1329, .iadd, 1), (1330, .iaload, 1), (1331, .aload_n 0, 1), (1332, .iload 4, 2), (1334, .iconst 2, 1), (1335, .iadd, 1), (1336, .iaload, 1), (1337, .invokevirtual 164, 3), (1340, .pop, 1), (1341, .aload_n 2, 1), (1342, .aload_n 0, 1), (1343, .iload 4, 2), (1345, .iconst 1, 1), (1346, .iadd, 1), (1347, .iaload, 1), (1348, .aload_n 0, 1), (1349, .iload 4, 2), (1351, .iconst 2, 1), (1352, .iadd, 1), (1353, .iaload, 1), (1354, .invokevirtual 167, 3), (1357, .pop, 1), (1358, .goto 217, 3)] := decG_ok (by decide +kernel)
  have dt1 := d.2.2
  have dt2 := dt1.2.2
  have dt3 := dt2.2.2
  have dt4 := dt3.2.2
  have dt5 := dt4.2.2
  have dt6 := dt5.2.2
  have dt7 := dt6.2.2
  have dt8 := dt7.2.2
  have dt9 := dt8.2.2
  have dt10 := dt9.2.2
  have dt11 := dt10.2.2
  have dt12 := dt11.2.2
  have dt13 := dt12.2.2
  have dt14 := dt13.2.2
  have dt15 := dt14.2.2
  have dt16 := dt15.2.2
  have dt17 := dt16.2.2
  have dt18 := dt17.2.2
  have dt19 := dt18.2.2
  have dt20 := dt19.2.2
  have dt21 := dt20.2.2
  have dt22 := dt21.2.2
  have dt23 := dt22.2.2
  have dt24 := dt23.2.2
  have dt25 := dt24.2.2
  have dt26 := dt25.2.2
  refine r_al C 1 rfl d.1 ?_
  refine r_push C h5 hL (k := 1) (by decide) 0 4 rfl rfl dt1.1 dt2.1 dt3.1 dt4.1 dt5.1 ?_
  refine r_push C h5 hL (k := 2) (by decide) 0 4 rfl rfl dt6.1 dt7.1 dt8.1 dt9.1 dt10.1 ?_
  refine r_call C v_19_164 (a0 := 1) ⟨rfl, rfl⟩ ma_143 (es2 1 (xs (i + 1)) (xs (i + 2)) (by decide)) (ok2 1 (xs (i + 1)) (xs (i + 2))) (Nat.le_of_ble_eq_true rfl) (lv_1 _) (P := fun v m1 => Cl 230 269 [249, (xs (i + 1)).toInt, (xs (i + 2)).toInt] (fun w u' => ∃ m2, u' = S9 0 m2 ∧ JJ cb m2) (S9 0 m1)) (two_143 hm) dt11.1 ?_
  intro v m1 hv1 h1
  rw [encR_i (t := mRty 143) (Or.inl rfl)]
  refine r_pop C dt12.1 rfl ?_
  refine r_al C 2 rfl dt13.1 ?_
  refine r_push C h5 hL (k := 1) (by decide) 0 4 rfl rfl dt14.1 dt15.1 dt16.1 dt17.1 dt18.1 ?_
  refine r_push C h5 hL (k := 2) (by decide) 0 4 rfl rfl dt19.1 dt20.1 dt21.1 dt22.1 dt23.1 ?_
  refine r_call C v_19_167 (a0 := 249) ⟨rfl, rfl⟩ ma_269 (es2 249 (xs (i + 1)) (xs (i + 2)) (by decide)) (ok2 249 (xs (i + 1)) (xs (i + 2))) (Nat.le_of_ble_eq_true rfl) (lv_249 _) (P := fun w m2 => JJ cb m2) h1 dt24.1 ?_
  intro w m2 hw1 h2
  rw [encR_i (t := mRty 269) (Or.inl rfl)]
  refine r_pop C dt25.1 rfl ?_
  exact r_go C (tgt := 1575) dt26.1 (by decide) (fin m2 h2)
theorem case_33 {p : Program} {l : Launch} {e : Env} {s : State} {m : MethodId} {b L i : Nat} {below : List Frame} {meth : Method} {c : Code} {xs : Nat → Int32} {G : Geo} {cb wb : Nat} {m0 : Mem} (C : LCx p l s m meth c b L xs G) (h5 : i + 5 ≤ L) (hL : L ≤ 2560) (hm : JJ (cb + 1) m0) (fin : ∀ m9 : Mem, JJ cb m9 → LW p l e s m b below meth c G (T9 cb wb m9) (lv0 b G i) 1575 []) : LW p l e s m b below meth c G (T9 (cb + 1) (wb + 6) m0) (lv0 b G i) 1361 [] := by
  refine r_less ?_
  have d : Dec code [(1361, .aload_n 1, 1), (1362, .invokevirtual 168, 3), (1365, .pop, 1), (1366, .aload_n 2, 1), (1367, .invokevirtual 171, 3), (1370, .pop, 1), (1371, .goto 204, 3)] := decG_ok (by decide +kernel)
  have dt1 := d.2.2
  have dt2 := dt1.2.2
  have dt3 := dt2.2.2
  have dt4 := dt3.2.2
  have dt5 := dt4.2.2
  have dt6 := dt5.2.2
  refine r_al C 1 rfl d.1 ?_
  refine r_call C v_19_168 (a0 := 1) ⟨rfl, rfl⟩ ma_145 (es0 1 (by decide)) (ok0 1) (Nat.le_of_ble_eq_true rfl) (lv_1 _) (P := fun v m1 => Cl 230 270 [249] (fun w u' => ∃ m2, u' = S9 0 m2 ∧ JJ cb m2) (S9 0 m1)) (two_145 hm) dt1.1 ?_
  intro v m1 hv1 h1
  rw [encR_i (t := mRty 145) (Or.inl rfl)]
  refine r_pop C dt2.1 rfl ?_
  refine r_al C 2 rfl dt3.1 ?_
  refine r_call C v_19_171 (a0 := 249) ⟨rfl, rfl⟩ ma_270 (es0 249 (by decide)) (ok0 249) (Nat.le_of_ble_eq_true rfl) (lv_249 _) (P := fun w m2 => JJ cb m2) h1 dt4.1 ?_
  intro w m2 hw1 h2
  rw [encR_i (t := mRty 270) (Or.inl rfl)]
  refine r_pop C dt5.1 rfl ?_
  exact r_go C (tgt := 1575) dt6.1 (by decide) (fin m2 h2)
theorem case_34 {p : Program} {l : Launch} {e : Env} {s : State} {m : MethodId} {b L i : Nat} {below : List Frame} {meth : Method} {c : Code} {xs : Nat → Int32} {G : Geo} {cb wb : Nat} {m0 : Mem} (C : LCx p l s m meth c b L xs G) (h5 : i + 5 ≤ L) (hL : L ≤ 2560) (hm : JJ (cb + 1) m0) (fin : ∀ m9 : Mem, JJ cb m9 → LW p l e s m b below meth c G (T9 cb wb m9) (lv0 b G i) 1575 []) : LW p l e s m b below meth c G (T9 (cb + 1) (wb + 6) m0) (lv0 b G i) 1374 [] := by
  refine r_less ?_
  have d : Dec code [(1374, .aload_n 1, 1), (1375, .aload_n 0, 1), (1376, .iload 4, 2), (1378, .iconst 1, 1), (1379, .iadd, 1), (1380, .iaload, 1), (1381, .aload_n 0, 1), (1382, .iload 4, 2), (1384, .iconst 2, 1), (1385, .iadd, 1), (1386, .iaload, 1), (1387, .invokevirtual 172, 3), (1390, .pop, 1), (1391, .aload_n 2, 1), (1392, .aload_n 0, 1), (1393, .iload 4, 2), (1395, .iconst 1, 1), (1396, .iadd, 1), (1397, .iaload, 1), (1398, .aload_n 0, 1), (1399, .iload 4, 2), (1401, .iconst 2, 1), (1402, .iadd, 1), (1403, .iaload, 1), (1404, .invokevirtual 175, 3), (1407, .pop, 1), (1408, .goto 167, 3)] := decG_ok (by decide +kernel)
  have dt1 := d.2.2
  have dt2 := dt1.2.2
  have dt3 := dt2.2.2
  have dt4 := dt3.2.2
  have dt5 := dt4.2.2
  have dt6 := dt5.2.2
  have dt7 := dt6.2.2
  have dt8 := dt7.2.2
  have dt9 := dt8.2.2
  have dt10 := dt9.2.2
  have dt11 := dt10.2.2
  have dt12 := dt11.2.2
  have dt13 := dt12.2.2
  have dt14 := dt13.2.2
  have dt15 := dt14.2.2
  have dt16 := dt15.2.2
  have dt17 := dt16.2.2
  have dt18 := dt17.2.2
  have dt19 := dt18.2.2
  have dt20 := dt19.2.2
  have dt21 := dt20.2.2
  have dt22 := dt21.2.2
  have dt23 := dt22.2.2
  have dt24 := dt23.2.2
  have dt25 := dt24.2.2
  have dt26 := dt25.2.2
  refine r_al C 1 rfl d.1 ?_
  refine r_push C h5 hL (k := 1) (by decide) 0 4 rfl rfl dt1.1 dt2.1 dt3.1 dt4.1 dt5.1 ?_
  refine r_push C h5 hL (k := 2) (by decide) 0 4 rfl rfl dt6.1 dt7.1 dt8.1 dt9.1 dt10.1 ?_
  refine r_call C v_19_172 (a0 := 1) ⟨rfl, rfl⟩ ma_146 (es2 1 (xs (i + 1)) (xs (i + 2)) (by decide)) (ok2 1 (xs (i + 1)) (xs (i + 2))) (Nat.le_of_ble_eq_true rfl) (lv_1 _) (P := fun v m1 => Cl 230 271 [249, (xs (i + 1)).toInt, (xs (i + 2)).toInt] (fun w u' => ∃ m2, u' = S9 0 m2 ∧ JJ cb m2) (S9 0 m1)) (two_146 hm) dt11.1 ?_
  intro v m1 hv1 h1
  rw [encR_i (t := mRty 146) (Or.inl rfl)]
  refine r_pop C dt12.1 rfl ?_
  refine r_al C 2 rfl dt13.1 ?_
  refine r_push C h5 hL (k := 1) (by decide) 0 4 rfl rfl dt14.1 dt15.1 dt16.1 dt17.1 dt18.1 ?_
  refine r_push C h5 hL (k := 2) (by decide) 0 4 rfl rfl dt19.1 dt20.1 dt21.1 dt22.1 dt23.1 ?_
  refine r_call C v_19_175 (a0 := 249) ⟨rfl, rfl⟩ ma_271 (es2 249 (xs (i + 1)) (xs (i + 2)) (by decide)) (ok2 249 (xs (i + 1)) (xs (i + 2))) (Nat.le_of_ble_eq_true rfl) (lv_249 _) (P := fun w m2 => JJ cb m2) h1 dt24.1 ?_
  intro w m2 hw1 h2
  rw [encR_i (t := mRty 271) (Or.inl rfl)]
  refine r_pop C dt25.1 rfl ?_
  exact r_go C (tgt := 1575) dt26.1 (by decide) (fin m2 h2)
theorem case_35 {p : Program} {l : Launch} {e : Env} {s : State} {m : MethodId} {b L i : Nat} {below : List Frame} {meth : Method} {c : Code} {xs : Nat → Int32} {G : Geo} {cb wb : Nat} {m0 : Mem} (C : LCx p l s m meth c b L xs G) (h5 : i + 5 ≤ L) (hL : L ≤ 2560) (hm : JJ (cb + 1) m0) (fin : ∀ m9 : Mem, JJ cb m9 → LW p l e s m b below meth c G (T9 cb wb m9) (lv0 b G i) 1575 []) : LW p l e s m b below meth c G (T9 (cb + 1) (wb + 6) m0) (lv0 b G i) 1411 [] := by
  refine r_less ?_
  have d : Dec code [(1411, .aload_n 1, 1), (1412, .aload_n 0, 1), (1413, .iload 4, 2), (1415, .iconst 1, 1), (1416, .iadd, 1), (1417, .iaload, 1), (1418, .aload_n 0, 1), (1419, .iload 4, 2), (1421, .iconst 2, 1), (1422, .iadd, 1), (1423, .iaload, 1), (1424, .aload_n 0, 1), (1425, .iload 4, 2), (1427, .iconst 3, 1), (1428, .iadd, 1), (1429, .iaload, 1), (1430, .aload_n 0, 1), (1431, .iload 4, 2), (1433, .iconst 4, 1), (1434, .iadd, 1), (1435, .iaload, 1), (1436, .invokevirtual 176, 3), (1439, .pop, 1), (1440, .aload_n 2, 1), (1441, .aload_n 0, 1), (1442, .iload 4, 2), (1444, .iconst 1, 1), (1445, .iadd, 1), (1446, .iaload, 1), (1447, .aload_n 0, 1), (1448, .iload 4, 2), (1450, .iconst 2, 1), (1451, .iadd, 1), (1452, .iaload, 1), (1453, .aload_n 0, 1), (1454, .iload 4, 2), (1456, .iconst 3, 1), (1457, .iadd, 1), (1458, .iaload, 1), (1459, .aload_n 0, 1), (1460, .iload 4, 2), (1462, .iconst 4, 1), (1463, .iadd, 1), (1464, .iaload, 1), (1465, .invokevirtual 179, 3), (1468, .pop, 1), (1469, .goto 106, 3)] := decG_ok (by decide +kernel)
  have dt1 := d.2.2
  have dt2 := dt1.2.2
  have dt3 := dt2.2.2
  have dt4 := dt3.2.2
  have dt5 := dt4.2.2
  have dt6 := dt5.2.2
  have dt7 := dt6.2.2
  have dt8 := dt7.2.2
  have dt9 := dt8.2.2
  have dt10 := dt9.2.2
  have dt11 := dt10.2.2
  have dt12 := dt11.2.2
  have dt13 := dt12.2.2
  have dt14 := dt13.2.2
  have dt15 := dt14.2.2
  have dt16 := dt15.2.2
  have dt17 := dt16.2.2
  have dt18 := dt17.2.2
  have dt19 := dt18.2.2
  have dt20 := dt19.2.2
  have dt21 := dt20.2.2
  have dt22 := dt21.2.2
  have dt23 := dt22.2.2
  have dt24 := dt23.2.2
  have dt25 := dt24.2.2
  have dt26 := dt25.2.2
  have dt27 := dt26.2.2
  have dt28 := dt27.2.2
  have dt29 := dt28.2.2
  have dt30 := dt29.2.2
  have dt31 := dt30.2.2
  have dt32 := dt31.2.2
  have dt33 := dt32.2.2
  have dt34 := dt33.2.2
  have dt35 := dt34.2.2
  have dt36 := dt35.2.2
  have dt37 := dt36.2.2
  have dt38 := dt37.2.2
  have dt39 := dt38.2.2
  have dt40 := dt39.2.2
  have dt41 := dt40.2.2
  have dt42 := dt41.2.2
  have dt43 := dt42.2.2
  have dt44 := dt43.2.2
  have dt45 := dt44.2.2
  have dt46 := dt45.2.2
  refine r_al C 1 rfl d.1 ?_
  refine r_push C h5 hL (k := 1) (by decide) 0 4 rfl rfl dt1.1 dt2.1 dt3.1 dt4.1 dt5.1 ?_
  refine r_push C h5 hL (k := 2) (by decide) 0 4 rfl rfl dt6.1 dt7.1 dt8.1 dt9.1 dt10.1 ?_
  refine r_push C h5 hL (k := 3) (by decide) 0 4 rfl rfl dt11.1 dt12.1 dt13.1 dt14.1 dt15.1 ?_
  refine r_push C h5 hL (k := 4) (by decide) 0 4 rfl rfl dt16.1 dt17.1 dt18.1 dt19.1 dt20.1 ?_
  refine r_call C v_19_176 (a0 := 1) ⟨rfl, rfl⟩ ma_151 (es4 1 (xs (i + 1)) (xs (i + 2)) (xs (i + 3)) (xs (i + 4)) (by decide)) (ok4 1 (xs (i + 1)) (xs (i + 2)) (xs (i + 3)) (xs (i + 4))) (Nat.le_of_ble_eq_true rfl) (lv_1 _) (P := fun v m1 => Cl 230 275 [249, (xs (i + 1)).toInt, (xs (i + 2)).toInt, (xs (i + 3)).toInt, (xs (i + 4)).toInt] (fun w u' => ∃ m2, u' = S9 0 m2 ∧ JJ cb m2) (S9 0 m1)) (two_151 hm) dt21.1 ?_
  intro v m1 hv1 h1
  rw [encR_i (t := mRty 151) (Or.inl rfl)]
  refine r_pop C dt22.1 rfl ?_
  refine r_al C 2 rfl dt23.1 ?_
  refine r_push C h5 hL (k := 1) (by decide) 0 4 rfl rfl dt24.1 dt25.1 dt26.1 dt27.1 dt28.1 ?_
  refine r_push C h5 hL (k := 2) (by decide) 0 4 rfl rfl dt29.1 dt30.1 dt31.1 dt32.1 dt33.1 ?_
  refine r_push C h5 hL (k := 3) (by decide) 0 4 rfl rfl dt34.1 dt35.1 dt36.1 dt37.1 dt38.1 ?_
  refine r_push C h5 hL (k := 4) (by decide) 0 4 rfl rfl dt39.1 dt40.1 dt41.1 dt42.1 dt43.1 ?_
  refine r_call C v_19_179 (a0 := 249) ⟨rfl, rfl⟩ ma_275 (es4 249 (xs (i + 1)) (xs (i + 2)) (xs (i + 3)) (xs (i + 4)) (by decide)) (ok4 249 (xs (i + 1)) (xs (i + 2)) (xs (i + 3)) (xs (i + 4))) (Nat.le_of_ble_eq_true rfl) (lv_249 _) (P := fun w m2 => JJ cb m2) h1 dt44.1 ?_
  intro w m2 hw1 h2
  rw [encR_i (t := mRty 275) (Or.inl rfl)]
  refine r_pop C dt45.1 rfl ?_
  exact r_go C (tgt := 1575) dt46.1 (by decide) (fin m2 h2)
theorem case_36 {p : Program} {l : Launch} {e : Env} {s : State} {m : MethodId} {b L i : Nat} {below : List Frame} {meth : Method} {c : Code} {xs : Nat → Int32} {G : Geo} {cb wb : Nat} {m0 : Mem} (C : LCx p l s m meth c b L xs G) (h5 : i + 5 ≤ L) (hL : L ≤ 2560) (hm : JJ (cb + 1) m0) (fin : ∀ m9 : Mem, JJ cb m9 → LW p l e s m b below meth c G (T9 cb wb m9) (lv0 b G i) 1575 []) : LW p l e s m b below meth c G (T9 (cb + 1) (wb + 6) m0) (lv0 b G i) 1472 [] := by
  refine r_less ?_
  have d : Dec code [(1472, .aload_n 1, 1), (1473, .aload_n 0, 1), (1474, .iload 4, 2), (1476, .iconst 1, 1), (1477, .iadd, 1), (1478, .iaload, 1), (1479, .invokevirtual 180, 3), (1482, .pop, 1), (1483, .aload_n 2, 1), (1484, .aload_n 0, 1), (1485, .iload 4, 2), (1487, .iconst 1, 1), (1488, .iadd, 1), (1489, .iaload, 1), (1490, .invokevirtual 183, 3), (1493, .pop, 1), (1494, .goto 81, 3)] := decG_ok (by decide +kernel)
  have dt1 := d.2.2
  have dt2 := dt1.2.2
  have dt3 := dt2.2.2
  have dt4 := dt3.2.2
  have dt5 := dt4.2.2
  have dt6 := dt5.2.2
  have dt7 := dt6.2.2
  have dt8 := dt7.2.2
  have dt9 := dt8.2.2
  have dt10 := dt9.2.2
  have dt11 := dt10.2.2
  have dt12 := dt11.2.2
  have dt13 := dt12.2.2
  have dt14 := dt13.2.2
  have dt15 := dt14.2.2
  have dt16 := dt15.2.2
  refine r_al C 1 rfl d.1 ?_
  refine r_push C h5 hL (k := 1) (by decide) 0 4 rfl rfl dt1.1 dt2.1 dt3.1 dt4.1 dt5.1 ?_
  refine r_call C v_19_180 (a0 := 1) ⟨rfl, rfl⟩ ma_152 (es1 1 (xs (i + 1)) (by decide)) (ok1 1 (xs (i + 1))) (Nat.le_of_ble_eq_true rfl) (lv_1 _) (P := fun v m1 => Cl 230 276 [249, (xs (i + 1)).toInt] (fun w u' => ∃ m2, u' = S9 0 m2 ∧ JJ cb m2) (S9 0 m1)) (two_152 hm) dt6.1 ?_
  intro v m1 hv1 h1
  rw [encR_i (t := mRty 152) (Or.inr rfl)]
  refine r_pop C dt7.1 rfl ?_
  refine r_al C 2 rfl dt8.1 ?_
  refine r_push C h5 hL (k := 1) (by decide) 0 4 rfl rfl dt9.1 dt10.1 dt11.1 dt12.1 dt13.1 ?_
  refine r_call C v_19_183 (a0 := 249) ⟨rfl, rfl⟩ ma_276 (es1 249 (xs (i + 1)) (by decide)) (ok1 249 (xs (i + 1))) (Nat.le_of_ble_eq_true rfl) (lv_249 _) (P := fun w m2 => JJ cb m2) h1 dt14.1 ?_
  intro w m2 hw1 h2
  rw [encR_i (t := mRty 276) (Or.inr rfl)]
  refine r_pop C dt15.1 rfl ?_
  exact r_go C (tgt := 1575) dt16.1 (by decide) (fin m2 h2)
theorem case_37 {p : Program} {l : Launch} {e : Env} {s : State} {m : MethodId} {b L i : Nat} {below : List Frame} {meth : Method} {c : Code} {xs : Nat → Int32} {G : Geo} {cb wb : Nat} {m0 : Mem} (C : LCx p l s m meth c b L xs G) (h5 : i + 5 ≤ L) (hL : L ≤ 2560) (hm : JJ (cb + 1) m0) (fin : ∀ m9 : Mem, JJ cb m9 → LW p l e s m b below meth c G (T9 cb wb m9) (lv0 b G i) 1575 []) : LW p l e s m b below meth c G (T9 (cb + 1) (wb + 6) m0) (lv0 b G i) 1497 [] := by
  refine r_less ?_
  have d : Dec code [(1497, .aload_n 1, 1), (1498, .aload_n 0, 1), (1499, .iload 4, 2), (1501, .iconst 1, 1), (1502, .iadd, 1), (1503, .iaload, 1), (1504, .invokevirtual 184, 3), (1507, .pop, 1), (1508, .aload_n 2, 1), (1509, .aload_n 0, 1), (1510, .iload 4, 2), (1512, .iconst 1, 1), (1513, .iadd, 1), (1514, .iaload, 1), (1515, .invokevirtual 187, 3), (1518, .pop, 1), (1519, .goto 56, 3)] := decG_ok (by decide +kernel)
  have dt1 := d.2.2
  have dt2 := dt1.2.2
  have dt3 := dt2.2.2
  have dt4 := dt3.2.2
  have dt5 := dt4.2.2
  have dt6 := dt5.2.2
  have dt7 := dt6.2.2
  have dt8 := dt7.2.2
  have dt9 := dt8.2.2
  have dt10 := dt9.2.2
  have dt11 := dt10.2.2
  have dt12 := dt11.2.2
  have dt13 := dt12.2.2
  have dt14 := dt13.2.2
  have dt15 := dt14.2.2
  have dt16 := dt15.2.2
  refine r_al C 1 rfl d.1 ?_
  refine r_push C h5 hL (k := 1) (by decide) 0 4 rfl rfl dt1.1 dt2.1 dt3.1 dt4.1 dt5.1 ?_
  refine r_call C v_19_184 (a0 := 1) ⟨rfl, rfl⟩ ma_153 (es1 1 (xs (i + 1)) (by decide)) (ok1 1 (xs (i + 1))) (Nat.le_of_ble_eq_true rfl) (lv_1 _) (P := fun v m1 => Cl 230 277 [249, (xs (i + 1)).toInt] (fun w u' => ∃ m2, u' = S9 0 m2 ∧ JJ cb m2) (S9 0 m1)) (two_153 hm) dt6.1 ?_
  intro v m1 hv1 h1
  rw [encR_i (t := mRty 153) (Or.inr rfl)]
  refine r_pop C dt7.1 rfl ?_
  refine r_al C 2 rfl dt8.1 ?_
  refine r_push C h5 hL (k := 1) (by decide) 0 4 rfl rfl dt9.1 dt10.1 dt11.1 dt12.1 dt13.1 ?_
  refine r_call C v_19_187 (a0 := 249) ⟨rfl, rfl⟩ ma_277 (es1 249 (xs (i + 1)) (by decide)) (ok1 249 (xs (i + 1))) (Nat.le_of_ble_eq_true rfl) (lv_249 _) (P := fun w m2 => JJ cb m2) h1 dt14.1 ?_
  intro w m2 hw1 h2
  rw [encR_i (t := mRty 277) (Or.inr rfl)]
  refine r_pop C dt15.1 rfl ?_
  exact r_go C (tgt := 1575) dt16.1 (by decide) (fin m2 h2)
theorem case_38 {p : Program} {l : Launch} {e : Env} {s : State} {m : MethodId} {b L i : Nat} {below : List Frame} {meth : Method} {c : Code} {xs : Nat → Int32} {G : Geo} {cb wb : Nat} {m0 : Mem} (C : LCx p l s m meth c b L xs G) (h5 : i + 5 ≤ L) (hL : L ≤ 2560) (hm : JJ (cb + 1) m0) (fin : ∀ m9 : Mem, JJ cb m9 → LW p l e s m b below meth c G (T9 cb wb m9) (lv0 b G i) 1575 []) : LW p l e s m b below meth c G (T9 (cb + 1) (wb + 6) m0) (lv0 b G i) 1522 [] := by
  refine r_less ?_
  have d : Dec code [(1522, .aload_n 1, 1), (1523, .aload_n 0, 1), (1524, .iload 4, 2), (1526, .iconst 1, 1), (1527, .iadd, 1), (1528, .iaload, 1), (1529, .invokevirtual 188, 3), (1532, .pop, 1), (1533, .aload_n 2, 1), (1534, .aload_n 0, 1), (1535, .iload 4, 2), (1537, .iconst 1, 1), (1538, .iadd, 1), (1539, .iaload, 1), (1540, .invokevirtual 191, 3), (1543, .pop, 1), (1544, .goto 31, 3)] := decG_ok (by decide +kernel)
  have dt1 := d.2.2
  have dt2 := dt1.2.2
  have dt3 := dt2.2.2
  have dt4 := dt3.2.2
  have dt5 := dt4.2.2
  have dt6 := dt5.2.2
  have dt7 := dt6.2.2
  have dt8 := dt7.2.2
  have dt9 := dt8.2.2
  have dt10 := dt9.2.2
  have dt11 := dt10.2.2
  have dt12 := dt11.2.2
  have dt13 := dt12.2.2
  have dt14 := dt13.2.2
  have dt15 := dt14.2.2
  have dt16 := dt15.2.2
  refine r_al C 1 rfl d.1 ?_
  refine r_push C h5 hL (k := 1) (by decide) 0 4 rfl rfl dt1.1 dt2.1 dt3.1 dt4.1 dt5.1 ?_
  refine r_call C v_19_188 (a0 := 1) ⟨rfl, rfl⟩ ma_154 (es1 1 (xs (i + 1)) (by decide)) (ok1 1 (xs (i + 1))) (Nat.le_of_ble_eq_true rfl) (lv_1 _) (P := fun v m1 => Cl 230 278 [249, (xs (i + 1)).toInt] (fun w u' => ∃ m2, u' = S9 0 m2 ∧ JJ cb m2) (S9 0 m1)) (two_154 hm) dt6.1 ?_
  intro v m1 hv1 h1
  rw [encR_i (t := mRty 154) (Or.inl rfl)]
  refine r_pop C dt7.1 rfl ?_
  refine r_al C 2 rfl dt8.1 ?_
  refine r_push C h5 hL (k := 1) (by decide) 0 4 rfl rfl dt9.1 dt10.1 dt11.1 dt12.1 dt13.1 ?_
  refine r_call C v_19_191 (a0 := 249) ⟨rfl, rfl⟩ ma_278 (es1 249 (xs (i + 1)) (by decide)) (ok1 249 (xs (i + 1))) (Nat.le_of_ble_eq_true rfl) (lv_249 _) (P := fun w m2 => JJ cb m2) h1 dt14.1 ?_
  intro w m2 hw1 h2
  rw [encR_i (t := mRty 278) (Or.inl rfl)]
  refine r_pop C dt15.1 rfl ?_
  exact r_go C (tgt := 1575) dt16.1 (by decide) (fin m2 h2)
