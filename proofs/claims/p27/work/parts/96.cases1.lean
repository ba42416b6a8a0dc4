/-! the law, case by case -/
theorem case_11 {p : Program} {l : Launch} {e : Env} {s : State} {m : MethodId} {b L i : Nat} {below : List Frame} {meth : Method} {c : Code} {xs : Nat → Int32} {G : Geo} {cb wb : Nat} {m0 : Mem} (C : LCx p l s m meth c b L xs G) (h5 : i + 5 ≤ L) (hL : L ≤ 2560) (hm : JJ (cb + 1) m0) (fin : ∀ m9 : Mem, JJ cb m9 → LW p l e s m b below meth c G (T9 cb wb m9) (lv0 b G i) 1575 []) : LW p l e s m b below meth c G (T9 (cb + 1) (wb + 6) m0) (lv0 b G i) 583 [] := by
  refine r_less ?_
  have d : Dec code [(583, .aload_n 1, 1), (584, .aload_n 0, 1), (585, .iload 4, 2), (587, .iconst 1, 1), (588, .iadd, 1), (589, .iaload, 1), (590, .invokevirtual 79, 3), (593, .pop, 1), (594, .aload_n 2, 1), (595, .aload_n 0, 1), (596, .iload 4, 2), (598, .iconst 1, 1), (599, .iadd, 1), (600, .iaload, 1), (601, .invokevirtual 82, 3), (604, .pop, 1), (605, .goto 970, 3)] := decG_ok (by decide +kernel)
  have dt1 := d.2.2
  have dt2 := dt1.2.2
  have dt3 := dt2.2.2
  have dt4 := dt3.2.2
  have dt5 := dt4.2.2
  have dt6 := dt5.2.2
  have dt7 := dt6.2.2
  have dt8 := dt7.2.2
  have dt9 := dt8.2.2
  have dt10 := dt9.2.2
  have dt11 := dt10.2.2
  have dt12 := dt11.2.2
  have dt13 := dt12.2.2
  have dt14 := dt13.2.2
  have dt15 := dt14.2.2
  have dt16 := dt15.2.2
  refine r_al C 1 rfl d.1 ?_
  refine r_push C h5 hL (k := 1) (by decide) 0 4 rfl rfl dt1.1 dt2.1 dt3.1 dt4.1 dt5.1 ?_
  refine r_call C v_19_79 (a0 := 1) ⟨rfl, rfl⟩ ma_65 (es1 1 (xs (i + 1)) (by decide)) (ok1 1 (xs (i + 1))) (Nat.le_of_ble_eq_true rfl) (lv_1 _) (P := fun v m1 => Cl 230 219 [249, (xs (i + 1)).toInt] (fun w u' => ∃ m2, u' = S9 0 m2 ∧ JJ cb m2) (S9 0 m1)) (two_65 hm) dt6.1 ?_
  intro v m1 hv1 h1
  rw [encR_i (t := mRty 65) (Or.inl rfl)]
  refine r_pop C dt7.1 rfl ?_
  refine r_al C 2 rfl dt8.1 ?_
  refine r_push C h5 hL (k := 1) (by decide) 0 4 rfl rfl dt9.1 dt10.1 dt11.1 dt12.1 dt13.1 ?_
  refine r_call C v_19_82 (a0 := 249) ⟨rfl, rfl⟩ ma_219 (es1 249 (xs (i + 1)) (by decide)) (ok1 249 (xs (i + 1))) (Nat.le_of_ble_eq_true rfl) (lv_249 _) (P := fun w m2 => JJ cb m2) h1 dt14.1 ?_
  intro w m2 hw1 h2
  rw [encR_i (t := mRty 219) (Or.inl rfl)]
  refine r_pop C dt15.1 rfl ?_
  exact r_go C (tgt := 1575) dt16.1 (by decide) (fin m2 h2)
theorem case_12 {p : Program} {l : Launch} {e : Env} {s : State} {m : MethodId} {b L i : Nat} {below : List Frame} {meth : Method} {c : Code} {xs : Nat → Int32} {G : Geo} {cb wb : Nat} {m0 : Mem} (C : LCx p l s m meth c b L xs G) (h5 : i + 5 ≤ L) (hL : L ≤ 2560) (hm : JJ (cb + 1) m0) (fin : ∀ m9 : Mem, JJ cb m9 → LW p l e s m b below meth c G (T9 cb wb m9) (lv0 b G i) 1575 []) : LW p l e s m b below meth c G (T9 (cb + 1) (wb + 6) m0) (lv0 b G i) 608 [] := by
  refine r_less ?_
  have d : Dec code [(608, .aload_n 1, 1), (609, .aload_n 0, 1), (610, .iload 4, 2), (612, .iconst 1, 1), (613, .iadd, 1), (614, .iaload, 1), (615, .aload_n 0, 1), (616, .iload 4, 2), (618, .iconst 2, 1), (619, .iadd, 1), (620, .iaload, 1), (621, .invokevirtual 83, 3), (624, .pop, 1), (625, .aload_n 2, 1), (626, .aload_n 0, 1), (627, .iload 4, 2), (629, .iconst 1, 1), (630, .iadd, 1), (631, .iaload, 1), (632, .aload_n 0, 1), (633, .iload 4, 2), (635, .iconst 2, 1), (636, .iadd, 1), (637, .iaload, 1), (638, .invokevirtual 86, 3), (641, .pop, 1), (642, .goto 933, 3)] := decG_ok (by decide +kernel)
  have dt1 := d.2.2
  have dt2 := dt1.2.2
  have dt3 := dt2.2.2
  have dt4 := dt3.2.2
  have dt5 := dt4.2.2
  have dt6 := dt5.2.2
  have dt7 := dt6.2.2
  have dt8 := dt7.2.2
  have dt9 := dt8.2.2
  have dt10 := dt9.2.2
  have dt11 := dt10.2.2
  have dt12 := dt11.2.2
  have dt13 := dt12.2.2
  have dt14 := dt13.2.2
  have dt15 := dt14.2.2
  have dt16 := dt15.2.2
  have dt17 := dt16.2.2
  have dt18 := dt17.2.2
  have dt19 := dt18.2.2
  have dt20 := dt19.2.2
  have dt21 := dt20.2.2
  have dt22 := dt21.2.2
  have dt23 := dt22.2.2
  have dt24 := dt23.2.2
  have dt25 := dt24.2.2
  have dt26 := dt25.2.2
  refine r_al C 1 rfl d.1 ?_
  refine r_push C h5 hL (k := 1) (by decide) 0 4 rfl rfl dt1.1 dt2.1 dt3.1 dt4.1 dt5.1 ?_
  refine r_push C h5 hL (k := 2) (by decide) 0 4 rfl rfl dt6.1 dt7.1 dt8.1 dt9.1 dt10.1 ?_
  refine r_call C v_19_83 (a0 := 1) ⟨rfl, rfl⟩ ma_67 (es2 1 (xs (i + 1)) (xs (i + 2)) (by decide)) (ok2 1 (xs (i + 1)) (xs (i + 2))) (Nat.le_of_ble_eq_true rfl) (lv_1 _) (P := fun v m1 => Cl 230 221 [249, (xs (i + 1)).toInt, (xs (i + 2)).toInt] (fun w u' => ∃ m2, u' = S9 0 m2 ∧ JJ cb m2) (S9 0 m1)) (two_67 hm) dt11.1 ?_
  intro v m1 hv1 h1
  rw [encR_i (t := mRty 67) (Or.inl rfl)]
  refine r_pop C dt12.1 rfl ?_
  refine r_al C 2 rfl dt13.1 ?_
  refine r_push C h5 hL (k := 1) (by decide) 0 4 rfl rfl dt14.1 dt15.1 dt16.1 dt17.1 dt18.1 ?_
  refine r_push C h5 hL (k := 2) (by decide) 0 4 rfl rfl dt19.1 dt20.1 dt21.1 dt22.1 dt23.1 ?_
  refine r_call C v_19_86 (a0 := 249) ⟨rfl, rfl⟩ ma_221 (es2 249 (xs (i + 1)) (xs (i + 2)) (by decide)) (ok2 249 (xs (i + 1)) (xs (i + 2))) (Nat.le_of_ble_eq_true rfl) (lv_249 _) (P := fun w m2 => JJ cb m2) h1 dt24.1 ?_
  intro w m2 hw1 h2
  rw [encR_i (t := mRty 221) (Or.inl rfl)]
  refine r_pop C dt25.1 rfl ?_
  exact r_go C (tgt := 1575) dt26.1 (by decide) (fin m2 h2)
theorem case_13 {p : Program} {l : Launch} {e : Env} {s : State} {m : MethodId} {b L i : Nat} {below : List Frame} {meth : Method} {c : Code} {xs : Nat → Int32} {G : Geo} {cb wb : Nat} {m0 : Mem} (C : LCx p l s m meth c b L xs G) (h5 : i + 5 ≤ L) (hL : L ≤ 2560) (hm : JJ (cb + 1) m0) (fin : ∀ m9 : Mem, JJ cb m9 → LW p l e s m b below meth c G (T9 cb wb m9) (lv0 b G i) 1575 []) : LW p l e s m b below meth c G (T9 (cb + 1) (wb + 6) m0) (lv0 b G i) 645 [] := by
  refine r_less ?_
  have d : Dec code [(645, .aload_n 1, 1), (646, .aload_n 0, 1), (647, .iload 4, 2), (649, .iconst 1, 1), (650, .iadd, 1), (651, .iaload, 1), (652, .invokevirtual 87, 3), (655, .pop, 1), (656, .aload_n 2, 1), (657, .aload_n 0, 1), (658, .iload 4, 2), (660, .iconst 1, 1), (661, .iadd, 1), (662, .iaload, 1), (663, .invokevirtual 90, 3), (666, .pop, 1), (667, .goto 908, 3)] := decG_ok (by decide +kernel)
  have dt1 := d.2.2
  have dt2 := dt1.2.2
  have dt3 := dt2.2.2
  have dt4 := dt3.2.2
  have dt5 := dt4.2.2
  have dt6 := dt5.2.2
  have dt7 := dt6.2.2
  have dt8 := dt7.2.2
  have dt9 := dt8.2.2
  have dt10 := dt9.2.2
  have dt11 := dt10.2.2
  have dt12 := dt11.2.2
  have dt13 := dt12.2.2
  have dt14 := dt13.2.2
  have dt15 := dt14.2.2
  have dt16 := dt15.2.2
  refine r_al C 1 rfl d.1 ?_
  refine r_push C h5 hL (k := 1) (by decide) 0 4 rfl rfl dt1.1 dt2.1 dt3.1 dt4.1 dt5.1 ?_
  refine r_call C v_19_87 (a0 := 1) ⟨rfl, rfl⟩ ma_85 (es1 1 (xs (i + 1)) (by decide)) (ok1 1 (xs (i + 1))) (Nat.le_of_ble_eq_true rfl) (lv_1 _) (P := fun v m1 => Cl 230 226 [249, (xs (i + 1)).toInt] (fun w u' => ∃ m2, u' = S9 0 m2 ∧ JJ cb m2) (S9 0 m1)) (two_85 hm) dt6.1 ?_
  intro v m1 hv1 h1
  rw [encR_i (t := mRty 85) (Or.inl rfl)]
  refine r_pop C dt7.1 rfl ?_
  refine r_al C 2 rfl dt8.1 ?_
  refine r_push C h5 hL (k := 1) (by decide) 0 4 rfl rfl dt9.1 dt10.1 dt11.1 dt12.1 dt13.1 ?_
  refine r_call C v_19_90 (a0 := 249) ⟨rfl, rfl⟩ ma_226 (es1 249 (xs (i + 1)) (by decide)) (ok1 249 (xs (i + 1))) (Nat.le_of_ble_eq_true rfl) (lv_249 _) (P := fun w m2 => JJ cb m2) h1 dt14.1 ?_
  intro w m2 hw1 h2
  rw [encR_i (t := mRty 226) (Or.inl rfl)]
  refine r_pop C dt15.1 rfl ?_
  exact r_go C (tgt := 1575) dt16.1 (by decide) (fin m2 h2)
theorem case_14 {p : Program} {l : Launch} {e : Env} {s : State} {m : MethodId} {b L i : Nat} {below : List Frame} {meth : Method} {c : Code} {xs : Nat → Int32} {G : Geo} {cb wb : Nat} {m0 : Mem} (C : LCx p l s m meth c b L xs G) (h5 : i + 5 ≤ L) (hL : L ≤ 2560) (hm : JJ (cb + 1) m0) (fin : ∀ m9 : Mem, JJ cb m9 → LW p l e s m b below meth c G (T9 cb wb m9) (lv0 b G i) 1575 []) : LW p l e s m b below meth c G (T9 (cb + 1) (wb + 6) m0) (lv0 b G i) 670 [] := by
  refine r_less ?_
  have d : Dec code [(670, .aload_n 1, 1), (671, .aload_n 0, 1), (672, .iload 4, 2), (674, .iconst 1, 1), (675, .iadd, 1), (676, .iaload, 1), (677, .invokevirtual 91, 3), (680, .pop, 1), (681, .aload_n 2, 1), (682, .aload_n 0, 1), (683, .iload 4, 2), (685, .iconst 1, 1), (686, .iadd, 1), (687, .iaload, 1), (688, .invokevirtual 94, 3), (691, .pop, 1), (692, .goto 883, 3)] := decG_ok (by decide +kernel)
  have dt1 := d.2.2
  have dt2 := dt1.2.2
  have dt3 := dt2.2.2
  have dt4 := dt3.2.2
  have dt5 := dt4.2.2
  have dt6 := dt5.2.2
  have dt7 := dt6.2.2
  have dt8 := dt7.2.2
  have dt9 := dt8.2.2
  have dt10 := dt9.2.2
  have dt11 := dt10.2.2
  have dt12 := dt11.2.2
  have dt13 := dt12.2.2
  have dt14 := dt13.2.2
  have dt15 := dt14.2.2
  have dt16 := dt15.2.2
  refine r_al C 1 rfl d.1 ?_
  refine r_push C h5 hL (k := 1) (by decide) 0 4 rfl rfl dt1.1 dt2.1 dt3.1 dt4.1 dt5.1 ?_
  refine r_call C v_19_91 (a0 := 1) ⟨rfl, rfl⟩ ma_87 (es1 1 (xs (i + 1)) (by decide)) (ok1 1 (xs (i + 1))) (Nat.le_of_ble_eq_true rfl) (lv_1 _) (P := fun v m1 => Cl 230 228 [249, (xs (i + 1)).toInt] (fun w u' => ∃ m2, u' = S9 0 m2 ∧ JJ cb m2) (S9 0 m1)) (two_87 hm) dt6.1 ?_
  intro v m1 hv1 h1
  rw [encR_i (t := mRty 87) (Or.inl rfl)]
  refine r_pop C dt7.1 rfl ?_
  refine r_al C 2 rfl dt8.1 ?_
  refine r_push C h5 hL (k := 1) (by decide) 0 4 rfl rfl dt9.1 dt10.1 dt11.1 dt12.1 dt13.1 ?_
  refine r_call C v_19_94 (a0 := 249) ⟨rfl, rfl⟩ ma_228 (es1 249 (xs (i + 1)) (by decide)) (ok1 249 (xs (i + 1))) (Nat.le_of_ble_eq_true rfl) (lv_249 _) (P := fun w m2 => JJ cb m2) h1 dt14.1 ?_
  intro w m2 hw1 h2
  rw [encR_i (t := mRty 228) (Or.inl rfl)]
  refine r_pop C dt15.1 rfl ?_
  exact r_go C (tgt := 1575) dt16.1 (by decide) (fin m2 h2)
theorem case_15 {p : Program} {l : Launch} {e : Env} {s : State} {m : MethodId} {b L i : Nat} {below : List Frame} {meth : Method} {c : Code} {xs : Nat → Int32} {G : Geo} {cb wb : Nat} {m0 : Mem} (C : LCx p l s m meth c b L xs G) (h5 : i + 5 ≤ L) (hL : L ≤ 2560) (hm : JJ (cb + 1) m0) (fin : ∀ m9 : Mem, JJ cb m9 → LW p l e s m b below meth c G (T9 cb wb m9) (lv0 b G i) 1575 []) : LW p l e s m b below meth c G (T9 (cb + 1) (wb + 6) m0) (lv0 b G i) 695 [] := by
  refine r_less ?_
  have d : Dec code [(695, .aload_n 1, 1), (696, .aload_n 0, 1), (697, .iload 4, 2), (699, .iconst 1, 1), (700, .iadd, 1), (701, .iaload, 1), (702, .aload_n 0, 1), (703, .iload 4, 2), (705, .iconst 2, 1), (706, .iadd, 1), (707, .iaload, 1), (708, .invokevirtual 95, 3), (711, .pop, 1), (712, .aload_n 2, 1), (713, .aload_n 0, 1), (714, .iload 4, 2), (716, .iconst 1, 1), (717, .iadd, 1), (718, .iaload, 1), (719, .aload_n 0, 1), (720, .iload 4, 2), (722, .iconst 2, 1), (723, .iadd, 1), (724, .iaload, 1), (725, .invokevirtual 98, 3), (728, .pop, 1), (729, .goto 846, 3)] := decG_ok (by decide +kernel)
  have dt1 := d.2.2
  have dt2 := dt1.2.2
  have dt3 := dt2.2.2
  have dt4 := dt3.2.2
  have dt5 := dt4.2.2
  have dt6 := dt5.2.2
  have dt7 := dt6.2.2
  have dt8 := dt7.2.2
  have dt9 := dt8.2.2
  have dt10 := dt9.2.2
  have dt11 := dt10.2.2
  have dt12 := dt11.2.2
  have dt13 := dt12.2.2
  have dt14 := dt13.2.2
  have dt15 := dt14.2.2
  have dt16 := dt15.2.2
  have dt17 := dt16.2.2
  have dt18 := dt17.2.2
  have dt19 := dt18.2.2
  have dt20 := dt19.2.2
  have dt21 := dt20.2.2
  have dt22 := dt21.2.2
  have dt23 := dt22.2.2
  have dt24 := dt23.2.2
  have dt25 := dt24.2.2
  have dt26 := dt25.2.2
  refine r_al C 1 rfl d.1 ?_
  refine r_push C h5 hL (k := 1) (by decide) 0 4 rfl rfl dt1.1 dt2.1 dt3.1 dt4.1 dt5.1 ?_
  refine r_push C h5 hL (k := 2) (by decide) 0 4 rfl rfl dt6.1 dt7.1 dt8.1 dt9.1 dt10.1 ?_
  refine r_call C v_19_95 (a0 := 1) ⟨rfl, rfl⟩ ma_89 (es2 1 (xs (i + 1)) (xs (i + 2)) (by decide)) (ok2 1 (xs (i + 1)) (xs (i + 2))) (Nat.le_of_ble_eq_true rfl) (lv_1 _) (P := fun v m1 => Cl 230 230 [249, (xs (i + 1)).toInt, (xs (i + 2)).toInt] (fun w u' => ∃ m2, u' = S9 0 m2 ∧ JJ cb m2) (S9 0 m1)) (two_89 hm) dt11.1 ?_
  intro v m1 hv1 h1
  rw [encR_i (t := mRty 89) (Or.inl rfl)]
  refine r_pop C dt12.1 rfl ?_
  refine r_al C 2 rfl dt13.1 ?_
  refine r_push C h5 hL (k := 1) (by decide) 0 4 rfl rfl dt14.1 dt15.1 dt16.1 dt17.1 dt18.1 ?_
  refine r_push C h5 hL (k := 2) (by decide) 0 4 rfl rfl dt19.1 dt20.1 dt21.1 dt22.1 dt23.1 ?_
  refine r_call C v_19_98 (a0 := 249) ⟨rfl, rfl⟩ ma_230 (es2 249 (xs (i + 1)) (xs (i + 2)) (by decide)) (ok2 249 (xs (i + 1)) (xs (i + 2))) (Nat.le_of_ble_eq_true rfl) (lv_249 _) (P := fun w m2 => JJ cb m2) h1 dt24.1 ?_
  intro w m2 hw1 h2
  rw [encR_i (t := mRty 230) (Or.inl rfl)]
  refine r_pop C dt25.1 rfl ?_
  exact r_go C (tgt := 1575) dt26.1 (by decide) (fin m2 h2)
theorem case_16 {p : Program} {l : Launch} {e : Env} {s : State} {m : MethodId} {b L i : Nat} {below : List Frame} {meth : Method} {c : Code} {xs : Nat → Int32} {G : Geo} {cb wb : Nat} {m0 : Mem} (C : LCx p l s m meth c b L xs G) (h5 : i + 5 ≤ L) (hL : L ≤ 2560) (hm : JJ (cb + 1) m0) (fin : ∀ m9 : Mem, JJ cb m9 → LW p l e s m b below meth c G (T9 cb wb m9) (lv0 b G i) 1575 []) : LW p l e s m b below meth c G (T9 (cb + 1) (wb + 6) m0) (lv0 b G i) 732 [] := by
  refine r_less ?_
  have d : Dec code [(732, .aload_n 1, 1), (733, .aload_n 0, 1), (734, .iload 4, 2), (736, .iconst 1, 1), (737, .iadd, 1), (738, .iaload, 1), (739, .aload_n 0, 1), (740, .iload 4, 2), (742, .iconst 2, 1), (743, .iadd, 1), (744, .iaload, 1), (745, .invokevirtual 99, 3), (748, .pop, 1), (749, .aload_n 2, 1), (750, .aload_n 0, 1), (751, .iload 4, 2), (753, .iconst 1, 1), (754, .iadd, 1), (755, .iaload, 1), (756, .aload_n 0, 1), (757, .iload 4, 2), (759, .iconst 2, 1), (760, .iadd, 1), (761, .iaload, 1), (762, .invokevirtual 102, 3), (765, .pop, 1), (766, .goto 809, 3)] := decG_ok (by decide +kernel)
  have dt1 := d.2.2
  have dt2 := dt1.2.2
  have dt3 := dt2.2.2
  have dt4 := dt3.2.2
  have dt5 := dt4.2.2
  have dt6 := dt5.2.2
  have dt7 := dt6.2.2
  have dt8 := dt7.2.2
  have dt9 := dt8.2.2
  have dt10 := dt9.2.2
  have dt11 := dt10.2.2
  have dt12 := dt11.2.2
  have dt13 := dt12.2.2
  have dt14 := dt13.2.2
  have dt15 := dt14.2.2
  have dt16 := dt15.2.2
  have dt17 := dt16.2.2
  have dt18 := dt17.2.2
  have dt19 := dt18.2.2
  have dt20 := dt19.2.2
  have dt21 := dt20.2.2
  have dt22 := dt21.2.2
  have dt23 := dt22.2.2
  have dt24 := dt23.2.2
  have dt25 := dt24.2.2
  have dt26 := dt25.2.2
  refine r_al C 1 rfl d.1 ?_
  refine r_push C h5 hL (k := 1) (by decide) 0 4 rfl rfl dt1.1 dt2.1 dt3.1 dt4.1 dt5.1 ?_
  refine r_push C h5 hL (k := 2) (by decide) 0 4 rfl rfl dt6.1 dt7.1 dt8.1 dt9.1 dt10.1 ?_
  refine r_call C v_19_99 (a0 := 1) ⟨rfl, rfl⟩ ma_91 (es2 1 (xs (i + 1)) (xs (i + 2)) (by decide)) (ok2 1 (xs (i + 1)) (xs (i + 2))) (Nat.le_of_ble_eq_true rfl) (lv_1 _) (P := fun v m1 => Cl 230 232 [249, (xs (i + 1)).toInt, (xs (i + 2)).toInt] (fun w u' => ∃ m2, u' = S9 0 m2 ∧ JJ cb m2) (S9 0 m1)) (two_91 hm) dt11.1 ?_
  intro v m1 hv1 h1
  rw [encR_i (t := mRty 91) (Or.inl rfl)]
  refine r_pop C dt12.1 rfl ?_
  refine r_al C 2 rfl dt13.1 ?_
  refine r_push C h5 hL (k := 1) (by decide) 0 4 rfl rfl dt14.1 dt15.1 dt16.1 dt17.1 dt18.1 ?_
  refine r_push C h5 hL (k := 2) (by decide) 0 4 rfl rfl dt19.1 dt20.1 dt21.1 dt22.1 dt23.1 ?_
  refine r_call C v_19_102 (a0 := 249) ⟨rfl, rfl⟩ ma_232 (es2 249 (xs (i + 1)) (xs (i + 2)) (by decide)) (ok2 249 (xs (i + 1)) (xs (i + 2))) (Nat.le_of_ble_eq_true rfl) (lv_249 _) (P := fun w m2 => JJ cb m2) h1 dt24.1 ?_
  intro w m2 hw1 h2
  rw [encR_i (t := mRty 232) (Or.inl rfl)]
  refine r_pop C dt25.1 rfl ?_
  exact r_go C (tgt := 1575) dt26.1 (by decide) (fin m2 h2)
theorem case_17 {p : Program} {l : Launch} {e : Env} {s : State} {m : MethodId} {b L i : Nat} {below : List Frame} {meth : Method} {c : Code} {xs : Nat → Int32} {G : Geo} {cb wb : Nat} {m0 : Mem} (C : LCx p l s m meth c b L xs G) (h5 : i + 5 ≤ L) (hL : L ≤ 2560) (hm : JJ (cb + 1) m0) (fin : ∀ m9 : Mem, JJ cb m9 → LW p l e s m b below meth c G (T9 cb wb m9) (lv0 b G i) 1575 []) : LW p l e s m b below meth c G (T9 (cb + 1) (wb + 6) m0) (lv0 b G i) 769 [] := by
  refine r_less ?_
  have d : Dec code [(769, .aload_n 1, 1), (770, .aload_n 0, 1), (771, .iload 4, 2), (773, .iconst 1, 1), (774, .iadd, 1), (775, .iaload, 1), (776, .aload_n 0, 1), (777, .iload 4, 2), (779, .iconst 2, 1), (780, .iadd, 1), (781, .iaload, 1), (782, .invokevirtual 103, 3), (785, .pop, 1), (786, .aload_n 2, 1), (787, .aload_n 0, 1), (788, .iload 4, 2), (790, .iconst 1, 1), (791, .iadd, 1), (792, .iaload, 1), (793, .aload_n 0, 1), (794, .iload 4, 2), (796, .iconst 2, 1), (797, .iadd, 1), (798, .iaload, 1), (799, .invokevirtual 106, 3), (802, .pop, 1), (803, .goto 772, 3)] := decG_ok (by decide +kernel)
  have dt1 := d.2.2
  have dt2 := dt1.2.2
  have dt3 := dt2.2.2
  have dt4 := dt3.2.2
  have dt5 := dt4.2.2
  have dt6 := dt5.2.2
  have dt7 := dt6.2.2
  have dt8 := dt7.2.2
  have dt9 := dt8.2.2
  have dt10 := dt9.2.2
  have dt11 := dt10.2.2
  have dt12 := dt11.2.2
  have dt13 := dt12.2.2
  have dt14 := dt13.2.2
  have dt15 := dt14.2.2
  have dt16 := dt15.2.2
  have dt17 := dt16.2.2
  have dt18 := dt17.2.2
  have dt19 := dt18.2.2
  have dt20 := dt19.2.2
  have dt21 := dt20.2.2
  have dt22 := dt21.2.2
  have dt23 := dt22.2.2
  have dt24 := dt23.2.2
  have dt25 := dt24.2.2
  have dt26 := dt25.2.2
  refine r_al C 1 rfl d.1 ?_
  refine r_push C h5 hL (k := 1) (by decide) 0 4 rfl rfl dt1.1 dt2.1 dt3.1 dt4.1 dt5.1 ?_
  refine r_push C h5 hL (k := 2) (by decide) 0 4 rfl rfl dt6.1 dt7.1 dt8.1 dt9.1 dt10.1 ?_
  refine r_call C v_19_103 (a0 := 1) ⟨rfl, rfl⟩ ma_93 (es2 1 (xs (i + 1)) (xs (i + 2)) (by decide)) (ok2 1 (xs (i + 1)) (xs (i + 2))) (Nat.le_of_ble_eq_true rfl) (lv_1 _) (P := fun v m1 => Cl 230 233 [249, (xs (i + 1)).toInt, (xs (i + 2)).toInt] (fun w u' => ∃ m2, u' = S9 0 m2 ∧ JJ cb m2) (S9 0 m1)) (two_93 hm) dt11.1 ?_
  intro v m1 hv1 h1
  rw [encR_i (t := mRty 93) (Or.inl rfl)]
  refine r_pop C dt12.1 rfl ?_
  refine r_al C 2 rfl dt13.1 ?_
  refine r_push C h5 hL (k := 1) (by decide) 0 4 rfl rfl dt14.1 dt15.1 dt16.1 dt17.1 dt18.1 ?_
  refine r_push C h5 hL (k := 2) (by decide) 0 4 rfl rfl dt19.1 dt20.1 dt21.1 dt22.1 dt23.1 ?_
  refine r_call C v_19_106 (a0 := 249) ⟨rfl, rfl⟩ ma_233 (es2 249 (xs (i + 1)) (xs (i + 2)) (by decide)) (ok2 249 (xs (i + 1)) (xs (i + 2))) (Nat.le_of_ble_eq_true rfl) (lv_249 _) (P := fun w m2 => JJ cb m2) h1 dt24.1 ?_
  intro w m2 hw1 h2
  rw [encR_i (t := mRty 233) (Or.inl rfl)]
  refine r_pop C dt25.1 rfl ?_
  exact r_go C (tgt := 1575) dt26.1 (by decide) (fin m2 h2)
