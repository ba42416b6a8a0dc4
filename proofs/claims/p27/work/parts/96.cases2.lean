/-! the law, case by case -/
theorem case_18 {p : Program} {l : Launch} {e : Env} {s : State} {m : MethodId} {b L i : Nat} {below : List Frame} {meth : Method} {c : Code} {xs : Nat → Int32} {G : Geo} {cb wb : Nat} {m0 : Mem} (C : LCx p l s m meth c b L xs G) (h5 : i + 5 ≤ L) (hL : L ≤ 2560) (hm : JJ (cb + 1) m0) (fin : ∀ m9 : Mem, JJ cb m9 → LW p l e s m b below meth c G (T9 cb wb m9) (lv0 b G i) 1575 []) : LW p l e s m b below meth c G (T9 (cb + 1) (wb + 6) m0) (lv0 b G i) 806 [] := by
  refine r_less ?_
  have d : Dec code [(806, .aload_n 1, 1), (807, .invokevirtual 107, 3), (810, .pop, 1), (811, .aload_n 2, 1), (812, .invokevirtual 110, 3), (815, .pop, 1), (816, .goto 759, 3)] := decG_ok (by decide +kernel)
  have dt1 := d.2.2
  have dt2 := dt1.2.2
  have dt3 := dt2.2.2
  have dt4 := dt3.2.2
  have dt5 := dt4.2.2
  have dt6 := dt5.2.2
  refine r_al C 1 rfl d.1 ?_
  refine r_call C v_19_107 (a0 := 1) ⟨rfl, rfl⟩ ma_96 (es0 1 (by decide)) (ok0 1) (Nat.le_of_ble_eq_true rfl) (lv_1 _) (P := fun v m1 => Cl 230 235 [249] (fun w u' => ∃ m2, u' = S9 0 m2 ∧ JJ cb m2) (S9 0 m1)) (two_96 hm) dt1.1 ?_
  intro v m1 hv1 h1
  rw [encR_i (t := mRty 96) (Or.inl rfl)]
  refine r_pop C dt2.1 rfl ?_
  refine r_al C 2 rfl dt3.1 ?_
  refine r_call C v_19_110 (a0 := 249) ⟨rfl, rfl⟩ ma_235 (es0 249 (by decide)) (ok0 249) (Nat.le_of_ble_eq_true rfl) (lv_249 _) (P := fun w m2 => JJ cb m2) h1 dt4.1 ?_
  intro w m2 hw1 h2
  rw [encR_i (t := mRty 235) (Or.inl rfl)]
  refine r_pop C dt5.1 rfl ?_
  exact r_go C (tgt := 1575) dt6.1 (by decide) (fin m2 h2)
theorem case_19 {p : Program} {l : Launch} {e : Env} {s : State} {m : MethodId} {b L i : Nat} {below : List Frame} {meth : Method} {c : Code} {xs : Nat → Int32} {G : Geo} {cb wb : Nat} {m0 : Mem} (C : LCx p l s m meth c b L xs G) (h5 : i + 5 ≤ L) (hL : L ≤ 2560) (hm : JJ (cb + 1) m0) (fin : ∀ m9 : Mem, JJ cb m9 → LW p l e s m b below meth c G (T9 cb wb m9) (lv0 b G i) 1575 []) : LW p l e s m b below meth c G (T9 (cb + 1) (wb + 6) m0) (lv0 b G i) 819 [] := by
  refine r_less ?_
  have d : Dec code [(819, .aload_n 1, 1), (820, .invokevirtual 111, 3), (823, .pop, 1), (824, .aload_n 2, 1), (825, .invokevirtual 114, 3), (828, .pop, 1), (829, .goto 746, 3)] := decG_ok (by decide +kernel)
  have dt1 := d.2.2
  have dt2 := dt1.2.2
  have dt3 := dt2.2.2
  have dt4 := dt3.2.2
  have dt5 := dt4.2.2
  have dt6 := dt5.2.2
  refine r_al C 1 rfl d.1 ?_
  refine r_call C v_19_111 (a0 := 1) ⟨rfl, rfl⟩ ma_101 (es0 1 (by decide)) (ok0 1) (Nat.le_of_ble_eq_true rfl) (lv_1 _) (P := fun v m1 => Cl 230 213 [249] (fun w u' => ∃ m2, u' = S9 0 m2 ∧ JJ cb m2) (S9 0 m1)) (two_101 hm) dt1.1 ?_
  intro v m1 hv1 h1
  rw [encR_i (t := mRty 101) (Or.inl rfl)]
  refine r_pop C dt2.1 rfl ?_
  refine r_al C 2 rfl dt3.1 ?_
  refine r_call C v_19_114 (a0 := 249) ⟨rfl, rfl⟩ ma_213 (es0 249 (by decide)) (ok0 249) (Nat.le_of_ble_eq_true rfl) (lv_249 _) (P := fun w m2 => JJ cb m2) h1 dt4.1 ?_
  intro w m2 hw1 h2
  rw [encR_i (t := mRty 213) (Or.inl rfl)]
  refine r_pop C dt5.1 rfl ?_
  exact r_go C (tgt := 1575) dt6.1 (by decide) (fin m2 h2)
theorem case_20 {p : Program} {l : Launch} {e : Env} {s : State} {m : MethodId} {b L i : Nat} {below : List Frame} {meth : Method} {c : Code} {xs : Nat → Int32} {G : Geo} {cb wb : Nat} {m0 : Mem} (C : LCx p l s m meth c b L xs G) (h5 : i + 5 ≤ L) (hL : L ≤ 2560) (hm : JJ (cb + 1) m0) (fin : ∀ m9 : Mem, JJ cb m9 → LW p l e s m b below meth c G (T9 cb wb m9) (lv0 b G i) 1575 []) : LW p l e s m b below meth c G (T9 (cb + 1) (wb + 6) m0) (lv0 b G i) 832 [] := by
  refine r_less ?_
  have d : Dec code [(832, .aload_n 1, 1), (833, .aload_n 0, 1), (834, .iload 4, 2), (836, .iconst 1, 1), (837, .iadd, 1), (838, .iaload, 1), (839, .invokevirtual 115, 3), (842, .pop, 1), (843, .aload_n 2, 1), (844, .aload_n 0, 1), (845, .iload 4, 2), (847, .iconst 1, 1), (848, .iadd, 1), (849, .iaload, 1), (850, .invokevirtual 118, 3), (853, .pop, 1), (854, .goto 721, 3)] := decG_ok (by decide +kernel)
  have dt1 := d.2.2
  have dt2 := dt1.2.2
  have dt3 := dt2.2.2
  have dt4 := dt3.2.2
  have dt5 := dt4.2.2
  have dt6 := dt5.2.2
  have dt7 := dt6.2.2
  have dt8 := dt7.2.2
  have dt9 := dt8.2.2
  have dt10 := dt9.2.2
  have dt11 := dt10.2.2
  have dt12 := dt11.2.2
  have dt13 := dt12.2.2
  have dt14 := dt13.2.2
  have dt15 := dt14.2.2
  have dt16 := dt15.2.2
  refine r_al C 1 rfl d.1 ?_
  refine r_push C h5 hL (k := 1) (by decide) 0 4 rfl rfl dt1.1 dt2.1 dt3.1 dt4.1 dt5.1 ?_
  refine r_call C v_19_115 (a0 := 1) ⟨rfl, rfl⟩ ma_103 (es1 1 (xs (i + 1)) (by decide)) (ok1 1 (xs (i + 1))) (Nat.le_of_ble_eq_true rfl) (lv_1 _) (P := fun v m1 => Cl 230 238 [249, (xs (i + 1)).toInt] (fun w u' => ∃ m2, u' = S9 0 m2 ∧ JJ cb m2) (S9 0 m1)) (two_103 hm) dt6.1 ?_
  intro v m1 hv1 h1
  rw [encR_i (t := mRty 103) (Or.inl rfl)]
  refine r_pop C dt7.1 rfl ?_
  refine r_al C 2 rfl dt8.1 ?_
  refine r_push C h5 hL (k := 1) (by decide) 0 4 rfl rfl dt9.1 dt10.1 dt11.1 dt12.1 dt13.1 ?_
  refine r_call C v_19_118 (a0 := 249) ⟨rfl, rfl⟩ ma_238 (es1 249 (xs (i + 1)) (by decide)) (ok1 249 (xs (i + 1))) (Nat.le_of_ble_eq_true rfl) (lv_249 _) (P := fun w m2 => JJ cb m2) h1 dt14.1 ?_
  intro w m2 hw1 h2
  rw [encR_i (t := mRty 238) (Or.inl rfl)]
  refine r_pop C dt15.1 rfl ?_
  exact r_go C (tgt := 1575) dt16.1 (by decide) (fin m2 h2)
theorem case_21 {p : Program} {l : Launch} {e : Env} {s : State} {m : MethodId} {b L i : Nat} {below : List Frame} {meth : Method} {c : Code} {xs : Nat → Int32} {G : Geo} {cb wb : Nat} {m0 : Mem} (C : LCx p l s m meth c b L xs G) (h5 : i + 5 ≤ L) (hL : L ≤ 2560) (hm : JJ (cb + 1) m0) (fin : ∀ m9 : Mem, JJ cb m9 → LW p l e s m b below meth c G (T9 cb wb m9) (lv0 b G i) 1575 []) : LW p l e s m b below meth c G (T9 (cb + 1) (wb + 6) m0) (lv0 b G i) 857 [] := by
  refine r_less ?_
  have d : Dec code [(857, .aload_n 1, 1), (858, .aload_n 0, 1), (859, .iload 4, 2), (861, .iconst 1, 1), (862, .iadd, 1), (863, .iaload, 1), (864, .aload_n 0, 1), (865, .iload 4, 2), (867, .iconst 2, 1), (868, .iadd, 1), (869, .iaload, 1), (870, .invokevirtual 119, 3), (873, .pop, 1), (874, .aload_n 2, 1), (875, .aload_n 0, 1), (876, .iload 4, 2), (878, .iconst 1, 1), (879, .iadd, 1), (880, .iaload, 1), (881, .aload_n 0, 1), (882, .iload 4, 2), (884, .iconst 2, 1), (885, .iadd, 1), (886, .iaload, 1), (887, .invokevirtual 122, 3), (890, .pop, 1), (891, .goto 684, 3)] := decG_ok (by decide +kernel)
  have dt1 := d.2.2
  have dt2 := dt1.2.2
  have dt3 := dt2.2.2
  have dt4 := dt3.2.2
  have dt5 := dt4.2.2
  have dt6 := dt5.2.2
  have dt7 := dt6.2.2
  have dt8 := dt7.2.2
  have dt9 := dt8.2.2
  have dt10 := dt9.2.2
  have dt11 := dt10.2.2
  have dt12 := dt11.2.2
  have dt13 := dt12.2.2
  have dt14 := dt13.2.2
  have dt15 := dt14.2.2
  have dt16 := dt15.2.2
  have dt17 := dt16.2.2
  have dt18 := dt17.2.2
  have dt19 := dt18.2.2
  have dt20 := dt19.2.2
  have dt21 := dt20.2.2
  have dt22 := dt21.2.2
  have dt23 := dt22.2.2
  have dt24 := dt23.2.2
  have dt25 := dt24.2.2
  have dt26 := dt25.2.2
  refine r_al C 1 rfl d.1 ?_
  refine r_push C h5 hL (k := 1) (by decide) 0 4 rfl rfl dt1.1 dt2.1 dt3.1 dt4.1 dt5.1 ?_
  refine r_push C h5 hL (k := 2) (by decide) 0 4 rfl rfl dt6.1 dt7.1 dt8.1 dt9.1 dt10.1 ?_
  refine r_call C v_19_119 (a0 := 1) ⟨rfl, rfl⟩ ma_108 (es2 1 (xs (i + 1)) (xs (i + 2)) (by decide)) (ok2 1 (xs (i + 1)) (xs (i + 2))) (Nat.le_of_ble_eq_true rfl) (lv_1 _) (P := fun v m1 => Cl 230 242 [249, (xs (i + 1)).toInt, (xs (i + 2)).toInt] (fun w u' => ∃ m2, u' = S9 0 m2 ∧ JJ cb m2) (S9 0 m1)) (two_108 hm) dt11.1 ?_
  intro v m1 hv1 h1
  rw [encR_i (t := mRty 108) (Or.inl rfl)]
  refine r_pop C dt12.1 rfl ?_
  refine r_al C 2 rfl dt13.1 ?_
  refine r_push C h5 hL (k := 1) (by decide) 0 4 rfl rfl dt14.1 dt15.1 dt16.1 dt17.1 dt18.1 ?_
  refine r_push C h5 hL (k := 2) (by decide) 0 4 rfl rfl dt19.1 dt20.1 dt21.1 dt22.1 dt23.1 ?_
  refine r_call C v_19_122 (a0 := 249) ⟨rfl, rfl⟩ ma_242 (es2 249 (xs (i + 1)) (xs (i + 2)) (by decide)) (ok2 249 (xs (i + 1)) (xs (i + 2))) (Nat.le_of_ble_eq_true rfl) (lv_249 _) (P := fun w m2 => JJ cb m2) h1 dt24.1 ?_
  intro w m2 hw1 h2
  rw [encR_i (t := mRty 242) (Or.inl rfl)]
  refine r_pop C dt25.1 rfl ?_
  exact r_go C (tgt := 1575) dt26.1 (by decide) (fin m2 h2)
theorem case_22 {p : Program} {l : Launch} {e : Env} {s : State} {m : MethodId} {b L i : Nat} {below : List Frame} {meth : Method} {c : Code} {xs : Nat → Int32} {G : Geo} {cb wb : Nat} {m0 : Mem} (C : LCx p l s m meth c b L xs G) (h5 : i + 5 ≤ L) (hL : L ≤ 2560) (hm : JJ (cb + 1) m0) (fin : ∀ m9 : Mem, JJ cb m9 → LW p l e s m b below meth c G (T9 cb wb m9) (lv0 b G i) 1575 []) : LW p l e s m b below meth c G (T9 (cb + 1) (wb + 6) m0) (lv0 b G i) 894 [] := by
  refine r_less ?_
  have d : Dec code [(894, .aload_n 1, 1), (895, .aload_n 0, 1), (896, .iload 4, 2), (898, .iconst 1, 1), (899, .iadd, 1), (900, .iaload, 1), (901, .invokevirtual 123, 3), (904, .pop, 1), (905, .aload_n 2, 1), (906, .aload_n 0, 1), (907, .iload 4, 2), (909, .iconst 1, 1), (910, .iadd, 1), (911, .iaload, 1), (912, .invokevirtual 126, 3), (915, .pop, 1), (916, .goto 659, 3)] := decG_ok (by decide +kernel)
  have dt1 := d.2.2
  have dt2 := dt1.2.2
  have dt3 := dt2.2.2
  have dt4 := dt3.2.2
  have dt5 := dt4.2.2
  have dt6 := dt5.2.2
  have dt7 := dt6.2.2
  have dt8 := dt7.2.2
  have dt9 := dt8.2.2
  have dt10 := dt9.2.2
  have dt11 := dt10.2.2
  have dt12 := dt11.2.2
  have dt13 := dt12.2.2
  have dt14 := dt13.2.2
  have dt15 := dt14.2.2
  have dt16 := dt15.2.2
  refine r_al C 1 rfl d.1 ?_
  refine r_push C h5 hL (k := 1) (by decide) 0 4 rfl rfl dt1.1 dt2.1 dt3.1 dt4.1 dt5.1 ?_
  refine r_call C v_19_123 (a0 := 1) ⟨rfl, rfl⟩ ma_109 (es1 1 (xs (i + 1)) (by decide)) (ok1 1 (xs (i + 1))) (Nat.le_of_ble_eq_true rfl) (lv_1 _) (P := fun v m1 => Cl 230 243 [249, (xs (i + 1)).toInt] (fun w u' => ∃ m2, u' = S9 0 m2 ∧ JJ cb m2) (S9 0 m1)) (two_109 hm) dt6.1 ?_
  intro v m1 hv1 h1
  rw [encR_i (t := mRty 109) (Or.inl rfl)]
  refine r_pop C dt7.1 rfl ?_
  refine r_al C 2 rfl dt8.1 ?_
  refine r_push C h5 hL (k := 1) (by decide) 0 4 rfl rfl dt9.1 dt10.1 dt11.1 dt12.1 dt13.1 ?_
  refine r_call C v_19_126 (a0 := 249) ⟨rfl, rfl⟩ ma_243 (es1 249 (xs (i + 1)) (by decide)) (ok1 249 (xs (i + 1))) (Nat.le_of_ble_eq_true rfl) (lv_249 _) (P := fun w m2 => JJ cb m2) h1 dt14.1 ?_
  intro w m2 hw1 h2
  rw [encR_i (t := mRty 243) (Or.inl rfl)]
  refine r_pop C dt15.1 rfl ?_
  exact r_go C (tgt := 1575) dt16.1 (by decide) (fin m2 h2)
theorem case_23 {p : Program} {l : Launch} {e : Env} {s : State} {m : MethodId} {b L i : Nat} {below : List Frame} {meth : Method} {c : Code} {xs : Nat → Int32} {G : Geo} {cb wb : Nat} {m0 : Mem} (C : LCx p l s m meth c b L xs G) (h5 : i + 5 ≤ L) (hL : L ≤ 2560) (hm : JJ (cb + 1) m0) (fin : ∀ m9 : Mem, JJ cb m9 → LW p l e s m b below meth c G (T9 cb wb m9) (lv0 b G i) 1575 []) : LW p l e s m b below meth c G (T9 (cb + 1) (wb + 6) m0) (lv0 b G i) 919 [] := by
  refine r_less ?_
  have d : Dec code [(919, .aload_n 1, 1), (920, .aload_n 0, 1), (921, .iload 4, 2), (923, .iconst 1, 1), (924, .iadd, 1), (925, .iaload, 1), (926, .aload_n 0, 1), (927, .iload 4, 2), (929, .iconst 2, 1), (930, .iadd, 1), (931, .iaload, 1), (932, .aload_n 0, 1), (933, .iload 4, 2), (935, .iconst 3, 1), (936, .iadd, 1), (937, .iaload, 1), (938, .invokevirtual 127, 3), (941, .pop, 1), (942, .aload_n 2, 1), (943, .aload_n 0, 1), (944, .iload 4, 2), (946, .iconst 1, 1), (947, .iadd, 1), (948, .iaload, 1), (949, .aload_n 0, 1), (950, .iload 4, 2), (952, .iconst 2, 1), (953, .iadd, 1), (954, .iaload, 1), (955, .aload_n 0, 1), (956, .iload 4, 2), (958, .iconst 3, 1), (959, .iadd, 1), (960, .iaload, 1), (961, .invokevirtual 131, 3), (964, .pop, 1), (965, .goto 610, 3)] := decG_ok (by decide +kernel)
  have dt1 := d.2.2
  have dt2 := dt1.2.2
  have dt3 := dt2.2.2
  have dt4 := dt3.2.2
  have dt5 := dt4.2.2
  have dt6 := dt5.2.2
  have dt7 := dt6.2.2
  have dt8 := dt7.2.2
  have dt9 := dt8.2.2
  have dt10 := dt9.2.2
  have dt11 := dt10.2.2
  have dt12 := dt11.2.2
  have dt13 := dt12.2.2
  have dt14 := dt13.2.2
  have dt15 := dt14.2.2
  have dt16 := dt15.2.2
  have dt17 := dt16.2.2
  have dt18 := dt17.2.2
  have dt19 := dt18.2.2
  have dt20 := dt19.2.2
  have dt21 := dt20.2.2
  have dt22 := dt21.2.2
  have dt23 := dt22.2.2
  have dt24 := dt23.2.2
  have dt25 := dt24.2.2
  have dt26 := dt25.2.2
  have dt27 := dt26.2.2
  have dt28 := dt27.2.2
  have dt29 := dt28.2.2
  have dt30 := dt29.2.2
  have dt31 := dt30.2.2
  have dt32 := dt31.2.2
  have dt33 := dt32.2.2
  have dt34 := dt33.2.2
  have dt35 := dt34.2.2
  have dt36 := dt35.2.2
  refine r_al C 1 rfl d.1 ?_
  refine r_push C h5 hL (k := 1) (by decide) 0 4 rfl rfl dt1.1 dt2.1 dt3.1 dt4.1 dt5.1 ?_
  refine r_push C h5 hL (k := 2) (by decide) 0 4 rfl rfl dt6.1 dt7.1 dt8.1 dt9.1 dt10.1 ?_
  refine r_push C h5 hL (k := 3) (by decide) 0 4 rfl rfl dt11.1 dt12.1 dt13.1 dt14.1 dt15.1 ?_
  refine r_call C v_19_127 (a0 := 1) ⟨rfl, rfl⟩ ma_110 (es3 1 (xs (i + 1)) (xs (i + 2)) (xs (i + 3)) (by decide)) (ok3 1 (xs (i + 1)) (xs (i + 2)) (xs (i + 3))) (Nat.le_of_ble_eq_true rfl) (lv_1 _) (P := fun v m1 => Cl 230 244 [249, (xs (i + 1)).toInt, (xs (i + 2)).toInt, (xs (i + 3)).toInt] (fun w u' => ∃ m2, u' = S9 0 m2 ∧ JJ cb m2) (S9 0 m1)) (two_110 hm) dt16.1 ?_
  intro v m1 hv1 h1
  rw [encR_i (t := mRty 110) (Or.inl rfl)]
  refine r_pop C dt17.1 rfl ?_
  refine r_al C 2 rfl dt18.1 ?_
  refine r_push C h5 hL (k := 1) (by decide) 0 4 rfl rfl dt19.1 dt20.1 dt21.1 dt22.1 dt23.1 ?_
  refine r_push C h5 hL (k := 2) (by decide) 0 4 rfl rfl dt24.1 dt25.1 dt26.1 dt27.1 dt28.1 ?_
  refine r_push C h5 hL (k := 3) (by decide) 0 4 rfl rfl dt29.1 dt30.1 dt31.1 dt32.1 dt33.1 ?_
  refine r_call C v_19_131 (a0 := 249) ⟨rfl, rfl⟩ ma_244 (es3 249 (xs (i + 1)) (xs (i + 2)) (xs (i + 3)) (by decide)) (ok3 249 (xs (i + 1)) (xs (i + 2)) (xs (i + 3))) (Nat.le_of_ble_eq_true rfl) (lv_249 _) (P := fun w m2 => JJ cb m2) h1 dt34.1 ?_
  intro w m2 hw1 h2
  rw [encR_i (t := mRty 244) (Or.inl rfl)]
  refine r_pop C dt35.1 rfl ?_
  exact r_go C (tgt := 1575) dt36.1 (by decide) (fin m2 h2)
theorem case_24 {p : Program} {l : Launch} {e : Env} {s : State} {m : MethodId} {b L i : Nat} {below : List Frame} {meth : Method} {c : Code} {xs : Nat → Int32} {G : Geo} {cb wb : Nat} {m0 : Mem} (C : LCx p l s m meth c b L xs G) (h5 : i + 5 ≤ L) (hL : L ≤ 2560) (hm : JJ (cb + 1) m0) (fin : ∀ m9 : Mem, JJ cb m9 → LW p l e s m b below meth c G (T9 cb wb m9) (lv0 b G i) 1575 []) : LW p l e s m b below meth c G (T9 (cb + 1) (wb + 6) m0) (lv0 b G i) 968 [] := by
  refine r_less ?_
  have d : Dec code [(968, .aload_n 1, 1), (969, .aload_n 0, 1), (970, .iload 4, 2), (972, .iconst 1, 1), (973, .iadd, 1), (974, .iaload, 1), (975, .aload_n 0, 1), (976, .iload 4, 2), (978, .iconst 2, 1), (979, .iadd, 1), (980, .iaload, 1), (981, .aload_n 0, 1), (982, .iload 4, 2), (984, .iconst 3, 1), (985, .iadd, 1), (986, .iaload, 1), (987, .invokevirtual 132, 3), (990, .pop, 1), (991, .aload_n 2, 1), (992, .aload_n 0, 1), (993, .iload 4, 2), (995, .iconst 1, 1), (996, .iadd, 1), (997, .iaload, 1), (998, .aload_n 0, 1), (999, .iload 4, 2), (1001, .iconst 2, 1), (1002, .iadd, 1), (1003, .iaload, 1), (1004, .aload_n 0, 1), (1005, .iload 4, 2), (1007, .iconst 3, 1), (1008, .iadd, 1), (1009, .iaload, 1), (1010, .invokevirtual 135, 3), (1013, .pop, 1), (1014, .goto 561, 3)] := decG_ok (by decide +kernel)
  have dt1 := d.2.2
  have dt2 := dt1.2.2
  have dt3 := dt2.2.2
  have dt4 := dt3.2.2
  have dt5 := dt4.2.2
  have dt6 := dt5.2.2
  have dt7 := dt6.2.2
  have dt8 := dt7.2.2
  have dt9 := dt8.2.2
  have dt10 := dt9.2.2
  have dt11 := dt10.2.2
  have dt12 := dt11.2.2
  have dt13 := dt12.2.2
  have dt14 := dt13.2.2
  have dt15 := dt14.2.2
  have dt16 := dt15.2.2
  have dt17 := dt16.2.2
  have dt18 := dt17.2.2
  have dt19 := dt18.2.2
  have dt20 := dt19.2.2
  have dt21 := dt20.2.2
  have dt22 := dt21.2.2
  have dt23 := dt22.2.2
  have dt24 := dt23.2.2
  have dt25 := dt24.2.2
  have dt26 := dt25.2.2
  have dt27 := dt26.2.2
  have dt28 := dt27.2.2
  have dt29 := dt28.2.2
  have dt30 := dt29.2.2
  have dt31 := dt30.2.2
  have dt32 := dt31.2.2
  have dt33 := dt32.2.2
  have dt34 := dt33.2.2
  have dt35 := dt34.2.2
  have dt36 := dt35.2.2
  refine r_al C 1 rfl d.1 ?_
  refine r_push C h5 hL (k := 1) (by decide) 0 4 rfl rfl dt1.1 dt2.1 dt3.1 dt4.1 dt5.1 ?_
  refine r_push C h5 hL (k := 2) (by decide) 0 4 rfl rfl dt6.1 dt7.1 dt8.1 dt9.1 dt10.1 ?_
  refine r_push C h5 hL (k := 3) (by decide) 0 4 rfl rfl dt11.1 dt12.1 dt13.1 dt14.1 dt15.1 ?_
  refine r_call C v_19_132 (a0 := 1) ⟨rfl, rfl⟩ ma_113 (es3 1 (xs (i + 1)) (xs (i + 2)) (xs (i + 3)) (by decide)) (ok3 1 (xs (i + 1)) (xs (i + 2)) (xs (i + 3))) (Nat.le_of_ble_eq_true rfl) (lv_1 _) (P := fun v m1 => Cl 230 248 [249, (xs (i + 1)).toInt, (xs (i + 2)).toInt, (xs (i + 3)).toInt] (fun w u' => ∃ m2, u' = S9 0 m2 ∧ JJ cb m2) (S9 0 m1)) (two_113 hm) dt16.1 ?_
  intro v m1 hv1 h1
  rw [encR_i (t := mRty 113) (Or.inl rfl)]
  refine r_pop C dt17.1 rfl ?_
  refine r_al C 2 rfl dt18.1 ?_
  refine r_push C h5 hL (k := 1) (by decide) 0 4 rfl rfl dt19.1 dt20.1 dt21.1 dt22.1 dt23.1 ?_
  refine r_push C h5 hL (k := 2) (by decide) 0 4 rfl rfl dt24.1 dt25.1 dt26.1 dt27.1 dt28.1 ?_
  refine r_push C h5 hL (k := 3) (by decide) 0 4 rfl rfl dt29.1 dt30.1 dt31.1 dt32.1 dt33.1 ?_
  refine r_call C v_19_135 (a0 := 249) ⟨rfl, rfl⟩ ma_248 (es3 249 (xs (i + 1)) (xs (i + 2)) (xs (i + 3)) (by decide)) (ok3 249 (xs (i + 1)) (xs (i + 2)) (xs (i + 3))) (Nat.le_of_ble_eq_true rfl) (lv_249 _) (P := fun w m2 => JJ cb m2) h1 dt34.1 ?_
  intro w m2 hw1 h2
  rw [encR_i (t := mRty 248) (Or.inl rfl)]
  refine r_pop C dt35.1 rfl ?_
  exact r_go C (tgt := 1575) dt36.1 (by decide) (fin m2 h2)
