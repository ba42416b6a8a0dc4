/-! the law, case by case -/
theorem case_18 {p : Program} {l : Launch} {e : Env} {s : State} {m : MethodId} {b L i : Nat} {below : List Frame} {meth : Method} {c : Code} {xs : Nat → Int32} {G : Geo} {cb wb : Nat} {m0 : Mem} (C : LCx p l s m meth c b L xs G) (h5 : i + 5 ≤ L) (hL : L ≤ 2560) (hm : JJ (cb + 1) m0) (fin : ∀ m9 : Mem, JJ cb m9 → LW p l e s m b below meth c G (T9 cb wb m9) (lv0 b G i) 1575 []) : LW p l e s m b below meth c G (T9 (cb + 1) (wb + 6) m0) (lv0 b G i) 806 [] := by
  refine r_less ?_
  have d : Dec code [(806, .aload_n 1, 1), (807, .invokevirtual 107, 3), (810, .pop, 1), (811, .aload_n 2, 1), (812, .invokevirtual 110, 3), (815, .pop, 1), (816, .goto 759, 3)] := decB_ok (by decide +kernel)
  refine r_al C 1 rfl d.1 ?_
  refine r_call C v_19_107 (a0 := 1) ⟨rfl, rfl⟩ ma_96 (es0 1 (by decide)) (ok0 1) (Nat.le_of_ble_eq_true rfl) (lv_1 _) (P := fun v m1 => Cl 230 235 [249] (fun w u' => ∃ m2, u' = S9 0 m2 ∧ JJ cb m2) (S9 0 m1)) (two_96 hm) d.2.2.1 ?_
  intro v m1 hv1 h1
  rw [encR_i (t := mRty 96) (Or.inl rfl)]
  refine r_pop C d.2.2.2.2.1 rfl ?_
  refine r_al C 2 rfl d.2.2.2.2.2.2.1 ?_
  refine r_call C v_19_110 (a0 := 249) ⟨rfl, rfl⟩ ma_235 (es0 249 (by decide)) (ok0 249) (Nat.le_of_ble_eq_true rfl) (lv_249 _) (P := fun w m2 => JJ cb m2) h1 d.2.2.2.2.2.2.2.2.1 ?_
  intro w m2 hw1 h2
  rw [encR_i (t := mRty 235) (Or.inl rfl)]
  refine r_pop C d.2.2.2.2.2.2.2.2.2.2.1 rfl ?_
  exact r_go C (tgt := 1575) d.2.2.2.2.2.2.2.2.2.2.2.2.1 (by decide) (fin m2 h2)
theorem case_19 {p : Program} {l : Launch} {e : Env} {s : State} {m : MethodId} {b L i : Nat} {below : List Frame} {meth : Method} {c : Code} {xs : Nat → Int32} {G : Geo} {cb wb : Nat} {m0 : Mem} (C : LCx p l s m meth c b L xs G) (h5 : i + 5 ≤ L) (hL : L ≤ 2560) (hm : JJ (cb + 1) m0) (fin : ∀ m9 : Mem, JJ cb m9 → LW p l e s m b below meth c G (T9 cb wb m9) (lv0 b G i) 1575 []) : LW p l e s m b below meth c G (T9 (cb + 1) (wb + 6) m0) (lv0 b G i) 819 [] := by
  refine r_less ?_
  have d : Dec code [(819, .aload_n 1, 1), (820, .invokevirtual 111, 3), (823, .pop, 1), (824, .aload_n 2, 1), (825, .invokevirtual 114, 3), (828, .pop, 1), (829, .goto 746, 3)] := decB_ok (by decide +kernel)
  refine r_al C 1 rfl d.1 ?_
  refine r_call C v_19_111 (a0 := 1) ⟨rfl, rfl⟩ ma_101 (es0 1 (by decide)) (ok0 1) (Nat.le_of_ble_eq_true rfl) (lv_1 _) (P := fun v m1 => Cl 230 213 [249] (fun w u' => ∃ m2, u' = S9 0 m2 ∧ JJ cb m2) (S9 0 m1)) (two_101 hm) d.2.2.1 ?_
  intro v m1 hv1 h1
  rw [encR_i (t := mRty 101) (Or.inl rfl)]
  refine r_pop C d.2.2.2.2.1 rfl ?_
  refine r_al C 2 rfl d.2.2.2.2.2.2.1 ?_
  refine r_call C v_19_114 (a0 := 249) ⟨rfl, rfl⟩ ma_213 (es0 249 (by decide)) (ok0 249) (Nat.le_of_ble_eq_true rfl) (lv_249 _) (P := fun w m2 => JJ cb m2) h1 d.2.2.2.2.2.2.2.2.1 ?_
  intro w m2 hw1 h2
  rw [encR_i (t := mRty 213) (Or.inl rfl)]
  refine r_pop C d.2.2.2.2.2.2.2.2.2.2.1 rfl ?_
  exact r_go C (tgt := 1575) d.2.2.2.2.2.2.2.2.2.2.2.2.1 (by decide) (fin m2 h2)
theorem case_20 {p : Program} {l : Launch} {e : Env} {s : State} {m : MethodId} {b L i : Nat} {below : List Frame} {meth : Method} {c : Code} {xs : Nat → Int32} {G : Geo} {cb wb : Nat} {m0 : Mem} (C : LCx p l s m meth c b L xs G) (h5 : i + 5 ≤ L) (hL : L ≤ 2560) (hm : JJ (cb + 1) m0) (fin : ∀ m9 : Mem, JJ cb m9 → LW p l e s m b below meth c G (T9 cb wb m9) (lv0 b G i) 1575 []) : LW p l e s m b below meth c G (T9 (cb + 1) (wb + 6) m0) (lv0 b G i) 832 [] := by
  refine r_less ?_
  have d : Dec code [(832, .aload_n 1, 1), (833, .aload_n 0, 1), (834, .iload 4, 2), (836, .iconst 1, 1), (837, .iadd, 1), (838, .iaload, 1), (839, .invokevirtual 115, 3), (842, .pop, 1), (843, .aload_n 2, 1), (844, .aload_n 0, 1), (845, .iload 4, 2), (847, .iconst 1, 1), (848, .iadd, 1), (849, .iaload, 1), (850, .invokevirtual 118, 3), (853, .pop, 1), (854, .goto 721, 3)] := decB_ok (by decide +kernel)
  refine r_al C 1 rfl d.1 ?_
  refine r_push C h5 hL (k := 1) (by decide) 0 4 rfl rfl d.2.2.1 d.2.2.2.2.1 d.2.2.2.2.2.2.1 d.2.2.2.2.2.2.2.2.1 d.2.2.2.2.2.2.2.2.2.2.1 ?_
  refine r_call C v_19_115 (a0 := 1) ⟨rfl, rfl⟩ ma_103 (es1 1 (xs (i + 1)) (by decide)) (ok1 1 (xs (i + 1))) (Nat.le_of_ble_eq_true rfl) (lv_1 _) (P := fun v m1 => Cl 230 238 [249, (xs (i + 1)).toInt] (fun w u' => ∃ m2, u' = S9 0 m2 ∧ JJ cb m2) (S9 0 m1)) (two_103 hm) d.2.2.2.2.2.2.2.2.2.2.2.2.1 ?_
  intro v m1 hv1 h1
  rw [encR_i (t := mRty 103) (Or.inl rfl)]
  refine r_pop C d.2.2.2.2.2.2.2.2.2.2.2.2.2.2.1 rfl ?_
  refine r_al C 2 rfl d.2.2.2.2.2.2.2.2.2.2.2.2.2.2.2.2.1 ?_
  refine r_push C h5 hL (k := 1) (by decide) 0 4 rfl rfl d.2.2.2.2.2.2.2.2.2.2.2.2.2.2.2.2.2.2.1 d.2.2.2.2.2.2.2.2.2.2.2.2.2.2.2.2.2.2.2.2.1 d.2.2.2.2.2.2.2.2.2.2.2.2.2.2.2.2.2.2.2.2.2.2.1 d.2.2.2.2.2.2.2.2.2.2.2.2.2.2.2.2.2.2.2.2.2.2.2.2.1 d.2.2.2.2.2.2.2.2.2.2.2.2.2.2.2.2.2.2.2.2.2.2.2.2.2.2.1 ?_
  refine r_call C v_19_118 (a0 := 249) ⟨rfl, rfl⟩ ma_238 (es1 249 (xs (i + 1)) (by decide)) (ok1 249 (xs (i + 1))) (Nat.le_of_ble_eq_true rfl) (lv_249 _) (P := fun w m2 => JJ cb m2) h1 d.2.2.2.2.2.2.2.2.2.2.2.2.2.2.2.2.2.2.2.2.2.2.2.2.2.2.2.2.1 ?_
  intro w m2 hw1 h2
  rw [encR_i (t := mRty 238) (Or.inl rfl)]
  refine r_pop C d.2.2.2.2.2.2.2.2.2.2.2.2.2.2.2.2.2.2.2.2.2.2.2.2.2.2.2.2.2.2.1 rfl ?_
  exact r_go C (tgt := 1575) d.2.2.2.2.2.2.2.2.2.2.2.2.2.2.2.2.2.2.2.2.2.2.2.2.2.2.2.2.2.2.2.2.1 (by decide) (fin m2 h2)
theorem case_21 {p : Program} {l : Launch} {e : Env} {s : State} {m : MethodId} {b L i : Nat} {below : List Frame} {meth : Method} {c : Code} {xs : Nat → Int32} {G : Geo} {cb wb : Nat} {m0 : Mem} (C : LCx p l s m meth c b L xs G) (h5 : i + 5 ≤ L) (hL : L ≤ 2560) (hm : JJ (cb + 1) m0) (fin : ∀ m9 : Mem, JJ cb m9 → LW p l e s m b below meth c G (T9 cb wb m9) (lv0 b G i) 1575 []) : LW p l e s m b below meth c G (T9 (cb + 1) (wb + 6) m0) (lv0 b G i) 857 [] := by
  refine r_less ?_
  have d : Dec code [(857, .aload_n 1, 1), (858, .aload_n 0, 1), (859, .iload 4, 2), (861, .iconst 1, 1), (862, .iadd, 1), (863, .iaload, 1), (864, .aload_n 0, 1), (865, .iload 4, 2), (867, .iconst 2, 1), (868, .iadd, 1), (869, .iaload, 1), (870, .invokevirtual 119, 3), (873, .pop, 1), (874, .aload_n 2, 1), (875, .aload_n 0, 1), (876, .iload 4, 2), (878, .iconst 1, 1), (879, .iadd, 1), (880, .iaload, 1), (881, .aload_n 0, 1), (882, .iload 4, 2), (884, .iconst 2, 1), (885, .iadd, 1), (886, .iaload, 1), (887, .invokevirtual 122, 3), (890, .pop, 1), (891, .goto 684, 3)] := decB_ok (by decide +kernel)
  refine r_al C 1 rfl d.1 ?_
  refine r_push C h5 hL (k := 1) (by decide) 0 4 rfl rfl d.2.2.1 d.2.2.2.2.1 d.2.2.2.2.2.2.1 d.2.2.2.2.2.2.2.2.1 d.2.2.2.2.2.2.2.2.2.2.1 ?_
  refine r_push C h5 hL (k := 2) (by decide) 0 4 rfl rfl d.2.2.2.2.2.2.2.2.2.2.2.2.1 d.2.2.2.2.2.2.2.2.2.2.2.2.2.2.1 d.2.2.2.2.2.2.2.2.2.2.2.2.2.2.2.2.1 d.2.2.2.2.2.2.2.2.2.2.2.2.2.2.2.2.2.2.1 d.2.2.2.2.2.2.2.2.2.2.2.2.2.2.2.2.2.2.2.2.1 ?_
  refine r_call C v_19_119 (a0 := 1) ⟨rfl, rfl⟩ ma_108 (es2 1 (xs (i + 1)) (xs (i + 2)) (by decide)) (ok2 1 (xs (i + 1)) (xs (i + 2))) (Nat.le_of_ble_eq_true rfl) (lv_1 _) (P := fun v m1 => Cl 230 242 [249, (xs (i + 1)).toInt, (xs (i + 2)).toInt] (fun w u' => ∃ m2, u' = S9 0 m2 ∧ JJ cb m2) (S9 0 m1)) (two_108 hm) d.2.2.2.2.2.2.2.2.2.2.2.2.2.2.2.2.2.2.2.2.2.2.1 ?_
  intro v m1 hv1 h1
  rw [encR_i (t := mRty 108) (Or.inl rfl)]
  refine r_pop C d.2.2.2.2.2.2.2.2.2.2.2.2.2.2.2.2.2.2.2.2.2.2.2.2.1 rfl ?_
  refine r_al C 2 rfl d.2.2.2.2.2.2.2.2.2.2.2.2.2.2.2.2.2.2.2.2.2.2.2.2.2.2.1 ?_
  refine r_push C h5 hL (k := 1) (by decide) 0 4 rfl rfl d.2.2.2.2.2.2.2.2.2.2.2.2.2.2.2.2.2.2.2.2.2.2.2.2.2.2.2.2.1 d.2.2.2.2.2.2.2.2.2.2.2.2.2.2.2.2.2.2.2.2.2.2.2.2.2.2.2.2.2.2.1 d.2.2.2.2.2.2.2.2.2.2.2.2.2.2.2.2.2.2.2.2.2.2.2.2.2.2.2.2.2.2.2.2.1 d.2.2.2.2.2.2.2.2.2.2.2.2.2.2.2.2.2.2.2.2.2.2.2.2.2.2.2.2.2.2.2.2.2.2.1 d.2.2.2.2.2.2.2.2.2.2.2.2.2.2.2.2.2.2.2.2.2.2.2.2.2.2.2.2.2.2.2.2.2.2.2.2.1 ?_
  refine r_push C h5 hL (k := 2) (by decide) 0 4 rfl rfl d.2.2.2.2.2.2.2.2.2.2.2.2.2.2.2.2.2.2.2.2.2.2.2.2.2.2.2.2.2.2.2.2.2.2.2.2.2.2.1 d.2.2.2.2.2.2.2.2.2.2.2.2.2.2.2.2.2.2.2.2.2.2.2.2.2.2.2.2.2.2.2.2.2.2.2.2.2.2.2.2.1 d.2.2.2.2.2.2.2.2.2.2.2.2.2.2.2.2.2.2.2.2.2.2.2.2.2.2.2.2.2.2.2.2.2.2.2.2.2.2.2.2.2.2.1 d.2.2.2.2.2.2.2.2.2.2.2.2.2.2.2.2.2.2.2.2.2.2.2.2.2.2.2.2.2.2.2.2.2.2.2.2.2.2.2.2.2.2.2.2.1 d.2.2.2.2.2.2.2.2.2.2.2.2.2.2.2.2.2.2.2.2.2.2.2.2.2.2.2.2.2.2.2.2.2.2.2.2.2.2.2.2.2.2.2.2.2.2.1 ?_
  refine r_call C v_19_122 (a0 := 249) ⟨rfl, rfl⟩ ma_242 (es2 249 (xs (i + 1)) (xs (i + 2)) (by decide)) (ok2 249 (xs (i + 1)) (xs (i + 2))) (Nat.le_of_ble_eq_true rfl) (lv_249 _) (P := fun w m2 => JJ cb m2) h1 d.2.2.2.2.2.2.2.2.2.2.2.2.2.2.2.2.2.2.2.2.2.2.2.2.2.2.2.2.2.2.2.2.2.2.2.2.2.2.2.2.2.2.2.2.2.2.2.2.1 ?_
  intro w m2 hw1 h2
  rw [encR_i (t := mRty 242) (Or.inl rfl)]
  refine r_pop C d.2.2.2.2.2.2.2.2.2.2.2.2.2.2.2.2.2.2.2.2.2.2.2.2.2.2.2.2.2.2.2.2.2.2.2.2.2.2.2.2.2.2.2.2.2.2.2.2.2.2.1 rfl ?_
  exact r_go C (tgt := 1575) d.2.2.2.2.2.2.2.2.2.2.2.2.2.2.2.2.2.2.2.2.2.2.2.2.2.2.2.2.2.2.2.2.2.2.2.2.2.2.2.2.2.2.2.2.2.2.2.2.2.2.2.2.1 (by decide) (fin m2 h2)
theorem case_22 {p : Program} {l : Launch} {e : Env} {s : State} {m : MethodId} {b L i : Nat} {below : List Frame} {meth : Method} {c : Code} {xs : Nat → Int32} {G : Geo} {cb wb : Nat} {m0 : Mem} (C : LCx p l s m meth c b L xs G) (h5 : i + 5 ≤ L) (hL : L ≤ 2560) (hm : JJ (cb + 1) m0) (fin : ∀ m9 : Mem, JJ cb m9 → LW p l e s m b below meth c G (T9 cb wb m9) (lv0 b G i) 1575 []) : LW p l e s m b below meth c G (T9 (cb + 1) (wb + 6) m0) (lv0 b G i) 894 [] := by
  refine r_less ?_
  have d : Dec code [(894, .aload_n 1, 1), (895, .aload_n 0, 1), (896, .iload 4, 2), (898, .iconst 1, 1), (899, .iadd, 1), (900, .iaload, 1), (901, .invokevirtual 123, 3), (904, .pop, 1), (905, .aload_n 2, 1), (906, .aload_n 0, 1), (907, .iload 4, 2), (909, .iconst 1, 1), (910, .iadd, 1), (911, .iaload, 1), (912, .invokevirtual 126, 3), (915, .pop, 1), (916, .goto 659, 3)] := decB_ok (by decide +kernel)
  refine r_al C 1 rfl d.1 ?_
  refine r_push C h5 hL (k := 1) (by decide) 0 4 rfl rfl d.2.2.1 d.2.2.2.2.1 d.2.2.2.2.2.2.1 d.2.2.2.2.2.2.2.2.1 d.2.2.2.2.2.2.2.2.2.2.1 ?_
  refine r_call C v_19_123 (a0 := 1) ⟨rfl, rfl⟩ ma_109 (es1 1 (xs (i + 1)) (by decide)) (ok1 1 (xs (i + 1))) (Nat.le_of_ble_eq_true rfl) (lv_1 _) (P := fun v m1 => Cl 230 243 [249, (xs (i + 1)).toInt] (fun w u' => ∃ m2, u' = S9 0 m2 ∧ JJ cb m2) (S9 0 m1)) (two_109 hm) d.2.2.2.2.2.2.2.2.2.2.2.2.1 ?_
  intro v m1 hv1 h1
  rw [encR_i (t := mRty 109) (Or.inl rfl)]
  refine r_pop C d.2.2.2.2.2.2.2.2.2.2.2.2.2.2.1 rfl ?_
  refine r_al C 2 rfl d.2.2.2.2.2.2.2.2.2.2.2.2.2.2.2.2.1 ?_
  refine r_push C h5 hL (k := 1) (by decide) 0 4 rfl rfl d.2.2.2.2.2.2.2.2.2.2.2.2.2.2.2.2.2.2.1 d.2.2.2.2.2.2.2.2.2.2.2.2.2.2.2.2.2.2.2.2.1 d.2.2.2.2.2.2.2.2.2.2.2.2.2.2.2.2.2.2.2.2.2.2.1 d.2.2.2.2.2.2.2.2.2.2.2.2.2.2.2.2.2.2.2.2.2.2.2.2.1 d.2.2.2.2.2.2.2.2.2.2.2.2.2.2.2.2.2.2.2.2.2.2.2.2.2.2.1 ?_
  refine r_call C v_19_126 (a0 := 249) ⟨rfl, rfl⟩ ma_243 (es1 249 (xs (i + 1)) (by decide)) (ok1 249 (xs (i + 1))) (Nat.le_of_ble_eq_true rfl) (lv_249 _) (P := fun w m2 => JJ cb m2) h1 d.2.2.2.2.2.2.2.2.2.2.2.2.2.2.2.2.2.2.2.2.2.2.2.2.2.2.2.2.1 ?_
  intro w m2 hw1 h2
  rw [encR_i (t := mRty 243) (Or.inl rfl)]
  refine r_pop C d.2.2.2.2.2.2.2.2.2.2.2.2.2.2.2.2.2.2.2.2.2.2.2.2.2.2.2.2.2.2.1 rfl ?_
  exact r_go C (tgt := 1575) d.2.2.2.2.2.2.2.2.2.2.2.2.2.2.2.2.2.2.2.2.2.2.2.2.2.2.2.2.2.2.2.2.1 (by decide) (fin m2 h2)
theorem case_23 {p : Program} {l : Launch} {e : Env} {s : State} {m : MethodId} {b L i : Nat} {below : List Frame} {meth : Method} {c : Code} {xs : Nat → Int32} {G : Geo} {cb wb : Nat} {m0 : Mem} (C : LCx p l s m meth c b L xs G) (h5 : i + 5 ≤ L) (hL : L ≤ 2560) (hm : JJ (cb + 1) m0) (fin : ∀ m9 : Mem, JJ cb m9 → LW p l e s m b below meth c G (T9 cb wb m9) (lv0 b G i) 1575 []) : LW p l e s m b below meth c G (T9 (cb + 1) (wb + 6) m0) (lv0 b G i) 919 [] := by
  refine r_less ?_
  have d : Dec code [(919, .aload_n 1, 1), (920, .aload_n 0, 1), (921, .iload 4, 2), (923, .iconst 1, 1), (924, .iadd, 1), (925, .iaload, 1), (926, .aload_n 0, 1), (927, .iload 4, 2), (929, .iconst 2, 1), (930, .iadd, 1), (931, .iaload, 1), (932, .aload_n 0, 1), (933, .iload 4, 2), (935, .iconst 3, 1), (936, .iadd, 1), (937, .iaload, 1), (938, .invokevirtual 127, 3), (941, .pop, 1), (942, .aload_n 2, 1), (943, .aload_n 0, 1), (944, .iload 4, 2), (946, .iconst 1, 1), (947, .iadd, 1), (948, .iaload, 1), (949, .aload_n 0, 1), (950, .iload 4, 2), (952, .iconst 2, 1), (953, .iadd, 1), (954, .iaload, 1), (955, .aload_n 0, 1), (956, .iload 4, 2), (958, .iconst 3, 1), (959, .iadd, 1), (960, .iaload, 1), (961, .invokevirtual 131, 3), (964, .pop, 1), (965, .goto 610, 3)] := decB_ok (by decide +kernel)
  refine r_al C 1 rfl d.1 ?_
  refine r_push C h5 hL (k := 1) (by decide) 0 4 rfl rfl d.2.2.1 d.2.2.2.2.1 d.2.2.2.2.2.2.1 d.2.2.2.2.2.2.2.2.1 d.2.2.2.2.2.2.2.2.2.2.1 ?_
  refine r_push C h5 hL (k := 2) (by decide) 0 4 rfl rfl d.2.2.2.2.2.2.2.2.2.2.2.2.1 d.2.2.2.2.2.2.2.2.2.2.2.2.2.2.1 d.2.2.2.2.2.2.2.2.2.2.2.2.2.2.2.2.1 d.2.2.2.2.2.2.2.2.2.2.2.2.2.2.2.2.2.2.1 d.2.2.2.2.2.2.2.2.2.2.2.2.2.2.2.2.2.2.2.2.1 ?_
  refine r_push C h5 hL (k := 3) (by decide) 0 4 rfl rfl d.2.2.2.2.2.2.2.2.2.2.2.2.2.2.2.2.2.2.2.2.2.2.1 d.2.2.2.2.2.2.2.2.2.2.2.2.2.2.2.2.2.2.2.2.2.2.2.2.1 d.2.2.2.2.2.2.2.2.2.2.2.2.2.2.2.2.2.2.2.2.2.2.2.2.2.2.1 d.2.2.2.2.2.2.2.2.2.2.2.2.2.2.2.2.2.2.2.2.2.2.2.2.2.2.2.2.1 d.2.2.2.2.2.2.2.2.2.2.2.2.2.2.2.2.2.2.2.2.2.2.2.2.2.2.2.2.2.2.1 ?_
  refine r_call C v_19_127 (a0 := 1) ⟨rfl, rfl⟩ ma_110 (es3 1 (xs (i + 1)) (xs (i + 2)) (xs (i + 3)) (by decide)) (ok3 1 (xs (i + 1)) (xs (i + 2)) (xs (i + 3))) (Nat.le_of_ble_eq_true rfl) (lv_1 _) (P := fun v m1 => Cl 230 244 [249, (xs (i + 1)).toInt, (xs (i + 2)).toInt, (xs (i + 3)).toInt] (fun w u' => ∃ m2, u' = S9 0 m2 ∧ JJ cb m2) (S9 0 m1)) (two_110 hm) d.2.2.2.2.2.2.2.2.2.2.2.2.2.2.2.2.2.2.2.2.2.2.2.2.2.2.2.2.2.2.2.2.1 ?_
  intro v m1 hv1 h1
  rw [encR_i (t := mRty 110) (Or.inl rfl)]
  refine r_pop C d.2.2.2.2.2.2.2.2.2.2.2.2.2.2.2.2.2.2.2.2.2.2.2.2.2.2.2.2.2.2.2.2.2.2.1 rfl ?_
  refine r_al C 2 rfl d.2.2.2.2.2.2.2.2.2.2.2.2.2.2.2.2.2.2.2.2.2.2.2.2.2.2.2.2.2.2.2.2.2.2.2.2.1 ?_
  refine r_push C h5 hL (k := 1) (by decide) 0 4 rfl rfl d.2.2.2.2.2.2.2.2.2.2.2.2.2.2.2.2.2.2.2.2.2.2.2.2.2.2.2.2.2.2.2.2.2.2.2.2.2.2.1 d.2.2.2.2.2.2.2.2.2.2.2.2.2.2.2.2.2.2.2.2.2.2.2.2.2.2.2.2.2.2.2.2.2.2.2.2.2.2.2.2.1 d.2.2.2.2.2.2.2.2.2.2.2.2.2.2.2.2.2.2.2.2.2.2.2.2.2.2.2.2.2.2.2.2.2.2.2.2.2.2.2.2.2.2.1 d.2.2.2.2.2.2.2.2.2.2.2.2.2.2.2.2.2.2.2.2.2.2.2.2.2.2.2.2.2.2.2.2.2.2.2.2.2.2.2.2.2.2.2.2.1 d.2.2.2.2.2.2.2.2.2.2.2.2.2.2.2.2.2.2.2.2.2.2.2.2.2.2.2.2.2.2.2.2.2.2.2.2.2.2.2.2.2.2.2.2.2.2.1 ?_
  refine r_push C h5 hL (k := 2) (by decide) 0 4 rfl rfl d.2.2.2.2.2.2.2.2.2.2.2.2.2.2.2.2.2.2.2.2.2.2.2.2.2.2.2.2.2.2.2.2.2.2.2.2.2.2.2.2.2.2.2.2.2.2.2.2.1 d.2.2.2.2.2.2.2.2.2.2.2.2.2.2.2.2.2.2.2.2.2.2.2.2.2.2.2.2.2.2.2.2.2.2.2.2.2.2.2.2.2.2.2.2.2.2.2.2.2.2.1 d.2.2.2.2.2.2.2.2.2.2.2.2.2.2.2.2.2.2.2.2.2.2.2.2.2.2.2.2.2.2.2.2.2.2.2.2.2.2.2.2.2.2.2.2.2.2.2.2.2.2.2.2.1 d.2.2.2.2.2.2.2.2.2.2.2.2.2.2.2.2.2.2.2.2.2.2.2.2.2.2.2.2.2.2.2.2.2.2.2.2.2.2.2.2.2.2.2.2.2.2.2.2.2.2.2.2.2.2.1 d.2.2.2.2.2.2.2.2.2.2.2.2.2.2.2.2.2.2.2.2.2.2.2.2.2.2.2.2.2.2.2.2.2.2.2.2.2.2.2.2.2.2.2.2.2.2.2.2.2.2.2.2.2.2.2.2.1 ?_
  refine r_push C h5 hL (k := 3) (by decide) 0 4 rfl rfl d.2.2.2.2.2.2.2.2.2.2.2.2.2.2.2.2.2.2.2.2.2.2.2.2.2.2.2.2.2.2.2.2.2.2.2.2.2.2.2.2.2.2.2.2.2.2.2.2.2.2.2.2.2.2.2.2.2.2.1 d.2.2.2.2.2.2.2.2.2.2.2.2.2.2.2.2.2.2.2.2.2.2.2.2.2.2.2.2.2.2.2.2.2.2.2.2.2.2.2.2.2.2.2.2.2.2.2.2.2.2.2.2.2.2.2.2.2.2.2.2.1 d.2.2.2.2.2.2.2.2.2.2.2.2.2.2.2.2.2.2.2.2.2.2.2.2.2.2.2.2.2.2.2.2.2.2.2.2.2.2.2.2.2.2.2.2.2.2.2.2.2.2.2.2.2.2.2.2.2.2.2.2.2.2.1 d.2.2.2.2.2.2.2.2.2.2.2.2.2.2.2.2.2.2.2.2.2.2.2.2.2.2.2.2.2.2.2.2.2.2.2.2.2.2.2.2.2.2.2.2.2.2.2.2.2.2.2.2.2.2.2.2.2.2.2.2.2.2.2.2.1 d.2.2.2.2.2.2.2.2.2.2.2.2.2.2.2.2.2.2.2.2.2.2.2.2.2.2.2.2.2.2.2.2.2.2.2.2.2.2.2.2.2.2.2.2.2.2.2.2.2.2.2.2.2.2.2.2.2.2.2.2.2.2.2.2.2.2.1 ?_
  refine r_call C v_19_131 (a0 := 249) ⟨rfl, rfl⟩ ma_244 (es3 249 (xs (i + 1)) (xs (i + 2)) (xs (i + 3)) (by decide)) (ok3 249 (xs (i + 1)) (xs (i + 2)) (xs (i + 3))) (Nat.le_of_ble_eq_true rfl) (lv_249 _) (P := fun w m2 => JJ cb m2) h1 d.2.2.2.2.2.2.2.2.2.2.2.2.2.2.2.2.2.2.2.2.2.2.2.2.2.2.2.2.2.2.2.2.2.2.2.2.2.2.2.2.2.2.2.2.2.2.2.2.2.2.2.2.2.2.2.2.2.2.2.2.2.2.2.2.2.2.2.2.1 ?_
  intro w m2 hw1 h2
  rw [encR_i (t := mRty 244) (Or.inl rfl)]
  refine r_pop C d.2.2.2.2.2.2.2.2.2.2.2.2.2.2.2.2.2.2.2.2.2.2.2.2.2.2.2.2.2.2.2.2.2.2.2.2.2.2.2.2.2.2.2.2.2.2.2.2.2.2.2.2.2.2.2.2.2.2.2.2.2.2.2.2.2.2.2.2.2.2.1 rfl ?_
  exact r_go C (tgt := 1575) d.2.2.2.2.2.2.2.2.2.2.2.2.2.2.2.2.2.2.2.2.2.2.2.2.2.2.2.2.2.2.2.2.2.2.2.2.2.2.2.2.2.2.2.2.2.2.2.2.2.2.2.2.2.2.2.2.2.2.2.2.2.2.2.2.2.2.2.2.2.2.2.2.1 (by decide) (fin m2 h2)
theorem case_24 {p : Program} {l : Launch} {e : Env} {s : State} {m : MethodId} {b L i : Nat} {below : List Frame} {meth : Method} {c : Code} {xs : Nat → Int32} {G : Geo} {cb wb : Nat} {m0 : Mem} (C : LCx p l s m meth c b L xs G) (h5 : i + 5 ≤ L) (hL : L ≤ 2560) (hm : JJ (cb + 1) m0) (fin : ∀ m9 : Mem, JJ cb m9 → LW p l e s m b below meth c G (T9 cb wb m9) (lv0 b G i) 1575 []) : LW p l e s m b below meth c G (T9 (cb + 1) (wb + 6) m0) (lv0 b G i) 968 [] := by
  refine r_less ?_
  have d : Dec code [(968, .aload_n 1, 1), (969, .aload_n 0, 1), (970, .iload 4, 2), (972, .iconst 1, 1), (973, .iadd, 1), (974, .iaload, 1), (975, .aload_n 0, 1), (976, .iload 4, 2), (978, .iconst 2, 1), (979, .iadd, 1), (980, .iaload, 1), (981, .aload_n 0, 1), (982, .iload 4, 2), (984, .iconst 3, 1), (985, .iadd, 1), (986, .iaload, 1), (987, .invokevirtual 132, 3), (990, .pop, 1), (991, .aload_n 2, 1), (992, .aload_n 0, 1), (993, .iload 4, 2), (995, .iconst 1, 1), (996, .iadd, 1), (997, .iaload, 1), (998, .aload_n 0, 1), (999, .iload 4, 2), (1001, .iconst 2, 1), (1002, .iadd, 1), (1003, .iaload, 1), (1004, .aload_n 0, 1), (1005, .iload 4, 2), (1007, .iconst 3, 1), (1008, .iadd, 1), (1009, .iaload, 1), (1010, .invokevirtual 135, 3), (1013, .pop, 1), (1014, .goto 561, 3)] := decB_ok (by decide +kernel)
  refine r_al C 1 rfl d.1 ?_
  refine r_push C h5 hL (k := 1) (by decide) 0 4 rfl rfl d.2.2.1 d.2.2.2.2.1 d.2.2.2.2.2.2.1 d.2.2.2.2.2.2.2.2.1 d.2.2.2.2.2.2.2.2.2.2.1 ?_
  refine r_push C h5 hL (k := 2) (by decide) 0 4 rfl rfl d.2.2.2.2.2.2.2.2.2.2.2.2.1 d.2.2.2.2.2.2.2.2.2.2.2.2.2.2.1 d.2.2.2.2.2.2.2.2.2.2.2.2.2.2.2.2.1 d.2.2.2.2.2.2.2.2.2.2.2.2.2.2.2.2.2.2.1 d.2.2.2.2.2.2.2.2.2.2.2.2.2.2.2.2.2.2.2.2.1 ?_
  refine r_push C h5 hL (k := 3) (by decide) 0 4 rfl rfl d.2.2.2.2.2.2.2.2.2.2.2.2.2.2.2.2.2.2.2.2.2.2.1 d.2.2.2.2.2.2.2.2.2.2.2.2.2.2.2.2.2.2.2.2.2.2.2.2.1 d.2.2.2.2.2.2.2.2.2.2.2.2.2.2.2.2.2.2.2.2.2.2.2.2.2.2.1 d.2.2.2.2.2.2.2.2.2.2.2.2.2.2.2.2.2.2.2.2.2.2.2.2.2.2.2.2.1 d.2.2.2.2.2.2.2.2.2.2.2.2.2.2.2.2.2.2.2.2.2.2.2.2.2.2.2.2.2.2.1 ?_
  refine r_call C v_19_132 (a0 := 1) ⟨rfl, rfl⟩ ma_113 (es3 1 (xs (i + 1)) (xs (i + 2)) (xs (i + 3)) (by decide)) (ok3 1 (xs (i + 1)) (xs (i + 2)) (xs (i + 3))) (Nat.le_of_ble_eq_true rfl) (lv_1 _) (P := fun v m1 => Cl 230 248 [249, (xs (i + 1)).toInt, (xs (i + 2)).toInt, (xs (i + 3)).toInt] (fun w u' => ∃ m2, u' = S9 0 m2 ∧ JJ cb m2) (S9 0 m1)) (two_113 hm) d.2.2.2.2.2.2.2.2.2.2.2.2.2.2.2.2.2.2.2.2.2.2.2.2.2.2.2.2.2.2.2.2.1 ?_
  intro v m1 hv1 h1
  rw [encR_i (t := mRty 113) (Or.inl rfl)]
  refine r_pop C d.2.2.2.2.2.2.2.2.2.2.2.2.2.2.2.2.2.2.2.2.2.2.2.2.2.2.2.2.2.2.2.2.2.2.1 rfl ?_
  refine r_al C 2 rfl d.2.2.2.2.2.2.2.2.2.2.2.2.2.2.2.2.2.2.2.2.2.2.2.2.2.2.2.2.2.2.2.2.2.2.2.2.1 ?_
  refine r_push C h5 hL (k := 1) (by decide) 0 4 rfl rfl d.2.2.2.2.2.2.2.2.2.2.2.2.2.2.2.2.2.2.2.2.2.2.2.2.2.2.2.2.2.2.2.2.2.2.2.2.2.2.1 d.2.2.2.2.2.2.2.2.2.2.2.2.2.2.2.2.2.2.2.2.2.2.2.2.2.2.2.2.2.2.2.2.2.2.2.2.2.2.2.2.1 d.2.2.2.2.2.2.2.2.2.2.2.2.2.2.2.2.2.2.2.2.2.2.2.2.2.2.2.2.2.2.2.2.2.2.2.2.2.2.2.2.2.2.1 d.2.2.2.2.2.2.2.2.2.2.2.2.2.2.2.2.2.2.2.2.2.2.2.2.2.2.2.2.2.2.2.2.2.2.2.2.2.2.2.2.2.2.2.2.1 d.2.2.2.2.2.2.2.2.2.2.2.2.2.2.2.2.2.2.2.2.2.2.2.2.2.2.2.2.2.2.2.2.2.2.2.2.2.2.2.2.2.2.2.2.2.2.1 ?_
  refine r_push C h5 hL (k := 2) (by decide) 0 4 rfl rfl d.2.2.2.2.2.2.2.2.2.2.2.2.2.2.2.2.2.2.2.2.2.2.2.2.2.2.2.2.2.2.2.2.2.2.2.2.2.2.2.2.2.2.2.2.2.2.2.2.1 d.2.2.2.2.2.2.2.2.2.2.2.2.2.2.2.2.2.2.2.2.2.2.2.2.2.2.2.2.2.2.2.2.2.2.2.2.2.2.2.2.2.2.2.2.2.2.2.2.2.2.1 d.2.2.2.2.2.2.2.2.2.2.2.2.2.2.2.2.2.2.2.2.2.2.2.2.2.2.2.2.2.2.2.2.2.2.2.2.2.2.2.2.2.2.2.2.2.2.2.2.2.2.2.2.1 d.2.2.2.2.2.2.2.2.2.2.2.2.2.2.2.2.2.2.2.2.2.2.2.2.2.2.2.2.2.2.2.2.2.2.2.2.2.2.2.2.2.2.2.2.2.2.2.2.2.2.2.2.2.2.1 d.2.2.2.2.2.2.2.2.2.2.2.2.2.2.2.2.2.2.2.2.2.2.2.2.2.2.2.2.2.2.2.2.2.2.2.2.2.2.2.2.2.2.2.2.2.2.2.2.2.2.2.2.2.2.2.2.1 ?_
  refine r_push C h5 hL (k := 3) (by decide) 0 4 rfl rfl d.2.2.2.2.2.2.2.2.2.2.2.2.2.2.2.2.2.2.2.2.2.2.2.2.2.2.2.2.2.2.2.2.2.2.2.2.2.2.2.2.2.2.2.2.2.2.2.2.2.2.2.2.2.2.2.2.2.2.1 d.2.2.2.2.2.2.2.2.2.2.2.2.2.2.2.2.2.2.2.2.2.2.2.2.2.2.2.2.2.2.2.2.2.2.2.2.2.2.2.2.2.2.2.2.2.2.2.2.2.2.2.2.2.2.2.2.2.2.2.2.1 d.2.2.2.2.2.2.2.2.2.2.2.2.2.2.2.2.2.2.2.2.2.2.2.2.2.2.2.2.2.2.2.2.2.2.2.2.2.2.2.2.2.2.2.2.2.2.2.2.2.2.2.2.2.2.2.2.2.2.2.2.2.2.1 d.2.2.2.2.2.2.2.2.2.2.2.2.2.2.2.2.2.2.2.2.2.2.2.2.2.2.2.2.2.2.2.2.2.2.2.2.2.2.2.2.2.2.2.2.2.2.2.2.2.2.2.2.2.2.2.2.2.2.2.2.2.2.2.2.1 d.2.2.2.2.2.2.2.2.2.2.2.2.2.2.2.2.2.2.2.2.2.2.2.2.2.2.2.2.2.2.2.2.2.2.2.2.2.2.2.2.2.2.2.2.2.2.2.2.2.2.2.2.2.2.2.2.2.2.2.2.2.2.2.2.2.2.1 ?_
  refine r_call C v_19_135 (a0 := 249) ⟨rfl, rfl⟩ ma_248 (es3 249 (xs (i + 1)) (xs (i + 2)) (xs (i + 3)) (by decide)) (ok3 249 (xs (i + 1)) (xs (i + 2)) (xs (i + 3))) (Nat.le_of_ble_eq_true rfl) (lv_249 _) (P := fun w m2 => JJ cb m2) h1 d.2.2.2.2.2.2.2.2.2.2.2.2.2.2.2.2.2.2.2.2.2.2.2.2.2.2.2.2.2.2.2.2.2.2.2.2.2.2.2.2.2.2.2.2.2.2.2.2.2.2.2.2.2.2.2.2.2.2.2.2.2.2.2.2.2.2.2.2.1 ?_
  intro w m2 hw1 h2
  rw [encR_i (t := mRty 248) (Or.inl rfl)]
  refine r_pop C d.2.2.2.2.2.2.2.2.2.2.2.2.2.2.2.2.2.2.2.2.2.2.2.2.2.2.2.2.2.2.2.2.2.2.2.2.2.2.2.2.2.2.2.2.2.2.2.2.2.2.2.2.2.2.2.2.2.2.2.2.2.2.2.2.2.2.2.2.2.2.1 rfl ?_
  exact r_go C (tgt := 1575) d.2.2.2.2.2.2.2.2.2.2.2.2.2.2.2.2.2.2.2.2.2.2.2.2.2.2.2.2.2.2.2.2.2.2.2.2.2.2.2.2.2.2.2.2.2.2.2.2.2.2.2.2.2.2.2.2.2.2.2.2.2.2.2.2.2.2.2.2.2.2.2.2.1 (by decide) (fin m2 h2)
