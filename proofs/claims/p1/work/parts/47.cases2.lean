/-! the law, case by case -/
theorem case_18 {p : Program} {l : Launch} {e : Env} {s : State} {m : MethodId} {b L : Nat} {below : List Frame} {meth : Method} {c : Code} {xs : Nat → Int32} {G : Geo} (C : LCx p l s m meth c b L xs G) (h5 : L = 5) (fin : ∀ m9 : Mem, LW p l e s m b below meth c G (T9 1 6 m9) (lv0 b G) 1714 []) : LW p l e s m b below meth c G (T9 1 6 zM) (lv0 b G) 918 [] := by
  have d : Dec code [(918, .aload_n 1, 1), (919, .invokevirtual 110, 3), (922, .aload_n 2, 1), (923, .invokevirtual 113, 3), (926, .if_icmp .eq 788, 3)] := decB_ok (by decide +kernel)
  refine r_al C 1 rfl d.1 ?_
  refine r_call C v_19_110 (a0 := 1) ⟨rfl, rfl⟩ ma_96 (es0 1 (by decide)) (ok0 1) (Nat.le_of_ble_eq_true rfl) (lv_1 _) (P := fun v m1 => Cl 20 235 (249 :: []) (fun w u' => ∃ m2, u' = S9 0 m2 ∧ w = v) (S9 0 m1)) (one_96 (d := 14)) d.2.2.1 ?_
  intro v m1 hv1 h1
  rw [encR_i (t := mRty 96) (Or.inl rfl)]
  refine r_al C 2 rfl d.2.2.2.2.1 ?_
  refine r_call C v_19_113 (a0 := 249) ⟨rfl, rfl⟩ ma_235 (es0 249 (by decide)) (ok0 249) (Nat.le_of_ble_eq_true rfl) (lv_249 _) (P := fun w m2 => w = v) h1 d.2.2.2.2.2.2.1 ?_
  rintro w m2 hw1 rfl
  rw [encR_i (t := mRty 235) (Or.inl rfl)]
  exact r_eq C d.2.2.2.2.2.2.2.2.1 (by decide) rfl (fin m2)
theorem case_19 {p : Program} {l : Launch} {e : Env} {s : State} {m : MethodId} {b L : Nat} {below : List Frame} {meth : Method} {c : Code} {xs : Nat → Int32} {G : Geo} (C : LCx p l s m meth c b L xs G) (h5 : L = 5) (fin : ∀ m9 : Mem, LW p l e s m b below meth c G (T9 1 6 m9) (lv0 b G) 1714 []) : LW p l e s m b below meth c G (T9 1 6 zM) (lv0 b G) 931 [] := by
  have d : Dec code [(931, .aload_n 1, 1), (932, .invokevirtual 114, 3), (935, .aload_n 2, 1), (936, .invokevirtual 117, 3), (939, .if_icmp .eq 775, 3)] := decB_ok (by decide +kernel)
  refine r_al C 1 rfl d.1 ?_
  refine r_call C v_19_114 (a0 := 1) ⟨rfl, rfl⟩ ma_101 (es0 1 (by decide)) (ok0 1) (Nat.le_of_ble_eq_true rfl) (lv_1 _) (P := fun v m1 => Cl 20 213 (249 :: []) (fun w u' => ∃ m2, u' = S9 0 m2 ∧ w = v) (S9 0 m1)) (one_101 (d := 14)) d.2.2.1 ?_
  intro v m1 hv1 h1
  rw [encR_i (t := mRty 101) (Or.inl rfl)]
  refine r_al C 2 rfl d.2.2.2.2.1 ?_
  refine r_call C v_19_117 (a0 := 249) ⟨rfl, rfl⟩ ma_213 (es0 249 (by decide)) (ok0 249) (Nat.le_of_ble_eq_true rfl) (lv_249 _) (P := fun w m2 => w = v) h1 d.2.2.2.2.2.2.1 ?_
  rintro w m2 hw1 rfl
  rw [encR_i (t := mRty 213) (Or.inl rfl)]
  exact r_eq C d.2.2.2.2.2.2.2.2.1 (by decide) rfl (fin m2)
theorem case_20 {p : Program} {l : Launch} {e : Env} {s : State} {m : MethodId} {b L : Nat} {below : List Frame} {meth : Method} {c : Code} {xs : Nat → Int32} {G : Geo} (C : LCx p l s m meth c b L xs G) (h5 : L = 5) (fin : ∀ m9 : Mem, LW p l e s m b below meth c G (T9 1 6 m9) (lv0 b G) 1714 []) : LW p l e s m b below meth c G (T9 1 6 zM) (lv0 b G) 944 [] := by
  have d : Dec code [(944, .aload_n 1, 1), (945, .aload_n 0, 1), (946, .iload 4, 2), (948, .iconst 1, 1), (949, .iadd, 1), (950, .iaload, 1), (951, .invokevirtual 118, 3), (954, .aload_n 2, 1), (955, .aload_n 0, 1), (956, .iload 4, 2), (958, .iconst 1, 1), (959, .iadd, 1), (960, .iaload, 1), (961, .invokevirtual 121, 3), (964, .if_icmp .eq 750, 3)] := decB_ok (by decide +kernel)
  refine r_al C 1 rfl d.1 ?_
  refine r_push C h5 (k := 1) (by decide) 0 4 rfl rfl d.2.2.1 d.2.2.2.2.1 d.2.2.2.2.2.2.1 d.2.2.2.2.2.2.2.2.1 d.2.2.2.2.2.2.2.2.2.2.1 ?_
  refine r_call C v_19_118 (a0 := 1) ⟨rfl, rfl⟩ ma_103 (es1 1 (xs 1) (by decide)) (ok1 1 (xs 1)) (Nat.le_of_ble_eq_true rfl) (lv_1 _) (P := fun v m1 => Cl 20 238 (249 :: [(xs 1).toInt]) (fun w u' => ∃ m2, u' = S9 0 m2 ∧ w = v) (S9 0 m1)) (one_103 (d := 14)) d.2.2.2.2.2.2.2.2.2.2.2.2.1 ?_
  intro v m1 hv1 h1
  rw [encR_i (t := mRty 103) (Or.inl rfl)]
  refine r_al C 2 rfl d.2.2.2.2.2.2.2.2.2.2.2.2.2.2.1 ?_
  refine r_push C h5 (k := 1) (by decide) 0 4 rfl rfl d.2.2.2.2.2.2.2.2.2.2.2.2.2.2.2.2.1 d.2.2.2.2.2.2.2.2.2.2.2.2.2.2.2.2.2.2.1 d.2.2.2.2.2.2.2.2.2.2.2.2.2.2.2.2.2.2.2.2.1 d.2.2.2.2.2.2.2.2.2.2.2.2.2.2.2.2.2.2.2.2.2.2.1 d.2.2.2.2.2.2.2.2.2.2.2.2.2.2.2.2.2.2.2.2.2.2.2.2.1 ?_
  refine r_call C v_19_121 (a0 := 249) ⟨rfl, rfl⟩ ma_238 (es1 249 (xs 1) (by decide)) (ok1 249 (xs 1)) (Nat.le_of_ble_eq_true rfl) (lv_249 _) (P := fun w m2 => w = v) h1 d.2.2.2.2.2.2.2.2.2.2.2.2.2.2.2.2.2.2.2.2.2.2.2.2.2.2.1 ?_
  rintro w m2 hw1 rfl
  rw [encR_i (t := mRty 238) (Or.inl rfl)]
  exact r_eq C d.2.2.2.2.2.2.2.2.2.2.2.2.2.2.2.2.2.2.2.2.2.2.2.2.2.2.2.2.1 (by decide) rfl (fin m2)
theorem case_21 {p : Program} {l : Launch} {e : Env} {s : State} {m : MethodId} {b L : Nat} {below : List Frame} {meth : Method} {c : Code} {xs : Nat → Int32} {G : Geo} (C : LCx p l s m meth c b L xs G) (h5 : L = 5) (fin : ∀ m9 : Mem, LW p l e s m b below meth c G (T9 1 6 m9) (lv0 b G) 1714 []) : LW p l e s m b below meth c G (T9 1 6 zM) (lv0 b G) 969 [] := by
  have d : Dec code [(969, .aload_n 1, 1), (970, .aload_n 0, 1), (971, .iload 4, 2), (973, .iconst 1, 1), (974, .iadd, 1), (975, .iaload, 1), (976, .aload_n 0, 1), (977, .iload 4, 2), (979, .iconst 2, 1), (980, .iadd, 1), (981, .iaload, 1), (982, .invokevirtual 122, 3), (985, .aload_n 2, 1), (986, .aload_n 0, 1), (987, .iload 4, 2), (989, .iconst 1, 1), (990, .iadd, 1), (991, .iaload, 1), (992, .aload_n 0, 1), (993, .iload 4, 2), (995, .iconst 2, 1), (996, .iadd, 1), (997, .iaload, 1), (998, .invokevirtual 125, 3), (1001, .if_icmp .eq 713, 3)] := decB_ok (by decide +kernel)
  refine r_al C 1 rfl d.1 ?_
  refine r_push C h5 (k := 1) (by decide) 0 4 rfl rfl d.2.2.1 d.2.2.2.2.1 d.2.2.2.2.2.2.1 d.2.2.2.2.2.2.2.2.1 d.2.2.2.2.2.2.2.2.2.2.1 ?_
  refine r_push C h5 (k := 2) (by decide) 0 4 rfl rfl d.2.2.2.2.2.2.2.2.2.2.2.2.1 d.2.2.2.2.2.2.2.2.2.2.2.2.2.2.1 d.2.2.2.2.2.2.2.2.2.2.2.2.2.2.2.2.1 d.2.2.2.2.2.2.2.2.2.2.2.2.2.2.2.2.2.2.1 d.2.2.2.2.2.2.2.2.2.2.2.2.2.2.2.2.2.2.2.2.1 ?_
  refine r_call C v_19_122 (a0 := 1) ⟨rfl, rfl⟩ ma_108 (es2 1 (xs 1) (xs 2) (by decide)) (ok2 1 (xs 1) (xs 2)) (Nat.le_of_ble_eq_true rfl) (lv_1 _) (P := fun v m1 => Cl 20 242 (249 :: [(xs 1).toInt, (xs 2).toInt]) (fun w u' => ∃ m2, u' = S9 0 m2 ∧ w = v) (S9 0 m1)) (one_108 (d := 14)) d.2.2.2.2.2.2.2.2.2.2.2.2.2.2.2.2.2.2.2.2.2.2.1 ?_
  intro v m1 hv1 h1
  rw [encR_i (t := mRty 108) (Or.inl rfl)]
  refine r_al C 2 rfl d.2.2.2.2.2.2.2.2.2.2.2.2.2.2.2.2.2.2.2.2.2.2.2.2.1 ?_
  refine r_push C h5 (k := 1) (by decide) 0 4 rfl rfl d.2.2.2.2.2.2.2.2.2.2.2.2.2.2.2.2.2.2.2.2.2.2.2.2.2.2.1 d.2.2.2.2.2.2.2.2.2.2.2.2.2.2.2.2.2.2.2.2.2.2.2.2.2.2.2.2.1 d.2.2.2.2.2.2.2.2.2.2.2.2.2.2.2.2.2.2.2.2.2.2.2.2.2.2.2.2.2.2.1 d.2.2.2.2.2.2.2.2.2.2.2.2.2.2.2.2.2.2.2.2.2.2.2.2.2.2.2.2.2.2.2.2.1 d.2.2.2.2.2.2.2.2.2.2.2.2.2.2.2.2.2.2.2.2.2.2.2.2.2.2.2.2.2.2.2.2.2.2.1 ?_
  refine r_push C h5 (k := 2) (by decide) 0 4 rfl rfl d.2.2.2.2.2.2.2.2.2.2.2.2.2.2.2.2.2.2.2.2.2.2.2.2.2.2.2.2.2.2.2.2.2.2.2.2.1 d.2.2.2.2.2.2.2.2.2.2.2.2.2.2.2.2.2.2.2.2.2.2.2.2.2.2.2.2.2.2.2.2.2.2.2.2.2.2.1 d.2.2.2.2.2.2.2.2.2.2.2.2.2.2.2.2.2.2.2.2.2.2.2.2.2.2.2.2.2.2.2.2.2.2.2.2.2.2.2.2.1 d.2.2.2.2.2.2.2.2.2.2.2.2.2.2.2.2.2.2.2.2.2.2.2.2.2.2.2.2.2.2.2.2.2.2.2.2.2.2.2.2.2.2.1 d.2.2.2.2.2.2.2.2.2.2.2.2.2.2.2.2.2.2.2.2.2.2.2.2.2.2.2.2.2.2.2.2.2.2.2.2.2.2.2.2.2.2.2.2.1 ?_
  refine r_call C v_19_125 (a0 := 249) ⟨rfl, rfl⟩ ma_242 (es2 249 (xs 1) (xs 2) (by decide)) (ok2 249 (xs 1) (xs 2)) (Nat.le_of_ble_eq_true rfl) (lv_249 _) (P := fun w m2 => w = v) h1 d.2.2.2.2.2.2.2.2.2.2.2.2.2.2.2.2.2.2.2.2.2.2.2.2.2.2.2.2.2.2.2.2.2.2.2.2.2.2.2.2.2.2.2.2.2.2.1 ?_
  rintro w m2 hw1 rfl
  rw [encR_i (t := mRty 242) (Or.inl rfl)]
  exact r_eq C d.2.2.2.2.2.2.2.2.2.2.2.2.2.2.2.2.2.2.2.2.2.2.2.2.2.2.2.2.2.2.2.2.2.2.2.2.2.2.2.2.2.2.2.2.2.2.2.2.1 (by decide) rfl (fin m2)
theorem case_22 {p : Program} {l : Launch} {e : Env} {s : State} {m : MethodId} {b L : Nat} {below : List Frame} {meth : Method} {c : Code} {xs : Nat → Int32} {G : Geo} (C : LCx p l s m meth c b L xs G) (h5 : L = 5) (fin : ∀ m9 : Mem, LW p l e s m b below meth c G (T9 1 6 m9) (lv0 b G) 1714 []) : LW p l e s m b below meth c G (T9 1 6 zM) (lv0 b G) 1006 [] := by
  have d : Dec code [(1006, .aload_n 1, 1), (1007, .aload_n 0, 1), (1008, .iload 4, 2), (1010, .iconst 1, 1), (1011, .iadd, 1), (1012, .iaload, 1), (1013, .invokevirtual 126, 3), (1016, .aload_n 2, 1), (1017, .aload_n 0, 1), (1018, .iload 4, 2), (1020, .iconst 1, 1), (1021, .iadd, 1), (1022, .iaload, 1), (1023, .invokevirtual 129, 3), (1026, .if_icmp .eq 688, 3)] := decB_ok (by decide +kernel)
  refine r_al C 1 rfl d.1 ?_
  refine r_push C h5 (k := 1) (by decide) 0 4 rfl rfl d.2.2.1 d.2.2.2.2.1 d.2.2.2.2.2.2.1 d.2.2.2.2.2.2.2.2.1 d.2.2.2.2.2.2.2.2.2.2.1 ?_
  refine r_call C v_19_126 (a0 := 1) ⟨rfl, rfl⟩ ma_109 (es1 1 (xs 1) (by decide)) (ok1 1 (xs 1)) (Nat.le_of_ble_eq_true rfl) (lv_1 _) (P := fun v m1 => Cl 20 243 (249 :: [(xs 1).toInt]) (fun w u' => ∃ m2, u' = S9 0 m2 ∧ w = v) (S9 0 m1)) (one_109 (d := 14)) d.2.2.2.2.2.2.2.2.2.2.2.2.1 ?_
  intro v m1 hv1 h1
  rw [encR_i (t := mRty 109) (Or.inl rfl)]
  refine r_al C 2 rfl d.2.2.2.2.2.2.2.2.2.2.2.2.2.2.1 ?_
  refine r_push C h5 (k := 1) (by decide) 0 4 rfl rfl d.2.2.2.2.2.2.2.2.2.2.2.2.2.2.2.2.1 d.2.2.2.2.2.2.2.2.2.2.2.2.2.2.2.2.2.2.1 d.2.2.2.2.2.2.2.2.2.2.2.2.2.2.2.2.2.2.2.2.1 d.2.2.2.2.2.2.2.2.2.2.2.2.2.2.2.2.2.2.2.2.2.2.1 d.2.2.2.2.2.2.2.2.2.2.2.2.2.2.2.2.2.2.2.2.2.2.2.2.1 ?_
  refine r_call C v_19_129 (a0 := 249) ⟨rfl, rfl⟩ ma_243 (es1 249 (xs 1) (by decide)) (ok1 249 (xs 1)) (Nat.le_of_ble_eq_true rfl) (lv_249 _) (P := fun w m2 => w = v) h1 d.2.2.2.2.2.2.2.2.2.2.2.2.2.2.2.2.2.2.2.2.2.2.2.2.2.2.1 ?_
  rintro w m2 hw1 rfl
  rw [encR_i (t := mRty 243) (Or.inl rfl)]
  exact r_eq C d.2.2.2.2.2.2.2.2.2.2.2.2.2.2.2.2.2.2.2.2.2.2.2.2.2.2.2.2.1 (by decide) rfl (fin m2)
theorem case_23 {p : Program} {l : Launch} {e : Env} {s : State} {m : MethodId} {b L : Nat} {below : List Frame} {meth : Method} {c : Code} {xs : Nat → Int32} {G : Geo} (C : LCx p l s m meth c b L xs G) (h5 : L = 5) (fin : ∀ m9 : Mem, LW p l e s m b below meth c G (T9 1 6 m9) (lv0 b G) 1714 []) : LW p l e s m b below meth c G (T9 1 6 zM) (lv0 b G) 1031 [] := by
  have d : Dec code [(1031, .aload_n 1, 1), (1032, .aload_n 0, 1), (1033, .iload 4, 2), (1035, .iconst 1, 1), (1036, .iadd, 1), (1037, .iaload, 1), (1038, .aload_n 0, 1), (1039, .iload 4, 2), (1041, .iconst 2, 1), (1042, .iadd, 1), (1043, .iaload, 1), (1044, .aload_n 0, 1), (1045, .iload 4, 2), (1047, .iconst 3, 1), (1048, .iadd, 1), (1049, .iaload, 1), (1050, .invokevirtual 130, 3), (1053, .aload_n 2, 1), (1054, .aload_n 0, 1), (1055, .iload 4, 2), (1057, .iconst 1, 1), (1058, .iadd, 1), (1059, .iaload, 1), (1060, .aload_n 0, 1), (1061, .iload 4, 2), (1063, .iconst 2, 1), (1064, .iadd, 1), (1065, .iaload, 1), (1066, .aload_n 0, 1), (1067, .iload 4, 2), (1069, .iconst 3, 1), (1070, .iadd, 1), (1071, .iaload, 1), (1072, .invokevirtual 134, 3), (1075, .if_icmp .eq 639, 3)] := decB_ok (by decide +kernel)
  refine r_al C 1 rfl d.1 ?_
  refine r_push C h5 (k := 1) (by decide) 0 4 rfl rfl d.2.2.1 d.2.2.2.2.1 d.2.2.2.2.2.2.1 d.2.2.2.2.2.2.2.2.1 d.2.2.2.2.2.2.2.2.2.2.1 ?_
  refine r_push C h5 (k := 2) (by decide) 0 4 rfl rfl d.2.2.2.2.2.2.2.2.2.2.2.2.1 d.2.2.2.2.2.2.2.2.2.2.2.2.2.2.1 d.2.2.2.2.2.2.2.2.2.2.2.2.2.2.2.2.1 d.2.2.2.2.2.2.2.2.2.2.2.2.2.2.2.2.2.2.1 d.2.2.2.2.2.2.2.2.2.2.2.2.2.2.2.2.2.2.2.2.1 ?_
  refine r_push C h5 (k := 3) (by decide) 0 4 rfl rfl d.2.2.2.2.2.2.2.2.2.2.2.2.2.2.2.2.2.2.2.2.2.2.1 d.2.2.2.2.2.2.2.2.2.2.2.2.2.2.2.2.2.2.2.2.2.2.2.2.1 d.2.2.2.2.2.2.2.2.2.2.2.2.2.2.2.2.2.2.2.2.2.2.2.2.2.2.1 d.2.2.2.2.2.2.2.2.2.2.2.2.2.2.2.2.2.2.2.2.2.2.2.2.2.2.2.2.1 d.2.2.2.2.2.2.2.2.2.2.2.2.2.2.2.2.2.2.2.2.2.2.2.2.2.2.2.2.2.2.1 ?_
  refine r_call C v_19_130 (a0 := 1) ⟨rfl, rfl⟩ ma_110 (es3 1 (xs 1) (xs 2) (xs 3) (by decide)) (ok3 1 (xs 1) (xs 2) (xs 3)) (Nat.le_of_ble_eq_true rfl) (lv_1 _) (P := fun v m1 => Cl 20 244 (249 :: [(xs 1).toInt, (xs 2).toInt, (xs 3).toInt]) (fun w u' => ∃ m2, u' = S9 0 m2 ∧ w = v) (S9 0 m1)) (one_110 (d := 14)) d.2.2.2.2.2.2.2.2.2.2.2.2.2.2.2.2.2.2.2.2.2.2.2.2.2.2.2.2.2.2.2.2.1 ?_
  intro v m1 hv1 h1
  rw [encR_i (t := mRty 110) (Or.inl rfl)]
  refine r_al C 2 rfl d.2.2.2.2.2.2.2.2.2.2.2.2.2.2.2.2.2.2.2.2.2.2.2.2.2.2.2.2.2.2.2.2.2.2.1 ?_
  refine r_push C h5 (k := 1) (by decide) 0 4 rfl rfl d.2.2.2.2.2.2.2.2.2.2.2.2.2.2.2.2.2.2.2.2.2.2.2.2.2.2.2.2.2.2.2.2.2.2.2.2.1 d.2.2.2.2.2.2.2.2.2.2.2.2.2.2.2.2.2.2.2.2.2.2.2.2.2.2.2.2.2.2.2.2.2.2.2.2.2.2.1 d.2.2.2.2.2.2.2.2.2.2.2.2.2.2.2.2.2.2.2.2.2.2.2.2.2.2.2.2.2.2.2.2.2.2.2.2.2.2.2.2.1 d.2.2.2.2.2.2.2.2.2.2.2.2.2.2.2.2.2.2.2.2.2.2.2.2.2.2.2.2.2.2.2.2.2.2.2.2.2.2.2.2.2.2.1 d.2.2.2.2.2.2.2.2.2.2.2.2.2.2.2.2.2.2.2.2.2.2.2.2.2.2.2.2.2.2.2.2.2.2.2.2.2.2.2.2.2.2.2.2.1 ?_
  refine r_push C h5 (k := 2) (by decide) 0 4 rfl rfl d.2.2.2.2.2.2.2.2.2.2.2.2.2.2.2.2.2.2.2.2.2.2.2.2.2.2.2.2.2.2.2.2.2.2.2.2.2.2.2.2.2.2.2.2.2.2.1 d.2.2.2.2.2.2.2.2.2.2.2.2.2.2.2.2.2.2.2.2.2.2.2.2.2.2.2.2.2.2.2.2.2.2.2.2.2.2.2.2.2.2.2.2.2.2.2.2.1 d.2.2.2.2.2.2.2.2.2.2.2.2.2.2.2.2.2.2.2.2.2.2.2.2.2.2.2.2.2.2.2.2.2.2.2.2.2.2.2.2.2.2.2.2.2.2.2.2.2.2.1 d.2.2.2.2.2.2.2.2.2.2.2.2.2.2.2.2.2.2.2.2.2.2.2.2.2.2.2.2.2.2.2.2.2.2.2.2.2.2.2.2.2.2.2.2.2.2.2.2.2.2.2.2.1 d.2.2.2.2.2.2.2.2.2.2.2.2.2.2.2.2.2.2.2.2.2.2.2.2.2.2.2.2.2.2.2.2.2.2.2.2.2.2.2.2.2.2.2.2.2.2.2.2.2.2.2.2.2.2.1 ?_
  refine r_push C h5 (k := 3) (by decide) 0 4 rfl rfl d.2.2.2.2.2.2.2.2.2.2.2.2.2.2.2.2.2.2.2.2.2.2.2.2.2.2.2.2.2.2.2.2.2.2.2.2.2.2.2.2.2.2.2.2.2.2.2.2.2.2.2.2.2.2.2.2.1 d.2.2.2.2.2.2.2.2.2.2.2.2.2.2.2.2.2.2.2.2.2.2.2.2.2.2.2.2.2.2.2.2.2.2.2.2.2.2.2.2.2.2.2.2.2.2.2.2.2.2.2.2.2.2.2.2.2.2.1 d.2.2.2.2.2.2.2.2.2.2.2.2.2.2.2.2.2.2.2.2.2.2.2.2.2.2.2.2.2.2.2.2.2.2.2.2.2.2.2.2.2.2.2.2.2.2.2.2.2.2.2.2.2.2.2.2.2.2.2.2.1 d.2.2.2.2.2.2.2.2.2.2.2.2.2.2.2.2.2.2.2.2.2.2.2.2.2.2.2.2.2.2.2.2.2.2.2.2.2.2.2.2.2.2.2.2.2.2.2.2.2.2.2.2.2.2.2.2.2.2.2.2.2.2.1 d.2.2.2.2.2.2.2.2.2.2.2.2.2.2.2.2.2.2.2.2.2.2.2.2.2.2.2.2.2.2.2.2.2.2.2.2.2.2.2.2.2.2.2.2.2.2.2.2.2.2.2.2.2.2.2.2.2.2.2.2.2.2.2.2.1 ?_
  refine r_call C v_19_134 (a0 := 249) ⟨rfl, rfl⟩ ma_244 (es3 249 (xs 1) (xs 2) (xs 3) (by decide)) (ok3 249 (xs 1) (xs 2) (xs 3)) (Nat.le_of_ble_eq_true rfl) (lv_249 _) (P := fun w m2 => w = v) h1 d.2.2.2.2.2.2.2.2.2.2.2.2.2.2.2.2.2.2.2.2.2.2.2.2.2.2.2.2.2.2.2.2.2.2.2.2.2.2.2.2.2.2.2.2.2.2.2.2.2.2.2.2.2.2.2.2.2.2.2.2.2.2.2.2.2.2.1 ?_
  rintro w m2 hw1 rfl
  rw [encR_i (t := mRty 244) (Or.inl rfl)]
  exact r_eq C d.2.2.2.2.2.2.2.2.2.2.2.2.2.2.2.2.2.2.2.2.2.2.2.2.2.2.2.2.2.2.2.2.2.2.2.2.2.2.2.2.2.2.2.2.2.2.2.2.2.2.2.2.2.2.2.2.2.2.2.2.2.2.2.2.2.2.2.2.1 (by decide) rfl (fin m2)
theorem case_24 {p : Program} {l : Launch} {e : Env} {s : State} {m : MethodId} {b L : Nat} {below : List Frame} {meth : Method} {c : Code} {xs : Nat → Int32} {G : Geo} (C : LCx p l s m meth c b L xs G) (h5 : L = 5) (fin : ∀ m9 : Mem, LW p l e s m b below meth c G (T9 1 6 m9) (lv0 b G) 1714 []) : LW p l e s m b below meth c G (T9 1 6 zM) (lv0 b G) 1080 [] := by
  have d : Dec code [(1080, .aload_n 1, 1), (1081, .aload_n 0, 1), (1082, .iload 4, 2), (1084, .iconst 1, 1), (1085, .iadd, 1), (1086, .iaload, 1), (1087, .aload_n 0, 1), (1088, .iload 4, 2), (1090, .iconst 2, 1), (1091, .iadd, 1), (1092, .iaload, 1), (1093, .aload_n 0, 1), (1094, .iload 4, 2), (1096, .iconst 3, 1), (1097, .iadd, 1), (1098, .iaload, 1), (1099, .invokevirtual 135, 3), (1102, .aload_n 2, 1), (1103, .aload_n 0, 1), (1104, .iload 4, 2), (1106, .iconst 1, 1), (1107, .iadd, 1), (1108, .iaload, 1), (1109, .aload_n 0, 1), (1110, .iload 4, 2), (1112, .iconst 2, 1), (1113, .iadd, 1), (1114, .iaload, 1), (1115, .aload_n 0, 1), (1116, .iload 4, 2), (1118, .iconst 3, 1), (1119, .iadd, 1), (1120, .iaload, 1), (1121, .invokevirtual 138, 3), (1124, .if_icmp .eq 590, 3)] := decB_ok (by decide +kernel)
  refine r_al C 1 rfl d.1 ?_
  refine r_push C h5 (k := 1) (by decide) 0 4 rfl rfl d.2.2.1 d.2.2.2.2.1 d.2.2.2.2.2.2.1 d.2.2.2.2.2.2.2.2.1 d.2.2.2.2.2.2.2.2.2.2.1 ?_
  refine r_push C h5 (k := 2) (by decide) 0 4 rfl rfl d.2.2.2.2.2.2.2.2.2.2.2.2.1 d.2.2.2.2.2.2.2.2.2.2.2.2.2.2.1 d.2.2.2.2.2.2.2.2.2.2.2.2.2.2.2.2.1 d.2.2.2.2.2.2.2.2.2.2.2.2.2.2.2.2.2.2.1 d.2.2.2.2.2.2.2.2.2.2.2.2.2.2.2.2.2.2.2.2.1 ?_
  refine r_push C h5 (k := 3) (by decide) 0 4 rfl rfl d.2.2.2.2.2.2.2.2.2.2.2.2.2.2.2.2.2.2.2.2.2.2.1 d.2.2.2.2.2.2.2.2.2.2.2.2.2.2.2.2.2.2.2.2.2.2.2.2.1 d.2.2.2.2.2.2.2.2.2.2.2.2.2.2.2.2.2.2.2.2.2.2.2.2.2.2.1 d.2.2.2.2.2.2.2.2.2.2.2.2.2.2.2.2.2.2.2.2.2.2.2.2.2.2.2.2.1 d.2.2.2.2.2.2.2.2.2.2.2.2.2.2.2.2.2.2.2.2.2.2.2.2.2.2.2.2.2.2.1 ?_
  refine r_call C v_19_135 (a0 := 1) ⟨rfl, rfl⟩ ma_113 (es3 1 (xs 1) (xs 2) (xs 3) (by decide)) (ok3 1 (xs 1) (xs 2) (xs 3)) (Nat.le_of_ble_eq_true rfl) (lv_1 _) (P := fun v m1 => Cl 20 248 (249 :: [(xs 1).toInt, (xs 2).toInt, (xs 3).toInt]) (fun w u' => ∃ m2, u' = S9 0 m2 ∧ w = v) (S9 0 m1)) (one_113 (d := 14)) d.2.2.2.2.2.2.2.2.2.2.2.2.2.2.2.2.2.2.2.2.2.2.2.2.2.2.2.2.2.2.2.2.1 ?_
  intro v m1 hv1 h1
  rw [encR_i (t := mRty 113) (Or.inl rfl)]
  refine r_al C 2 rfl d.2.2.2.2.2.2.2.2.2.2.2.2.2.2.2.2.2.2.2.2.2.2.2.2.2.2.2.2.2.2.2.2.2.2.1 ?_
  refine r_push C h5 (k := 1) (by decide) 0 4 rfl rfl d.2.2.2.2.2.2.2.2.2.2.2.2.2.2.2.2.2.2.2.2.2.2.2.2.2.2.2.2.2.2.2.2.2.2.2.2.1 d.2.2.2.2.2.2.2.2.2.2.2.2.2.2.2.2.2.2.2.2.2.2.2.2.2.2.2.2.2.2.2.2.2.2.2.2.2.2.1 d.2.2.2.2.2.2.2.2.2.2.2.2.2.2.2.2.2.2.2.2.2.2.2.2.2.2.2.2.2.2.2.2.2.2.2.2.2.2.2.2.1 d.2.2.2.2.2.2.2.2.2.2.2.2.2.2.2.2.2.2.2.2.2.2.2.2.2.2.2.2.2.2.2.2.2.2.2.2.2.2.2.2.2.2.1 d.2.2.2.2.2.2.2.2.2.2.2.2.2.2.2.2.2.2.2.2.2.2.2.2.2.2.2.2.2.2.2.2.2.2.2.2.2.2.2.2.2.2.2.2.1 ?_
  refine r_push C h5 (k := 2) (by decide) 0 4 rfl rfl d.2.2.2.2.2.2.2.2.2.2.2.2.2.2.2.2.2.2.2.2.2.2.2.2.2.2.2.2.2.2.2.2.2.2.2.2.2.2.2.2.2.2.2.2.2.2.1 d.2.2.2.2.2.2.2.2.2.2.2.2.2.2.2.2.2.2.2.2.2.2.2.2.2.2.2.2.2.2.2.2.2.2.2.2.2.2.2.2.2.2.2.2.2.2.2.2.1 d.2.2.2.2.2.2.2.2.2.2.2.2.2.2.2.2.2.2.2.2.2.2.2.2.2.2.2.2.2.2.2.2.2.2.2.2.2.2.2.2.2.2.2.2.2.2.2.2.2.2.1 d.2.2.2.2.2.2.2.2.2.2.2.2.2.2.2.2.2.2.2.2.2.2.2.2.2.2.2.2.2.2.2.2.2.2.2.2.2.2.2.2.2.2.2.2.2.2.2.2.2.2.2.2.1 d.2.2.2.2.2.2.2.2.2.2.2.2.2.2.2.2.2.2.2.2.2.2.2.2.2.2.2.2.2.2.2.2.2.2.2.2.2.2.2.2.2.2.2.2.2.2.2.2.2.2.2.2.2.2.1 ?_
  refine r_push C h5 (k := 3) (by decide) 0 4 rfl rfl d.2.2.2.2.2.2.2.2.2.2.2.2.2.2.2.2.2.2.2.2.2.2.2.2.2.2.2.2.2.2.2.2.2.2.2.2.2.2.2.2.2.2.2.2.2.2.2.2.2.2.2.2.2.2.2.2.1 d.2.2.2.2.2.2.2.2.2.2.2.2.2.2.2.2.2.2.2.2.2.2.2.2.2.2.2.2.2.2.2.2.2.2.2.2.2.2.2.2.2.2.2.2.2.2.2.2.2.2.2.2.2.2.2.2.2.2.1 d.2.2.2.2.2.2.2.2.2.2.2.2.2.2.2.2.2.2.2.2.2.2.2.2.2.2.2.2.2.2.2.2.2.2.2.2.2.2.2.2.2.2.2.2.2.2.2.2.2.2.2.2.2.2.2.2.2.2.2.2.1 d.2.2.2.2.2.2.2.2.2.2.2.2.2.2.2.2.2.2.2.2.2.2.2.2.2.2.2.2.2.2.2.2.2.2.2.2.2.2.2.2.2.2.2.2.2.2.2.2.2.2.2.2.2.2.2.2.2.2.2.2.2.2.1 d.2.2.2.2.2.2.2.2.2.2.2.2.2.2.2.2.2.2.2.2.2.2.2.2.2.2.2.2.2.2.2.2.2.2.2.2.2.2.2.2.2.2.2.2.2.2.2.2.2.2.2.2.2.2.2.2.2.2.2.2.2.2.2.2.1 ?_
  refine r_call C v_19_138 (a0 := 249) ⟨rfl, rfl⟩ ma_248 (es3 249 (xs 1) (xs 2) (xs 3) (by decide)) (ok3 249 (xs 1) (xs 2) (xs 3)) (Nat.le_of_ble_eq_true rfl) (lv_249 _) (P := fun w m2 => w = v) h1 d.2.2.2.2.2.2.2.2.2.2.2.2.2.2.2.2.2.2.2.2.2.2.2.2.2.2.2.2.2.2.2.2.2.2.2.2.2.2.2.2.2.2.2.2.2.2.2.2.2.2.2.2.2.2.2.2.2.2.2.2.2.2.2.2.2.2.1 ?_
  rintro w m2 hw1 rfl
  rw [encR_i (t := mRty 248) (Or.inl rfl)]
  exact r_eq C d.2.2.2.2.2.2.2.2.2.2.2.2.2.2.2.2.2.2.2.2.2.2.2.2.2.2.2.2.2.2.2.2.2.2.2.2.2.2.2.2.2.2.2.2.2.2.2.2.2.2.2.2.2.2.2.2.2.2.2.2.2.2.2.2.2.2.2.2.1 (by decide) rfl (fin m2)
