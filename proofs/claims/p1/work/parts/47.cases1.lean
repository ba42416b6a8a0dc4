/-! the law, case by case -/
theorem case_11 {p : Program} {l : Launch} {e : Env} {s : State} {m : MethodId} {b L : Nat} {below : List Frame} {meth : Method} {c : Code} {xs : Nat → Int32} {G : Geo} (C : LCx p l s m meth c b L xs G) (h5 : L = 5) (fin : ∀ m9 : Mem, LW p l e s m b below meth c G (T9 1 6 m9) (lv0 b G) 1714 []) : LW p l e s m b below meth c G (T9 1 6 zM) (lv0 b G) 695 [] := by
  have d : Dec code [(695, .aload_n 1, 1), (696, .aload_n 0, 1), (697, .iload 4, 2), (699, .iconst 1, 1), (700, .iadd, 1), (701, .iaload, 1), (702, .invokevirtual 82, 3), (705, .aload_n 2, 1), (706, .aload_n 0, 1), (707, .iload 4, 2), (709, .iconst 1, 1), (710, .iadd, 1), (711, .iaload, 1), (712, .invokevirtual 85, 3), (715, .if_icmp .eq 999, 3)] := decB_ok (by decide +kernel)
  refine r_al C 1 rfl d.1 ?_
  refine r_push C h5 (k := 1) (by decide) 0 4 rfl rfl d.2.2.1 d.2.2.2.2.1 d.2.2.2.2.2.2.1 d.2.2.2.2.2.2.2.2.1 d.2.2.2.2.2.2.2.2.2.2.1 ?_
  refine r_call C v_19_82 (a0 := 1) ⟨rfl, rfl⟩ ma_65 (es1 1 (xs 1) (by decide)) (ok1 1 (xs 1)) (Nat.le_of_ble_eq_true rfl) (lv_1 _) (P := fun v m1 => Cl 20 219 (249 :: [(xs 1).toInt]) (fun w u' => ∃ m2, u' = S9 0 m2 ∧ w = v) (S9 0 m1)) (one_65 (d := 14)) d.2.2.2.2.2.2.2.2.2.2.2.2.1 ?_
  intro v m1 hv1 h1
  rw [encR_i (t := mRty 65) (Or.inl rfl)]
  refine r_al C 2 rfl d.2.2.2.2.2.2.2.2.2.2.2.2.2.2.1 ?_
  refine r_push C h5 (k := 1) (by decide) 0 4 rfl rfl d.2.2.2.2.2.2.2.2.2.2.2.2.2.2.2.2.1 d.2.2.2.2.2.2.2.2.2.2.2.2.2.2.2.2.2.2.1 d.2.2.2.2.2.2.2.2.2.2.2.2.2.2.2.2.2.2.2.2.1 d.2.2.2.2.2.2.2.2.2.2.2.2.2.2.2.2.2.2.2.2.2.2.1 d.2.2.2.2.2.2.2.2.2.2.2.2.2.2.2.2.2.2.2.2.2.2.2.2.1 ?_
  refine r_call C v_19_85 (a0 := 249) ⟨rfl, rfl⟩ ma_219 (es1 249 (xs 1) (by decide)) (ok1 249 (xs 1)) (Nat.le_of_ble_eq_true rfl) (lv_249 _) (P := fun w m2 => w = v) h1 d.2.2.2.2.2.2.2.2.2.2.2.2.2.2.2.2.2.2.2.2.2.2.2.2.2.2.1 ?_
  rintro w m2 hw1 rfl
  rw [encR_i (t := mRty 219) (Or.inl rfl)]
  exact r_eq C d.2.2.2.2.2.2.2.2.2.2.2.2.2.2.2.2.2.2.2.2.2.2.2.2.2.2.2.2.1 (by decide) rfl (fin m2)
theorem case_12 {p : Program} {l : Launch} {e : Env} {s : State} {m : MethodId} {b L : Nat} {below : List Frame} {meth : Method} {c : Code} {xs : Nat → Int32} {G : Geo} (C : LCx p l s m meth c b L xs G) (h5 : L = 5) (fin : ∀ m9 : Mem, LW p l e s m b below meth c G (T9 1 6 m9) (lv0 b G) 1714 []) : LW p l e s m b below meth c G (T9 1 6 zM) (lv0 b G) 720 [] := by
  have d : Dec code [(720, .aload_n 1, 1), (721, .aload_n 0, 1), (722, .iload 4, 2), (724, .iconst 1, 1), (725, .iadd, 1), (726, .iaload, 1), (727, .aload_n 0, 1), (728, .iload 4, 2), (730, .iconst 2, 1), (731, .iadd, 1), (732, .iaload, 1), (733, .invokevirtual 86, 3), (736, .aload_n 2, 1), (737, .aload_n 0, 1), (738, .iload 4, 2), (740, .iconst 1, 1), (741, .iadd, 1), (742, .iaload, 1), (743, .aload_n 0, 1), (744, .iload 4, 2), (746, .iconst 2, 1), (747, .iadd, 1), (748, .iaload, 1), (749, .invokevirtual 89, 3), (752, .if_icmp .eq 962, 3)] := decB_ok (by decide +kernel)
  refine r_al C 1 rfl d.1 ?_
  refine r_push C h5 (k := 1) (by decide) 0 4 rfl rfl d.2.2.1 d.2.2.2.2.1 d.2.2.2.2.2.2.1 d.2.2.2.2.2.2.2.2.1 d.2.2.2.2.2.2.2.2.2.2.1 ?_
  refine r_push C h5 (k := 2) (by decide) 0 4 rfl rfl d.2.2.2.2.2.2.2.2.2.2.2.2.1 d.2.2.2.2.2.2.2.2.2.2.2.2.2.2.1 d.2.2.2.2.2.2.2.2.2.2.2.2.2.2.2.2.1 d.2.2.2.2.2.2.2.2.2.2.2.2.2.2.2.2.2.2.1 d.2.2.2.2.2.2.2.2.2.2.2.2.2.2.2.2.2.2.2.2.1 ?_
  refine r_call C v_19_86 (a0 := 1) ⟨rfl, rfl⟩ ma_67 (es2 1 (xs 1) (xs 2) (by decide)) (ok2 1 (xs 1) (xs 2)) (Nat.le_of_ble_eq_true rfl) (lv_1 _) (P := fun v m1 => Cl 20 221 (249 :: [(xs 1).toInt, (xs 2).toInt]) (fun w u' => ∃ m2, u' = S9 0 m2 ∧ w = v) (S9 0 m1)) (one_67 (d := 14)) d.2.2.2.2.2.2.2.2.2.2.2.2.2.2.2.2.2.2.2.2.2.2.1 ?_
  intro v m1 hv1 h1
  rw [encR_i (t := mRty 67) (Or.inl rfl)]
  refine r_al C 2 rfl d.2.2.2.2.2.2.2.2.2.2.2.2.2.2.2.2.2.2.2.2.2.2.2.2.1 ?_
  refine r_push C h5 (k := 1) (by decide) 0 4 rfl rfl d.2.2.2.2.2.2.2.2.2.2.2.2.2.2.2.2.2.2.2.2.2.2.2.2.2.2.1 d.2.2.2.2.2.2.2.2.2.2.2.2.2.2.2.2.2.2.2.2.2.2.2.2.2.2.2.2.1 d.2.2.2.2.2.2.2.2.2.2.2.2.2.2.2.2.2.2.2.2.2.2.2.2.2.2.2.2.2.2.1 d.2.2.2.2.2.2.2.2.2.2.2.2.2.2.2.2.2.2.2.2.2.2.2.2.2.2.2.2.2.2.2.2.1 d.2.2.2.2.2.2.2.2.2.2.2.2.2.2.2.2.2.2.2.2.2.2.2.2.2.2.2.2.2.2.2.2.2.2.1 ?_
  refine r_push C h5 (k := 2) (by decide) 0 4 rfl rfl d.2.2.2.2.2.2.2.2.2.2.2.2.2.2.2.2.2.2.2.2.2.2.2.2.2.2.2.2.2.2.2.2.2.2.2.2.1 d.2.2.2.2.2.2.2.2.2.2.2.2.2.2.2.2.2.2.2.2.2.2.2.2.2.2.2.2.2.2.2.2.2.2.2.2.2.2.1 d.2.2.2.2.2.2.2.2.2.2.2.2.2.2.2.2.2.2.2.2.2.2.2.2.2.2.2.2.2.2.2.2.2.2.2.2.2.2.2.2.1 d.2.2.2.2.2.2.2.2.2.2.2.2.2.2.2.2.2.2.2.2.2.2.2.2.2.2.2.2.2.2.2.2.2.2.2.2.2.2.2.2.2.2.1 d.2.2.2.2.2.2.2.2.2.2.2.2.2.2.2.2.2.2.2.2.2.2.2.2.2.2.2.2.2.2.2.2.2.2.2.2.2.2.2.2.2.2.2.2.1 ?_
  refine r_call C v_19_89 (a0 := 249) ⟨rfl, rfl⟩ ma_221 (es2 249 (xs 1) (xs 2) (by decide)) (ok2 249 (xs 1) (xs 2)) (Nat.le_of_ble_eq_true rfl) (lv_249 _) (P := fun w m2 => w = v) h1 d.2.2.2.2.2.2.2.2.2.2.2.2.2.2.2.2.2.2.2.2.2.2.2.2.2.2.2.2.2.2.2.2.2.2.2.2.2.2.2.2.2.2.2.2.2.2.1 ?_
  rintro w m2 hw1 rfl
  rw [encR_i (t := mRty 221) (Or.inl rfl)]
  exact r_eq C d.2.2.2.2.2.2.2.2.2.2.2.2.2.2.2.2.2.2.2.2.2.2.2.2.2.2.2.2.2.2.2.2.2.2.2.2.2.2.2.2.2.2.2.2.2.2.2.2.1 (by decide) rfl (fin m2)
theorem case_13 {p : Program} {l : Launch} {e : Env} {s : State} {m : MethodId} {b L : Nat} {below : List Frame} {meth : Method} {c : Code} {xs : Nat → Int32} {G : Geo} (C : LCx p l s m meth c b L xs G) (h5 : L = 5) (fin : ∀ m9 : Mem, LW p l e s m b below meth c G (T9 1 6 m9) (lv0 b G) 1714 []) : LW p l e s m b below meth c G (T9 1 6 zM) (lv0 b G) 757 [] := by
  have d : Dec code [(757, .aload_n 1, 1), (758, .aload_n 0, 1), (759, .iload 4, 2), (761, .iconst 1, 1), (762, .iadd, 1), (763, .iaload, 1), (764, .invokevirtual 90, 3), (767, .aload_n 2, 1), (768, .aload_n 0, 1), (769, .iload 4, 2), (771, .iconst 1, 1), (772, .iadd, 1), (773, .iaload, 1), (774, .invokevirtual 93, 3), (777, .if_icmp .eq 937, 3)] := decB_ok (by decide +kernel)
  refine r_al C 1 rfl d.1 ?_
  refine r_push C h5 (k := 1) (by decide) 0 4 rfl rfl d.2.2.1 d.2.2.2.2.1 d.2.2.2.2.2.2.1 d.2.2.2.2.2.2.2.2.1 d.2.2.2.2.2.2.2.2.2.2.1 ?_
  refine r_call C v_19_90 (a0 := 1) ⟨rfl, rfl⟩ ma_85 (es1 1 (xs 1) (by decide)) (ok1 1 (xs 1)) (Nat.le_of_ble_eq_true rfl) (lv_1 _) (P := fun v m1 => Cl 20 226 (249 :: [(xs 1).toInt]) (fun w u' => ∃ m2, u' = S9 0 m2 ∧ w = v) (S9 0 m1)) (one_85 (d := 14)) d.2.2.2.2.2.2.2.2.2.2.2.2.1 ?_
  intro v m1 hv1 h1
  rw [encR_i (t := mRty 85) (Or.inl rfl)]
  refine r_al C 2 rfl d.2.2.2.2.2.2.2.2.2.2.2.2.2.2.1 ?_
  refine r_push C h5 (k := 1) (by decide) 0 4 rfl rfl d.2.2.2.2.2.2.2.2.2.2.2.2.2.2.2.2.1 d.2.2.2.2.2.2.2.2.2.2.2.2.2.2.2.2.2.2.1 d.2.2.2.2.2.2.2.2.2.2.2.2.2.2.2.2.2.2.2.2.1 d.2.2.2.2.2.2.2.2.2.2.2.2.2.2.2.2.2.2.2.2.2.2.1 d.2.2.2.2.2.2.2.2.2.2.2.2.2.2.2.2.2.2.2.2.2.2.2.2.1 ?_
  refine r_call C v_19_93 (a0 := 249) ⟨rfl, rfl⟩ ma_226 (es1 249 (xs 1) (by decide)) (ok1 249 (xs 1)) (Nat.le_of_ble_eq_true rfl) (lv_249 _) (P := fun w m2 => w = v) h1 d.2.2.2.2.2.2.2.2.2.2.2.2.2.2.2.2.2.2.2.2.2.2.2.2.2.2.1 ?_
  rintro w m2 hw1 rfl
  rw [encR_i (t := mRty 226) (Or.inl rfl)]
  exact r_eq C d.2.2.2.2.2.2.2.2.2.2.2.2.2.2.2.2.2.2.2.2.2.2.2.2.2.2.2.2.1 (by decide) rfl (fin m2)
theorem case_14 {p : Program} {l : Launch} {e : Env} {s : State} {m : MethodId} {b L : Nat} {below : List Frame} {meth : Method} {c : Code} {xs : Nat → Int32} {G : Geo} (C : LCx p l s m meth c b L xs G) (h5 : L = 5) (fin : ∀ m9 : Mem, LW p l e s m b below meth c G (T9 1 6 m9) (lv0 b G) 1714 []) : LW p l e s m b below meth c G (T9 1 6 zM) (lv0 b G) 782 [] := by
  have d : Dec code [(782, .aload_n 1, 1), (783, .aload_n 0, 1), (784, .iload 4, 2), (786, .iconst 1, 1), (787, .iadd, 1), (788, .iaload, 1), (789, .invokevirtual 94, 3), (792, .aload_n 2, 1), (793, .aload_n 0, 1), (794, .iload 4, 2), (796, .iconst 1, 1), (797, .iadd, 1), (798, .iaload, 1), (799, .invokevirtual 97, 3), (802, .if_icmp .eq 912, 3)] := decB_ok (by decide +kernel)
  refine r_al C 1 rfl d.1 ?_
  refine r_push C h5 (k := 1) (by decide) 0 4 rfl rfl d.2.2.1 d.2.2.2.2.1 d.2.2.2.2.2.2.1 d.2.2.2.2.2.2.2.2.1 d.2.2.2.2.2.2.2.2.2.2.1 ?_
  refine r_call C v_19_94 (a0 := 1) ⟨rfl, rfl⟩ ma_87 (es1 1 (xs 1) (by decide)) (ok1 1 (xs 1)) (Nat.le_of_ble_eq_true rfl) (lv_1 _) (P := fun v m1 => Cl 20 228 (249 :: [(xs 1).toInt]) (fun w u' => ∃ m2, u' = S9 0 m2 ∧ w = v) (S9 0 m1)) (one_87 (d := 14)) d.2.2.2.2.2.2.2.2.2.2.2.2.1 ?_
  intro v m1 hv1 h1
  rw [encR_i (t := mRty 87) (Or.inl rfl)]
  refine r_al C 2 rfl d.2.2.2.2.2.2.2.2.2.2.2.2.2.2.1 ?_
  refine r_push C h5 (k := 1) (by decide) 0 4 rfl rfl d.2.2.2.2.2.2.2.2.2.2.2.2.2.2.2.2.1 d.2.2.2.2.2.2.2.2.2.2.2.2.2.2.2.2.2.2.1 d.2.2.2.2.2.2.2.2.2.2.2.2.2.2.2.2.2.2.2.2.1 d.2.2.2.2.2.2.2.2.2.2.2.2.2.2.2.2.2.2.2.2.2.2.1 d.2.2.2.2.2.2.2.2.2.2.2.2.2.2.2.2.2.2.2.2.2.2.2.2.1 ?_
  refine r_call C v_19_97 (a0 := 249) ⟨rfl, rfl⟩ ma_228 (es1 249 (xs 1) (by decide)) (ok1 249 (xs 1)) (Nat.le_of_ble_eq_true rfl) (lv_249 _) (P := fun w m2 => w = v) h1 d.2.2.2.2.2.2.2.2.2.2.2.2.2.2.2.2.2.2.2.2.2.2.2.2.2.2.1 ?_
  rintro w m2 hw1 rfl
  rw [encR_i (t := mRty 228) (Or.inl rfl)]
  exact r_eq C d.2.2.2.2.2.2.2.2.2.2.2.2.2.2.2.2.2.2.2.2.2.2.2.2.2.2.2.2.1 (by decide) rfl (fin m2)
theorem case_15 {p : Program} {l : Launch} {e : Env} {s : State} {m : MethodId} {b L : Nat} {below : List Frame} {meth : Method} {c : Code} {xs : Nat → Int32} {G : Geo} (C : LCx p l s m meth c b L xs G) (h5 : L = 5) (fin : ∀ m9 : Mem, LW p l e s m b below meth c G (T9 1 6 m9) (lv0 b G) 1714 []) : LW p l e s m b below meth c G (T9 1 6 zM) (lv0 b G) 807 [] := by
  have d : Dec code [(807, .aload_n 1, 1), (808, .aload_n 0, 1), (809, .iload 4, 2), (811, .iconst 1, 1), (812, .iadd, 1), (813, .iaload, 1), (814, .aload_n 0, 1), (815, .iload 4, 2), (817, .iconst 2, 1), (818, .iadd, 1), (819, .iaload, 1), (820, .invokevirtual 98, 3), (823, .aload_n 2, 1), (824, .aload_n 0, 1), (825, .iload 4, 2), (827, .iconst 1, 1), (828, .iadd, 1), (829, .iaload, 1), (830, .aload_n 0, 1), (831, .iload 4, 2), (833, .iconst 2, 1), (834, .iadd, 1), (835, .iaload, 1), (836, .invokevirtual 101, 3), (839, .if_icmp .eq 875, 3)] := decB_ok (by decide +kernel)
  refine r_al C 1 rfl d.1 ?_
  refine r_push C h5 (k := 1) (by decide) 0 4 rfl rfl d.2.2.1 d.2.2.2.2.1 d.2.2.2.2.2.2.1 d.2.2.2.2.2.2.2.2.1 d.2.2.2.2.2.2.2.2.2.2.1 ?_
  refine r_push C h5 (k := 2) (by decide) 0 4 rfl rfl d.2.2.2.2.2.2.2.2.2.2.2.2.1 d.2.2.2.2.2.2.2.2.2.2.2.2.2.2.1 d.2.2.2.2.2.2.2.2.2.2.2.2.2.2.2.2.1 d.2.2.2.2.2.2.2.2.2.2.2.2.2.2.2.2.2.2.1 d.2.2.2.2.2.2.2.2.2.2.2.2.2.2.2.2.2.2.2.2.1 ?_
  refine r_call C v_19_98 (a0 := 1) ⟨rfl, rfl⟩ ma_89 (es2 1 (xs 1) (xs 2) (by decide)) (ok2 1 (xs 1) (xs 2)) (Nat.le_of_ble_eq_true rfl) (lv_1 _) (P := fun v m1 => Cl 20 230 (249 :: [(xs 1).toInt, (xs 2).toInt]) (fun w u' => ∃ m2, u' = S9 0 m2 ∧ w = v) (S9 0 m1)) (one_89 (d := 14)) d.2.2.2.2.2.2.2.2.2.2.2.2.2.2.2.2.2.2.2.2.2.2.1 ?_
  intro v m1 hv1 h1
  rw [encR_i (t := mRty 89) (Or.inl rfl)]
  refine r_al C 2 rfl d.2.2.2.2.2.2.2.2.2.2.2.2.2.2.2.2.2.2.2.2.2.2.2.2.1 ?_
  refine r_push C h5 (k := 1) (by decide) 0 4 rfl rfl d.2.2.2.2.2.2.2.2.2.2.2.2.2.2.2.2.2.2.2.2.2.2.2.2.2.2.1 d.2.2.2.2.2.2.2.2.2.2.2.2.2.2.2.2.2.2.2.2.2.2.2.2.2.2.2.2.1 d.2.2.2.2.2.2.2.2.2.2.2.2.2.2.2.2.2.2.2.2.2.2.2.2.2.2.2.2.2.2.1 d.2.2.2.2.2.2.2.2.2.2.2.2.2.2.2.2.2.2.2.2.2.2.2.2.2.2.2.2.2.2.2.2.1 d.2.2.2.2.2.2.2.2.2.2.2.2.2.2.2.2.2.2.2.2.2.2.2.2.2.2.2.2.2.2.2.2.2.2.1 ?_
  refine r_push C h5 (k := 2) (by decide) 0 4 rfl rfl d.2.2.2.2.2.2.2.2.2.2.2.2.2.2.2.2.2.2.2.2.2.2.2.2.2.2.2.2.2.2.2.2.2.2.2.2.1 d.2.2.2.2.2.2.2.2.2.2.2.2.2.2.2.2.2.2.2.2.2.2.2.2.2.2.2.2.2.2.2.2.2.2.2.2.2.2.1 d.2.2.2.2.2.2.2.2.2.2.2.2.2.2.2.2.2.2.2.2.2.2.2.2.2.2.2.2.2.2.2.2.2.2.2.2.2.2.2.2.1 d.2.2.2.2.2.2.2.2.2.2.2.2.2.2.2.2.2.2.2.2.2.2.2.2.2.2.2.2.2.2.2.2.2.2.2.2.2.2.2.2.2.2.1 d.2.2.2.2.2.2.2.2.2.2.2.2.2.2.2.2.2.2.2.2.2.2.2.2.2.2.2.2.2.2.2.2.2.2.2.2.2.2.2.2.2.2.2.2.1 ?_
  refine r_call C v_19_101 (a0 := 249) ⟨rfl, rfl⟩ ma_230 (es2 249 (xs 1) (xs 2) (by decide)) (ok2 249 (xs 1) (xs 2)) (Nat.le_of_ble_eq_true rfl) (lv_249 _) (P := fun w m2 => w = v) h1 d.2.2.2.2.2.2.2.2.2.2.2.2.2.2.2.2.2.2.2.2.2.2.2.2.2.2.2.2.2.2.2.2.2.2.2.2.2.2.2.2.2.2.2.2.2.2.1 ?_
  rintro w m2 hw1 rfl
  rw [encR_i (t := mRty 230) (Or.inl rfl)]
  exact r_eq C d.2.2.2.2.2.2.2.2.2.2.2.2.2.2.2.2.2.2.2.2.2.2.2.2.2.2.2.2.2.2.2.2.2.2.2.2.2.2.2.2.2.2.2.2.2.2.2.2.1 (by decide) rfl (fin m2)
theorem case_16 {p : Program} {l : Launch} {e : Env} {s : State} {m : MethodId} {b L : Nat} {below : List Frame} {meth : Method} {c : Code} {xs : Nat → Int32} {G : Geo} (C : LCx p l s m meth c b L xs G) (h5 : L = 5) (fin : ∀ m9 : Mem, LW p l e s m b below meth c G (T9 1 6 m9) (lv0 b G) 1714 []) : LW p l e s m b below meth c G (T9 1 6 zM) (lv0 b G) 844 [] := by
  have d : Dec code [(844, .aload_n 1, 1), (845, .aload_n 0, 1), (846, .iload 4, 2), (848, .iconst 1, 1), (849, .iadd, 1), (850, .iaload, 1), (851, .aload_n 0, 1), (852, .iload 4, 2), (854, .iconst 2, 1), (855, .iadd, 1), (856, .iaload, 1), (857, .invokevirtual 102, 3), (860, .aload_n 2, 1), (861, .aload_n 0, 1), (862, .iload 4, 2), (864, .iconst 1, 1), (865, .iadd, 1), (866, .iaload, 1), (867, .aload_n 0, 1), (868, .iload 4, 2), (870, .iconst 2, 1), (871, .iadd, 1), (872, .iaload, 1), (873, .invokevirtual 105, 3), (876, .if_icmp .eq 838, 3)] := decB_ok (by decide +kernel)
  refine r_al C 1 rfl d.1 ?_
  refine r_push C h5 (k := 1) (by decide) 0 4 rfl rfl d.2.2.1 d.2.2.2.2.1 d.2.2.2.2.2.2.1 d.2.2.2.2.2.2.2.2.1 d.2.2.2.2.2.2.2.2.2.2.1 ?_
  refine r_push C h5 (k := 2) (by decide) 0 4 rfl rfl d.2.2.2.2.2.2.2.2.2.2.2.2.1 d.2.2.2.2.2.2.2.2.2.2.2.2.2.2.1 d.2.2.2.2.2.2.2.2.2.2.2.2.2.2.2.2.1 d.2.2.2.2.2.2.2.2.2.2.2.2.2.2.2.2.2.2.1 d.2.2.2.2.2.2.2.2.2.2.2.2.2.2.2.2.2.2.2.2.1 ?_
  refine r_call C v_19_102 (a0 := 1) ⟨rfl, rfl⟩ ma_91 (es2 1 (xs 1) (xs 2) (by decide)) (ok2 1 (xs 1) (xs 2)) (Nat.le_of_ble_eq_true rfl) (lv_1 _) (P := fun v m1 => Cl 20 232 (249 :: [(xs 1).toInt, (xs 2).toInt]) (fun w u' => ∃ m2, u' = S9 0 m2 ∧ w = v) (S9 0 m1)) (one_91 (d := 14)) d.2.2.2.2.2.2.2.2.2.2.2.2.2.2.2.2.2.2.2.2.2.2.1 ?_
  intro v m1 hv1 h1
  rw [encR_i (t := mRty 91) (Or.inl rfl)]
  refine r_al C 2 rfl d.2.2.2.2.2.2.2.2.2.2.2.2.2.2.2.2.2.2.2.2.2.2.2.2.1 ?_
  refine r_push C h5 (k := 1) (by decide) 0 4 rfl rfl d.2.2.2.2.2.2.2.2.2.2.2.2.2.2.2.2.2.2.2.2.2.2.2.2.2.2.1 d.2.2.2.2.2.2.2.2.2.2.2.2.2.2.2.2.2.2.2.2.2.2.2.2.2.2.2.2.1 d.2.2.2.2.2.2.2.2.2.2.2.2.2.2.2.2.2.2.2.2.2.2.2.2.2.2.2.2.2.2.1 d.2.2.2.2.2.2.2.2.2.2.2.2.2.2.2.2.2.2.2.2.2.2.2.2.2.2.2.2.2.2.2.2.1 d.2.2.2.2.2.2.2.2.2.2.2.2.2.2.2.2.2.2.2.2.2.2.2.2.2.2.2.2.2.2.2.2.2.2.1 ?_
  refine r_push C h5 (k := 2) (by decide) 0 4 rfl rfl d.2.2.2.2.2.2.2.2.2.2.2.2.2.2.2.2.2.2.2.2.2.2.2.2.2.2.2.2.2.2.2.2.2.2.2.2.1 d.2.2.2.2.2.2.2.2.2.2.2.2.2.2.2.2.2.2.2.2.2.2.2.2.2.2.2.2.2.2.2.2.2.2.2.2.2.2.1 d.2.2.2.2.2.2.2.2.2.2.2.2.2.2.2.2.2.2.2.2.2.2.2.2.2.2.2.2.2.2.2.2.2.2.2.2.2.2.2.2.1 d.2.2.2.2.2.2.2.2.2.2.2.2.2.2.2.2.2.2.2.2.2.2.2.2.2.2.2.2.2.2.2.2.2.2.2.2.2.2.2.2.2.2.1 d.2.2.2.2.2.2.2.2.2.2.2.2.2.2.2.2.2.2.2.2.2.2.2.2.2.2.2.2.2.2.2.2.2.2.2.2.2.2.2.2.2.2.2.2.1 ?_
  refine r_call C v_19_105 (a0 := 249) ⟨rfl, rfl⟩ ma_232 (es2 249 (xs 1) (xs 2) (by decide)) (ok2 249 (xs 1) (xs 2)) (Nat.le_of_ble_eq_true rfl) (lv_249 _) (P := fun w m2 => w = v) h1 d.2.2.2.2.2.2.2.2.2.2.2.2.2.2.2.2.2.2.2.2.2.2.2.2.2.2.2.2.2.2.2.2.2.2.2.2.2.2.2.2.2.2.2.2.2.2.1 ?_
  rintro w m2 hw1 rfl
  rw [encR_i (t := mRty 232) (Or.inl rfl)]
  exact r_eq C d.2.2.2.2.2.2.2.2.2.2.2.2.2.2.2.2.2.2.2.2.2.2.2.2.2.2.2.2.2.2.2.2.2.2.2.2.2.2.2.2.2.2.2.2.2.2.2.2.1 (by decide) rfl (fin m2)
theorem case_17 {p : Program} {l : Launch} {e : Env} {s : State} {m : MethodId} {b L : Nat} {below : List Frame} {meth : Method} {c : Code} {xs : Nat → Int32} {G : Geo} (C : LCx p l s m meth c b L xs G) (h5 : L = 5) (fin : ∀ m9 : Mem, LW p l e s m b below meth c G (T9 1 6 m9) (lv0 b G) 1714 []) : LW p l e s m b below meth c G (T9 1 6 zM) (lv0 b G) 881 [] := by
  have d : Dec code [(881, .aload_n 1, 1), (882, .aload_n 0, 1), (883, .iload 4, 2), (885, .iconst 1, 1), (886, .iadd, 1), (887, .iaload, 1), (888, .aload_n 0, 1), (889, .iload 4, 2), (891, .iconst 2, 1), (892, .iadd, 1), (893, .iaload, 1), (894, .invokevirtual 106, 3), (897, .aload_n 2, 1), (898, .aload_n 0, 1), (899, .iload 4, 2), (901, .iconst 1, 1), (902, .iadd, 1), (903, .iaload, 1), (904, .aload_n 0, 1), (905, .iload 4, 2), (907, .iconst 2, 1), (908, .iadd, 1), (909, .iaload, 1), (910, .invokevirtual 109, 3), (913, .if_icmp .eq 801, 3)] := decB_ok (by decide +kernel)
  refine r_al C 1 rfl d.1 ?_
  refine r_push C h5 (k := 1) (by decide) 0 4 rfl rfl d.2.2.1 d.2.2.2.2.1 d.2.2.2.2.2.2.1 d.2.2.2.2.2.2.2.2.1 d.2.2.2.2.2.2.2.2.2.2.1 ?_
  refine r_push C h5 (k := 2) (by decide) 0 4 rfl rfl d.2.2.2.2.2.2.2.2.2.2.2.2.1 d.2.2.2.2.2.2.2.2.2.2.2.2.2.2.1 d.2.2.2.2.2.2.2.2.2.2.2.2.2.2.2.2.1 d.2.2.2.2.2.2.2.2.2.2.2.2.2.2.2.2.2.2.1 d.2.2.2.2.2.2.2.2.2.2.2.2.2.2.2.2.2.2.2.2.1 ?_
  refine r_call C v_19_106 (a0 := 1) ⟨rfl, rfl⟩ ma_93 (es2 1 (xs 1) (xs 2) (by decide)) (ok2 1 (xs 1) (xs 2)) (Nat.le_of_ble_eq_true rfl) (lv_1 _) (P := fun v m1 => Cl 20 233 (249 :: [(xs 1).toInt, (xs 2).toInt]) (fun w u' => ∃ m2, u' = S9 0 m2 ∧ w = v) (S9 0 m1)) (one_93 (d := 14)) d.2.2.2.2.2.2.2.2.2.2.2.2.2.2.2.2.2.2.2.2.2.2.1 ?_
  intro v m1 hv1 h1
  rw [encR_i (t := mRty 93) (Or.inl rfl)]
  refine r_al C 2 rfl d.2.2.2.2.2.2.2.2.2.2.2.2.2.2.2.2.2.2.2.2.2.2.2.2.1 ?_
  refine r_push C h5 (k := 1) (by decide) 0 4 rfl rfl d.2.2.2.2.2.2.2.2.2.2.2.2.2.2.2.2.2.2.2.2.2.2.2.2.2.2.1 d.2.2.2.2.2.2.2.2.2.2.2.2.2.2.2.2.2.2.2.2.2.2.2.2.2.2.2.2.1 d.2.2.2.2.2.2.2.2.2.2.2.2.2.2.2.2.2.2.2.2.2.2.2.2.2.2.2.2.2.2.1 d.2.2.2.2.2.2.2.2.2.2.2.2.2.2.2.2.2.2.2.2.2.2.2.2.2.2.2.2.2.2.2.2.1 d.2.2.2.2.2.2.2.2.2.2.2.2.2.2.2.2.2.2.2.2.2.2.2.2.2.2.2.2.2.2.2.2.2.2.1 ?_
  refine r_push C h5 (k := 2) (by decide) 0 4 rfl rfl d.2.2.2.2.2.2.2.2.2.2.2.2.2.2.2.2.2.2.2.2.2.2.2.2.2.2.2.2.2.2.2.2.2.2.2.2.1 d.2.2.2.2.2.2.2.2.2.2.2.2.2.2.2.2.2.2.2.2.2.2.2.2.2.2.2.2.2.2.2.2.2.2.2.2.2.2.1 d.2.2.2.2.2.2.2.2.2.2.2.2.2.2.2.2.2.2.2.2.2.2.2.2.2.2.2.2.2.2.2.2.2.2.2.2.2.2.2.2.1 d.2.2.2.2.2.2.2.2.2.2.2.2.2.2.2.2.2.2.2.2.2.2.2.2.2.2.2.2.2.2.2.2.2.2.2.2.2.2.2.2.2.2.1 d.2.2.2.2.2.2.2.2.2.2.2.2.2.2.2.2.2.2.2.2.2.2.2.2.2.2.2.2.2.2.2.2.2.2.2.2.2.2.2.2.2.2.2.2.1 ?_
  refine r_call C v_19_109 (a0 := 249) ⟨rfl, rfl⟩ ma_233 (es2 249 (xs 1) (xs 2) (by decide)) (ok2 249 (xs 1) (xs 2)) (Nat.le_of_ble_eq_true rfl) (lv_249 _) (P := fun w m2 => w = v) h1 d.2.2.2.2.2.2.2.2.2.2.2.2.2.2.2.2.2.2.2.2.2.2.2.2.2.2.2.2.2.2.2.2.2.2.2.2.2.2.2.2.2.2.2.2.2.2.1 ?_
  rintro w m2 hw1 rfl
  rw [encR_i (t := mRty 233) (Or.inl rfl)]
  exact r_eq C d.2.2.2.2.2.2.2.2.2.2.2.2.2.2.2.2.2.2.2.2.2.2.2.2.2.2.2.2.2.2.2.2.2.2.2.2.2.2.2.2.2.2.2.2.2.2.2.2.1 (by decide) rfl (fin m2)
