/-! the law, case by case -/
theorem case_0 {p : Program} {l : Launch} {e : Env} {s : State} {m : MethodId} {b L i : Nat} {below : List Frame} {meth : Method} {c : Code} {xs : Nat → Int32} {G : Geo} {cb wb : Nat} {m0 : Mem} (C : LCx p l s m meth c b L xs G) (h5 : i + 5 ≤ L) (hL : L ≤ 2560) (hm : JJ (cb + 1) m0) (fin : ∀ m9 : Mem, JJ cb m9 → LW p l e s m b below meth c G (T9 cb wb m9) (lv0 b G i) 1575 []) : LW p l e s m b below meth c G (T9 (cb + 1) (wb + 6) m0) (lv0 b G i) 212 [] := by
  refine r_less ?_
  have d : Dec code [(212, .aload_n 1, 1), (213, .aload_n 0, 1), (214, .iload 4, 2), (216, .iconst 1, 1), (217, .iadd, 1), (218, .iaload, 1), (219, .invokevirtual 32, 3), (222, .pop, 1), (223, .aload_n 2, 1), (224, .aload_n 0, 1), (225, .iload 4, 2), (227, .iconst 1, 1), (228, .iadd, 1), (229, .iaload, 1), (230, .invokevirtual 36, 3), (233, .pop, 1), (234, .goto 1341, 3)] := decG_ok (by decide +kernel)
  have dt1 := d.2.2
  have dt2 := dt1.2.2
  have dt3 := dt2.2.2
  have dt4 := dt3.2.2
  have dt5 := dt4.2.2
  have dt6 := dt5.2.2
  have dt7 := dt6.2.2
  have dt8 := dt7.2.2
  have dt9 := dt8.2.2
  have dt10 := dt9.2.2
  have dt11 := dt10.2.2
  have dt12 := dt11.2.2
  have dt13 := dt12.2.2
  have dt14 := dt13.2.2
  have dt15 := dt14.2.2
  have dt16 := dt15.2.2
  refine r_al C 1 rfl d.1 ?_
  refine r_push C h5 hL (k := 1) (by decide) 0 4 rfl rfl dt1.1 dt2.1 dt3.1 dt4.1 dt5.1 ?_
  refine r_call C v_19_32 (a0 := 1) ⟨rfl, rfl⟩ ma_12 (es1 1 (xs (i + 1)) (by decide)) (ok1 1 (xs (i + 1))) (Nat.le_of_ble_eq_true rfl) (lv_1 _) (P := fun v m1 => Cl 230 167 [249, (xs (i + 1)).toInt] (fun w u' => ∃ m2, u' = S9 0 m2 ∧ JJ cb m2) (S9 0 m1)) (two_12 hm) dt6.1 ?_
  intro v m1 hv1 h1
  rw [encR_i (t := mRty 12) (Or.inl rfl)]
  refine r_pop C dt7.1 rfl ?_
  refine r_al C 2 rfl dt8.1 ?_
  refine r_push C h5 hL (k := 1) (by decide) 0 4 rfl rfl dt9.1 dt10.1 dt11.1 dt12.1 dt13.1 ?_
  refine r_call C v_19_36 (a0 := 249) ⟨rfl, rfl⟩ ma_167 (es1 249 (xs (i + 1)) (by decide)) (ok1 249 (xs (i + 1))) (Nat.le_of_ble_eq_true rfl) (lv_249 _) (P := fun w m2 => JJ cb m2) h1 dt14.1 ?_
  intro w m2 hw1 h2
  rw [encR_i (t := mRty 167) (Or.inl rfl)]
  refine r_pop C dt15.1 rfl ?_
  exact r_go C (tgt := 1575) dt16.1 (by decide) (fin m2 h2)
theorem case_1 {p : Program} {l : Launch} {e : Env} {s : State} {m : MethodId} {b L i : Nat} {below : List Frame} {meth : Method} {c : Code} {xs : Nat → Int32} {G : Geo} {cb wb : Nat} {m0 : Mem} (C : LCx p l s m meth c b L xs G) (h5 : i + 5 ≤ L) (hL : L ≤ 2560) (hm : JJ (cb + 1) m0) (fin : ∀ m9 : Mem, JJ cb m9 → LW p l e s m b below meth c G (T9 cb wb m9) (lv0 b G i) 1575 []) : LW p l e s m b below meth c G (T9 (cb + 1) (wb + 6) m0) (lv0 b G i) 237 [] := by
  refine r_less ?_
  have d : Dec code [(237, .aload_n 1, 1), (238, .aload_n 0, 1), (239, .iload 4, 2), (241, .iconst 1, 1), (242, .iadd, 1), (243, .iaload, 1), (244, .invokevirtual 37, 3), (247, .pop, 1), (248, .aload_n 2, 1), (249, .aload_n 0, 1), (250, .iload 4, 2), (252, .iconst 1, 1), (253, .iadd, 1), (254, .iaload, 1), (255, .invokevirtual 41, 3), (258, .pop, 1), (259, .goto 1316, 3)] := decG_ok (by decide +kernel)
  have dt1 := d.2.2
  have dt2 := dt1.2.2
  have dt3 := dt2.2.2
  have dt4 := dt3.2.2
  have dt5 := dt4.2.2
  have dt6 := dt5.2.2
  have dt7 := dt6.2.2
  have dt8 := dt7.2.2
  have dt9 := dt8.2.2
  have dt10 := dt9.2.2
  have dt11 := dt10.2.2
  have dt12 := dt11.2.2
  have dt13 := dt12.2.2
  have dt14 := dt13.2.2
  have dt15 := dt14.2.2
  have dt16 := dt15.2.2
  refine r_al C 1 rfl d.1 ?_
  refine r_push C h5 hL (k := 1) (by decide) 0 4 rfl rfl dt1.1 dt2.1 dt3.1 dt4.1 dt5.1 ?_
  refine r_call C v_19_37 (a0 := 1) ⟨rfl, rfl⟩ ma_14 (es1 1 (xs (i + 1)) (by decide)) (ok1 1 (xs (i + 1))) (Nat.le_of_ble_eq_true rfl) (lv_1 _) (P := fun v m1 => Cl 230 168 [249, (xs (i + 1)).toInt] (fun w u' => ∃ m2, u' = S9 0 m2 ∧ JJ cb m2) (S9 0 m1)) (two_14 hm) dt6.1 ?_
  intro v m1 hv1 h1
  rw [encR_i (t := mRty 14) (Or.inr rfl)]
  refine r_pop C dt7.1 rfl ?_
  refine r_al C 2 rfl dt8.1 ?_
  refine r_push C h5 hL (k := 1) (by decide) 0 4 rfl rfl dt9.1 dt10.1 dt11.1 dt12.1 dt13.1 ?_
  refine r_call C v_19_41 (a0 := 249) ⟨rfl, rfl⟩ ma_168 (es1 249 (xs (i + 1)) (by decide)) (ok1 249 (xs (i + 1))) (Nat.le_of_ble_eq_true rfl) (lv_249 _) (P := fun w m2 => JJ cb m2) h1 dt14.1 ?_
  intro w m2 hw1 h2
  rw [encR_i (t := mRty 168) (Or.inr rfl)]
  refine r_pop C dt15.1 rfl ?_
  exact r_go C (tgt := 1575) dt16.1 (by decide) (fin m2 h2)
theorem case_2 {p : Program} {l : Launch} {e : Env} {s : State} {m : MethodId} {b L i : Nat} {below : List Frame} {meth : Method} {c : Code} {xs : Nat → Int32} {G : Geo} {cb wb : Nat} {m0 : Mem} (C : LCx p l s m meth c b L xs G) (h5 : i + 5 ≤ L) (hL : L ≤ 2560) (hm : JJ (cb + 1) m0) (fin : ∀ m9 : Mem, JJ cb m9 → LW p l e s m b below meth c G (T9 cb wb m9) (lv0 b G i) 1575 []) : LW p l e s m b below meth c G (T9 (cb + 1) (wb + 6) m0) (lv0 b G i) 262 [] := by
  refine r_less ?_
  have d : Dec code [(262, .aload_n 1, 1), (263, .invokevirtual 42, 3), (266, .pop, 1), (267, .aload_n 2, 1), (268, .invokevirtual 46, 3), (271, .pop, 1), (272, .goto 1303, 3)] := decG_ok (by decide +kernel)
  have dt1 := d.2.2
  have dt2 := dt1.2.2
  have dt3 := dt2.2.2
  have dt4 := dt3.2.2
  have dt5 := dt4.2.2
  have dt6 := dt5.2.2
  refine r_al C 1 rfl d.1 ?_
  refine r_call C v_19_42 (a0 := 1) ⟨rfl, rfl⟩ ma_16 (es0 1 (by decide)) (ok0 1) (Nat.le_of_ble_eq_true rfl) (lv_1 _) (P := fun v m1 => Cl 230 170 [249] (fun w u' => ∃ m2, u' = S9 0 m2 ∧ JJ cb m2) (S9 0 m1)) (two_16 hm) dt1.1 ?_
  intro v m1 hv1 h1
  rw [encR_i (t := mRty 16) (Or.inl rfl)]
  refine r_pop C dt2.1 rfl ?_
  refine r_al C 2 rfl dt3.1 ?_
  refine r_call C v_19_46 (a0 := 249) ⟨rfl, rfl⟩ ma_170 (es0 249 (by decide)) (ok0 249) (Nat.le_of_ble_eq_true rfl) (lv_249 _) (P := fun w m2 => JJ cb m2) h1 dt4.1 ?_
  intro w m2 hw1 h2
  rw [encR_i (t := mRty 170) (Or.inl rfl)]
  refine r_pop C dt5.1 rfl ?_
  exact r_go C (tgt := 1575) dt6.1 (by decide) (fin m2 h2)
theorem case_3 {p : Program} {l : Launch} {e : Env} {s : State} {m : MethodId} {b L i : Nat} {below : List Frame} {meth : Method} {c : Code} {xs : Nat → Int32} {G : Geo} {cb wb : Nat} {m0 : Mem} (C : LCx p l s m meth c b L xs G) (h5 : i + 5 ≤ L) (hL : L ≤ 2560) (hm : JJ (cb + 1) m0) (fin : ∀ m9 : Mem, JJ cb m9 → LW p l e s m b below meth c G (T9 cb wb m9) (lv0 b G i) 1575 []) : LW p l e s m b below meth c G (T9 (cb + 1) (wb + 6) m0) (lv0 b G i) 275 [] := by
  refine r_less ?_
  have d : Dec code [(275, .aload_n 1, 1), (276, .invokevirtual 47, 3), (279, .pop, 1), (280, .aload_n 2, 1), (281, .invokevirtual 50, 3), (284, .pop, 1), (285, .goto 1290, 3)] := decG_ok (by decide +kernel)
  have dt1 := d.2.2
  have dt2 := dt1.2.2
  have dt3 := dt2.2.2
  have dt4 := dt3.2.2
  have dt5 := dt4.2.2
  have dt6 := dt5.2.2
  refine r_al C 1 rfl d.1 ?_
  refine r_call C v_19_47 (a0 := 1) ⟨rfl, rfl⟩ ma_41 (es0 1 (by decide)) (ok0 1) (Nat.le_of_ble_eq_true rfl) (lv_1 _) (P := fun v m1 => Cl 230 189 [249] (fun w u' => ∃ m2, u' = S9 0 m2 ∧ JJ cb m2) (S9 0 m1)) (two_41 hm) dt1.1 ?_
  intro v m1 hv1 h1
  rw [encR_i (t := mRty 41) (Or.inl rfl)]
  refine r_pop C dt2.1 rfl ?_
  refine r_al C 2 rfl dt3.1 ?_
  refine r_call C v_19_50 (a0 := 249) ⟨rfl, rfl⟩ ma_189 (es0 249 (by decide)) (ok0 249) (Nat.le_of_ble_eq_true rfl) (lv_249 _) (P := fun w m2 => JJ cb m2) h1 dt4.1 ?_
  intro w m2 hw1 h2
  rw [encR_i (t := mRty 189) (Or.inl rfl)]
  refine r_pop C dt5.1 rfl ?_
  exact r_go C (tgt := 1575) dt6.1 (by decide) (fin m2 h2)
theorem case_8 {p : Program} {l : Launch} {e : Env} {s : State} {m : MethodId} {b L i : Nat} {below : List Frame} {meth : Method} {c : Code} {xs : Nat → Int32} {G : Geo} {cb wb : Nat} {m0 : Mem} (C : LCx p l s m meth c b L xs G) (h5 : i + 5 ≤ L) (hL : L ≤ 2560) (hm : JJ (cb + 1) m0) (fin : ∀ m9 : Mem, JJ cb m9 → LW p l e s m b below meth c G (T9 cb wb m9) (lv0 b G i) 1575 []) : LW p l e s m b below meth c G (T9 (cb + 1) (wb + 6) m0) (lv0 b G i) 448 [] := by
  refine r_less ?_
  have d : Dec code [(448, .aload_n 1, 1), (449, .aload_n 0, 1), (450, .iload 4, 2), (452, .iconst 1, 1), (453, .iadd, 1), (454, .iaload, 1), (455, .aload_n 0, 1), (456, .iload 4, 2), (458, .iconst 2, 1), (459, .iadd, 1), (460, .iaload, 1), (461, .invokevirtual 66, 3), (464, .pop, 1), (465, .aload_n 2, 1), (466, .aload_n 0, 1), (467, .iload 4, 2), (469, .iconst 1, 1), (470, .iadd, 1), (471, .iaload, 1), (472, .aload_n 0, 1), (473, .iload 4, 2), (475, .iconst 2, 1), (476, .iadd, 1), (477, .iaload, 1), (478, .invokevirtual 69, 3), (481, .pop, 1), (482, .goto 1093, 3)] := decG_ok (by decide +kernel)
  have dt1 := d.2.2
  have dt2 := dt1.2.2
  have dt3 := dt2.2.2
  have dt4 := dt3.2.2
  have dt5 := dt4.2.2
  have dt6 := dt5.2.2
  have dt7 := dt6.2.2
  have dt8 := dt7.2.2
  have dt9 := dt8.2.2
  have dt10 := dt9.2.2
  have dt11 := dt10.2.2
  have dt12 := dt11.2.2
  have dt13 := dt12.2.2
  have dt14 := dt13.2.2
  have dt15 := dt14.2.2
  have dt16 := dt15.2.2
  have dt17 := dt16.2.2
  have dt18 := dt17.2.2
  have dt19 := dt18.2.2
  have dt20 := dt19.2.2
  have dt21 := dt20.2.2
  have dt22 := dt21.2.2
  have dt23 := dt22.2.2
  have dt24 := dt23.2.2
  have dt25 := dt24.2.2
  have dt26 := dt25.2.2
  refine r_al C 1 rfl d.1 ?_
  refine r_push C h5 hL (k := 1) (by decide) 0 4 rfl rfl dt1.1 dt2.1 dt3.1 dt4.1 dt5.1 ?_
  refine r_push C h5 hL (k := 2) (by decide) 0 4 rfl rfl dt6.1 dt7.1 dt8.1 dt9.1 dt10.1 ?_
  refine r_call C v_19_66 (a0 := 1) ⟨rfl, rfl⟩ ma_51 (es2 1 (xs (i + 1)) (xs (i + 2)) (by decide)) (ok2 1 (xs (i + 1)) (xs (i + 2))) (Nat.le_of_ble_eq_true rfl) (lv_1 _) (P := fun v m1 => Cl 230 210 [249, (xs (i + 1)).toInt, (xs (i + 2)).toInt] (fun w u' => ∃ m2, u' = S9 0 m2 ∧ JJ cb m2) (S9 0 m1)) (two_51 hm) dt11.1 ?_
  intro v m1 hv1 h1
  rw [encR_i (t := mRty 51) (Or.inl rfl)]
  refine r_pop C dt12.1 rfl ?_
  refine r_al C 2 rfl dt13.1 ?_
  refine r_push C h5 hL (k := 1) (by decide) 0 4 rfl rfl dt14.1 dt15.1 dt16.1 dt17.1 dt18.1 ?_
  refine r_push C h5 hL (k := 2) (by decide) 0 4 rfl rfl dt19.1 dt20.1 dt21.1 dt22.1 dt23.1 ?_
  refine r_call C v_19_69 (a0 := 249) ⟨rfl, rfl⟩ ma_210 (es2 249 (xs (i + 1)) (xs (i + 2)) (by decide)) (ok2 249 (xs (i + 1)) (xs (i + 2))) (Nat.le_of_ble_eq_true rfl) (lv_249 _) (P := fun w m2 => JJ cb m2) h1 dt24.1 ?_
  intro w m2 hw1 h2
  rw [encR_i (t := mRty 210) (Or.inl rfl)]
  refine r_pop C dt25.1 rfl ?_
  exact r_go C (tgt := 1575) dt26.1 (by decide) (fin m2 h2)
theorem case_9 {p : Program} {l : Launch} {e : Env} {s : State} {m : MethodId} {b L i : Nat} {below : List Frame} {meth : Method} {c : Code} {xs : Nat → Int32} {G : Geo} {cb wb : Nat} {m0 : Mem} (C : LCx p l s m meth c b L xs G) (h5 : i + 5 ≤ L) (hL : L ≤ 2560) (hm : JJ (cb + 1) m0) (fin : ∀ m9 : Mem, JJ cb m9 → LW p l e s m b below meth c G (T9 cb wb m9) (lv0 b G i) 1575 []) : LW p l e s m b below meth c G (T9 (cb + 1) (wb + 6) m0) (lv0 b G i) 485 [] := by
  refine r_less ?_
  have d : Dec code [(485, .aload_n 1, 1), (486, .aload_n 0, 1), (487, .iload 4, 2), (489, .iconst 1, 1), (490, .iadd, 1), (491, .iaload, 1), (492, .aload_n 0, 1), (493, .iload 4, 2), (495, .iconst 2, 1), (496, .iadd, 1), (497, .iaload, 1), (498, .aload_n 0, 1), (499, .iload 4, 2), (501, .iconst 3, 1), (502, .iadd, 1), (503, .iaload, 1), (504, .aload_n 0, 1), (505, .iload 4, 2), (507, .iconst 4, 1), (508, .iadd, 1), (509, .iaload, 1), (510, .invokevirtual 70, 3), (513, .pop, 1), (514, .aload_n 2, 1), (515, .aload_n 0, 1), (516, .iload 4, 2), (518, .iconst 1, 1), (519, .iadd, 1), (520, .iaload, 1), (521, .aload_n 0, 1), (522, .iload 4, 2), (524, .iconst 2, 1), (525, .iadd, 1), (526, .iaload, 1), (527, .aload_n 0, 1), (528, .iload 4, 2), (530, .iconst 3, 1), (531, .iadd, 1), (532, .iaload, 1), (533, .aload_n 0, 1), (534, .iload 4, 2), (536, .iconst 4, 1), (537, .iadd, 1), (538, .iaload, 1), (539, .invokevirtual 74, 3), (542, .pop, 1), (543, .goto 1032, 3)] := decG_ok (by decide +kernel)
  have dt1 := d.2.2
  have dt2 := dt1.2.2
  have dt3 := dt2.2.2
  have dt4 := dt3.2.2
  have dt5 := dt4.2.2
  have dt6 := dt5.2.2
  have dt7 := dt6.2.2
  have dt8 := dt7.2.2
  have dt9 := dt8.2.2
  have dt10 := dt9.2.2
  have dt11 := dt10.2.2
  have dt12 := dt11.2.2
  have dt13 := dt12.2.2
  have dt14 := dt13.2.2
  have dt15 := dt14.2.2
  have dt16 := dt15.2.2
  have dt17 := dt16.2.2
  have dt18 := dt17.2.2
  have dt19 := dt18.2.2
  have dt20 := dt19.2.2
  have dt21 := dt20.2.2
  have dt22 := dt21.2.2
  have dt23 := dt22.2.2
  have dt24 := dt23.2.2
  have dt25 := dt24.2.2
  have dt26 := dt25.2.2
  have dt27 := dt26.2.2
  have dt28 := dt27.2.2
  have dt29 := dt28.2.2
  have dt30 := dt29.2.2
  have dt31 := dt30.2.2
  have dt32 := dt31.2.2
  have dt33 := dt32.2.2
  have dt34 := dt33.2.2
  have dt35 := dt34.2.2
  have dt36 := dt35.2.2
  have dt37 := dt36.2.2
  have dt38 := dt37.2.2
  have dt39 := dt38.2.2
  have dt40 := dt39.2.2
  have dt41 := dt40.2.2
  have dt42 := dt41.2.2
  have dt43 := dt42.2.2
  have dt44 := dt43.2.2
  have dt45 := dt44.2.2
  have dt46 := dt45.2.2
  refine r_al C 1 rfl d.1 ?_
  refine r_push C h5 hL (k := 1) (by decide) 0 4 rfl rfl dt1.1 dt2.1 dt3.1 dt4.1 dt5.1 ?_
  refine r_push C h5 hL (k := 2) (by decide) 0 4 rfl rfl dt6.1 dt7.1 dt8.1 dt9.1 dt10.1 ?_
  refine r_push C h5 hL (k := 3) (by decide) 0 4 rfl rfl dt11.1 dt12.1 dt13.1 dt14.1 dt15.1 ?_
  refine r_push C h5 hL (k := 4) (by decide) 0 4 rfl rfl dt16.1 dt17.1 dt18.1 dt19.1 dt20.1 ?_
  refine r_call C v_19_70 (a0 := 1) ⟨rfl, rfl⟩ ma_54 (es4 1 (xs (i + 1)) (xs (i + 2)) (xs (i + 3)) (xs (i + 4)) (by decide)) (ok4 1 (xs (i + 1)) (xs (i + 2)) (xs (i + 3)) (xs (i + 4))) (Nat.le_of_ble_eq_true rfl) (lv_1 _) (P := fun v m1 => Cl 230 212 [249, (xs (i + 1)).toInt, (xs (i + 2)).toInt, (xs (i + 3)).toInt, (xs (i + 4)).toInt] (fun w u' => ∃ m2, u' = S9 0 m2 ∧ JJ cb m2) (S9 0 m1)) (two_54 (toInt_in _) hm) dt21.1 ?_
  intro v m1 hv1 h1
  rw [encR_i (t := mRty 54) (Or.inl rfl)]
  refine r_pop C dt22.1 rfl ?_
  refine r_al C 2 rfl dt23.1 ?_
  refine r_push C h5 hL (k := 1) (by decide) 0 4 rfl rfl dt24.1 dt25.1 dt26.1 dt27.1 dt28.1 ?_
  refine r_push C h5 hL (k := 2) (by decide) 0 4 rfl rfl dt29.1 dt30.1 dt31.1 dt32.1 dt33.1 ?_
  refine r_push C h5 hL (k := 3) (by decide) 0 4 rfl rfl dt34.1 dt35.1 dt36.1 dt37.1 dt38.1 ?_
  refine r_push C h5 hL (k := 4) (by decide) 0 4 rfl rfl dt39.1 dt40.1 dt41.1 dt42.1 dt43.1 ?_
  refine r_call C v_19_74 (a0 := 249) ⟨rfl, rfl⟩ ma_212 (es4 249 (xs (i + 1)) (xs (i + 2)) (xs (i + 3)) (xs (i + 4)) (by decide)) (ok4 249 (xs (i + 1)) (xs (i + 2)) (xs (i + 3)) (xs (i + 4))) (Nat.le_of_ble_eq_true rfl) (lv_249 _) (P := fun w m2 => JJ cb m2) h1 dt44.1 ?_
  intro w m2 hw1 h2
  rw [encR_i (t := mRty 212) (Or.inl rfl)]
  refine r_pop C dt45.1 rfl ?_
  exact r_go C (tgt := 1575) dt46.1 (by decide) (fin m2 h2)
theorem case_10 {p : Program} {l : Launch} {e : Env} {s : State} {m : MethodId} {b L i : Nat} {below : List Frame} {meth : Method} {c : Code} {xs : Nat → Int32} {G : Geo} {cb wb : Nat} {m0 : Mem} (C : LCx p l s m meth c b L xs G) (h5 : i + 5 ≤ L) (hL : L ≤ 2560) (hm : JJ (cb + 1) m0) (fin : ∀ m9 : Mem, JJ cb m9 → LW p l e s m b below meth c G (T9 cb wb m9) (lv0 b G i) 1575 []) : LW p l e s m b below meth c G (T9 (cb + 1) (wb + 6) m0) (lv0 b G i) 546 [] := by
  refine r_less ?_
  have d : Dec code [(546, .aload_n 1, 1), (547, .aload_n 0, 1), (548, .iload 4, 2), (550, .iconst 1, 1), (551, .iadd, 1), (552, .iaload, 1), (553, .aload_n 0, 1), (554, .iload 4, 2), (556, .iconst 2, 1), (557, .iadd, 1), (558, .iaload, 1), (559, .invokevirtual 75, 3), (562, .pop, 1), (563, .aload_n 2, 1), (564, .aload_n 0, 1), (565, .iload 4, 2), (567, .iconst 1, 1), (568, .iadd, 1), (569, .iaload, 1), (570, .aload_n 0, 1), (571, .iload 4, 2), (573, .iconst 2, 1), (574, .iadd, 1), (575, .iaload, 1), (576, .invokevirtual 78, 3), (579, .pop, 1), (580, .goto 995, 3)] := decG_ok (by decide +kernel)
  have dt1 := d.2.2
  have dt2 := dt1.2.2
  have dt3 := dt2.2.2
  have dt4 := dt3.2.2
  have dt5 := dt4.2.2
  have dt6 := dt5.2.2
  have dt7 := dt6.2.2
  have dt8 := dt7.2.2
  have dt9 := dt8.2.2
  have dt10 := dt9.2.2
  have dt11 := dt10.2.2
  have dt12 := dt11.2.2
  have dt13 := dt12.2.2
  have dt14 := dt13.2.2
  have dt15 := dt14.2.2
  have dt16 := dt15.2.2
  have dt17 := dt16.2.2
  have dt18 := dt17.2.2
  have dt19 := dt18.2.2
  have dt20 := dt19.2.2
  have dt21 := dt20.2.2
  have dt22 := dt21.2.2
  have dt23 := dt22.2.2
  have dt24 := dt23.2.2
  have dt25 := dt24.2.2
  have dt26 := dt25.2.2
  refine r_al C 1 rfl d.1 ?_
  refine r_push C h5 hL (k := 1) (by decide) 0 4 rfl rfl dt1.1 dt2.1 dt3.1 dt4.1 dt5.1 ?_
  refine r_push C h5 hL (k := 2) (by decide) 0 4 rfl rfl dt6.1 dt7.1 dt8.1 dt9.1 dt10.1 ?_
  refine r_call C v_19_75 (a0 := 1) ⟨rfl, rfl⟩ ma_57 (es2 1 (xs (i + 1)) (xs (i + 2)) (by decide)) (ok2 1 (xs (i + 1)) (xs (i + 2))) (Nat.le_of_ble_eq_true rfl) (lv_1 _) (P := fun v m1 => Cl 230 214 [249, (xs (i + 1)).toInt, (xs (i + 2)).toInt] (fun w u' => ∃ m2, u' = S9 0 m2 ∧ JJ cb m2) (S9 0 m1)) (two_57 hm) dt11.1 ?_
  intro v m1 hv1 h1
  rw [encR_i (t := mRty 57) (Or.inl rfl)]
  refine r_pop C dt12.1 rfl ?_
  refine r_al C 2 rfl dt13.1 ?_
  refine r_push C h5 hL (k := 1) (by decide) 0 4 rfl rfl dt14.1 dt15.1 dt16.1 dt17.1 dt18.1 ?_
  refine r_push C h5 hL (k := 2) (by decide) 0 4 rfl rfl dt19.1 dt20.1 dt21.1 dt22.1 dt23.1 ?_
  refine r_call C v_19_78 (a0 := 249) ⟨rfl, rfl⟩ ma_214 (es2 249 (xs (i + 1)) (xs (i + 2)) (by decide)) (ok2 249 (xs (i + 1)) (xs (i + 2))) (Nat.le_of_ble_eq_true rfl) (lv_249 _) (P := fun w m2 => JJ cb m2) h1 dt24.1 ?_
  intro w m2 hw1 h2
  rw [encR_i (t := mRty 214) (Or.inl rfl)]
  refine r_pop C dt25.1 rfl ?_
  exact r_go C (tgt := 1575) dt26.1 (by decide) (fin m2 h2)
