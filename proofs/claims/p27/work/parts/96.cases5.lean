/-! the law, case by case -/
theorem case_4 {p : Program} {l : Launch} {e : Env} {s : State} {m : MethodId} {b L i : Nat} {below : List Frame} {meth : Method} {c : Code} {xs : Nat → Int32} {G : Geo} {cb wb : Nat} {m0 : Mem} (C : LCx p l s m meth c b L xs G) (h5 : i + 5 ≤ L) (hL : L ≤ 2560) (hm : JJ (cb + 1) m0) (fin : ∀ m9 : Mem, JJ cb m9 → LW p l e s m b below meth c G (T9 cb wb m9) (lv0 b G i) 1575 []) : LW p l e s m b below meth c G (T9 (cb + 1) (wb + 6) m0) (lv0 b G i) 288 [] := by
  have d : Dec code [(288, .aload_n 1, 1), (289, .aload_n 0, 1), (290, .iload 4, 2), (292, .iconst 1, 1), (293, .iadd, 1), (294, .iaload, 1), (295, .aload_n 0, 1), (296, .iload 4, 2), (298, .iconst 2, 1), (299, .iadd, 1), (300, .iaload, 1), (301, .aload_n 3, 1), (302, .invokestatic 51, 3), (305, .istore 5, 2), (307, .aload_n 2, 1), (308, .aload_n 0, 1), (309, .iload 4, 2), (311, .iconst 1, 1), (312, .iadd, 1), (313, .iaload, 1), (314, .aload_n 0, 1), (315, .iload 4, 2), (317, .iconst 2, 1), (318, .iadd, 1), (319, .iaload, 1), (320, .invokevirtual 56, 3), (323, .istore 6, 2), (325, .goto 1250, 3)] := decG_ok (by decide +kernel)
  have dt1 := d.2.2
  have dt2 := dt1.2.2
  have dt3 := dt2.2.2
  have dt4 := dt3.2.2
  have dt5 := dt4.2.2
  have dt6 := dt5.2.2
  have dt7 := dt6.2.2
  have dt8 := dt7.2.2
  have dt9 := dt8.2.2
  have dt10 := dt9.2.2
  have dt11 := dt10.2.2
  have dt12 := dt11.2.2
  have dt13 := dt12.2.2
  have dt14 := dt13.2.2
  have dt15 := dt14.2.2
  have dt16 := dt15.2.2
  have dt17 := dt16.2.2
  have dt18 := dt17.2.2
  have dt19 := dt18.2.2
  have dt20 := dt19.2.2
  have dt21 := dt20.2.2
  have dt22 := dt21.2.2
  have dt23 := dt22.2.2
  have dt24 := dt23.2.2
  have dt25 := dt24.2.2
  have dt26 := dt25.2.2
  have dt27 := dt26.2.2
  obtain ⟨tc, pl, hC9, hR9, hX9, hB9, hG9⟩ := id hm
  refine r_al C 1 rfl d.1 ?_
  refine r_push C h5 hL (k := 1) (by decide) 0 4 rfl rfl dt1.1 dt2.1 dt3.1 dt4.1 dt5.1 ?_
  refine r_push C h5 hL (k := 2) (by decide) 0 4 rfl rfl dt6.1 dt7.1 dt8.1 dt9.1 dt10.1 ?_
  refine r_al C 3 rfl dt11.1 ?_
  have hM : Met l ({ cls := "HotThroughLaw", name := "place", desc := "(LHotThrough;II[J)I" } : MethodName) (wsH ({ cls := "HotThroughLaw", name := "place", desc := "(LHotThrough;II[J)I" } : MethodName) method_3_code 5 [(0, 10, 13, 13)]) (rmH 230) (PcH G [2, 0, 0, 2] [1, (xs (i + 1)).toInt, (xs (i + 2)).toInt, 288] (S9 0 m0)) (QcM G (JJ (cb + 1))) 1 6 (fun q => G.2.2.2 ≤ q) :=
    hlp_a (K := 156) (PM := fun m1 => JC 4 (gC 4 m0) tc m1) rfl v_19_7 rfl ma_156 (by decide) (decG_ok (by decide +kernel)) (decG_ok (by decide +kernel)) (fun m1 h1 => ⟨JJ_C4 h1 hR9 hX9 hB9 hC9 hG9 rfl, fun v => JJ_288 (JJ_C4 h1 hR9 hX9 hB9 hC9 hG9 rfl)⟩) rfl (by decide +kernel) (by decide +kernel) (by decide +kernel) (by decide +kernel) (by decide +kernel) (thr_met2 156 B156 C156 rfl (by decide +kernel) D156 rfl (by decide +kernel) (Or.inl ⟨rfl, rfl⟩) (by decide) (by decide) C.2.1 (x_156 (d := 210) (BC_g 4 hC9)))
  refine r_help C (by decide) (by decide) hM (gw6 51 rfl rfl) (gw1 0 rfl rfl) (by decide) (by decide +kernel) (n := 4) (gw6 49 rfl rfl) (gw6 50 rfl rfl) (eh2 (xs (i + 1)) (xs (i + 2))) (by exact ⟨trivial, toInt_in _, toInt_in _, trivial, trivial⟩) rfl (Nat.le_of_ble_eq_true rfl) dt12.1 ?_
  intro v1 m1 h1
  refine r_ist C (by decide) dt13.1 rfl ?_
  refine r_al C 3 rfl dt14.1 ?_
  refine r_push C h5 hL (k := 1) (by decide) 1 5 rfl rfl dt15.1 dt16.1 dt17.1 dt18.1 dt19.1 ?_
  refine r_push C h5 hL (k := 2) (by decide) 1 5 rfl rfl dt20.1 dt21.1 dt22.1 dt23.1 dt24.1 ?_
  refine r_call C v_19_56 (a0 := 249) (cb := cb) (wb := wb) (m0 := m1) ⟨rfl, rfl⟩ ma_193 (es2 249 (xs (i + 1)) (xs (i + 2)) (by decide)) (ok2 249 (xs (i + 1)) (xs (i + 2))) (Nat.le_of_ble_eq_true rfl) (lv_249 _) (P := fun _ m2 => JJ cb m2) (cB_193 h1) dt25.1 ?_
  intro v m2 hv2 h2
  rw [encR_i (t := mRty 193) (Or.inl rfl)]
  refine r_ist C (by decide) dt26.1 rfl ?_
  refine r_go C (tgt := 1575) dt27.1 (by decide) ?_
  exact r_sub [2, 3, 4, 5, 6] rfl (fin m2 h2)
theorem case_5 {p : Program} {l : Launch} {e : Env} {s : State} {m : MethodId} {b L i : Nat} {below : List Frame} {meth : Method} {c : Code} {xs : Nat → Int32} {G : Geo} {cb wb : Nat} {m0 : Mem} (C : LCx p l s m meth c b L xs G) (h5 : i + 5 ≤ L) (hL : L ≤ 2560) (hm : JJ (cb + 1) m0) (fin : ∀ m9 : Mem, JJ cb m9 → LW p l e s m b below meth c G (T9 cb wb m9) (lv0 b G i) 1575 []) : LW p l e s m b below meth c G (T9 (cb + 1) (wb + 6) m0) (lv0 b G i) 328 [] := by
  have d : Dec code [(328, .aload_n 1, 1), (329, .aload_n 0, 1), (330, .iload 4, 2), (332, .iconst 1, 1), (333, .iadd, 1), (334, .iaload, 1), (335, .aload_n 0, 1), (336, .iload 4, 2), (338, .iconst 2, 1), (339, .iadd, 1), (340, .iaload, 1), (341, .aload_n 3, 1), (342, .invokestatic 57, 3), (345, .istore 5, 2), (347, .aload_n 2, 1), (348, .aload_n 0, 1), (349, .iload 4, 2), (351, .iconst 1, 1), (352, .iadd, 1), (353, .iaload, 1), (354, .aload_n 0, 1), (355, .iload 4, 2), (357, .iconst 2, 1), (358, .iadd, 1), (359, .iaload, 1), (360, .invokevirtual 59, 3), (363, .istore 6, 2), (365, .goto 1210, 3)] := decG_ok (by decide +kernel)
  have dt1 := d.2.2
  have dt2 := dt1.2.2
  have dt3 := dt2.2.2
  have dt4 := dt3.2.2
  have dt5 := dt4.2.2
  have dt6 := dt5.2.2
  have dt7 := dt6.2.2
  have dt8 := dt7.2.2
  have dt9 := dt8.2.2
  have dt10 := dt9.2.2
  have dt11 := dt10.2.2
  have dt12 := dt11.2.2
  have dt13 := dt12.2.2
  have dt14 := dt13.2.2
  have dt15 := dt14.2.2
  have dt16 := dt15.2.2
  have dt17 := dt16.2.2
  have dt18 := dt17.2.2
  have dt19 := dt18.2.2
  have dt20 := dt19.2.2
  have dt21 := dt20.2.2
  have dt22 := dt21.2.2
  have dt23 := dt22.2.2
  have dt24 := dt23.2.2
  have dt25 := dt24.2.2
  have dt26 := dt25.2.2
  have dt27 := dt26.2.2
  obtain ⟨tc, pl, hC9, hR9, hX9, hB9, hG9⟩ := id hm
  refine r_al C 1 rfl d.1 ?_
  refine r_push C h5 hL (k := 1) (by decide) 0 4 rfl rfl dt1.1 dt2.1 dt3.1 dt4.1 dt5.1 ?_
  refine r_push C h5 hL (k := 2) (by decide) 0 4 rfl rfl dt6.1 dt7.1 dt8.1 dt9.1 dt10.1 ?_
  refine r_al C 3 rfl dt11.1 ?_
  have hM : Met l ({ cls := "HotThroughLaw", name := "way", desc := "(LHotThrough;II[J)I" } : MethodName) (wsH ({ cls := "HotThroughLaw", name := "way", desc := "(LHotThrough;II[J)I" } : MethodName) method_4_code 5 [(0, 10, 13, 13)]) (rmH 230) (PcH G [2, 0, 0, 2] [1, (xs (i + 1)).toInt, (xs (i + 2)).toInt, 288] (S9 0 m0)) (QcM G (JJ (cb + 1))) 1 6 (fun q => G.2.2.2 ≤ q) :=
    hlp_a (K := 160) (PM := fun m1 => JC 4 (gC 4 m0) tc m1) rfl v_19_15 rfl ma_160 (by decide) (decG_ok (by decide +kernel)) (decG_ok (by decide +kernel)) (fun m1 h1 => ⟨JJ_C4 h1 hR9 hX9 hB9 hC9 hG9 rfl, fun v => JJ_288 (JJ_C4 h1 hR9 hX9 hB9 hC9 hG9 rfl)⟩) rfl (by decide +kernel) (by decide +kernel) (by decide +kernel) (by decide +kernel) (by decide +kernel) (thr_met2 160 B160 C160 rfl (by decide +kernel) D160 rfl (by decide +kernel) (Or.inl ⟨rfl, rfl⟩) (by decide) (by decide) C.2.1 (x_160 (d := 210) (BC_g 4 hC9)))
  refine r_help C (by decide) (by decide) hM (gw6 132 rfl rfl) (gw1 0 rfl rfl) (by decide) (by decide +kernel) (n := 4) (gw6 130 rfl rfl) (gw6 131 rfl rfl) (eh2 (xs (i + 1)) (xs (i + 2))) (by exact ⟨trivial, toInt_in _, toInt_in _, trivial, trivial⟩) rfl (Nat.le_of_ble_eq_true rfl) dt12.1 ?_
  intro v1 m1 h1
  refine r_ist C (by decide) dt13.1 rfl ?_
  refine r_al C 3 rfl dt14.1 ?_
  refine r_push C h5 hL (k := 1) (by decide) 1 5 rfl rfl dt15.1 dt16.1 dt17.1 dt18.1 dt19.1 ?_
  refine r_push C h5 hL (k := 2) (by decide) 1 5 rfl rfl dt20.1 dt21.1 dt22.1 dt23.1 dt24.1 ?_
  refine r_call C v_19_59 (a0 := 249) (cb := cb) (wb := wb) (m0 := m1) ⟨rfl, rfl⟩ ma_196 (es2 249 (xs (i + 1)) (xs (i + 2)) (by decide)) (ok2 249 (xs (i + 1)) (xs (i + 2))) (Nat.le_of_ble_eq_true rfl) (lv_249 _) (P := fun _ m2 => JJ cb m2) (cB_196 h1) dt25.1 ?_
  intro v m2 hv2 h2
  rw [encR_i (t := mRty 196) (Or.inl rfl)]
  refine r_ist C (by decide) dt26.1 rfl ?_
  refine r_go C (tgt := 1575) dt27.1 (by decide) ?_
  exact r_sub [2, 3, 4, 5, 6] rfl (fin m2 h2)
theorem case_6 {p : Program} {l : Launch} {e : Env} {s : State} {m : MethodId} {b L i : Nat} {below : List Frame} {meth : Method} {c : Code} {xs : Nat → Int32} {G : Geo} {cb wb : Nat} {m0 : Mem} (C : LCx p l s m meth c b L xs G) (h5 : i + 5 ≤ L) (hL : L ≤ 2560) (hm : JJ (cb + 1) m0) (fin : ∀ m9 : Mem, JJ cb m9 → LW p l e s m b below meth c G (T9 cb wb m9) (lv0 b G i) 1575 []) : LW p l e s m b below meth c G (T9 (cb + 1) (wb + 6) m0) (lv0 b G i) 368 [] := by
  have d : Dec code [(368, .aload_n 1, 1), (369, .aload_n 0, 1), (370, .iload 4, 2), (372, .iconst 1, 1), (373, .iadd, 1), (374, .iaload, 1), (375, .aload_n 0, 1), (376, .iload 4, 2), (378, .iconst 2, 1), (379, .iadd, 1), (380, .iaload, 1), (381, .aload_n 3, 1), (382, .invokestatic 60, 3), (385, .istore 5, 2), (387, .aload_n 2, 1), (388, .aload_n 0, 1), (389, .iload 4, 2), (391, .iconst 1, 1), (392, .iadd, 1), (393, .iaload, 1), (394, .aload_n 0, 1), (395, .iload 4, 2), (397, .iconst 2, 1), (398, .iadd, 1), (399, .iaload, 1), (400, .invokevirtual 62, 3), (403, .istore 6, 2), (405, .goto 1170, 3)] := decG_ok (by decide +kernel)
  have dt1 := d.2.2
  have dt2 := dt1.2.2
  have dt3 := dt2.2.2
  have dt4 := dt3.2.2
  have dt5 := dt4.2.2
  have dt6 := dt5.2.2
  have dt7 := dt6.2.2
  have dt8 := dt7.2.2
  have dt9 := dt8.2.2
  have dt10 := dt9.2.2
  have dt11 := dt10.2.2
  have dt12 := dt11.2.2
  have dt13 := dt12.2.2
  have dt14 := dt13.2.2
  have dt15 := dt14.2.2
  have dt16 := dt15.2.2
  have dt17 := dt16.2.2
  have dt18 := dt17.2.2
  have dt19 := dt18.2.2
  have dt20 := dt19.2.2
  have dt21 := dt20.2.2
  have dt22 := dt21.2.2
  have dt23 := dt22.2.2
  have dt24 := dt23.2.2
  have dt25 := dt24.2.2
  have dt26 := dt25.2.2
  have dt27 := dt26.2.2
  obtain ⟨tc, pl, hC9, hR9, hX9, hB9, hG9⟩ := id hm
  refine r_al C 1 rfl d.1 ?_
  refine r_push C h5 hL (k := 1) (by decide) 0 4 rfl rfl dt1.1 dt2.1 dt3.1 dt4.1 dt5.1 ?_
  refine r_push C h5 hL (k := 2) (by decide) 0 4 rfl rfl dt6.1 dt7.1 dt8.1 dt9.1 dt10.1 ?_
  refine r_al C 3 rfl dt11.1 ?_
  have hM : Met l ({ cls := "HotThroughLaw", name := "pot", desc := "(LHotThrough;II[J)I" } : MethodName) (wsH ({ cls := "HotThroughLaw", name := "pot", desc := "(LHotThrough;II[J)I" } : MethodName) method_5_code 5 [(0, 10, 13, 13)]) (rmH 230) (PcH G [2, 0, 0, 2] [1, (xs (i + 1)).toInt, (xs (i + 2)).toInt, 288] (S9 0 m0)) (QcM G (JJ (cb + 1))) 1 6 (fun q => G.2.2.2 ≤ q) :=
    hlp_a (K := 161) (PM := fun m1 => JC 4 (gC 4 m0) tc m1) rfl v_19_18 rfl ma_161 (by decide) (decG_ok (by decide +kernel)) (decG_ok (by decide +kernel)) (fun m1 h1 => ⟨JJ_C4 h1 hR9 hX9 hB9 hC9 hG9 rfl, fun v => JJ_288 (JJ_C4 h1 hR9 hX9 hB9 hC9 hG9 rfl)⟩) rfl (by decide +kernel) (by decide +kernel) (by decide +kernel) (by decide +kernel) (by decide +kernel) (thr_met2 161 B161 C161 rfl (by decide +kernel) D161 rfl (by decide +kernel) (Or.inl ⟨rfl, rfl⟩) (by decide) (by decide) C.2.1 (x_161 (d := 210) (BC_g 4 hC9)))
  refine r_help C (by decide) (by decide) hM (gw6 141 rfl rfl) (gw1 0 rfl rfl) (by decide) (by decide +kernel) (n := 4) (gw6 139 rfl rfl) (gw6 140 rfl rfl) (eh2 (xs (i + 1)) (xs (i + 2))) (by exact ⟨trivial, toInt_in _, toInt_in _, trivial, trivial⟩) rfl (Nat.le_of_ble_eq_true rfl) dt12.1 ?_
  intro v1 m1 h1
  refine r_ist C (by decide) dt13.1 rfl ?_
  refine r_al C 3 rfl dt14.1 ?_
  refine r_push C h5 hL (k := 1) (by decide) 1 5 rfl rfl dt15.1 dt16.1 dt17.1 dt18.1 dt19.1 ?_
  refine r_push C h5 hL (k := 2) (by decide) 1 5 rfl rfl dt20.1 dt21.1 dt22.1 dt23.1 dt24.1 ?_
  refine r_call C v_19_62 (a0 := 249) (cb := cb) (wb := wb) (m0 := m1) ⟨rfl, rfl⟩ ma_200 (es2 249 (xs (i + 1)) (xs (i + 2)) (by decide)) (ok2 249 (xs (i + 1)) (xs (i + 2))) (Nat.le_of_ble_eq_true rfl) (lv_249 _) (P := fun _ m2 => JJ cb m2) (cB_200 h1) dt25.1 ?_
  intro v m2 hv2 h2
  rw [encR_i (t := mRty 200) (Or.inl rfl)]
  refine r_ist C (by decide) dt26.1 rfl ?_
  refine r_go C (tgt := 1575) dt27.1 (by decide) ?_
  exact r_sub [2, 3, 4, 5, 6] rfl (fin m2 h2)
theorem case_7 {p : Program} {l : Launch} {e : Env} {s : State} {m : MethodId} {b L i : Nat} {below : List Frame} {meth : Method} {c : Code} {xs : Nat → Int32} {G : Geo} {cb wb : Nat} {m0 : Mem} (C : LCx p l s m meth c b L xs G) (h5 : i + 5 ≤ L) (hL : L ≤ 2560) (hm : JJ (cb + 1) m0) (fin : ∀ m9 : Mem, JJ cb m9 → LW p l e s m b below meth c G (T9 cb wb m9) (lv0 b G i) 1575 []) : LW p l e s m b below meth c G (T9 (cb + 1) (wb + 6) m0) (lv0 b G i) 408 [] := by
  have d : Dec code [(408, .aload_n 1, 1), (409, .aload_n 0, 1), (410, .iload 4, 2), (412, .iconst 1, 1), (413, .iadd, 1), (414, .iaload, 1), (415, .aload_n 0, 1), (416, .iload 4, 2), (418, .iconst 2, 1), (419, .iadd, 1), (420, .iaload, 1), (421, .aload_n 3, 1), (422, .invokestatic 63, 3), (425, .istore 5, 2), (427, .aload_n 2, 1), (428, .aload_n 0, 1), (429, .iload 4, 2), (431, .iconst 1, 1), (432, .iadd, 1), (433, .iaload, 1), (434, .aload_n 0, 1), (435, .iload 4, 2), (437, .iconst 2, 1), (438, .iadd, 1), (439, .iaload, 1), (440, .invokevirtual 65, 3), (443, .istore 6, 2), (445, .goto 1130, 3)] := decG_ok (by decide +kernel)
  have dt1 := d.2.2
  have dt2 := dt1.2.2
  have dt3 := dt2.2.2
  have dt4 := dt3.2.2
  have dt5 := dt4.2.2
  have dt6 := dt5.2.2
  have dt7 := dt6.2.2
  have dt8 := dt7.2.2
  have dt9 := dt8.2.2
  have dt10 := dt9.2.2
  have dt11 := dt10.2.2
  have dt12 := dt11.2.2
  have dt13 := dt12.2.2
  have dt14 := dt13.2.2
  have dt15 := dt14.2.2
  have dt16 := dt15.2.2
  have dt17 := dt16.2.2
  have dt18 := dt17.2.2
  have dt19 := dt18.2.2
  have dt20 := dt19.2.2
  have dt21 := dt20.2.2
  have dt22 := dt21.2.2
  have dt23 := dt22.2.2
  have dt24 := dt23.2.2
  have dt25 := dt24.2.2
  have dt26 := dt25.2.2
  have dt27 := dt26.2.2
  obtain ⟨tc, pl, hC9, hR9, hX9, hB9, hG9⟩ := id hm
  refine r_al C 1 rfl d.1 ?_
  refine r_push C h5 hL (k := 1) (by decide) 0 4 rfl rfl dt1.1 dt2.1 dt3.1 dt4.1 dt5.1 ?_
  refine r_push C h5 hL (k := 2) (by decide) 0 4 rfl rfl dt6.1 dt7.1 dt8.1 dt9.1 dt10.1 ?_
  refine r_al C 3 rfl dt11.1 ?_
  have hM : Met l ({ cls := "HotThroughLaw", name := "person", desc := "(LHotThrough;II[J)I" } : MethodName) (wsH ({ cls := "HotThroughLaw", name := "person", desc := "(LHotThrough;II[J)I" } : MethodName) method_6_code 5 [(0, 10, 13, 13)]) (rmH 230) (PcH G [2, 0, 0, 2] [1, (xs (i + 1)).toInt, (xs (i + 2)).toInt, 288] (S9 0 m0)) (QcM G (JJ (cb + 1))) 1 6 (fun q => G.2.2.2 ≤ q) :=
    hlp_a (K := 162) (PM := fun m1 => JC 4 (gC 4 m0) tc m1) rfl v_19_21 rfl ma_162 (by decide) (decG_ok (by decide +kernel)) (decG_ok (by decide +kernel)) (fun m1 h1 => ⟨JJ_C4 h1 hR9 hX9 hB9 hC9 hG9 rfl, fun v => JJ_288 (JJ_C4 h1 hR9 hX9 hB9 hC9 hG9 rfl)⟩) rfl (by decide +kernel) (by decide +kernel) (by decide +kernel) (by decide +kernel) (by decide +kernel) (thr_met2 162 B162 C162 rfl (by decide +kernel) D162 rfl (by decide +kernel) (Or.inl ⟨rfl, rfl⟩) (by decide) (by decide) C.2.1 (x_162 (d := 210) (BC_g 4 hC9)))
  refine r_help C (by decide) (by decide) hM (gw6 148 rfl rfl) (gw1 0 rfl rfl) (by decide) (by decide +kernel) (n := 4) (gw6 146 rfl rfl) (gw6 147 rfl rfl) (eh2 (xs (i + 1)) (xs (i + 2))) (by exact ⟨trivial, toInt_in _, toInt_in _, trivial, trivial⟩) rfl (Nat.le_of_ble_eq_true rfl) dt12.1 ?_
  intro v1 m1 h1
  refine r_ist C (by decide) dt13.1 rfl ?_
  refine r_al C 3 rfl dt14.1 ?_
  refine r_push C h5 hL (k := 1) (by decide) 1 5 rfl rfl dt15.1 dt16.1 dt17.1 dt18.1 dt19.1 ?_
  refine r_push C h5 hL (k := 2) (by decide) 1 5 rfl rfl dt20.1 dt21.1 dt22.1 dt23.1 dt24.1 ?_
  refine r_call C v_19_65 (a0 := 249) (cb := cb) (wb := wb) (m0 := m1) ⟨rfl, rfl⟩ ma_204 (es2 249 (xs (i + 1)) (xs (i + 2)) (by decide)) (ok2 249 (xs (i + 1)) (xs (i + 2))) (Nat.le_of_ble_eq_true rfl) (lv_249 _) (P := fun _ m2 => JJ cb m2) (cB_204 h1) dt25.1 ?_
  intro v m2 hv2 h2
  rw [encR_i (t := mRty 204) (Or.inl rfl)]
  refine r_ist C (by decide) dt26.1 rfl ?_
  refine r_go C (tgt := 1575) dt27.1 (by decide) ?_
  exact r_sub [2, 3, 4, 5, 6] rfl (fin m2 h2)
theorem case_39 {p : Program} {l : Launch} {e : Env} {s : State} {m : MethodId} {b L i : Nat} {below : List Frame} {meth : Method} {c : Code} {xs : Nat → Int32} {G : Geo} {cb wb : Nat} {m0 : Mem} (C : LCx p l s m meth c b L xs G) (h5 : i + 5 ≤ L) (hL : L ≤ 2560) (hm : JJ (cb + 1) m0) (fin : ∀ m9 : Mem, JJ cb m9 → LW p l e s m b below meth c G (T9 cb wb m9) (lv0 b G i) 1575 []) : LW p l e s m b below meth c G (T9 (cb + 1) (wb + 6) m0) (lv0 b G i) 1547 [] := by
  have d : Dec code [(1547, .aload_n 1, 1), (1548, .aload_n 0, 1), (1549, .iload 4, 2), (1551, .iconst 1, 1), (1552, .iadd, 1), (1553, .iaload, 1), (1554, .aload_n 3, 1), (1555, .invokestatic 192, 3), (1558, .istore 5, 2), (1560, .aload_n 2, 1), (1561, .aload_n 0, 1), (1562, .iload 4, 2), (1564, .iconst 1, 1), (1565, .iadd, 1), (1566, .iaload, 1), (1567, .invokevirtual 195, 3), (1570, .lstore 6, 2), (1572, .goto 3, 3)] := decG_ok (by decide +kernel)
  have dt1 := d.2.2
  have dt2 := dt1.2.2
  have dt3 := dt2.2.2
  have dt4 := dt3.2.2
  have dt5 := dt4.2.2
  have dt6 := dt5.2.2
  have dt7 := dt6.2.2
  have dt8 := dt7.2.2
  have dt9 := dt8.2.2
  have dt10 := dt9.2.2
  have dt11 := dt10.2.2
  have dt12 := dt11.2.2
  have dt13 := dt12.2.2
  have dt14 := dt13.2.2
  have dt15 := dt14.2.2
  have dt16 := dt15.2.2
  have dt17 := dt16.2.2
  obtain ⟨tc, pl, hC9, hR9, hX9, hB9, hG9⟩ := id hm
  refine r_al C 1 rfl d.1 ?_
  refine r_push C h5 hL (k := 1) (by decide) 0 4 rfl rfl dt1.1 dt2.1 dt3.1 dt4.1 dt5.1 ?_
  refine r_al C 3 rfl dt6.1 ?_
  have hM : Met l ({ cls := "HotThroughLaw", name := "row", desc := "(LHotThrough;I[J)I" } : MethodName) (wsH ({ cls := "HotThroughLaw", name := "row", desc := "(LHotThrough;I[J)I" } : MethodName) method_7_code 4 [(0, 8, 11, 13)]) (rmH 230) (PcH G [2, 0, 2] [1, (xs (i + 1)).toInt, 288] (S9 0 m0)) (QcM G (JJ (cb + 1))) 1 6 (fun q => G.2.2.2 ≤ q) :=
    hlp_b (K := 164) (PM := fun m1 => JC 4 (gC 4 m0) tc m1) rfl v_19_24 rfl ma_164 (by decide) (decG_ok (by decide +kernel)) (decG_ok (by decide +kernel)) (fun m1 h1 => ⟨JJ_C4 h1 hR9 hX9 hB9 hC9 hG9 rfl, fun v => JJ_288 (JJ_C4 h1 hR9 hX9 hB9 hC9 hG9 rfl)⟩) rfl (by decide +kernel) (by decide +kernel) (by decide +kernel) (by decide +kernel) (thr_met2 164 B164 C164 rfl (by decide +kernel) D164 rfl (by decide +kernel) (Or.inr ⟨rfl, rfl⟩) (by decide) (by decide) C.2.1 (x_164 (d := 210) (BC_g 4 hC9)))
  refine r_help C (by decide) (by decide) hM (gw6 160 rfl rfl) (gw1 0 rfl rfl) (by decide) (by decide +kernel) (n := 3) (gw6 158 rfl rfl) (gw6 159 rfl rfl) (eh1 (xs (i + 1))) (by exact ⟨trivial, toInt_in _, trivial, trivial⟩) rfl (Nat.le_of_ble_eq_true rfl) dt7.1 ?_
  intro v1 m1 h1
  refine r_ist C (by decide) dt8.1 rfl ?_
  refine r_al C 3 rfl dt9.1 ?_
  refine r_push C h5 hL (k := 1) (by decide) 1 5 rfl rfl dt10.1 dt11.1 dt12.1 dt13.1 dt14.1 ?_
  refine r_call C v_19_195 (a0 := 249) (cb := cb) (wb := wb) (m0 := m1) ⟨rfl, rfl⟩ ma_281 (es1 249 (xs (i + 1)) (by decide)) (ok1 249 (xs (i + 1))) (Nat.le_of_ble_eq_true rfl) (lv_249 _) (P := fun _ m2 => JJ cb m2) (cB_281 h1) dt15.1 ?_
  intro v m2 hv2 h2
  refine r_lst C (by decide) dt16.1 rfl ?_
  refine r_go C (tgt := 1575) dt17.1 (by decide) ?_
  exact r_sub [2, 3, 4, 5, 6] rfl (fin m2 h2)
