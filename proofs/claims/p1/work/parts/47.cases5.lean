/-! the law, case by case -/
theorem case_4 {p : Program} {l : Launch} {e : Env} {s : State} {m : MethodId} {b L : Nat} {below : List Frame} {meth : Method} {c : Code} {xs : Nat → Int32} {G : Geo} (C : LCx p l s m meth c b L xs G) (h5 : L = 5) (fin : ∀ m9 : Mem, LW p l e s m b below meth c G (T9 0 0 m9) (lv0 b G) 1714 []) : LW p l e s m b below meth c G (T9 1 6 zM) (lv0 b G) 288 [] := by
  have d : Dec code [(288, .aload_n 1, 1), (289, .aload_n 0, 1), (290, .iload 4, 2), (292, .iconst 1, 1), (293, .iadd, 1), (294, .iaload, 1), (295, .aload_n 0, 1), (296, .iload 4, 2), (298, .iconst 2, 1), (299, .iadd, 1), (300, .iaload, 1), (301, .aload_n 3, 1), (302, .invokestatic 51, 3), (305, .istore 5, 2), (307, .aload_n 2, 1), (308, .aload_n 0, 1), (309, .iload 4, 2), (311, .iconst 1, 1), (312, .iadd, 1), (313, .iaload, 1), (314, .aload_n 0, 1), (315, .iload 4, 2), (317, .iconst 2, 1), (318, .iadd, 1), (319, .iaload, 1), (320, .invokevirtual 56, 3), (323, .istore 6, 2), (325, .aload_n 2, 1), (326, .invokevirtual 57, 3), (329, .iload 5, 2), (331, .if_icmp .eq 5, 3), (334, .iconst 0, 1), (335, .ireturn, 1), (336, .iload 5, 2), (338, .ifCond .ne 15, 3)] := decB_ok (by decide +kernel)
  have g9 : decode code 353 = .ok (.goto 1361, 3) := by decide +kernel
  refine r_al C 1 rfl d.1 ?_
  refine r_push C h5 (k := 1) (by decide) 0 4 rfl rfl d.2.2.1 d.2.2.2.2.1 d.2.2.2.2.2.2.1 d.2.2.2.2.2.2.2.2.1 d.2.2.2.2.2.2.2.2.2.2.1 ?_
  refine r_push C h5 (k := 2) (by decide) 0 4 rfl rfl d.2.2.2.2.2.2.2.2.2.2.2.2.1 d.2.2.2.2.2.2.2.2.2.2.2.2.2.2.1 d.2.2.2.2.2.2.2.2.2.2.2.2.2.2.2.2.1 d.2.2.2.2.2.2.2.2.2.2.2.2.2.2.2.2.2.2.1 d.2.2.2.2.2.2.2.2.2.2.2.2.2.2.2.2.2.2.2.2.1 ?_
  refine r_al C 3 rfl d.2.2.2.2.2.2.2.2.2.2.2.2.2.2.2.2.2.2.2.2.2.2.1 ?_
  have hM : Met l ({ cls := "HotThroughLaw", name := "place", desc := "(LHotThrough;II[J)I" } : MethodName) (wsH ({ cls := "HotThroughLaw", name := "place", desc := "(LHotThrough;II[J)I" } : MethodName) method_3_code 5 [(0, 10, 13, 13)]) (rmH 20) (PcH G [2, 0, 0, 2] [1, (xs 1).toInt, (xs 2).toInt, 288] (S9 0 zM)) (QcH G (S9 0 zM)) 1 6 (fun q => G.2.2.2 ≤ q) :=
    hlp_a (K := 156) rfl v_19_7 rfl ma_156 (by decide) (decB_ok (by decide +kernel)) (decB_ok (by decide +kernel)) (thr_met 156 B156 C156 rfl (by decide +kernel) D156 rfl (by decide +kernel) (Or.inl rfl) (by decide) (by decide) C.2.1 (x_156 (d := 14)))
  refine r_help C (by decide) (by decide) hM (gw6 51 (by decide +kernel) rfl) (gw1 0 (by decide +kernel) rfl) (by decide) (by decide +kernel) (n := 4) (gw6 49 (by decide +kernel) rfl) (gw6 50 (by decide +kernel) rfl) (eh2 (xs 1) (xs 2)) (by exact ⟨trivial, toInt_in _, toInt_in _, trivial, trivial⟩) rfl (Nat.le_of_ble_eq_true rfl) d.2.2.2.2.2.2.2.2.2.2.2.2.2.2.2.2.2.2.2.2.2.2.2.2.1 ?_
  refine r_ist C (by decide) d.2.2.2.2.2.2.2.2.2.2.2.2.2.2.2.2.2.2.2.2.2.2.2.2.2.2.1 rfl ?_
  refine r_al C 3 rfl d.2.2.2.2.2.2.2.2.2.2.2.2.2.2.2.2.2.2.2.2.2.2.2.2.2.2.2.2.1 ?_
  refine r_push C h5 (k := 1) (by decide) 1 5 rfl rfl d.2.2.2.2.2.2.2.2.2.2.2.2.2.2.2.2.2.2.2.2.2.2.2.2.2.2.2.2.2.2.1 d.2.2.2.2.2.2.2.2.2.2.2.2.2.2.2.2.2.2.2.2.2.2.2.2.2.2.2.2.2.2.2.2.1 d.2.2.2.2.2.2.2.2.2.2.2.2.2.2.2.2.2.2.2.2.2.2.2.2.2.2.2.2.2.2.2.2.2.2.1 d.2.2.2.2.2.2.2.2.2.2.2.2.2.2.2.2.2.2.2.2.2.2.2.2.2.2.2.2.2.2.2.2.2.2.2.2.1 d.2.2.2.2.2.2.2.2.2.2.2.2.2.2.2.2.2.2.2.2.2.2.2.2.2.2.2.2.2.2.2.2.2.2.2.2.2.2.1 ?_
  refine r_push C h5 (k := 2) (by decide) 1 5 rfl rfl d.2.2.2.2.2.2.2.2.2.2.2.2.2.2.2.2.2.2.2.2.2.2.2.2.2.2.2.2.2.2.2.2.2.2.2.2.2.2.2.2.1 d.2.2.2.2.2.2.2.2.2.2.2.2.2.2.2.2.2.2.2.2.2.2.2.2.2.2.2.2.2.2.2.2.2.2.2.2.2.2.2.2.2.2.1 d.2.2.2.2.2.2.2.2.2.2.2.2.2.2.2.2.2.2.2.2.2.2.2.2.2.2.2.2.2.2.2.2.2.2.2.2.2.2.2.2.2.2.2.2.1 d.2.2.2.2.2.2.2.2.2.2.2.2.2.2.2.2.2.2.2.2.2.2.2.2.2.2.2.2.2.2.2.2.2.2.2.2.2.2.2.2.2.2.2.2.2.2.1 d.2.2.2.2.2.2.2.2.2.2.2.2.2.2.2.2.2.2.2.2.2.2.2.2.2.2.2.2.2.2.2.2.2.2.2.2.2.2.2.2.2.2.2.2.2.2.2.2.1 ?_
  refine r_call C v_19_56 (a0 := 249) (cb := 0) (wb := 0) (m0 := zM) ⟨rfl, rfl⟩ ma_193 (es2 249 (xs 1) (xs 2) (by decide)) (ok2 249 (xs 1) (xs 2)) (Nat.le_of_ble_eq_true rfl) (lv_249 _) (P := fun _ m2 => m2 249 0 = 1) (y_193 (d := 14)) d.2.2.2.2.2.2.2.2.2.2.2.2.2.2.2.2.2.2.2.2.2.2.2.2.2.2.2.2.2.2.2.2.2.2.2.2.2.2.2.2.2.2.2.2.2.2.2.2.2.2.1 ?_
  intro v m2 hv2 h2
  rw [encR_i (t := mRty 193) (Or.inl rfl)]
  refine r_ist C (by decide) d.2.2.2.2.2.2.2.2.2.2.2.2.2.2.2.2.2.2.2.2.2.2.2.2.2.2.2.2.2.2.2.2.2.2.2.2.2.2.2.2.2.2.2.2.2.2.2.2.2.2.2.2.1 rfl ?_
  refine r_al C 4 rfl d.2.2.2.2.2.2.2.2.2.2.2.2.2.2.2.2.2.2.2.2.2.2.2.2.2.2.2.2.2.2.2.2.2.2.2.2.2.2.2.2.2.2.2.2.2.2.2.2.2.2.2.2.2.2.1 ?_
  refine r_call C v_19_57 (a0 := 249) (cb := 0) (wb := 0) ⟨rfl, rfl⟩ ma_166 (es0 249 (by decide)) (ok0 249) (Nat.le_of_ble_eq_true rfl) (lv_249 _) (P := fun w _ => w = 1) (y_166 (d := 14) h2) d.2.2.2.2.2.2.2.2.2.2.2.2.2.2.2.2.2.2.2.2.2.2.2.2.2.2.2.2.2.2.2.2.2.2.2.2.2.2.2.2.2.2.2.2.2.2.2.2.2.2.2.2.2.2.2.2.1 ?_
  rintro w m3 hw3 rfl
  rw [encR_i (t := mRty 166) (Or.inl rfl)]
  refine r_ild C 1 rfl d.2.2.2.2.2.2.2.2.2.2.2.2.2.2.2.2.2.2.2.2.2.2.2.2.2.2.2.2.2.2.2.2.2.2.2.2.2.2.2.2.2.2.2.2.2.2.2.2.2.2.2.2.2.2.2.2.2.2.1 ?_
  refine r_eq C (tgt := 336) d.2.2.2.2.2.2.2.2.2.2.2.2.2.2.2.2.2.2.2.2.2.2.2.2.2.2.2.2.2.2.2.2.2.2.2.2.2.2.2.2.2.2.2.2.2.2.2.2.2.2.2.2.2.2.2.2.2.2.2.2.1 (by decide) rfl ?_
  refine r_ild C 1 rfl d.2.2.2.2.2.2.2.2.2.2.2.2.2.2.2.2.2.2.2.2.2.2.2.2.2.2.2.2.2.2.2.2.2.2.2.2.2.2.2.2.2.2.2.2.2.2.2.2.2.2.2.2.2.2.2.2.2.2.2.2.2.2.2.2.2.2.1 ?_
  refine r_ne C (tgt := 353) d.2.2.2.2.2.2.2.2.2.2.2.2.2.2.2.2.2.2.2.2.2.2.2.2.2.2.2.2.2.2.2.2.2.2.2.2.2.2.2.2.2.2.2.2.2.2.2.2.2.2.2.2.2.2.2.2.2.2.2.2.2.2.2.2.2.2.2.2.1 (by decide) (by decide) ?_
  refine r_go C (tgt := 1714) g9 (by decide) ?_
  exact r_sub [2, 3, 4, 5, 6] rfl (fin m3)
theorem case_5 {p : Program} {l : Launch} {e : Env} {s : State} {m : MethodId} {b L : Nat} {below : List Frame} {meth : Method} {c : Code} {xs : Nat → Int32} {G : Geo} (C : LCx p l s m meth c b L xs G) (h5 : L = 5) (fin : ∀ m9 : Mem, LW p l e s m b below meth c G (T9 0 0 m9) (lv0 b G) 1714 []) : LW p l e s m b below meth c G (T9 1 6 zM) (lv0 b G) 356 [] := by
  have d : Dec code [(356, .aload_n 1, 1), (357, .aload_n 0, 1), (358, .iload 4, 2), (360, .iconst 1, 1), (361, .iadd, 1), (362, .iaload, 1), (363, .aload_n 0, 1), (364, .iload 4, 2), (366, .iconst 2, 1), (367, .iadd, 1), (368, .iaload, 1), (369, .aload_n 3, 1), (370, .invokestatic 60, 3), (373, .istore 5, 2), (375, .aload_n 2, 1), (376, .aload_n 0, 1), (377, .iload 4, 2), (379, .iconst 1, 1), (380, .iadd, 1), (381, .iaload, 1), (382, .aload_n 0, 1), (383, .iload 4, 2), (385, .iconst 2, 1), (386, .iadd, 1), (387, .iaload, 1), (388, .invokevirtual 62, 3), (391, .istore 6, 2), (393, .aload_n 2, 1), (394, .invokevirtual 57, 3), (397, .iload 5, 2), (399, .if_icmp .eq 5, 3), (402, .iconst 0, 1), (403, .ireturn, 1), (404, .iload 5, 2), (406, .ifCond .ne 15, 3)] := decB_ok (by decide +kernel)
  have g9 : decode code 421 = .ok (.goto 1293, 3) := by decide +kernel
  refine r_al C 1 rfl d.1 ?_
  refine r_push C h5 (k := 1) (by decide) 0 4 rfl rfl d.2.2.1 d.2.2.2.2.1 d.2.2.2.2.2.2.1 d.2.2.2.2.2.2.2.2.1 d.2.2.2.2.2.2.2.2.2.2.1 ?_
  refine r_push C h5 (k := 2) (by decide) 0 4 rfl rfl d.2.2.2.2.2.2.2.2.2.2.2.2.1 d.2.2.2.2.2.2.2.2.2.2.2.2.2.2.1 d.2.2.2.2.2.2.2.2.2.2.2.2.2.2.2.2.1 d.2.2.2.2.2.2.2.2.2.2.2.2.2.2.2.2.2.2.1 d.2.2.2.2.2.2.2.2.2.2.2.2.2.2.2.2.2.2.2.2.1 ?_
  refine r_al C 3 rfl d.2.2.2.2.2.2.2.2.2.2.2.2.2.2.2.2.2.2.2.2.2.2.1 ?_
  have hM : Met l ({ cls := "HotThroughLaw", name := "way", desc := "(LHotThrough;II[J)I" } : MethodName) (wsH ({ cls := "HotThroughLaw", name := "way", desc := "(LHotThrough;II[J)I" } : MethodName) method_4_code 5 [(0, 10, 13, 13)]) (rmH 20) (PcH G [2, 0, 0, 2] [1, (xs 1).toInt, (xs 2).toInt, 288] (S9 0 zM)) (QcH G (S9 0 zM)) 1 6 (fun q => G.2.2.2 ≤ q) :=
    hlp_a (K := 160) rfl v_19_15 rfl ma_160 (by decide) (decB_ok (by decide +kernel)) (decB_ok (by decide +kernel)) (thr_met 160 B160 C160 rfl (by decide +kernel) D160 rfl (by decide +kernel) (Or.inl rfl) (by decide) (by decide) C.2.1 (x_160 (d := 14)))
  refine r_help C (by decide) (by decide) hM (gw6 132 (by decide +kernel) rfl) (gw1 0 (by decide +kernel) rfl) (by decide) (by decide +kernel) (n := 4) (gw6 130 (by decide +kernel) rfl) (gw6 131 (by decide +kernel) rfl) (eh2 (xs 1) (xs 2)) (by exact ⟨trivial, toInt_in _, toInt_in _, trivial, trivial⟩) rfl (Nat.le_of_ble_eq_true rfl) d.2.2.2.2.2.2.2.2.2.2.2.2.2.2.2.2.2.2.2.2.2.2.2.2.1 ?_
  refine r_ist C (by decide) d.2.2.2.2.2.2.2.2.2.2.2.2.2.2.2.2.2.2.2.2.2.2.2.2.2.2.1 rfl ?_
  refine r_al C 3 rfl d.2.2.2.2.2.2.2.2.2.2.2.2.2.2.2.2.2.2.2.2.2.2.2.2.2.2.2.2.1 ?_
  refine r_push C h5 (k := 1) (by decide) 1 5 rfl rfl d.2.2.2.2.2.2.2.2.2.2.2.2.2.2.2.2.2.2.2.2.2.2.2.2.2.2.2.2.2.2.1 d.2.2.2.2.2.2.2.2.2.2.2.2.2.2.2.2.2.2.2.2.2.2.2.2.2.2.2.2.2.2.2.2.1 d.2.2.2.2.2.2.2.2.2.2.2.2.2.2.2.2.2.2.2.2.2.2.2.2.2.2.2.2.2.2.2.2.2.2.1 d.2.2.2.2.2.2.2.2.2.2.2.2.2.2.2.2.2.2.2.2.2.2.2.2.2.2.2.2.2.2.2.2.2.2.2.2.1 d.2.2.2.2.2.2.2.2.2.2.2.2.2.2.2.2.2.2.2.2.2.2.2.2.2.2.2.2.2.2.2.2.2.2.2.2.2.2.1 ?_
  refine r_push C h5 (k := 2) (by decide) 1 5 rfl rfl d.2.2.2.2.2.2.2.2.2.2.2.2.2.2.2.2.2.2.2.2.2.2.2.2.2.2.2.2.2.2.2.2.2.2.2.2.2.2.2.2.1 d.2.2.2.2.2.2.2.2.2.2.2.2.2.2.2.2.2.2.2.2.2.2.2.2.2.2.2.2.2.2.2.2.2.2.2.2.2.2.2.2.2.2.1 d.2.2.2.2.2.2.2.2.2.2.2.2.2.2.2.2.2.2.2.2.2.2.2.2.2.2.2.2.2.2.2.2.2.2.2.2.2.2.2.2.2.2.2.2.1 d.2.2.2.2.2.2.2.2.2.2.2.2.2.2.2.2.2.2.2.2.2.2.2.2.2.2.2.2.2.2.2.2.2.2.2.2.2.2.2.2.2.2.2.2.2.2.1 d.2.2.2.2.2.2.2.2.2.2.2.2.2.2.2.2.2.2.2.2.2.2.2.2.2.2.2.2.2.2.2.2.2.2.2.2.2.2.2.2.2.2.2.2.2.2.2.2.1 ?_
  refine r_call C v_19_62 (a0 := 249) (cb := 0) (wb := 0) (m0 := zM) ⟨rfl, rfl⟩ ma_196 (es2 249 (xs 1) (xs 2) (by decide)) (ok2 249 (xs 1) (xs 2)) (Nat.le_of_ble_eq_true rfl) (lv_249 _) (P := fun _ m2 => m2 249 0 = 1) (y_196 (d := 14)) d.2.2.2.2.2.2.2.2.2.2.2.2.2.2.2.2.2.2.2.2.2.2.2.2.2.2.2.2.2.2.2.2.2.2.2.2.2.2.2.2.2.2.2.2.2.2.2.2.2.2.1 ?_
  intro v m2 hv2 h2
  rw [encR_i (t := mRty 196) (Or.inl rfl)]
  refine r_ist C (by decide) d.2.2.2.2.2.2.2.2.2.2.2.2.2.2.2.2.2.2.2.2.2.2.2.2.2.2.2.2.2.2.2.2.2.2.2.2.2.2.2.2.2.2.2.2.2.2.2.2.2.2.2.2.1 rfl ?_
  refine r_al C 4 rfl d.2.2.2.2.2.2.2.2.2.2.2.2.2.2.2.2.2.2.2.2.2.2.2.2.2.2.2.2.2.2.2.2.2.2.2.2.2.2.2.2.2.2.2.2.2.2.2.2.2.2.2.2.2.2.1 ?_
  refine r_call C v_19_57 (a0 := 249) (cb := 0) (wb := 0) ⟨rfl, rfl⟩ ma_166 (es0 249 (by decide)) (ok0 249) (Nat.le_of_ble_eq_true rfl) (lv_249 _) (P := fun w _ => w = 1) (y_166 (d := 14) h2) d.2.2.2.2.2.2.2.2.2.2.2.2.2.2.2.2.2.2.2.2.2.2.2.2.2.2.2.2.2.2.2.2.2.2.2.2.2.2.2.2.2.2.2.2.2.2.2.2.2.2.2.2.2.2.2.2.1 ?_
  rintro w m3 hw3 rfl
  rw [encR_i (t := mRty 166) (Or.inl rfl)]
  refine r_ild C 1 rfl d.2.2.2.2.2.2.2.2.2.2.2.2.2.2.2.2.2.2.2.2.2.2.2.2.2.2.2.2.2.2.2.2.2.2.2.2.2.2.2.2.2.2.2.2.2.2.2.2.2.2.2.2.2.2.2.2.2.2.1 ?_
  refine r_eq C (tgt := 404) d.2.2.2.2.2.2.2.2.2.2.2.2.2.2.2.2.2.2.2.2.2.2.2.2.2.2.2.2.2.2.2.2.2.2.2.2.2.2.2.2.2.2.2.2.2.2.2.2.2.2.2.2.2.2.2.2.2.2.2.2.1 (by decide) rfl ?_
  refine r_ild C 1 rfl d.2.2.2.2.2.2.2.2.2.2.2.2.2.2.2.2.2.2.2.2.2.2.2.2.2.2.2.2.2.2.2.2.2.2.2.2.2.2.2.2.2.2.2.2.2.2.2.2.2.2.2.2.2.2.2.2.2.2.2.2.2.2.2.2.2.2.1 ?_
  refine r_ne C (tgt := 421) d.2.2.2.2.2.2.2.2.2.2.2.2.2.2.2.2.2.2.2.2.2.2.2.2.2.2.2.2.2.2.2.2.2.2.2.2.2.2.2.2.2.2.2.2.2.2.2.2.2.2.2.2.2.2.2.2.2.2.2.2.2.2.2.2.2.2.2.2.1 (by decide) (by decide) ?_
  refine r_go C (tgt := 1714) g9 (by decide) ?_
  exact r_sub [2, 3, 4, 5, 6] rfl (fin m3)
theorem case_6 {p : Program} {l : Launch} {e : Env} {s : State} {m : MethodId} {b L : Nat} {below : List Frame} {meth : Method} {c : Code} {xs : Nat → Int32} {G : Geo} (C : LCx p l s m meth c b L xs G) (h5 : L = 5) (fin : ∀ m9 : Mem, LW p l e s m b below meth c G (T9 0 0 m9) (lv0 b G) 1714 []) : LW p l e s m b below meth c G (T9 1 6 zM) (lv0 b G) 424 [] := by
  have d : Dec code [(424, .aload_n 1, 1), (425, .aload_n 0, 1), (426, .iload 4, 2), (428, .iconst 1, 1), (429, .iadd, 1), (430, .iaload, 1), (431, .aload_n 0, 1), (432, .iload 4, 2), (434, .iconst 2, 1), (435, .iadd, 1), (436, .iaload, 1), (437, .aload_n 3, 1), (438, .invokestatic 63, 3), (441, .istore 5, 2), (443, .aload_n 2, 1), (444, .aload_n 0, 1), (445, .iload 4, 2), (447, .iconst 1, 1), (448, .iadd, 1), (449, .iaload, 1), (450, .aload_n 0, 1), (451, .iload 4, 2), (453, .iconst 2, 1), (454, .iadd, 1), (455, .iaload, 1), (456, .invokevirtual 65, 3), (459, .istore 6, 2), (461, .aload_n 2, 1), (462, .invokevirtual 57, 3), (465, .iload 5, 2), (467, .if_icmp .eq 5, 3), (470, .iconst 0, 1), (471, .ireturn, 1), (472, .iload 5, 2), (474, .ifCond .ne 15, 3)] := decB_ok (by decide +kernel)
  have g9 : decode code 489 = .ok (.goto 1225, 3) := by decide +kernel
  refine r_al C 1 rfl d.1 ?_
  refine r_push C h5 (k := 1) (by decide) 0 4 rfl rfl d.2.2.1 d.2.2.2.2.1 d.2.2.2.2.2.2.1 d.2.2.2.2.2.2.2.2.1 d.2.2.2.2.2.2.2.2.2.2.1 ?_
  refine r_push C h5 (k := 2) (by decide) 0 4 rfl rfl d.2.2.2.2.2.2.2.2.2.2.2.2.1 d.2.2.2.2.2.2.2.2.2.2.2.2.2.2.1 d.2.2.2.2.2.2.2.2.2.2.2.2.2.2.2.2.1 d.2.2.2.2.2.2.2.2.2.2.2.2.2.2.2.2.2.2.1 d.2.2.2.2.2.2.2.2.2.2.2.2.2.2.2.2.2.2.2.2.1 ?_
  refine r_al C 3 rfl d.2.2.2.2.2.2.2.2.2.2.2.2.2.2.2.2.2.2.2.2.2.2.1 ?_
  have hM : Met l ({ cls := "HotThroughLaw", name := "pot", desc := "(LHotThrough;II[J)I" } : MethodName) (wsH ({ cls := "HotThroughLaw", name := "pot", desc := "(LHotThrough;II[J)I" } : MethodName) method_5_code 5 [(0, 10, 13, 13)]) (rmH 20) (PcH G [2, 0, 0, 2] [1, (xs 1).toInt, (xs 2).toInt, 288] (S9 0 zM)) (QcH G (S9 0 zM)) 1 6 (fun q => G.2.2.2 ≤ q) :=
    hlp_a (K := 161) rfl v_19_18 rfl ma_161 (by decide) (decB_ok (by decide +kernel)) (decB_ok (by decide +kernel)) (thr_met 161 B161 C161 rfl (by decide +kernel) D161 rfl (by decide +kernel) (Or.inl rfl) (by decide) (by decide) C.2.1 (x_161 (d := 14)))
  refine r_help C (by decide) (by decide) hM (gw6 141 (by decide +kernel) rfl) (gw1 0 (by decide +kernel) rfl) (by decide) (by decide +kernel) (n := 4) (gw6 139 (by decide +kernel) rfl) (gw6 140 (by decide +kernel) rfl) (eh2 (xs 1) (xs 2)) (by exact ⟨trivial, toInt_in _, toInt_in _, trivial, trivial⟩) rfl (Nat.le_of_ble_eq_true rfl) d.2.2.2.2.2.2.2.2.2.2.2.2.2.2.2.2.2.2.2.2.2.2.2.2.1 ?_
  refine r_ist C (by decide) d.2.2.2.2.2.2.2.2.2.2.2.2.2.2.2.2.2.2.2.2.2.2.2.2.2.2.1 rfl ?_
  refine r_al C 3 rfl d.2.2.2.2.2.2.2.2.2.2.2.2.2.2.2.2.2.2.2.2.2.2.2.2.2.2.2.2.1 ?_
  refine r_push C h5 (k := 1) (by decide) 1 5 rfl rfl d.2.2.2.2.2.2.2.2.2.2.2.2.2.2.2.2.2.2.2.2.2.2.2.2.2.2.2.2.2.2.1 d.2.2.2.2.2.2.2.2.2.2.2.2.2.2.2.2.2.2.2.2.2.2.2.2.2.2.2.2.2.2.2.2.1 d.2.2.2.2.2.2.2.2.2.2.2.2.2.2.2.2.2.2.2.2.2.2.2.2.2.2.2.2.2.2.2.2.2.2.1 d.2.2.2.2.2.2.2.2.2.2.2.2.2.2.2.2.2.2.2.2.2.2.2.2.2.2.2.2.2.2.2.2.2.2.2.2.1 d.2.2.2.2.2.2.2.2.2.2.2.2.2.2.2.2.2.2.2.2.2.2.2.2.2.2.2.2.2.2.2.2.2.2.2.2.2.2.1 ?_
  refine r_push C h5 (k := 2) (by decide) 1 5 rfl rfl d.2.2.2.2.2.2.2.2.2.2.2.2.2.2.2.2.2.2.2.2.2.2.2.2.2.2.2.2.2.2.2.2.2.2.2.2.2.2.2.2.1 d.2.2.2.2.2.2.2.2.2.2.2.2.2.2.2.2.2.2.2.2.2.2.2.2.2.2.2.2.2.2.2.2.2.2.2.2.2.2.2.2.2.2.1 d.2.2.2.2.2.2.2.2.2.2.2.2.2.2.2.2.2.2.2.2.2.2.2.2.2.2.2.2.2.2.2.2.2.2.2.2.2.2.2.2.2.2.2.2.1 d.2.2.2.2.2.2.2.2.2.2.2.2.2.2.2.2.2.2.2.2.2.2.2.2.2.2.2.2.2.2.2.2.2.2.2.2.2.2.2.2.2.2.2.2.2.2.1 d.2.2.2.2.2.2.2.2.2.2.2.2.2.2.2.2.2.2.2.2.2.2.2.2.2.2.2.2.2.2.2.2.2.2.2.2.2.2.2.2.2.2.2.2.2.2.2.2.1 ?_
  refine r_call C v_19_65 (a0 := 249) (cb := 0) (wb := 0) (m0 := zM) ⟨rfl, rfl⟩ ma_200 (es2 249 (xs 1) (xs 2) (by decide)) (ok2 249 (xs 1) (xs 2)) (Nat.le_of_ble_eq_true rfl) (lv_249 _) (P := fun _ m2 => m2 249 0 = 1) (y_200 (d := 14)) d.2.2.2.2.2.2.2.2.2.2.2.2.2.2.2.2.2.2.2.2.2.2.2.2.2.2.2.2.2.2.2.2.2.2.2.2.2.2.2.2.2.2.2.2.2.2.2.2.2.2.1 ?_
  intro v m2 hv2 h2
  rw [encR_i (t := mRty 200) (Or.inl rfl)]
  refine r_ist C (by decide) d.2.2.2.2.2.2.2.2.2.2.2.2.2.2.2.2.2.2.2.2.2.2.2.2.2.2.2.2.2.2.2.2.2.2.2.2.2.2.2.2.2.2.2.2.2.2.2.2.2.2.2.2.1 rfl ?_
  refine r_al C 4 rfl d.2.2.2.2.2.2.2.2.2.2.2.2.2.2.2.2.2.2.2.2.2.2.2.2.2.2.2.2.2.2.2.2.2.2.2.2.2.2.2.2.2.2.2.2.2.2.2.2.2.2.2.2.2.2.1 ?_
  refine r_call C v_19_57 (a0 := 249) (cb := 0) (wb := 0) ⟨rfl, rfl⟩ ma_166 (es0 249 (by decide)) (ok0 249) (Nat.le_of_ble_eq_true rfl) (lv_249 _) (P := fun w _ => w = 1) (y_166 (d := 14) h2) d.2.2.2.2.2.2.2.2.2.2.2.2.2.2.2.2.2.2.2.2.2.2.2.2.2.2.2.2.2.2.2.2.2.2.2.2.2.2.2.2.2.2.2.2.2.2.2.2.2.2.2.2.2.2.2.2.1 ?_
  rintro w m3 hw3 rfl
  rw [encR_i (t := mRty 166) (Or.inl rfl)]
  refine r_ild C 1 rfl d.2.2.2.2.2.2.2.2.2.2.2.2.2.2.2.2.2.2.2.2.2.2.2.2.2.2.2.2.2.2.2.2.2.2.2.2.2.2.2.2.2.2.2.2.2.2.2.2.2.2.2.2.2.2.2.2.2.2.1 ?_
  refine r_eq C (tgt := 472) d.2.2.2.2.2.2.2.2.2.2.2.2.2.2.2.2.2.2.2.2.2.2.2.2.2.2.2.2.2.2.2.2.2.2.2.2.2.2.2.2.2.2.2.2.2.2.2.2.2.2.2.2.2.2.2.2.2.2.2.2.1 (by decide) rfl ?_
  refine r_ild C 1 rfl d.2.2.2.2.2.2.2.2.2.2.2.2.2.2.2.2.2.2.2.2.2.2.2.2.2.2.2.2.2.2.2.2.2.2.2.2.2.2.2.2.2.2.2.2.2.2.2.2.2.2.2.2.2.2.2.2.2.2.2.2.2.2.2.2.2.2.1 ?_
  refine r_ne C (tgt := 489) d.2.2.2.2.2.2.2.2.2.2.2.2.2.2.2.2.2.2.2.2.2.2.2.2.2.2.2.2.2.2.2.2.2.2.2.2.2.2.2.2.2.2.2.2.2.2.2.2.2.2.2.2.2.2.2.2.2.2.2.2.2.2.2.2.2.2.2.2.1 (by decide) (by decide) ?_
  refine r_go C (tgt := 1714) g9 (by decide) ?_
  exact r_sub [2, 3, 4, 5, 6] rfl (fin m3)
theorem case_7 {p : Program} {l : Launch} {e : Env} {s : State} {m : MethodId} {b L : Nat} {below : List Frame} {meth : Method} {c : Code} {xs : Nat → Int32} {G : Geo} (C : LCx p l s m meth c b L xs G) (h5 : L = 5) (fin : ∀ m9 : Mem, LW p l e s m b below meth c G (T9 0 0 m9) (lv0 b G) 1714 []) : LW p l e s m b below meth c G (T9 1 6 zM) (lv0 b G) 492 [] := by
  have d : Dec code [(492, .aload_n 1, 1), (493, .aload_n 0, 1), (494, .iload 4, 2), (496, .iconst 1, 1), (497, .iadd, 1), (498, .iaload, 1), (499, .aload_n 0, 1), (500, .iload 4, 2), (502, .iconst 2, 1), (503, .iadd, 1), (504, .iaload, 1), (505, .aload_n 3, 1), (506, .invokestatic 66, 3), (509, .istore 5, 2), (511, .aload_n 2, 1), (512, .aload_n 0, 1), (513, .iload 4, 2), (515, .iconst 1, 1), (516, .iadd, 1), (517, .iaload, 1), (518, .aload_n 0, 1), (519, .iload 4, 2), (521, .iconst 2, 1), (522, .iadd, 1), (523, .iaload, 1), (524, .invokevirtual 68, 3), (527, .istore 6, 2), (529, .aload_n 2, 1), (530, .invokevirtual 57, 3), (533, .iload 5, 2), (535, .if_icmp .eq 5, 3), (538, .iconst 0, 1), (539, .ireturn, 1), (540, .iload 5, 2), (542, .ifCond .ne 15, 3)] := decB_ok (by decide +kernel)
  have g9 : decode code 557 = .ok (.goto 1157, 3) := by decide +kernel
  refine r_al C 1 rfl d.1 ?_
  refine r_push C h5 (k := 1) (by decide) 0 4 rfl rfl d.2.2.1 d.2.2.2.2.1 d.2.2.2.2.2.2.1 d.2.2.2.2.2.2.2.2.1 d.2.2.2.2.2.2.2.2.2.2.1 ?_
  refine r_push C h5 (k := 2) (by decide) 0 4 rfl rfl d.2.2.2.2.2.2.2.2.2.2.2.2.1 d.2.2.2.2.2.2.2.2.2.2.2.2.2.2.1 d.2.2.2.2.2.2.2.2.2.2.2.2.2.2.2.2.1 d.2.2.2.2.2.2.2.2.2.2.2.2.2.2.2.2.2.2.1 d.2.2.2.2.2.2.2.2.2.2.2.2.2.2.2.2.2.2.2.2.1 ?_
  refine r_al C 3 rfl d.2.2.2.2.2.2.2.2.2.2.2.2.2.2.2.2.2.2.2.2.2.2.1 ?_
  have hM : Met l ({ cls := "HotThroughLaw", name := "person", desc := "(LHotThrough;II[J)I" } : MethodName) (wsH ({ cls := "HotThroughLaw", name := "person", desc := "(LHotThrough;II[J)I" } : MethodName) method_6_code 5 [(0, 10, 13, 13)]) (rmH 20) (PcH G [2, 0, 0, 2] [1, (xs 1).toInt, (xs 2).toInt, 288] (S9 0 zM)) (QcH G (S9 0 zM)) 1 6 (fun q => G.2.2.2 ≤ q) :=
    hlp_a (K := 162) rfl v_19_21 rfl ma_162 (by decide) (decB_ok (by decide +kernel)) (decB_ok (by decide +kernel)) (thr_met 162 B162 C162 rfl (by decide +kernel) D162 rfl (by decide +kernel) (Or.inl rfl) (by decide) (by decide) C.2.1 (x_162 (d := 14)))
  refine r_help C (by decide) (by decide) hM (gw6 148 (by decide +kernel) rfl) (gw1 0 (by decide +kernel) rfl) (by decide) (by decide +kernel) (n := 4) (gw6 146 (by decide +kernel) rfl) (gw6 147 (by decide +kernel) rfl) (eh2 (xs 1) (xs 2)) (by exact ⟨trivial, toInt_in _, toInt_in _, trivial, trivial⟩) rfl (Nat.le_of_ble_eq_true rfl) d.2.2.2.2.2.2.2.2.2.2.2.2.2.2.2.2.2.2.2.2.2.2.2.2.1 ?_
  refine r_ist C (by decide) d.2.2.2.2.2.2.2.2.2.2.2.2.2.2.2.2.2.2.2.2.2.2.2.2.2.2.1 rfl ?_
  refine r_al C 3 rfl d.2.2.2.2.2.2.2.2.2.2.2.2.2.2.2.2.2.2.2.2.2.2.2.2.2.2.2.2.1 ?_
  refine r_push C h5 (k := 1) (by decide) 1 5 rfl rfl d.2.2.2.2.2.2.2.2.2.2.2.2.2.2.2.2.2.2.2.2.2.2.2.2.2.2.2.2.2.2.1 d.2.2.2.2.2.2.2.2.2.2.2.2.2.2.2.2.2.2.2.2.2.2.2.2.2.2.2.2.2.2.2.2.1 d.2.2.2.2.2.2.2.2.2.2.2.2.2.2.2.2.2.2.2.2.2.2.2.2.2.2.2.2.2.2.2.2.2.2.1 d.2.2.2.2.2.2.2.2.2.2.2.2.2.2.2.2.2.2.2.2.2.2.2.2.2.2.2.2.2.2.2.2.2.2.2.2.1 d.2.2.2.2.2.2.2.2.2.2.2.2.2.2.2.2.2.2.2.2.2.2.2.2.2.2.2.2.2.2.2.2.2.2.2.2.2.2.1 ?_
  refine r_push C h5 (k := 2) (by decide) 1 5 rfl rfl d.2.2.2.2.2.2.2.2.2.2.2.2.2.2.2.2.2.2.2.2.2.2.2.2.2.2.2.2.2.2.2.2.2.2.2.2.2.2.2.2.1 d.2.2.2.2.2.2.2.2.2.2.2.2.2.2.2.2.2.2.2.2.2.2.2.2.2.2.2.2.2.2.2.2.2.2.2.2.2.2.2.2.2.2.1 d.2.2.2.2.2.2.2.2.2.2.2.2.2.2.2.2.2.2.2.2.2.2.2.2.2.2.2.2.2.2.2.2.2.2.2.2.2.2.2.2.2.2.2.2.1 d.2.2.2.2.2.2.2.2.2.2.2.2.2.2.2.2.2.2.2.2.2.2.2.2.2.2.2.2.2.2.2.2.2.2.2.2.2.2.2.2.2.2.2.2.2.2.1 d.2.2.2.2.2.2.2.2.2.2.2.2.2.2.2.2.2.2.2.2.2.2.2.2.2.2.2.2.2.2.2.2.2.2.2.2.2.2.2.2.2.2.2.2.2.2.2.2.1 ?_
  refine r_call C v_19_68 (a0 := 249) (cb := 0) (wb := 0) (m0 := zM) ⟨rfl, rfl⟩ ma_204 (es2 249 (xs 1) (xs 2) (by decide)) (ok2 249 (xs 1) (xs 2)) (Nat.le_of_ble_eq_true rfl) (lv_249 _) (P := fun _ m2 => m2 249 0 = 1) (y_204 (d := 14)) d.2.2.2.2.2.2.2.2.2.2.2.2.2.2.2.2.2.2.2.2.2.2.2.2.2.2.2.2.2.2.2.2.2.2.2.2.2.2.2.2.2.2.2.2.2.2.2.2.2.2.1 ?_
  intro v m2 hv2 h2
  rw [encR_i (t := mRty 204) (Or.inl rfl)]
  refine r_ist C (by decide) d.2.2.2.2.2.2.2.2.2.2.2.2.2.2.2.2.2.2.2.2.2.2.2.2.2.2.2.2.2.2.2.2.2.2.2.2.2.2.2.2.2.2.2.2.2.2.2.2.2.2.2.2.1 rfl ?_
  refine r_al C 4 rfl d.2.2.2.2.2.2.2.2.2.2.2.2.2.2.2.2.2.2.2.2.2.2.2.2.2.2.2.2.2.2.2.2.2.2.2.2.2.2.2.2.2.2.2.2.2.2.2.2.2.2.2.2.2.2.1 ?_
  refine r_call C v_19_57 (a0 := 249) (cb := 0) (wb := 0) ⟨rfl, rfl⟩ ma_166 (es0 249 (by decide)) (ok0 249) (Nat.le_of_ble_eq_true rfl) (lv_249 _) (P := fun w _ => w = 1) (y_166 (d := 14) h2) d.2.2.2.2.2.2.2.2.2.2.2.2.2.2.2.2.2.2.2.2.2.2.2.2.2.2.2.2.2.2.2.2.2.2.2.2.2.2.2.2.2.2.2.2.2.2.2.2.2.2.2.2.2.2.2.2.1 ?_
  rintro w m3 hw3 rfl
  rw [encR_i (t := mRty 166) (Or.inl rfl)]
  refine r_ild C 1 rfl d.2.2.2.2.2.2.2.2.2.2.2.2.2.2.2.2.2.2.2.2.2.2.2.2.2.2.2.2.2.2.2.2.2.2.2.2.2.2.2.2.2.2.2.2.2.2.2.2.2.2.2.2.2.2.2.2.2.2.1 ?_
  refine r_eq C (tgt := 540) d.2.2.2.2.2.2.2.2.2.2.2.2.2.2.2.2.2.2.2.2.2.2.2.2.2.2.2.2.2.2.2.2.2.2.2.2.2.2.2.2.2.2.2.2.2.2.2.2.2.2.2.2.2.2.2.2.2.2.2.2.1 (by decide) rfl ?_
  refine r_ild C 1 rfl d.2.2.2.2.2.2.2.2.2.2.2.2.2.2.2.2.2.2.2.2.2.2.2.2.2.2.2.2.2.2.2.2.2.2.2.2.2.2.2.2.2.2.2.2.2.2.2.2.2.2.2.2.2.2.2.2.2.2.2.2.2.2.2.2.2.2.1 ?_
  refine r_ne C (tgt := 557) d.2.2.2.2.2.2.2.2.2.2.2.2.2.2.2.2.2.2.2.2.2.2.2.2.2.2.2.2.2.2.2.2.2.2.2.2.2.2.2.2.2.2.2.2.2.2.2.2.2.2.2.2.2.2.2.2.2.2.2.2.2.2.2.2.2.2.2.2.1 (by decide) (by decide) ?_
  refine r_go C (tgt := 1714) g9 (by decide) ?_
  exact r_sub [2, 3, 4, 5, 6] rfl (fin m3)
theorem case_39 {p : Program} {l : Launch} {e : Env} {s : State} {m : MethodId} {b L : Nat} {below : List Frame} {meth : Method} {c : Code} {xs : Nat → Int32} {G : Geo} (C : LCx p l s m meth c b L xs G) (h5 : L = 5) (fin : ∀ m9 : Mem, LW p l e s m b below meth c G (T9 0 0 m9) (lv0 b G) 1714 []) : LW p l e s m b below meth c G (T9 1 6 zM) (lv0 b G) 1659 [] := by
  have d : Dec code [(1659, .aload_n 1, 1), (1660, .aload_n 0, 1), (1661, .iload 4, 2), (1663, .iconst 1, 1), (1664, .iadd, 1), (1665, .iaload, 1), (1666, .aload_n 3, 1), (1667, .invokestatic 195, 3), (1670, .istore 5, 2), (1672, .aload_n 2, 1), (1673, .aload_n 0, 1), (1674, .iload 4, 2), (1676, .iconst 1, 1), (1677, .iadd, 1), (1678, .iaload, 1), (1679, .invokevirtual 198, 3), (1682, .lstore 6, 2), (1684, .aload_n 2, 1), (1685, .invokevirtual 57, 3), (1688, .iload 5, 2), (1690, .if_icmp .eq 5, 3), (1693, .iconst 0, 1), (1694, .ireturn, 1), (1695, .iload 5, 2), (1697, .ifCond .ne 14, 3)] := decB_ok (by decide +kernel)
  have g9 : decode code 1711 = .ok (.goto 3, 3) := by decide +kernel
  refine r_al C 1 rfl d.1 ?_
  refine r_push C h5 (k := 1) (by decide) 0 4 rfl rfl d.2.2.1 d.2.2.2.2.1 d.2.2.2.2.2.2.1 d.2.2.2.2.2.2.2.2.1 d.2.2.2.2.2.2.2.2.2.2.1 ?_
  refine r_al C 3 rfl d.2.2.2.2.2.2.2.2.2.2.2.2.1 ?_
  have hM : Met l ({ cls := "HotThroughLaw", name := "row", desc := "(LHotThrough;I[J)I" } : MethodName) (wsH ({ cls := "HotThroughLaw", name := "row", desc := "(LHotThrough;I[J)I" } : MethodName) method_7_code 4 [(0, 8, 11, 13)]) (rmH 20) (PcH G [2, 0, 2] [1, (xs 1).toInt, 288] (S9 0 zM)) (QcH G (S9 0 zM)) 1 6 (fun q => G.2.2.2 ≤ q) :=
    hlp_b (K := 164) rfl v_19_24 rfl ma_164 (by decide) (decB_ok (by decide +kernel)) (decB_ok (by decide +kernel)) (thr_met 164 B164 C164 rfl (by decide +kernel) D164 rfl (by decide +kernel) (Or.inr rfl) (by decide) (by decide) C.2.1 (x_164 (d := 14)))
  refine r_help C (by decide) (by decide) hM (gw6 160 (by decide +kernel) rfl) (gw1 0 (by decide +kernel) rfl) (by decide) (by decide +kernel) (n := 3) (gw6 158 (by decide +kernel) rfl) (gw6 159 (by decide +kernel) rfl) (eh1 (xs 1)) (by exact ⟨trivial, toInt_in _, trivial, trivial⟩) rfl (Nat.le_of_ble_eq_true rfl) d.2.2.2.2.2.2.2.2.2.2.2.2.2.2.1 ?_
  refine r_ist C (by decide) d.2.2.2.2.2.2.2.2.2.2.2.2.2.2.2.2.1 rfl ?_
  refine r_al C 3 rfl d.2.2.2.2.2.2.2.2.2.2.2.2.2.2.2.2.2.2.1 ?_
  refine r_push C h5 (k := 1) (by decide) 1 5 rfl rfl d.2.2.2.2.2.2.2.2.2.2.2.2.2.2.2.2.2.2.2.2.1 d.2.2.2.2.2.2.2.2.2.2.2.2.2.2.2.2.2.2.2.2.2.2.1 d.2.2.2.2.2.2.2.2.2.2.2.2.2.2.2.2.2.2.2.2.2.2.2.2.1 d.2.2.2.2.2.2.2.2.2.2.2.2.2.2.2.2.2.2.2.2.2.2.2.2.2.2.1 d.2.2.2.2.2.2.2.2.2.2.2.2.2.2.2.2.2.2.2.2.2.2.2.2.2.2.2.2.1 ?_
  refine r_call C v_19_198 (a0 := 249) (cb := 0) (wb := 0) (m0 := zM) ⟨rfl, rfl⟩ ma_281 (es1 249 (xs 1) (by decide)) (ok1 249 (xs 1)) (Nat.le_of_ble_eq_true rfl) (lv_249 _) (P := fun _ m2 => m2 249 0 = 1) (y_281 (d := 14)) d.2.2.2.2.2.2.2.2.2.2.2.2.2.2.2.2.2.2.2.2.2.2.2.2.2.2.2.2.2.2.1 ?_
  intro v m2 hv2 h2
  refine r_lst C (by decide) d.2.2.2.2.2.2.2.2.2.2.2.2.2.2.2.2.2.2.2.2.2.2.2.2.2.2.2.2.2.2.2.2.1 rfl ?_
  refine r_al C 4 rfl d.2.2.2.2.2.2.2.2.2.2.2.2.2.2.2.2.2.2.2.2.2.2.2.2.2.2.2.2.2.2.2.2.2.2.1 ?_
  refine r_call C v_19_57 (a0 := 249) (cb := 0) (wb := 0) ⟨rfl, rfl⟩ ma_166 (es0 249 (by decide)) (ok0 249) (Nat.le_of_ble_eq_true rfl) (lv_249 _) (P := fun w _ => w = 1) (y_166 (d := 14) h2) d.2.2.2.2.2.2.2.2.2.2.2.2.2.2.2.2.2.2.2.2.2.2.2.2.2.2.2.2.2.2.2.2.2.2.2.2.1 ?_
  rintro w m3 hw3 rfl
  rw [encR_i (t := mRty 166) (Or.inl rfl)]
  refine r_ild C 1 rfl d.2.2.2.2.2.2.2.2.2.2.2.2.2.2.2.2.2.2.2.2.2.2.2.2.2.2.2.2.2.2.2.2.2.2.2.2.2.2.1 ?_
  refine r_eq C (tgt := 1695) d.2.2.2.2.2.2.2.2.2.2.2.2.2.2.2.2.2.2.2.2.2.2.2.2.2.2.2.2.2.2.2.2.2.2.2.2.2.2.2.2.1 (by decide) rfl ?_
  refine r_ild C 1 rfl d.2.2.2.2.2.2.2.2.2.2.2.2.2.2.2.2.2.2.2.2.2.2.2.2.2.2.2.2.2.2.2.2.2.2.2.2.2.2.2.2.2.2.2.2.2.2.1 ?_
  refine r_ne C (tgt := 1711) d.2.2.2.2.2.2.2.2.2.2.2.2.2.2.2.2.2.2.2.2.2.2.2.2.2.2.2.2.2.2.2.2.2.2.2.2.2.2.2.2.2.2.2.2.2.2.2.2.1 (by decide) (by decide) ?_
  refine r_go C (tgt := 1714) g9 (by decide) ?_
  exact r_sub [2, 3, 4, 5, 6] rfl (fin m3)
