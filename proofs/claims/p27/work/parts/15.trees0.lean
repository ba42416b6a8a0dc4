/-! the trees of the methods (by program) -/
theorem body_q (ow K : Nat) (b : SX ow) (code : Cds) (hp : plainName (kC ow) = true) (hown : kC ow = (mNam K).cls) (hini : 100 ≤ ow → (mNam K).name = "<init>") (hchk : chkB K b code = true) (hdec : Dec (mCod K) code) (hpc : pcOf code = 0) (hret : rtOK K) (hwid : wid (mArg K) ≤ mMax K) : BodyOK K (runB K b) :=
  body_ok ow K b code hown hini hchk hdec hpc hret (plainFor_of_name (hown ▸ hp)) hwid
theorem dq_mp : Jvm.natives.all (fun r => !(r.cls == "java/lang/Math" && r.desc == "(II)I")) = true := by decide +kernel
theorem dq_mq {x : MethodName} (hc : x.cls = "java/lang/Math") (hd : x.desc = "(II)I") : plainFor x = true := by
  have h : NativeRow.find? Jvm.natives x.cls x.name x.desc = none := by
    unfold NativeRow.find?
    rw [List.find?_eq_none]
    intro r hr hp
    have h1 := List.all_eq_true.mp dq_mp r hr
    simp only [Bool.and_eq_true, beq_iff_eq] at hp
    rw [hp.1.2, hp.2, hc, hd] at h1
    simp at h1
  unfold plainFor
  rw [h]
  simp
theorem dq_p1 : plainName (kC 1) = true := by decide +kernel
theorem dq_p2 : plainName (kC 2) = true := by decide +kernel
theorem dq_p3 : plainName (kC 3) = true := by decide +kernel
theorem dq_p4 : plainName (kC 4) = true := by decide +kernel
theorem dq_p5 : plainName (kC 5) = true := by decide +kernel
theorem dq_p6 : plainName (kC 6) = true := by decide +kernel
theorem dq_p7 : plainName (kC 7) = true := by decide +kernel
theorem dq_p8 : plainName (kC 8) = true := by decide +kernel
theorem dq_p9 : plainName (kC 9) = true := by decide +kernel
theorem dq_p10 : plainName (kC 10) = true := by decide +kernel
theorem dq_p11 : plainName (kC 11) = true := by decide +kernel
theorem dq_p12 : plainName (kC 12) = true := by decide +kernel
theorem dq_p13 : plainName (kC 13) = true := by decide +kernel
theorem dq_p21 : plainName (kC 21) = true := by decide +kernel
theorem dq_p101 : plainName (kC 101) = true := by decide +kernel
theorem dq_p102 : plainName (kC 102) = true := by decide +kernel
theorem dq_p103 : plainName (kC 103) = true := by decide +kernel
theorem dq_p104 : plainName (kC 104) = true := by decide +kernel
theorem dq_p105 : plainName (kC 105) = true := by decide +kernel
theorem dq_p106 : plainName (kC 106) = true := by decide +kernel
theorem dq_p107 : plainName (kC 107) = true := by decide +kernel
theorem dq_p108 : plainName (kC 108) = true := by decide +kernel
theorem dq_p109 : plainName (kC 109) = true := by decide +kernel
theorem dq_p110 : plainName (kC 110) = true := by decide +kernel
theorem dq_p111 : plainName (kC 111) = true := by decide +kernel
theorem dq_p112 : plainName (kC 112) = true := by decide +kernel
theorem dq_p113 : plainName (kC 113) = true := by decide +kernel
/-- HotThrough.init -/
theorem ma_0 : mArg 0 = [2] := ma9 mt_9_0
noncomputable def B0 : SX 101 := seq 4 (oini o_101_1 (lda 0)) (seq 15 (pfi (by decide) zf_101_10 (lda 0) (nwo n_101_7 i_101_9 (anil))) (seq 26 (pfi (by decide) zf_101_19 (lda 0) (nwo n_101_16 i_101_18 (anil))) (seq 37 (pfi (by decide) zf_101_26 (lda 0) (nwo n_101_23 i_101_25 (anil))) (seq 48 (pfi (by decide) zf_101_33 (lda 0) (nwo n_101_30 i_101_32 (anil))) (seq 71 (pfi (by decide) zf_101_42 (lda 0) (nwo n_101_37 i_101_39 (acons (get f_101_26 (lda 0)) (acons (get f_101_33 (lda 0)) (acons (get f_101_19 (lda 0)) (anil)))))) (seq 98 (pfi (by decide) zf_101_51 (lda 0) (nwo n_101_46 i_101_48 (acons (get f_101_26 (lda 0)) (acons (get f_101_33 (lda 0)) (acons (get f_101_19 (lda 0)) (acons (get f_101_42 (lda 0)) (anil))))))) (seq 117 (pfi (by decide) zf_101_60 (lda 0) (nwo n_101_55 i_101_57 (acons (get f_101_26 (lda 0)) (acons (get f_101_33 (lda 0)) (anil))))) (seq 140 (pfi (by decide) zf_101_69 (lda 0) (nwo n_101_64 i_101_66 (acons (get f_101_26 (lda 0)) (acons (get f_101_60 (lda 0)) (acons (get f_101_42 (lda 0)) (anil)))))) (seq 167 (pfi (by decide) zf_101_78 (lda 0) (nwo n_101_73 i_101_75 (acons (get f_101_26 (lda 0)) (acons (get f_101_33 (lda 0)) (acons (get f_101_60 (lda 0)) (acons (get f_101_42 (lda 0)) (anil))))))) (seq 194 (pfi (by decide) zf_101_85 (lda 0) (nwo n_101_82 i_101_84 (acons (get f_101_26 (lda 0)) (acons (get f_101_33 (lda 0)) (acons (get f_101_60 (lda 0)) (acons (get f_101_42 (lda 0)) (anil))))))) (seq 213 (pfi (by decide) zf_101_92 (lda 0) (nwo n_101_89 i_101_91 (acons (get f_101_26 (lda 0)) (acons (get f_101_33 (lda 0)) (anil))))) (seq 221 (pfi (by decide) zf_101_96 (lda 0) (nwq q_101_30 (cst 3))) (seq 229 (pfi (by decide) zf_101_100 (lda 0) (nwa a_15 (cst 16))) (seq 255 (seq 231 (asi 1 (cst 0)) (wk [0, 1] (whl true 249 (cmp 2 (by decide) (ldi 1) (cst 3)) (asq (get f_101_96 (lda 0)) (ldi 1) (nwo n_101_30 i_101_32 (anil))) (inc 1 1)))) (rtv)))))))))))))))
set_option maxRecDepth 100000 in
theorem O0 : BodyOK 0 (runB 0 B0) := body_q 101 0 B0 C0 dq_p101 (congrArg MethodName.cls (mn9 mt_9_0)).symm (fun _ => by decide +kernel) (by decide +kernel) D0 rfl (Or.inr (Or.inr (Or.inr ⟨rfl, rfl⟩))) (by decide +kernel)
/-- HotThrough.Text.init -/
theorem ma_1 : mArg 1 = [2] := ma9 mt_9_1
noncomputable def B1 : SX 102 := seq 4 (oini o_102_3 (lda 0)) (seq 12 (pfi (by decide) zf_102_9 (lda 0) (nwa a_17 (cst 80))) (rtv))
set_option maxRecDepth 100000 in
theorem O1 : BodyOK 1 (runB 1 B1) := body_q 102 1 B1 C1 dq_p102 (congrArg MethodName.cls (mn9 mt_9_1)).symm (fun _ => by decide +kernel) (by decide +kernel) D1 rfl (Or.inr (Or.inr (Or.inr ⟨rfl, rfl⟩))) (by decide +kernel)
/-- HotThrough.Rule.init -/
theorem ma_2 : mArg 2 = [2] := ma9 mt_9_2
noncomputable def B2 : SX 103 := seq 4 (oini o_103_3 (lda 0)) (seq 12 (pfi (by decide) zf_103_9 (lda 0) (nwa a_14 (cst 40))) (seq 20 (pfi (by decide) zf_103_15 (lda 0) (nwa a_14 (cst 40))) (seq 28 (pfi (by decide) zf_103_18 (lda 0) (nwa a_14 (cst 40))) (rtv))))
set_option maxRecDepth 100000 in
theorem O2 : BodyOK 2 (runB 2 B2) := body_q 103 2 B2 C2 dq_p103 (congrArg MethodName.cls (mn9 mt_9_2)).symm (fun _ => by decide +kernel) (by decide +kernel) D2 rfl (Or.inr (Or.inr (Or.inr ⟨rfl, rfl⟩))) (by decide +kernel)
/-- HotThrough.Kitchen.init -/
theorem ma_3 : mArg 3 = [2] := ma9 mt_9_3
noncomputable def B3 : SX 104 := seq 4 (oini o_104_3 (lda 0)) (seq 12 (pfi (by decide) zf_104_9 (lda 0) (nwa a_14 (cst 10))) (seq 20 (pfi (by decide) zf_104_15 (lda 0) (nwa a_14 (cst 14))) (seq 28 (pfi (by decide) zf_104_18 (lda 0) (nwa a_14 (cst 14))) (seq 36 (pfi (by decide) zf_104_21 (lda 0) (nwa a_14 (cst 14))) (seq 43 (pfi (by decide) zf_104_24 (lda 0) (nwa a_14 (cst 5))) (seq 50 (pfi (by decide) zf_104_27 (lda 0) (nwa a_14 (cst 5))) (rtv)))))))
set_option maxRecDepth 100000 in
theorem O3 : BodyOK 3 (runB 3 B3) := body_q 104 3 B3 C3 dq_p104 (congrArg MethodName.cls (mn9 mt_9_3)).symm (fun _ => by decide +kernel) (by decide +kernel) D3 rfl (Or.inr (Or.inr (Or.inr ⟨rfl, rfl⟩))) (by decide +kernel)
/-- HotThrough.State.init -/
theorem ma_4 : mArg 4 = [2] := ma9 mt_9_4
noncomputable def B4 : SX 105 := seq 4 (oini o_105_3 (lda 0)) (seq 11 (pfi (by decide) zf_105_9 (lda 0) (nwa a_14 (cst 5))) (seq 18 (pfi (by decide) zf_105_15 (lda 0) (nwa a_14 (cst 5))) (seq 25 (pfi (by decide) zf_105_18 (lda 0) (nwa a_14 (cst 5))) (seq 32 (pfi (by decide) zf_105_21 (lda 0) (nwa a_14 (cst 5))) (seq 40 (pfi (by decide) zf_105_24 (lda 0) (nwa a_14 (cst 10))) (seq 47 (pfi (by decide) zf_105_27 (lda 0) (nwa a_14 (cst 5))) (seq 54 (pfi (by decide) zf_105_30 (lda 0) (nwa a_14 (cst 5))) (seq 61 (pfi (by decide) zf_105_33 (lda 0) (nwa a_14 (cst 5))) (seq 68 (pfi (by decide) zf_105_36 (lda 0) (nwa a_14 (cst 5))) (rtv))))))))))
set_option maxRecDepth 100000 in
theorem O4 : BodyOK 4 (runB 4 B4) := body_q 105 4 B4 C4 dq_p105 (congrArg MethodName.cls (mn9 mt_9_4)).symm (fun _ => by decide +kernel) (by decide +kernel) D4 rfl (Or.inr (Or.inr (Or.inr ⟨rfl, rfl⟩))) (by decide +kernel)
/-- HotThrough.Carrier.init -/
theorem ma_5 : mArg 5 = [2, 2, 2, 2] := ma9 mt_9_5
noncomputable def B5 : SX 106 := seq 4 (oini o_106_3 (lda 0)) (seq 9 (pfi (by decide) zf_106_9 (lda 0) (lda 1)) (seq 14 (pfi (by decide) zf_106_15 (lda 0) (lda 2)) (seq 19 (pfi (by decide) zf_106_19 (lda 0) (lda 3)) (rtv))))
set_option maxRecDepth 100000 in
theorem O5 : BodyOK 5 (runB 5 B5) := body_q 106 5 B5 C5 dq_p106 (congrArg MethodName.cls (mn9 mt_9_5)).symm (fun _ => by decide +kernel) (by decide +kernel) D5 rfl (Or.inr (Or.inr (Or.inr ⟨rfl, rfl⟩))) (by decide +kernel)
/-- HotThrough.Acts.init -/
theorem ma_6 : mArg 6 = [2, 2, 2, 2, 2] := ma9 mt_9_6
noncomputable def B6 : SX 107 := seq 4 (oini o_107_3 (lda 0)) (seq 13 (pfi (by decide) zf_107_11 (lda 0) (nwq q_107_9 (cst 16))) (seq 21 (pfi (by decide) zf_107_17 (lda 0) (nwa a_14 (cst 30))) (seq 29 (pfi (by decide) zf_107_21 (lda 0) (nwa a_14 (cst 30))) (seq 37 (pfi (by decide) zf_107_24 (lda 0) (nwa a_14 (cst 30))) (seq 42 (pfi (by decide) zf_107_27 (lda 0) (lda 1)) (seq 47 (pfi (by decide) zf_107_31 (lda 0) (lda 2)) (seq 52 (pfi (by decide) zf_107_35 (lda 0) (lda 3)) (seq 58 (pfi (by decide) zf_107_39 (lda 0) (lda 4)) (seq 88 (seq 61 (asi 5 (cst 0)) (wk [0, 1, 2, 3, 4, 5] (whl true 82 (cmp 5 (by decide) (ldi 5) (cst 15)) (asq (get f_107_11 (lda 0)) (ldi 5) (nwo n_107_9 i_107_43 (anil))) (inc 5 1)))) (rtv))))))))))
set_option maxRecDepth 100000 in
theorem O6 : BodyOK 6 (runB 6 B6) := body_q 107 6 B6 C6 dq_p107 (congrArg MethodName.cls (mn9 mt_9_6)).symm (fun _ => by decide +kernel) (by decide +kernel) D6 rfl (Or.inr (Or.inr (Or.inr ⟨rfl, rfl⟩))) (by decide +kernel)
/-- HotThrough.Paths.init -/
theorem ma_7 : mArg 7 = [2, 2, 2] := ma9 mt_9_7
noncomputable def B7 : SX 108 := seq 4 (oini o_108_5 (lda 0)) (seq 12 (pfi (by decide) zf_108_11 (lda 0) (nwa a_14 (cst 14))) (seq 20 (pfi (by decide) zf_108_15 (lda 0) (nwa a_14 (cst 10))) (seq 28 (pfi (by decide) zf_108_18 (lda 0) (nwa a_14 (cst 10))) (seq 36 (pfi (by decide) zf_108_21 (lda 0) (nwa a_14 (cst 10))) (seq 41 (pfi (by decide) zf_108_24 (lda 0) (lda 1)) (seq 46 (pfi (by decide) zf_108_28 (lda 0) (lda 2)) (rtv)))))))
set_option maxRecDepth 100000 in
theorem O7 : BodyOK 7 (runB 7 B7) := body_q 108 7 B7 C7 dq_p108 (congrArg MethodName.cls (mn9 mt_9_7)).symm (fun _ => by decide +kernel) (by decide +kernel) D7 rfl (Or.inr (Or.inr (Or.inr ⟨rfl, rfl⟩))) (by decide +kernel)
/-- HotThrough.Rester.init -/
theorem ma_8 : mArg 8 = [2, 2, 2, 2] := ma9 mt_9_8
noncomputable def B8 : SX 109 := seq 4 (oini o_109_3 (lda 0)) (seq 12 (pfi (by decide) zf_109_9 (lda 0) (nwa a_14 (cst 10))) (seq 20 (pfi (by decide) zf_109_15 (lda 0) (nwa a_14 (cst 10))) (seq 28 (pfi (by decide) zf_109_18 (lda 0) (nwa a_14 (cst 10))) (seq 36 (pfi (by decide) zf_109_21 (lda 0) (nwa a_14 (cst 10))) (seq 44 (pfi (by decide) zf_109_24 (lda 0) (nwa a_14 (cst 10))) (seq 49 (pfi (by decide) zf_109_27 (lda 0) (lda 1)) (seq 54 (pfi (by decide) zf_109_31 (lda 0) (lda 2)) (seq 59 (pfi (by decide) zf_109_35 (lda 0) (lda 3)) (rtv)))))))))
set_option maxRecDepth 100000 in
theorem O8 : BodyOK 8 (runB 8 B8) := body_q 109 8 B8 C8 dq_p109 (congrArg MethodName.cls (mn9 mt_9_8)).symm (fun _ => by decide +kernel) (by decide +kernel) D8 rfl (Or.inr (Or.inr (Or.inr ⟨rfl, rfl⟩))) (by decide +kernel)
/-- HotThrough.Line.init -/
theorem ma_9 : mArg 9 = [2, 2, 2, 2, 2] := ma9 mt_9_9
noncomputable def B9 : SX 110 := seq 4 (oini o_110_3 (lda 0)) (seq 12 (pfi (by decide) zf_110_9 (lda 0) (nwa a_14 (cst 50))) (seq 20 (pfi (by decide) zf_110_15 (lda 0) (nwa a_14 (cst 10))) (seq 25 (pfi (by decide) zf_110_18 (lda 0) (lda 1)) (seq 30 (pfi (by decide) zf_110_22 (lda 0) (lda 2)) (seq 35 (pfi (by decide) zf_110_26 (lda 0) (lda 3)) (seq 41 (pfi (by decide) zf_110_30 (lda 0) (lda 4)) (rtv)))))))
set_option maxRecDepth 100000 in
theorem O9 : BodyOK 9 (runB 9 B9) := body_q 110 9 B9 C9 dq_p110 (congrArg MethodName.cls (mn9 mt_9_9)).symm (fun _ => by decide +kernel) (by decide +kernel) D9 rfl (Or.inr (Or.inr (Or.inr ⟨rfl, rfl⟩))) (by decide +kernel)
/-- HotThrough.Dishes.init -/
theorem ma_10 : mArg 10 = [2, 2, 2, 2, 2] := ma9 mt_9_10
noncomputable def B10 : SX 111 := seq 4 (oini o_111_3 (lda 0)) (seq 11 (pfi (by decide) zf_111_9 (lda 0) (nwa a_14 (cst 5))) (seq 18 (pfi (by decide) zf_111_15 (lda 0) (nwa a_14 (cst 5))) (seq 25 (pfi (by decide) zf_111_18 (lda 0) (nwa a_14 (cst 5))) (seq 32 (pfi (by decide) zf_111_21 (lda 0) (nwa a_14 (cst 5))) (seq 39 (pfi (by decide) zf_111_24 (lda 0) (nwa a_14 (cst 5))) (seq 44 (pfi (by decide) zf_111_27 (lda 0) (lda 1)) (seq 49 (pfi (by decide) zf_111_31 (lda 0) (lda 2)) (seq 54 (pfi (by decide) zf_111_35 (lda 0) (lda 3)) (seq 60 (pfi (by decide) zf_111_39 (lda 0) (lda 4)) (rtv))))))))))
set_option maxRecDepth 100000 in
theorem O10 : BodyOK 10 (runB 10 B10) := body_q 111 10 B10 C10 dq_p111 (congrArg MethodName.cls (mn9 mt_9_10)).symm (fun _ => by decide +kernel) (by decide +kernel) D10 rfl (Or.inr (Or.inr (Or.inr ⟨rfl, rfl⟩))) (by decide +kernel)
/-- HotThrough.Marks.init -/
theorem ma_11 : mArg 11 = [2, 2, 2] := ma9 mt_9_11
noncomputable def B11 : SX 112 := seq 4 (oini o_112_3 (lda 0)) (seq 12 (pfi (by decide) zf_112_9 (lda 0) (nwa a_14 (cst 8))) (seq 20 (pfi (by decide) zf_112_15 (lda 0) (nwa a_14 (cst 8))) (seq 28 (pfi (by decide) zf_112_18 (lda 0) (nwa a_14 (cst 10))) (seq 36 (pfi (by decide) zf_112_21 (lda 0) (nwa a_14 (cst 10))) (seq 44 (pfi (by decide) zf_112_24 (lda 0) (nwa a_14 (cst 10))) (seq 49 (pfi (by decide) zf_112_27 (lda 0) (lda 1)) (seq 54 (pfi (by decide) zf_112_31 (lda 0) (lda 2)) (rtv))))))))
set_option maxRecDepth 100000 in
theorem O11 : BodyOK 11 (runB 11 B11) := body_q 112 11 B11 C11 dq_p112 (congrArg MethodName.cls (mn9 mt_9_11)).symm (fun _ => by decide +kernel) (by decide +kernel) D11 rfl (Or.inr (Or.inr (Or.inr ⟨rfl, rfl⟩))) (by decide +kernel)
/-- HotThrough.sign -/
theorem ma_12 : mArg 12 = [2, 0] := ma9 mt_9_12
noncomputable def B12 : SX 1 := rets 0 (cvi v_1_104 (acons (get f_1_10 (lda 0)) (acons (ldi 1) (anil))))
set_option maxRecDepth 100000 in
theorem O12 : BodyOK 12 (runB 12 B12) := body_q 1 12 B12 C12 dq_p1 (congrArg MethodName.cls (mn9 mt_9_12)).symm (fun h => absurd h (by decide)) (by decide +kernel) D12 rfl (Or.inl ⟨rfl, rfl⟩) (by decide +kernel)
/-- HotThrough.Text.append -/
theorem ma_13 : mArg 13 = [2, 0] := ma9 mt_9_13
noncomputable def B13 : SX 2 := seq 13 (ifs (cmp 4 (by decide) (add (get f_2_15 (lda 0)) (cst 4)) (cst 80)) (rets 0 (cst (-1)))) (seq 53 (seq 16 (asi 2 (cst 24)) (wk [0, 1, 2] (whl true 47 (cz 3 (by decide) (ldi 2)) (seq 37 (astc (get f_2_9 (lda 0)) (get f_2_15 (lda 0)) (cvc (ban (ush (ldi 1) (ldi 2)) (cst 255)))) (popadd pf_2_15 (lda 0) (cst 1))) (inc 2 (-8))))) (rets 0 (get f_2_15 (lda 0))))
set_option maxRecDepth 100000 in
theorem O13 : BodyOK 13 (runB 13 B13) := body_q 2 13 B13 C13 dq_p2 (congrArg MethodName.cls (mn9 mt_9_13)).symm (fun h => absurd h (by decide)) (by decide +kernel) D13 rfl (Or.inl ⟨rfl, rfl⟩) (by decide +kernel)
/-- HotThrough.end -/
theorem ma_14 : mArg 14 = [2, 0] := ma9 mt_9_14
noncomputable def B14 : SX 1 := rets 3 (cvi v_1_108 (acons (get f_1_10 (lda 0)) (acons (ldi 1) (anil))))
set_option maxRecDepth 100000 in
theorem O14 : BodyOK 14 (runB 14 B14) := body_q 1 14 B14 C14 dq_p1 (congrArg MethodName.cls (mn9 mt_9_14)).symm (fun h => absurd h (by decide)) (by decide +kernel) D14 rfl (Or.inr (Or.inr (Or.inl ⟨rfl, rfl⟩))) (by decide +kernel)
/-- HotThrough.Text.shorten -/
theorem ma_15 : mArg 15 = [2, 0] := ma9 mt_9_15
noncomputable def B15 : SX 2 := seq 14 (ifs (cor 12 (cz 2 (by decide) (ldi 1)) (cmp 4 (by decide) (ldi 1) (get f_2_15 (lda 0)))) (rets 3 (cst 0))) (seq 19 (put pf_2_15 (lda 0) (ldi 1)) (rets 3 (cst 1)))
set_option maxRecDepth 100000 in
theorem O15 : BodyOK 15 (runB 15 B15) := body_q 2 15 B15 C15 dq_p2 (congrArg MethodName.cls (mn9 mt_9_15)).symm (fun h => absurd h (by decide)) (by decide +kernel) D15 rfl (Or.inr (Or.inr (Or.inl ⟨rfl, rfl⟩))) (by decide +kernel)
/-- HotThrough.kitchen -/
theorem ma_16 : mArg 16 = [2] := ma9 mt_9_16
noncomputable def B16 : SX 1 := seq 12 (ifs (cz 0 (by decide) (get f_1_112 (get f_1_10 (lda 0)))) (rets 0 (cst 0))) (seq 28 (asi 1 (cvi v_1_116 (acons (get f_1_26 (lda 0)) (acons (get f_1_10 (lda 0)) (acons (get f_1_33 (lda 0)) (anil)))))) (seq 44 (ifs (cz 4 (by decide) (ldi 1)) (seq 39 (cvv v_1_120 (acons (get f_1_51 (lda 0)) (anil))) (put pf_1_123 (lda 0) (cst 0)))) (rets 0 (ldi 1))))
set_option maxRecDepth 100000 in
theorem O16 : BodyOK 16 (runB 16 B16) := body_q 1 16 B16 C16 dq_p1 (congrArg MethodName.cls (mn9 mt_9_16)).symm (fun h => absurd h (by decide)) (by decide +kernel) D16 rfl (Or.inl ⟨rfl, rfl⟩) (by decide +kernel)
/-- HotThrough.Kitchen.read -/
theorem ma_17 : mArg 17 = [2, 2, 2] := ma9 mt_9_17
noncomputable def B17 : SX 4 := seq 5 (asi 3 (get f_4_30 (lda 0))) (seq 11 (asi 4 (get f_4_34 (lda 0))) (seq 17 (asi 5 (get f_4_37 (lda 0))) (seq 23 (asi 6 (get f_4_40 (lda 0))) (seq 29 (cvv v_4_53 (acons (lda 1) (acons (cst 76) (anil)))) (seq 32 (asi 7 (cst 0)) (seq 35 (asi 8 (cst 1)) (seq 67 (wk [0, 1, 2, 3, 4, 5, 6, 7, 8] (whl false 35 (cand 0 (cz 1 (by decide) (ldi 8)) (cmp 2 (by decide) (ldi 7) (cst 76))) (seq 53 (cvv v_4_59 (acons (lda 0) (acons (lda 1) (acons (lda 2) (anil))))) (seq 56 (inc 7 1) (asi 8 (cvi v_4_63 (acons (lda 1) (acons (cst 59) (anil))))))) (rtv))) (seq 73 (asi 9 (cvi v_4_67 (acons (lda 1) (anil)))) (seq 82 (ifs (cmp 0 (by decide) (ldi 9) (cst (-1))) (rets 0 (ldi 7))) (seq 87 (put pf_4_30 (lda 0) (ldi 3)) (seq 93 (put pf_4_34 (lda 0) (ldi 4)) (seq 99 (put pf_4_37 (lda 0) (ldi 5)) (seq 105 (put pf_4_40 (lda 0) (ldi 6)) (rets 0 (sub (cst (-1)) (ldi 9))))))))))))))))
set_option maxRecDepth 100000 in
theorem O17 : BodyOK 17 (runB 17 B17) := body_q 4 17 B17 C17 dq_p4 (congrArg MethodName.cls (mn9 mt_9_17)).symm (fun h => absurd h (by decide)) (by decide +kernel) D17 rfl (Or.inl ⟨rfl, rfl⟩) (by decide +kernel)
/-- HotThrough.Text.open -/
theorem ma_18 : mArg 18 = [2, 0] := ma9 mt_9_18
noncomputable def B18 : SX 2 := seq 39 (seq 12 (put pf_2_25 (lda 0) (csta s_2_19 (acons (get f_2_15 (lda 0)) (acons (ldi 1) (anil))))) (seq 29 (put pf_2_28 (lda 0) (ite 25 26 (cmp 4 (by decide) (get f_2_15 (lda 0)) (ldi 1)) (cst 1) (cst 0))) (seq 34 (put pf_2_32 (lda 0) (cst 0)) (put pf_2_35 (lda 0) (cst 0))))) (rtv)
set_option maxRecDepth 100000 in
theorem O18 : BodyOK 18 (runB 18 B18) := body_q 2 18 B18 C18 dq_p2 (congrArg MethodName.cls (mn9 mt_9_18)).symm (fun h => absurd h (by decide)) (by decide +kernel) D18 rfl (Or.inr (Or.inr (Or.inr ⟨rfl, rfl⟩))) (by decide +kernel)
/-- java/lang/Math.min -/
theorem ma_19 : mArg 19 = [0, 0] := ma9 mt_9_19
noncomputable def B19 : SX 20 := rets 0 (ite 9 10 (cmp 5 (by decide) (ldi 0) (ldi 1)) (ldi 0) (ldi 1))
theorem O19 : BodyOK 19 (runB 19 B19) := body_ok 20 19 B19 C19 (by decide +kernel) (fun h => absurd h (by decide)) (by decide +kernel) D19 rfl (Or.inl ⟨rfl, rfl⟩) (dq_mq rfl rfl) (by decide +kernel)
/-- HotThrough.Kitchen.readLine -/
theorem ma_20 : mArg 20 = [2, 2, 2] := ma9 mt_9_20
noncomputable def B20 : SX 4 := seq 108 (seq 5 (asi 3 (cvi v_4_71 (acons (lda 1) (anil)))) (seq 18 (ifs (cnot (cz 1 (by decide) (cvi v_4_74 (acons (lda 0) (acons (ldi 3) (anil)))))) (seq 17 (cvv v_4_77 (acons (lda 1) (anil))) (rtv))) (seq 22 (cvv v_4_80 (acons (lda 1) (anil))) (sw true (ldi 3) [([119], sbr (cvv v_4_83 (acons (lda 0) (acons (lda 1) (acons (lda 2) (anil)))))), ([112], sbr (cvv v_4_86 (acons (lda 0) (acons (lda 1) (acons (lda 2) (anil)))))), ([104], sbr (cvv v_4_89 (acons (lda 0) (acons (lda 1) (acons (lda 2) (anil))))))] (cvv v_4_92 (acons (lda 0) (acons (ite 94 105 (cmp 0 (by decide) (ldi 3) (cst 102)) (cst 0) (ite 104 105 (cmp 0 (by decide) (ldi 3) (cst 98)) (cst 1) (cst 2))) (anil)))))))) (rtv)
set_option maxRecDepth 100000 in
theorem O20 : BodyOK 20 (runB 20 B20) := body_q 4 20 B20 C20 dq_p4 (congrArg MethodName.cls (mn9 mt_9_20)).symm (fun h => absurd h (by decide)) (by decide +kernel) D20 rfl (Or.inr (Or.inr (Or.inr ⟨rfl, rfl⟩))) (by decide +kernel)
/-- HotThrough.Text.peek -/
theorem ma_21 : mArg 21 = [2] := ma9 mt_9_21
noncomputable def B21 : SX 2 := rets 0 (ite 38 47 (cor 34 (cor 0 (cor 0 (cz 1 (by decide) (get f_2_35 (lda 0))) (cz 2 (by decide) (get f_2_32 (lda 0)))) (cmp 3 (by decide) (get f_2_32 (lda 0)) (get f_2_25 (lda 0)))) (cmp 3 (by decide) (get f_2_32 (lda 0)) (cst 80))) (cst (-1)) (aldc (get f_2_9 (lda 0)) (get f_2_32 (lda 0))))
set_option maxRecDepth 100000 in
theorem O21 : BodyOK 21 (runB 21 B21) := body_q 2 21 B21 C21 dq_p2 (congrArg MethodName.cls (mn9 mt_9_21)).symm (fun h => absurd h (by decide)) (by decide +kernel) D21 rfl (Or.inl ⟨rfl, rfl⟩) (by decide +kernel)
/-- HotThrough.Kitchen.hasRoom -/
theorem ma_22 : mArg 22 = [2, 0] := ma9 mt_9_22
noncomputable def B22 : SX 4 := sw true (ldi 1) [([102, 98, 116], rets 3 (ite 73 74 (cmp 2 (by decide) (get f_4_30 (lda 0)) (cst 10)) (cst 1) (cst 0))), ([119], rets 3 (ite 88 89 (cmp 2 (by decide) (get f_4_34 (lda 0)) (cst 14)) (cst 1) (cst 0))), ([112], rets 3 (ite 102 103 (cmp 2 (by decide) (get f_4_37 (lda 0)) (cst 5)) (cst 1) (cst 0))), ([104], rets 3 (ite 116 117 (cmp 2 (by decide) (get f_4_40 (lda 0)) (cst 5)) (cst 1) (cst 0)))] (rets 3 (cst 0))
set_option maxRecDepth 100000 in
theorem O22 : BodyOK 22 (runB 22 B22) := body_q 4 22 B22 C22 dq_p4 (congrArg MethodName.cls (mn9 mt_9_22)).symm (fun h => absurd h (by decide)) (by decide +kernel) D22 rfl (Or.inr (Or.inr (Or.inl ⟨rfl, rfl⟩))) (by decide +kernel)
/-- HotThrough.Text.fail -/
theorem ma_23 : mArg 23 = [2] := ma9 mt_9_23
noncomputable def B23 : SX 2 := seq 5 (put pf_2_35 (lda 0) (cst 1)) (rtv)
set_option maxRecDepth 100000 in
theorem O23 : BodyOK 23 (runB 23 B23) := body_q 2 23 B23 C23 dq_p2 (congrArg MethodName.cls (mn9 mt_9_23)).symm (fun h => absurd h (by decide)) (by decide +kernel) D23 rfl (Or.inr (Or.inr (Or.inr ⟨rfl, rfl⟩))) (by decide +kernel)
/-- HotThrough.Text.next -/
theorem ma_24 : mArg 24 = [2] := ma9 mt_9_24
noncomputable def B24 : SX 2 := seq 17 (ifs (cnot (cz 1 (by decide) (get f_2_35 (lda 0)))) (popadd pf_2_32 (lda 0) (cst 1))) (rtv)
set_option maxRecDepth 100000 in
theorem O24 : BodyOK 24 (runB 24 B24) := body_q 2 24 B24 C24 dq_p2 (congrArg MethodName.cls (mn9 mt_9_24)).symm (fun h => absurd h (by decide)) (by decide +kernel) D24 rfl (Or.inr (Or.inr (Or.inr ⟨rfl, rfl⟩))) (by decide +kernel)
/-- HotThrough.Kitchen.readWay -/
theorem ma_25 : mArg 25 = [2, 2, 2] := ma9 mt_9_25
noncomputable def B25 : SX 4 := seq 145 (seq 10 (asi 3 (cvi v_4_95 (acons (lda 1) (acons (get f_4_30 (lda 0)) (acons (cst (-1)) (anil)))))) (seq 21 (asi 4 (cvi v_4_95 (acons (lda 1) (acons (get f_4_30 (lda 0)) (acons (ldi 3) (anil)))))) (seq 28 (asi 5 (cvi v_4_99 (acons (lda 1) (acons (cst 1) (anil))))) (seq 36 (asi 6 (cvi v_4_63 (acons (lda 1) (acons (cst 33) (anil))))) (seq 53 (ifs (cor 52 (cz 1 (by decide) (get f_4_103 (lda 1))) (cmp 3 (by decide) (get f_4_34 (lda 0)) (cst 14))) (rtv)) (seq 63 (asti (get f_4_15 (lda 0)) (get f_4_34 (lda 0)) (ldi 3)) (seq 74 (asti (get f_4_18 (lda 0)) (get f_4_34 (lda 0)) (ldi 4)) (seq 85 (asti (get f_4_21 (lda 0)) (get f_4_34 (lda 0)) (ldi 5)) (seq 118 (put pf_4_43 (lda 0) (bor (ban (get f_4_43 (lda 0)) (bxo (shl (cst 1) (get f_4_34 (lda 0))) (cst (-1)))) (ite 113 114 (cz 1 (by decide) (ldi 6)) (shl (cst 1) (get f_4_34 (lda 0))) (cst 0)))) (seq 135 (popand pf_4_107 (lda 2) (bxo (shl (cst 1) (get f_4_34 (lda 0))) (cst (-1)))) (popadd pf_4_34 (lda 0) (cst 1)))))))))))) (rtv)
set_option maxRecDepth 100000 in
theorem O25 : BodyOK 25 (runB 25 B25) := body_q 4 25 B25 C25 dq_p4 (congrArg MethodName.cls (mn9 mt_9_25)).symm (fun h => absurd h (by decide)) (by decide +kernel) D25 rfl (Or.inr (Or.inr (Or.inr ⟨rfl, rfl⟩))) (by decide +kernel)
/-- HotThrough.Text.letter -/
theorem ma_26 : mArg 26 = [2, 0, 0] := ma9 mt_9_26
noncomputable def B26 : SX 2 := seq 8 (asi 3 (sub (cvi v_2_38 (acons (lda 0) (anil))) (cst 97))) (seq 29 (ifs (cor 22 (cor 0 (cz 2 (by decide) (ldi 3)) (cmp 3 (by decide) (ldi 3) (ldi 1))) (cmp 0 (by decide) (ldi 3) (ldi 2))) (seq 27 (put pf_2_35 (lda 0) (cst 1)) (rets 0 (cst (-1))))) (seq 39 (popadd pf_2_32 (lda 0) (cst 1)) (rets 0 (ldi 3))))
set_option maxRecDepth 100000 in
theorem O26 : BodyOK 26 (runB 26 B26) := body_q 2 26 B26 C26 dq_p2 (congrArg MethodName.cls (mn9 mt_9_26)).symm (fun h => absurd h (by decide)) (by decide +kernel) D26 rfl (Or.inl ⟨rfl, rfl⟩) (by decide +kernel)
/-- HotThrough.Text.digit -/
theorem ma_27 : mArg 27 = [2, 0] := ma9 mt_9_27
noncomputable def B27 : SX 2 := seq 8 (asi 2 (sub (cvi v_2_38 (acons (lda 0) (anil))) (cst 48))) (seq 26 (ifs (cor 19 (cmp 2 (by decide) (ldi 2) (ldi 1)) (cmp 4 (by decide) (ldi 2) (cst 9))) (seq 24 (put pf_2_35 (lda 0) (cst 1)) (rets 0 (ldi 1)))) (seq 36 (popadd pf_2_32 (lda 0) (cst 1)) (rets 0 (ldi 2))))
set_option maxRecDepth 100000 in
theorem O27 : BodyOK 27 (runB 27 B27) := body_q 2 27 B27 C27 dq_p2 (congrArg MethodName.cls (mn9 mt_9_27)).symm (fun h => absurd h (by decide)) (by decide +kernel) D27 rfl (Or.inl ⟨rfl, rfl⟩) (by decide +kernel)
/-- HotThrough.Text.skip -/
theorem ma_28 : mArg 28 = [2, 0] := ma9 mt_9_28
noncomputable def B28 : SX 2 := seq 10 (ifs (cmp 1 (by decide) (cvi v_2_38 (acons (lda 0) (anil))) (ldi 1)) (rets 3 (cst 0))) (seq 20 (popadd pf_2_32 (lda 0) (cst 1)) (rets 3 (cst 1)))
set_option maxRecDepth 100000 in
theorem O28 : BodyOK 28 (runB 28 B28) := body_q 2 28 B28 C28 dq_p2 (congrArg MethodName.cls (mn9 mt_9_28)).symm (fun h => absurd h (by decide)) (by decide +kernel) D28 rfl (Or.inr (Or.inr (Or.inl ⟨rfl, rfl⟩))) (by decide +kernel)
/-- HotThrough.Kitchen.readPot -/
theorem ma_29 : mArg 29 = [2, 2, 2] := ma9 mt_9_29
noncomputable def B29 : SX 4 := seq 115 (seq 6 (asi 3 (cvi v_4_111 (acons (lda 1) (acons (cst 3) (anil))))) (seq 12 (cvv v_4_114 (acons (lda 1) (acons (cst 45) (anil)))) (seq 19 (asi 4 (cvi v_4_99 (acons (lda 1) (acons (cst 0) (anil))))) (seq 25 (cvv v_4_114 (acons (lda 1) (acons (cst 64) (anil)))) (seq 31 (asi 5 (get f_4_118 (lda 1))) (seq 42 (asi 6 (cvi v_4_95 (acons (lda 1) (acons (get f_4_30 (lda 0)) (acons (cst (-1)) (anil)))))) (seq 67 (ifs (cand 0 (cz 1 (by decide) (cvi v_4_121 (acons (lda 0) (acons (ldi 6) (anil))))) (cz 0 (by decide) (aldi (get f_4_9 (lda 0)) (ldi 6)))) (cvv v_4_124 (acons (lda 1) (acons (ldi 5) (anil))))) (seq 83 (ifs (cor 82 (cz 1 (by decide) (get f_4_103 (lda 1))) (cmp 3 (by decide) (get f_4_37 (lda 0)) (cst 5))) (rtv)) (seq 94 (asti (get f_4_24 (lda 0)) (get f_4_37 (lda 0)) (ldi 4)) (seq 105 (cvv v_4_127 (acons (lda 2) (acons (get f_4_37 (lda 0)) (acons (ldi 3) (acons (ldi 6) (anil)))))) (popadd pf_4_37 (lda 0) (cst 1)))))))))))) (rtv)
set_option maxRecDepth 100000 in
theorem O29 : BodyOK 29 (runB 29 B29) := body_q 4 29 B29 C29 dq_p4 (congrArg MethodName.cls (mn9 mt_9_29)).symm (fun h => absurd h (by decide)) (by decide +kernel) D29 rfl (Or.inr (Or.inr (Or.inr ⟨rfl, rfl⟩))) (by decide +kernel)
/-- HotThrough.Text.number -/
theorem ma_30 : mArg 30 = [2, 0] := ma9 mt_9_30
noncomputable def B30 : SX 2 := seq 6 (asi 2 (cvi v_2_46 (acons (lda 0) (acons (cst 0) (anil))))) (seq 37 (seq 8 (asi 3 (cst 1)) (wk [0, 1, 2, 3] (whl true 31 (cand 0 (cmp 2 (by decide) (ldi 3) (ldi 1)) (cz 1 (by decide) (cvi v_2_50 (acons (lda 0) (anil))))) (asi 2 (add (mul (cst 10) (ldi 2)) (cvi v_2_46 (acons (lda 0) (acons (cst 0) (anil)))))) (inc 3 1)))) (rets 0 (ldi 2)))
set_option maxRecDepth 100000 in
theorem O30 : BodyOK 30 (runB 30 B30) := body_q 2 30 B30 C30 dq_p2 (congrArg MethodName.cls (mn9 mt_9_30)).symm (fun h => absurd h (by decide)) (by decide +kernel) D30 rfl (Or.inl ⟨rfl, rfl⟩) (by decide +kernel)
/-- HotThrough.Text.isDigit -/
theorem ma_31 : mArg 31 = [2] := ma9 mt_9_31
noncomputable def B31 : SX 2 := rets 3 (ite 22 23 (cand 0 (cmp 3 (by decide) (cvi v_2_38 (acons (lda 0) (anil))) (cst 48)) (cmp 5 (by decide) (cvi v_2_38 (acons (lda 0) (anil))) (cst 57))) (cst 1) (cst 0))
set_option maxRecDepth 100000 in
theorem O31 : BodyOK 31 (runB 31 B31) := body_q 2 31 B31 C31 dq_p2 (congrArg MethodName.cls (mn9 mt_9_31)).symm (fun h => absurd h (by decide)) (by decide +kernel) D31 rfl (Or.inr (Or.inr (Or.inl ⟨rfl, rfl⟩))) (by decide +kernel)
/-- HotThrough.Text.expect -/
theorem ma_32 : mArg 32 = [2, 0] := ma9 mt_9_32
noncomputable def B32 : SX 2 := seq 13 (ifs (cnot (cz 1 (by decide) (cvi v_2_42 (acons (lda 0) (acons (ldi 1) (anil)))))) (put pf_2_35 (lda 0) (cst 1))) (rtv)
set_option maxRecDepth 100000 in
theorem O32 : BodyOK 32 (runB 32 B32) := body_q 2 32 B32 C32 dq_p2 (congrArg MethodName.cls (mn9 mt_9_32)).symm (fun h => absurd h (by decide)) (by decide +kernel) D32 rfl (Or.inr (Or.inr (Or.inr ⟨rfl, rfl⟩))) (by decide +kernel)
/-- HotThrough.Kitchen.isPlace -/
theorem ma_33 : mArg 33 = [2, 0] := ma9 mt_9_33
noncomputable def B33 : SX 4 := rets 3 (ite 22 23 (cand 0 (cand 0 (cz 3 (by decide) (ldi 1)) (cmp 2 (by decide) (ldi 1) (get f_4_30 (lda 0)))) (cmp 2 (by decide) (ldi 1) (cst 10))) (cst 1) (cst 0))
set_option maxRecDepth 100000 in
theorem O33 : BodyOK 33 (runB 33 B33) := body_q 4 33 B33 C33 dq_p4 (congrArg MethodName.cls (mn9 mt_9_33)).symm (fun h => absurd h (by decide)) (by decide +kernel) D33 rfl (Or.inr (Or.inr (Or.inl ⟨rfl, rfl⟩))) (by decide +kernel)
/-- HotThrough.Text.failAt -/
theorem ma_34 : mArg 34 = [2, 0] := ma9 mt_9_34
noncomputable def B34 : SX 2 := seq 17 (ifs (cnot (cz 1 (by decide) (get f_2_35 (lda 0)))) (seq 12 (put pf_2_35 (lda 0) (cst 1)) (put pf_2_32 (lda 0) (ldi 1)))) (rtv)
set_option maxRecDepth 100000 in
theorem O34 : BodyOK 34 (runB 34 B34) := body_q 2 34 B34 C34 dq_p2 (congrArg MethodName.cls (mn9 mt_9_34)).symm (fun h => absurd h (by decide)) (by decide +kernel) D34 rfl (Or.inr (Or.inr (Or.inr ⟨rfl, rfl⟩))) (by decide +kernel)
/-- HotThrough.State.addPot -/
theorem ma_35 : mArg 35 = [2, 0, 0, 0] := ma9 mt_9_35
noncomputable def B35 : SX 5 := seq 45 (seq 10 (ifs (cor 9 (cz 2 (by decide) (ldi 1)) (cmp 3 (by decide) (ldi 1) (cst 5))) (rtv)) (seq 17 (asti (get f_5_9 (lda 0)) (ldi 1) (ldi 2)) (seq 24 (asti (get f_5_15 (lda 0)) (ldi 1) (ldi 3)) (seq 31 (asti (get f_5_18 (lda 0)) (ldi 1) (cst (-1))) (popand pf_5_45 (lda 0) (bxo (shl (cst 1) (ldi 1)) (cst (-1)))))))) (rtv)
set_option maxRecDepth 100000 in
theorem O35 : BodyOK 35 (runB 35 B35) := body_q 5 35 B35 C35 dq_p5 (congrArg MethodName.cls (mn9 mt_9_35)).symm (fun h => absurd h (by decide)) (by decide +kernel) D35 rfl (Or.inr (Or.inr (Or.inr ⟨rfl, rfl⟩))) (by decide +kernel)
/-- HotThrough.Kitchen.readPerson -/
theorem ma_36 : mArg 36 = [2, 2, 2] := ma9 mt_9_36
noncomputable def B36 : SX 4 := seq 131 (seq 5 (asi 3 (get f_4_118 (lda 1))) (seq 12 (asi 4 (cvi v_4_111 (acons (lda 1) (acons (cst 2) (anil))))) (seq 47 (asi 5 (ite 44 45 (cand 0 (cand 0 (cz 1 (by decide) (get f_4_131 (lda 1))) (cmp 0 (by decide) (get f_4_118 (lda 1)) (get f_4_134 (lda 1)))) (cmp 2 (by decide) (sub (get f_4_118 (lda 1)) (ldi 3)) (cst 2))) (cst 1) (cst 0))) (seq 67 (ifs (cand 0 (cz 0 (by decide) (ldi 4)) (cnot (cz 1 (by decide) (ldi 5)))) (cvv v_4_124 (acons (lda 1) (acons (sub (get f_4_118 (lda 1)) (cst 1)) (anil))))) (seq 73 (cvv v_4_114 (acons (lda 1) (acons (cst 64) (anil)))) (seq 84 (asi 6 (cvi v_4_95 (acons (lda 1) (acons (get f_4_30 (lda 0)) (acons (cst (-1)) (anil)))))) (seq 100 (ifs (cor 99 (cz 1 (by decide) (get f_4_103 (lda 1))) (cmp 3 (by decide) (get f_4_40 (lda 0)) (cst 5))) (rtv)) (seq 111 (asti (get f_4_27 (lda 0)) (get f_4_40 (lda 0)) (ldi 4)) (seq 121 (cvv v_4_137 (acons (lda 2) (acons (get f_4_40 (lda 0)) (acons (ldi 6) (anil))))) (popadd pf_4_40 (lda 0) (cst 1))))))))))) (rtv)
set_option maxRecDepth 100000 in
theorem O36 : BodyOK 36 (runB 36 B36) := body_q 4 36 B36 C36 dq_p4 (congrArg MethodName.cls (mn9 mt_9_36)).symm (fun h => absurd h (by decide)) (by decide +kernel) D36 rfl (Or.inr (Or.inr (Or.inr ⟨rfl, rfl⟩))) (by decide +kernel)
/-- HotThrough.State.addPerson -/
theorem ma_37 : mArg 37 = [2, 0, 0] := ma9 mt_9_37
noncomputable def B37 : SX 5 := seq 65 (seq 10 (ifs (cor 9 (cz 2 (by decide) (ldi 1)) (cmp 3 (by decide) (ldi 1) (cst 5))) (rtv)) (seq 17 (asti (get f_5_21 (lda 0)) (ldi 1) (ldi 2)) (seq 26 (asti (get f_5_24 (lda 0)) (mul (cst 2) (ldi 1)) (cst 0)) (seq 37 (asti (get f_5_24 (lda 0)) (add (mul (cst 2) (ldi 1)) (cst 1)) (cst 0)) (seq 44 (asti (get f_5_27 (lda 0)) (ldi 1) (cst 0)) (seq 51 (asti (get f_5_30 (lda 0)) (ldi 1) (cst 0)) (seq 58 (asti (get f_5_33 (lda 0)) (ldi 1) (cst (-1))) (asti (get f_5_36 (lda 0)) (ldi 1) (cst 0))))))))) (rtv)
set_option maxRecDepth 100000 in
theorem O37 : BodyOK 37 (runB 37 B37) := body_q 5 37 B37 C37 dq_p5 (congrArg MethodName.cls (mn9 mt_9_37)).symm (fun h => absurd h (by decide)) (by decide +kernel) D37 rfl (Or.inr (Or.inr (Or.inr ⟨rfl, rfl⟩))) (by decide +kernel)
/-- HotThrough.Kitchen.addPlace -/
theorem ma_38 : mArg 38 = [2, 0] := ma9 mt_9_38
noncomputable def B38 : SX 4 := seq 29 (ifs (cmp 2 (by decide) (get f_4_30 (lda 0)) (cst 10)) (seq 19 (asti (get f_4_9 (lda 0)) (get f_4_30 (lda 0)) (ldi 1)) (popadd pf_4_30 (lda 0) (cst 1)))) (rtv)
set_option maxRecDepth 100000 in
theorem O38 : BodyOK 38 (runB 38 B38) := body_q 4 38 B38 C38 dq_p4 (congrArg MethodName.cls (mn9 mt_9_38)).symm (fun h => absurd h (by decide)) (by decide +kernel) D38 rfl (Or.inr (Or.inr (Or.inr ⟨rfl, rfl⟩))) (by decide +kernel)
/-- HotThrough.Text.close -/
theorem ma_39 : mArg 39 = [2] := ma9 mt_9_39
noncomputable def B39 : SX 2 := seq 5 (put pf_2_15 (lda 0) (cst 0)) (seq 28 (ifs (cor 23 (cz 1 (by decide) (get f_2_35 (lda 0))) (cmp 2 (by decide) (get f_2_32 (lda 0)) (get f_2_25 (lda 0)))) (rets 0 (get f_2_32 (lda 0)))) (rets 0 (ite 42 43 (cz 1 (by decide) (get f_2_28 (lda 0))) (get f_2_25 (lda 0)) (cst (-1)))))
set_option maxRecDepth 100000 in
theorem O39 : BodyOK 39 (runB 39 B39) := body_q 2 39 B39 C39 dq_p2 (congrArg MethodName.cls (mn9 mt_9_39)).symm (fun h => absurd h (by decide)) (by decide +kernel) D39 rfl (Or.inl ⟨rfl, rfl⟩) (by decide +kernel)
/-- HotThrough.Acts.forget -/
theorem ma_40 : mArg 40 = [2] := ma9 mt_9_40
noncomputable def B40 : SX 7 := seq 5 (put pf_7_54 (lda 0) (cst 0)) (rtv)
set_option maxRecDepth 100000 in
theorem O40 : BodyOK 40 (runB 40 B40) := body_q 7 40 B40 C40 dq_p7 (congrArg MethodName.cls (mn9 mt_9_40)).symm (fun h => absurd h (by decide)) (by decide +kernel) D40 rfl (Or.inr (Or.inr (Or.inr ⟨rfl, rfl⟩))) (by decide +kernel)
/-- HotThrough.rule -/
theorem ma_41 : mArg 41 = [2] := ma9 mt_9_41
noncomputable def B41 : SX 1 := rets 0 (cvi v_1_126 (acons (get f_1_19 (lda 0)) (acons (get f_1_10 (lda 0)) (anil))))
set_option maxRecDepth 100000 in
theorem O41 : BodyOK 41 (runB 41 B41) := body_q 1 41 B41 C41 dq_p1 (congrArg MethodName.cls (mn9 mt_9_41)).symm (fun h => absurd h (by decide)) (by decide +kernel) D41 rfl (Or.inl ⟨rfl, rfl⟩) (by decide +kernel)
/-- HotThrough.Rule.read -/
theorem ma_42 : mArg 42 = [2, 2] := ma9 mt_9_42
noncomputable def B42 : SX 3 := seq 6 (cvv v_3_21 (acons (lda 1) (acons (cst 40) (anil)))) (seq 11 (put pf_3_27 (lda 0) (cst 0)) (seq 24 (ifs (cnot (cz 1 (by decide) (cvi v_3_31 (acons (lda 1) (anil))))) (cvv v_3_35 (acons (lda 0) (acons (lda 1) (acons (cst 0) (anil)))))) (seq 29 (asi 2 (cvi v_3_39 (acons (lda 1) (anil)))) (seq 38 (ifs (cmp 1 (by decide) (ldi 2) (cst (-1))) (rets 0 (sub (cst (-1)) (ldi 2)))) (seq 55 (cpy y_3_43 (acons (get f_3_15 (lda 0)) (acons (cst 0) (acons (get f_3_9 (lda 0)) (acons (cst 0) (acons (get f_3_27 (lda 0)) (anil))))))) (seq 63 (put pf_3_49 (lda 0) (get f_3_27 (lda 0))) (rets 0 (cst 0))))))))
set_option maxRecDepth 100000 in
theorem O42 : BodyOK 42 (runB 42 B42) := body_q 3 42 B42 C42 dq_p3 (congrArg MethodName.cls (mn9 mt_9_42)).symm (fun h => absurd h (by decide)) (by decide +kernel) D42 rfl (Or.inl ⟨rfl, rfl⟩) (by decide +kernel)
/-- HotThrough.Text.atEnd -/
theorem ma_43 : mArg 43 = [2] := ma9 mt_9_43
noncomputable def B43 : SX 2 := rets 3 (ite 22 23 (cor 18 (cz 1 (by decide) (get f_2_35 (lda 0))) (cmp 3 (by decide) (get f_2_32 (lda 0)) (get f_2_25 (lda 0)))) (cst 1) (cst 0))
set_option maxRecDepth 100000 in
theorem O43 : BodyOK 43 (runB 43 B43) := body_q 2 43 B43 C43 dq_p2 (congrArg MethodName.cls (mn9 mt_9_43)).symm (fun h => absurd h (by decide)) (by decide +kernel) D43 rfl (Or.inr (Or.inr (Or.inl ⟨rfl, rfl⟩))) (by decide +kernel)
/-- HotThrough.Rule.expression -/
theorem ma_44 : mArg 44 = [2, 2, 0] := ma9 mt_9_44
noncomputable def B44 : SX 3 := seq 45 (seq 6 (cvv v_3_52 (acons (lda 0) (acons (lda 1) (acons (ldi 2) (anil))))) (seq 11 (asi 3 (cvi v_3_55 (acons (lda 1) (anil)))) (ifs (cor 29 (cor 0 (cmp 0 (by decide) (ldi 3) (cst 60)) (cmp 0 (by decide) (ldi 3) (cst 62))) (cmp 0 (by decide) (ldi 3) (cst 61))) (seq 33 (cvv v_3_58 (acons (lda 1) (anil))) (seq 39 (cvv v_3_52 (acons (lda 0) (acons (lda 1) (acons (ldi 2) (anil))))) (cvv v_3_61 (acons (lda 0) (acons (neg (ldi 3)) (anil))))))))) (rtv)
set_option maxRecDepth 100000 in
theorem O44 : BodyOK 44 (runB 44 B44) := body_q 3 44 B44 C44 dq_p3 (congrArg MethodName.cls (mn9 mt_9_44)).symm (fun h => absurd h (by decide)) (by decide +kernel) D44 rfl (Or.inr (Or.inr (Or.inr ⟨rfl, rfl⟩))) (by decide +kernel)
/-- HotThrough.Rule.sum -/
theorem ma_45 : mArg 45 = [2, 2, 0] := ma9 mt_9_45
noncomputable def B45 : SX 3 := seq 60 (seq 6 (cvv v_3_64 (acons (lda 0) (acons (lda 1) (acons (ldi 2) (anil))))) (seq 11 (asi 3 (cvi v_3_55 (acons (lda 1) (anil)))) (seq 14 (asi 4 (cst 0)) (wk [0, 1, 2, 3, 4] (whl true 54 (cand 0 (cmp 2 (by decide) (ldi 4) (cst 40)) (cor 33 (cmp 0 (by decide) (ldi 3) (cst 43)) (cmp 0 (by decide) (ldi 3) (cst 45)))) (seq 37 (cvv v_3_58 (acons (lda 1) (anil))) (seq 43 (cvv v_3_64 (acons (lda 0) (acons (lda 1) (acons (ldi 2) (anil))))) (seq 49 (cvv v_3_61 (acons (lda 0) (acons (neg (ldi 3)) (anil)))) (asi 3 (cvi v_3_55 (acons (lda 1) (anil))))))) (inc 4 1)))))) (rtv)
set_option maxRecDepth 100000 in
theorem O45 : BodyOK 45 (runB 45 B45) := body_q 3 45 B45 C45 dq_p3 (congrArg MethodName.cls (mn9 mt_9_45)).symm (fun h => absurd h (by decide)) (by decide +kernel) D45 rfl (Or.inr (Or.inr (Or.inr ⟨rfl, rfl⟩))) (by decide +kernel)
/-- HotThrough.Rule.product -/
theorem ma_46 : mArg 46 = [2, 2, 0] := ma9 mt_9_46
noncomputable def B46 : SX 3 := seq 60 (seq 6 (cvv v_3_67 (acons (lda 0) (acons (lda 1) (acons (ldi 2) (anil))))) (seq 11 (asi 3 (cvi v_3_55 (acons (lda 1) (anil)))) (seq 14 (asi 4 (cst 0)) (wk [0, 1, 2, 3, 4] (whl true 54 (cand 0 (cmp 2 (by decide) (ldi 4) (cst 40)) (cor 33 (cmp 0 (by decide) (ldi 3) (cst 42)) (cmp 0 (by decide) (ldi 3) (cst 47)))) (seq 37 (cvv v_3_58 (acons (lda 1) (anil))) (seq 43 (cvv v_3_67 (acons (lda 0) (acons (lda 1) (acons (ldi 2) (anil))))) (seq 49 (cvv v_3_61 (acons (lda 0) (acons (neg (ldi 3)) (anil)))) (asi 3 (cvi v_3_55 (acons (lda 1) (anil))))))) (inc 4 1)))))) (rtv)
set_option maxRecDepth 100000 in
theorem O46 : BodyOK 46 (runB 46 B46) := body_q 3 46 B46 C46 dq_p3 (congrArg MethodName.cls (mn9 mt_9_46)).symm (fun h => absurd h (by decide)) (by decide +kernel) D46 rfl (Or.inr (Or.inr (Or.inr ⟨rfl, rfl⟩))) (by decide +kernel)
/-- HotThrough.Rule.factor -/
theorem ma_47 : mArg 47 = [2, 2, 0] := ma9 mt_9_47
noncomputable def B47 : SX 3 := seq 53 (seq 2 (asi 3 (cst 0)) (seq 37 (seq 5 (asi 4 (cst 0)) (wk [0, 1, 2, 3, 4] (whl true 31 (cand 0 (cmp 2 (by decide) (ldi 4) (cst 40)) (cz 1 (by decide) (cvi v_3_70 (acons (lda 1) (acons (cst 45) (anil)))))) (asi 3 (ite 29 30 (cnot (cz 1 (by decide) (ldi 3))) (cst 1) (cst 0))) (inc 4 1)))) (seq 43 (cvv v_3_74 (acons (lda 0) (acons (lda 1) (acons (ldi 2) (anil))))) (ifs (cz 1 (by decide) (ldi 3)) (cvv v_3_61 (acons (lda 0) (acons (cst (-33)) (anil)))))))) (rtv)
set_option maxRecDepth 100000 in
theorem O47 : BodyOK 47 (runB 47 B47) := body_q 3 47 B47 C47 dq_p3 (congrArg MethodName.cls (mn9 mt_9_47)).symm (fun h => absurd h (by decide)) (by decide +kernel) D47 rfl (Or.inr (Or.inr (Or.inr ⟨rfl, rfl⟩))) (by decide +kernel)
/-- HotThrough.Rule.thing -/
theorem ma_48 : mArg 48 = [2, 2, 0] := ma9 mt_9_48
noncomputable def B48 : SX 3 := seq 80 (seq 5 (asi 3 (cvi v_3_55 (acons (lda 1) (anil)))) (ife true 37 (cand 0 (cmp 0 (by decide) (ldi 3) (cst 40)) (cmp 2 (by decide) (ldi 2) (cst 4))) (seq 20 (cvv v_3_58 (acons (lda 1) (anil))) (seq 28 (cvv v_3_35 (acons (lda 0) (acons (lda 1) (acons (add (ldi 2) (cst 1)) (anil))))) (cvv v_3_77 (acons (lda 1) (acons (cst 41) (anil)))))) (ife true 56 (cz 1 (by decide) (cvi v_3_81 (acons (lda 1) (anil)))) (cvv v_3_61 (acons (lda 0) (acons (cvi v_3_84 (acons (lda 1) (acons (cst 3) (anil)))) (anil)))) (ife true 76 (cz 1 (by decide) (csta s_3_88 (acons (ldi 3) (anil)))) (seq 67 (cvv v_3_58 (acons (lda 1) (anil))) (cvv v_3_61 (acons (lda 0) (acons (neg (ldi 3)) (anil))))) (cvv v_3_92 (acons (lda 1) (anil))))))) (rtv)
set_option maxRecDepth 100000 in
theorem O48 : BodyOK 48 (runB 48 B48) := body_q 3 48 B48 C48 dq_p3 (congrArg MethodName.cls (mn9 mt_9_48)).symm (fun h => absurd h (by decide)) (by decide +kernel) D48 rfl (Or.inr (Or.inr (Or.inr ⟨rfl, rfl⟩))) (by decide +kernel)
/-- HotThrough.Rule.emit -/
theorem ma_49 : mArg 49 = [2, 0] := ma9 mt_9_49
noncomputable def B49 : SX 3 := seq 29 (ifs (cmp 2 (by decide) (get f_3_27 (lda 0)) (cst 40)) (seq 19 (asti (get f_3_15 (lda 0)) (get f_3_27 (lda 0)) (ldi 1)) (popadd pf_3_27 (lda 0) (cst 1)))) (rtv)
set_option maxRecDepth 100000 in
theorem O49 : BodyOK 49 (runB 49 B49) := body_q 3 49 B49 C49 dq_p3 (congrArg MethodName.cls (mn9 mt_9_49)).symm (fun h => absurd h (by decide)) (by decide +kernel) D49 rfl (Or.inr (Or.inr (Or.inr ⟨rfl, rfl⟩))) (by decide +kernel)
/-- HotThrough.Rule.isName -/
theorem ma_50 : mArg 50 = [0] := ma9 mt_9_50
noncomputable def B50 : SX 3 := sw true (ldi 0) [([104, 102, 110, 98, 115, 105, 112, 114], rets 3 (cst 1))] (rets 3 (cst 0))
set_option maxRecDepth 100000 in
theorem O50 : BodyOK 50 (runB 50 B50) := body_q 3 50 B50 C50 dq_p3 (congrArg MethodName.cls (mn9 mt_9_50)).symm (fun h => absurd h (by decide)) (by decide +kernel) D50 rfl (Or.inr (Or.inr (Or.inl ⟨rfl, rfl⟩))) (by decide +kernel)
/-- HotThrough.heat -/
theorem ma_51 : mArg 51 = [2, 0, 0] := ma9 mt_9_51
noncomputable def B51 : SX 1 := seq 35 (ifs (cor 33 (cor 0 (cor 0 (cnot (cz 1 (by decide) (cvi v_1_173 (acons (get f_1_26 (lda 0)) (acons (ldi 1) (anil)))))) (cz 1 (by decide) (cvi v_1_226 (acons (get f_1_33 (lda 0)) (acons (ldi 1) (anil)))))) (cz 2 (by decide) (ldi 2))) (cmp 4 (by decide) (ldi 2) (cst 999))) (rets 0 (cst (-1)))) (seq 45 (asi 3 (aldi (get f_1_176 (get f_1_33 (lda 0))) (ldi 1))) (seq 55 (asti (get f_1_176 (get f_1_33 (lda 0))) (ldi 1) (ldi 2)) (rets 0 (ldi 3))))
set_option maxRecDepth 100000 in
theorem O51 : BodyOK 51 (runB 51 B51) := body_q 1 51 B51 C51 dq_p1 (congrArg MethodName.cls (mn9 mt_9_51)).symm (fun h => absurd h (by decide)) (by decide +kernel) D51 rfl (Or.inl ⟨rfl, rfl⟩) (by decide +kernel)
/-- HotThrough.Kitchen.isPot -/
theorem ma_52 : mArg 52 = [2, 0] := ma9 mt_9_52
noncomputable def B52 : SX 4 := rets 3 (ite 21 22 (cand 0 (cand 0 (cz 3 (by decide) (ldi 1)) (cmp 2 (by decide) (ldi 1) (get f_4_37 (lda 0)))) (cmp 2 (by decide) (ldi 1) (cst 5))) (cst 1) (cst 0))
set_option maxRecDepth 100000 in
theorem O52 : BodyOK 52 (runB 52 B52) := body_q 4 52 B52 C52 dq_p4 (congrArg MethodName.cls (mn9 mt_9_52)).symm (fun h => absurd h (by decide)) (by decide +kernel) D52 rfl (Or.inr (Or.inr (Or.inl ⟨rfl, rfl⟩))) (by decide +kernel)
/-- HotThrough.State.isDropped -/
theorem ma_53 : mArg 53 = [2, 0] := ma9 mt_9_53
noncomputable def B53 : SX 5 := rets 3 (ite 15 16 (cz 1 (by decide) (ban (shr (get f_5_45 (lda 0)) (ldi 1)) (cst 1))) (cst 1) (cst 0))
set_option maxRecDepth 100000 in
theorem O53 : BodyOK 53 (runB 53 B53) := body_q 5 53 B53 C53 dq_p5 (congrArg MethodName.cls (mn9 mt_9_53)).symm (fun h => absurd h (by decide)) (by decide +kernel) D53 rfl (Or.inr (Or.inr (Or.inl ⟨rfl, rfl⟩))) (by decide +kernel)
/-- HotThrough.sheet -/
theorem ma_54 : mArg 54 = [2, 0, 0, 0, 0] := ma9 mt_9_54
noncomputable def B54 : SX 1 := seq 16 (ifs (cor 14 (cor 0 (cz 2 (by decide) (ldi 1)) (cmp 4 (by decide) (ldi 1) (cst 3))) (cmp 4 (by decide) (ldi 2) (cst 5))) (rets 0 (cst (-1)))) (seq 28 (ifs (cand 0 (cmp 2 (by decide) (ldi 1) (cst 3)) (cz 2 (by decide) (ldi 2))) (rets 0 (cst (-2)))) (seq 40 (asi 5 (ite 37 38 (cmp 0 (by decide) (ldi 1) (cst 3)) (cst 0) (ldi 2))) (seq 43 (asi 6 (cst 0)) (seq 123 (seq 46 (asi 7 (cst 0)) (wk [0, 1, 2, 3, 4, 5, 6, 7] (whl true 117 (cmp 2 (by decide) (ldi 7) (get f_1_139 (get f_1_26 (lda 0)))) (ifs (cnot (cz 1 (by decide) (cvi v_1_226 (acons (get f_1_33 (lda 0)) (acons (ldi 7) (anil)))))) (seq 102 (asti (get f_1_176 (get f_1_33 (lda 0))) (ldi 7) (ite 100 101 (cmp 2 (by decide) (ldi 7) (ldi 5)) (csta s_1_229 (acons (ldi 1) (acons (add (ldi 3) (mul (ldi 7) (ldi 4))) (anil)))) (cst 0))) (asi 6 (add (ldi 6) (aldi (get f_1_176 (get f_1_33 (lda 0))) (ldi 7)))))) (inc 7 1)))) (rets 0 (ite 133 135 (cmp 0 (by decide) (ldi 1) (cst 3)) (cst (-3)) (ldi 6)))))))
set_option maxRecDepth 100000 in
theorem O54 : BodyOK 54 (runB 54 B54) := body_q 1 54 B54 C54 dq_p1 (congrArg MethodName.cls (mn9 mt_9_54)).symm (fun h => absurd h (by decide)) (by decide +kernel) D54 rfl (Or.inl ⟨rfl, rfl⟩) (by decide +kernel)
/-- HotThrough.entry -/
theorem ma_55 : mArg 55 = [0, 0] := ma9 mt_9_55
noncomputable def B55 : SX 1 := seq 21 (asi 2 (ite 9 20 (cz 0 (by decide) (ldi 0)) (cvb (ldi 1)) (ite 19 20 (cmp 0 (by decide) (ldi 0) (cst 1)) (cvs (ldi 1)) (ldi 1)))) (rets 0 (csta s_1_237 (acons (cst 0) (acons (csta s_1_232 (acons (cst 999) (acons (ldi 2) (anil)))) (anil)))))
set_option maxRecDepth 100000 in
theorem O55 : BodyOK 55 (runB 55 B55) := body_q 1 55 B55 C55 dq_p1 (congrArg MethodName.cls (mn9 mt_9_55)).symm (fun h => absurd h (by decide)) (by decide +kernel) D55 rfl (Or.inl ⟨rfl, rfl⟩) (by decide +kernel)
/-- java/lang/Math.max -/
theorem ma_56 : mArg 56 = [0, 0] := ma9 mt_9_56
noncomputable def B56 : SX 20 := rets 0 (ite 9 10 (cmp 3 (by decide) (ldi 0) (ldi 1)) (ldi 0) (ldi 1))
theorem O56 : BodyOK 56 (runB 56 B56) := body_ok 20 56 B56 C56 (by decide +kernel) (fun h => absurd h (by decide)) (by decide +kernel) D56 rfl (Or.inl ⟨rfl, rfl⟩) (dq_mq rfl rfl) (by decide +kernel)
/-- HotThrough.take -/
theorem ma_57 : mArg 57 = [2, 0, 0] := ma9 mt_9_57
noncomputable def B57 : SX 1 := seq 7 (cvv v_1_240 (acons (get f_1_51 (lda 0)) (anil))) (rets 0 (cvi v_1_246 (acons (get f_1_51 (lda 0)) (acons (cvi v_1_243 (acons (get f_1_51 (lda 0)) (acons (ldi 1) (acons (ldi 2) (anil))))) (anil)))))
set_option maxRecDepth 100000 in
theorem O57 : BodyOK 57 (runB 57 B57) := body_q 1 57 B57 C57 dq_p1 (congrArg MethodName.cls (mn9 mt_9_57)).symm (fun h => absurd h (by decide)) (by decide +kernel) D57 rfl (Or.inl ⟨rfl, rfl⟩) (by decide +kernel)
/-- HotThrough.Acts.note -/
theorem ma_58 : mArg 58 = [2] := ma9 mt_9_58
noncomputable def B58 : SX 7 := seq 35 (seq 20 (cvv v_7_61 (acons (alda (get f_7_11 (lda 0)) (cvi v_7_57 (acons (lda 0) (acons (get f_7_54 (lda 0)) (anil))))) (acons (get f_7_31 (lda 0)) (anil)))) (seq 25 (put pf_7_65 (lda 0) (cst 0)) (seq 30 (put pf_7_68 (lda 0) (cst 0)) (put pf_7_71 (lda 0) (cst 0))))) (rtv)
set_option maxRecDepth 100000 in
theorem O58 : BodyOK 58 (runB 58 B58) := body_q 7 58 B58 C58 dq_p7 (congrArg MethodName.cls (mn9 mt_9_58)).symm (fun h => absurd h (by decide)) (by decide +kernel) D58 rfl (Or.inr (Or.inr (Or.inr ⟨rfl, rfl⟩))) (by decide +kernel)
/-- HotThrough.Acts.slot -/
theorem ma_59 : mArg 59 = [2, 0] := ma9 mt_9_59
noncomputable def B59 : SX 7 := rets 0 (csta s_7_48 (acons (add (get f_7_44 (lda 0)) (ldi 1)) (acons (cst 16) (anil))))
set_option maxRecDepth 100000 in
theorem O59 : BodyOK 59 (runB 59 B59) := body_q 7 59 B59 C59 dq_p7 (congrArg MethodName.cls (mn9 mt_9_59)).symm (fun h => absurd h (by decide)) (by decide +kernel) D59 rfl (Or.inl ⟨rfl, rfl⟩) (by decide +kernel)
/-- java/lang/Math.floorMod -/
theorem ma_60 : mArg 60 = [0, 0] := ma9 mt_9_60
noncomputable def B60 : SX 20 := seq 4 (asi 2 (rmi (ldi 0) (ldi 1))) (seq 18 (ifs (cand 0 (cz 2 (by decide) (bxo (ldi 0) (ldi 1))) (cz 1 (by decide) (ldi 2))) (rets 0 (add (ldi 2) (ldi 1)))) (rets 0 (ldi 2)))
theorem O60 : BodyOK 60 (runB 60 B60) := body_ok 20 60 B60 C60 (by decide +kernel) (fun h => absurd h (by decide)) (by decide +kernel) D60 rfl (Or.inl ⟨rfl, rfl⟩) (dq_mq rfl rfl) (by decide +kernel)
/-- HotThrough.State.copyFrom -/
theorem ma_61 : mArg 61 = [2, 2] := ma9 mt_9_61
noncomputable def B61 : SX 5 := seq 151 (seq 14 (cpy y_5_39 (acons (get f_5_9 (lda 1)) (acons (cst 0) (acons (get f_5_9 (lda 0)) (acons (cst 0) (acons (cst 5) (anil))))))) (seq 28 (cpy y_5_39 (acons (get f_5_15 (lda 1)) (acons (cst 0) (acons (get f_5_15 (lda 0)) (acons (cst 0) (acons (cst 5) (anil))))))) (seq 42 (cpy y_5_39 (acons (get f_5_18 (lda 1)) (acons (cst 0) (acons (get f_5_18 (lda 0)) (acons (cst 0) (acons (cst 5) (anil))))))) (seq 50 (put pf_5_45 (lda 0) (get f_5_45 (lda 1))) (seq 64 (cpy y_5_39 (acons (get f_5_21 (lda 1)) (acons (cst 0) (acons (get f_5_21 (lda 0)) (acons (cst 0) (acons (cst 5) (anil))))))) (seq 79 (cpy y_5_39 (acons (get f_5_24 (lda 1)) (acons (cst 0) (acons (get f_5_24 (lda 0)) (acons (cst 0) (acons (cst 10) (anil))))))) (seq 93 (cpy y_5_39 (acons (get f_5_27 (lda 1)) (acons (cst 0) (acons (get f_5_27 (lda 0)) (acons (cst 0) (acons (cst 5) (anil))))))) (seq 107 (cpy y_5_39 (acons (get f_5_30 (lda 1)) (acons (cst 0) (acons (get f_5_30 (lda 0)) (acons (cst 0) (acons (cst 5) (anil))))))) (seq 121 (cpy y_5_39 (acons (get f_5_33 (lda 1)) (acons (cst 0) (acons (get f_5_33 (lda 0)) (acons (cst 0) (acons (cst 5) (anil))))))) (seq 135 (cpy y_5_39 (acons (get f_5_36 (lda 1)) (acons (cst 0) (acons (get f_5_36 (lda 0)) (acons (cst 0) (acons (cst 5) (anil))))))) (seq 143 (put pf_5_49 (lda 0) (get f_5_49 (lda 1))) (put pf_5_52 (lda 0) (get f_5_52 (lda 1)))))))))))))) (rtv)
set_option maxRecDepth 100000 in
theorem O61 : BodyOK 61 (runB 61 B61) := body_q 5 61 B61 C61 dq_p5 (congrArg MethodName.cls (mn9 mt_9_61)).symm (fun h => absurd h (by decide)) (by decide +kernel) D61 rfl (Or.inr (Or.inr (Or.inr ⟨rfl, rfl⟩))) (by decide +kernel)
/-- HotThrough.Acts.taken -/
theorem ma_62 : mArg 62 = [2, 0, 0] := ma9 mt_9_62
noncomputable def B62 : SX 7 := seq 13 (ifs (cnot (cz 1 (by decide) (cvi v_7_74 (acons (get f_7_27 (lda 0)) (acons (ldi 1) (anil)))))) (rets 0 (cst (-1)))) (seq 29 (ifs (cmp 1 (by decide) (aldi (get f_7_80 (get f_7_31 (lda 0))) (ldi 1)) (cst (-1))) (rets 0 (cst (-2)))) (seq 64 (ifs (cor 61 (cnot (cz 1 (by decide) (cvi v_7_83 (acons (get f_7_27 (lda 0)) (acons (ldi 2) (anil)))))) (cmp 1 (by decide) (aldi (get f_7_86 (get f_7_31 (lda 0))) (ldi 2)) (aldi (get f_7_89 (get f_7_31 (lda 0))) (ldi 1)))) (rets 0 (cst (-3)))) (seq 74 (asti (get f_7_86 (get f_7_31 (lda 0))) (ldi 2) (cst (-1))) (seq 84 (asti (get f_7_92 (get f_7_31 (lda 0))) (ldi 2) (ldi 1)) (seq 94 (asti (get f_7_80 (get f_7_31 (lda 0))) (ldi 1) (ldi 2)) (rets 0 (aldi (get f_7_95 (get f_7_31 (lda 0))) (ldi 2))))))))
set_option maxRecDepth 100000 in
theorem O62 : BodyOK 62 (runB 62 B62) := body_q 7 62 B62 C62 dq_p7 (congrArg MethodName.cls (mn9 mt_9_62)).symm (fun h => absurd h (by decide)) (by decide +kernel) D62 rfl (Or.inl ⟨rfl, rfl⟩) (by decide +kernel)
/-- HotThrough.Kitchen.isPerson -/
theorem ma_63 : mArg 63 = [2, 0] := ma9 mt_9_63
noncomputable def B63 : SX 4 := rets 3 (ite 21 22 (cand 0 (cand 0 (cz 3 (by decide) (ldi 1)) (cmp 2 (by decide) (ldi 1) (get f_4_40 (lda 0)))) (cmp 2 (by decide) (ldi 1) (cst 5))) (cst 1) (cst 0))
set_option maxRecDepth 100000 in
theorem O63 : BodyOK 63 (runB 63 B63) := body_q 4 63 B63 C63 dq_p4 (congrArg MethodName.cls (mn9 mt_9_63)).symm (fun h => absurd h (by decide)) (by decide +kernel) D63 rfl (Or.inr (Or.inr (Or.inl ⟨rfl, rfl⟩))) (by decide +kernel)
/-- HotThrough.Acts.settled -/
theorem ma_64 : mArg 64 = [2, 0] := ma9 mt_9_64
noncomputable def B64 : SX 7 := seq 35 (ifs (cz 3 (by decide) (ldi 1)) (ife true 26 (cmp 2 (by decide) (get f_7_54 (lda 0)) (cst 15)) (popadd pf_7_54 (lda 0) (cst 1)) (put pf_7_44 (lda 0) (cvi v_7_57 (acons (lda 0) (acons (cst 1) (anil))))))) (rets 0 (ldi 1))
set_option maxRecDepth 100000 in
theorem O64 : BodyOK 64 (runB 64 B64) := body_q 7 64 B64 C64 dq_p7 (congrArg MethodName.cls (mn9 mt_9_64)).symm (fun h => absurd h (by decide)) (by decide +kernel) D64 rfl (Or.inl ⟨rfl, rfl⟩) (by decide +kernel)
/-- HotThrough.down -/
theorem ma_65 : mArg 65 = [2, 0] := ma9 mt_9_65
noncomputable def B65 : SX 1 := seq 7 (cvv v_1_240 (acons (get f_1_51 (lda 0)) (anil))) (rets 0 (cvi v_1_246 (acons (get f_1_51 (lda 0)) (acons (cvi v_1_249 (acons (get f_1_51 (lda 0)) (acons (ldi 1) (anil)))) (anil)))))
set_option maxRecDepth 100000 in
theorem O65 : BodyOK 65 (runB 65 B65) := body_q 1 65 B65 C65 dq_p1 (congrArg MethodName.cls (mn9 mt_9_65)).symm (fun h => absurd h (by decide)) (by decide +kernel) D65 rfl (Or.inl ⟨rfl, rfl⟩) (by decide +kernel)
/-- HotThrough.Acts.setDown -/
theorem ma_66 : mArg 66 = [2, 0] := ma9 mt_9_66
noncomputable def B66 : SX 7 := seq 13 (ifs (cnot (cz 1 (by decide) (cvi v_7_74 (acons (get f_7_27 (lda 0)) (acons (ldi 1) (anil)))))) (rets 0 (cst (-1)))) (seq 23 (asi 2 (aldi (get f_7_80 (get f_7_31 (lda 0))) (ldi 1))) (seq 37 (ifs (cnot (cz 1 (by decide) (cvi v_7_83 (acons (get f_7_27 (lda 0)) (acons (ldi 2) (anil)))))) (rets 0 (cst (-2)))) (seq 47 (asi 3 (aldi (get f_7_89 (get f_7_31 (lda 0))) (ldi 1))) (seq 73 (ifs (cor 70 (cnot (cz 1 (by decide) (cvi v_7_98 (acons (get f_7_27 (lda 0)) (acons (ldi 3) (anil)))))) (cz 0 (by decide) (aldi (get f_7_101 (get f_7_27 (lda 0))) (ldi 3)))) (rets 0 (cst (-3)))) (seq 83 (asti (get f_7_80 (get f_7_31 (lda 0))) (ldi 1) (cst (-1))) (seq 93 (asti (get f_7_92 (get f_7_31 (lda 0))) (ldi 2) (cst (-1))) (seq 103 (asti (get f_7_86 (get f_7_31 (lda 0))) (ldi 2) (ldi 3)) (rets 0 (ldi 2)))))))))
set_option maxRecDepth 100000 in
theorem O66 : BodyOK 66 (runB 66 B66) := body_q 7 66 B66 C66 dq_p7 (congrArg MethodName.cls (mn9 mt_9_66)).symm (fun h => absurd h (by decide)) (by decide +kernel) D66 rfl (Or.inl ⟨rfl, rfl⟩) (by decide +kernel)
/-- HotThrough.walk -/
theorem ma_67 : mArg 67 = [2, 0, 0] := ma9 mt_9_67
noncomputable def B67 : SX 1 := seq 7 (cvv v_1_240 (acons (get f_1_51 (lda 0)) (anil))) (seq 24 (asi 3 (cvi v_1_246 (acons (get f_1_51 (lda 0)) (acons (cvi v_1_252 (acons (get f_1_51 (lda 0)) (acons (ldi 1) (acons (ldi 2) (anil))))) (anil))))) (seq 81 (ifs (cand 0 (cz 3 (by decide) (ldi 3)) (cz 1 (by decide) (cvi v_1_191 (acons (get f_1_26 (lda 0)) (acons (ldi 1) (anil)))))) (seq 43 (cvv v_1_255 (acons (lda 0) (anil))) (seq 55 (cvv v_1_261 (acons (lda 0) (acons (cvj (get f_1_258 (get f_1_51 (lda 0)))) (anil)))) (cvv v_1_261 (acons (lda 0) (acons (cvj (aldi (get f_1_200 (get f_1_33 (lda 0))) (add (mul (cst 2) (ldi 1)) (aldi (get f_1_203 (get f_1_33 (lda 0))) (ldi 1))))) (anil))))))) (rets 0 (ldi 3))))
set_option maxRecDepth 100000 in
theorem O67 : BodyOK 67 (runB 67 B67) := body_q 1 67 B67 C67 dq_p1 (congrArg MethodName.cls (mn9 mt_9_67)).symm (fun h => absurd h (by decide)) (by decide +kernel) D67 rfl (Or.inl ⟨rfl, rfl⟩) (by decide +kernel)
/-- HotThrough.Acts.walked -/
theorem ma_68 : mArg 68 = [2, 0, 0] := ma9 mt_9_68
noncomputable def B68 : SX 7 := seq 13 (ifs (cnot (cz 1 (by decide) (cvi v_7_74 (acons (get f_7_27 (lda 0)) (acons (ldi 1) (anil)))))) (rets 0 (cst (-1)))) (seq 31 (asi 3 (cvi v_7_104 (acons (get f_7_27 (lda 0)) (acons (ldi 2) (acons (aldi (get f_7_89 (get f_7_31 (lda 0))) (ldi 1)) (anil)))))) (seq 39 (ifs (cmp 0 (by decide) (ldi 3) (cst (-1))) (rets 0 (cst (-2)))) (seq 60 (ifs (cnot (cz 1 (by decide) (cvi v_7_110 (acons (get f_7_27 (lda 0)) (acons (ldi 2) (acons (get f_7_107 (get f_7_31 (lda 0))) (anil))))))) (rets 0 (cst (-3)))) (seq 87 (seq 63 (asi 4 (cst 0)) (wk [0, 1, 2, 3, 4] (whl true 81 (cmp 2 (by decide) (ldi 4) (aldi (get f_7_114 (get f_7_27 (lda 0))) (ldi 2))) (cvv v_7_117 (acons (lda 0) (anil))) (inc 4 1)))) (seq 97 (asti (get f_7_89 (get f_7_31 (lda 0))) (ldi 1) (ldi 3)) (rets 0 (aldi (get f_7_114 (get f_7_27 (lda 0))) (ldi 2))))))))
set_option maxRecDepth 100000 in
theorem O68 : BodyOK 68 (runB 68 B68) := body_q 7 68 B68 C68 dq_p7 (congrArg MethodName.cls (mn9 mt_9_68)).symm (fun h => absurd h (by decide)) (by decide +kernel) D68 rfl (Or.inl ⟨rfl, rfl⟩) (by decide +kernel)
/-- HotThrough.Kitchen.otherEnd -/
theorem ma_69 : mArg 69 = [2, 0, 0] := ma9 mt_9_69
noncomputable def B69 : SX 4 := seq 10 (ifs (cnot (cz 1 (by decide) (cvi v_4_50 (acons (lda 0) (acons (ldi 1) (anil)))))) (rets 0 (cst (-1)))) (rets 0 (ite 29 49 (cmp 0 (by decide) (aldi (get f_4_15 (lda 0)) (ldi 1)) (ldi 2)) (aldi (get f_4_18 (lda 0)) (ldi 1)) (ite 48 49 (cmp 0 (by decide) (aldi (get f_4_18 (lda 0)) (ldi 1)) (ldi 2)) (aldi (get f_4_15 (lda 0)) (ldi 1)) (cst (-1)))))
set_option maxRecDepth 100000 in
theorem O69 : BodyOK 69 (runB 69 B69) := body_q 4 69 B69 C69 dq_p4 (congrArg MethodName.cls (mn9 mt_9_69)).symm (fun h => absurd h (by decide)) (by decide +kernel) D69 rfl (Or.inl ⟨rfl, rfl⟩) (by decide +kernel)
/-- HotThrough.Kitchen.isWay -/
theorem ma_70 : mArg 70 = [2, 0] := ma9 mt_9_70
noncomputable def B70 : SX 4 := rets 3 (ite 22 23 (cand 0 (cand 0 (cz 3 (by decide) (ldi 1)) (cmp 2 (by decide) (ldi 1) (get f_4_34 (lda 0)))) (cmp 2 (by decide) (ldi 1) (cst 14))) (cst 1) (cst 0))
set_option maxRecDepth 100000 in
theorem O70 : BodyOK 70 (runB 70 B70) := body_q 4 70 B70 C70 dq_p4 (congrArg MethodName.cls (mn9 mt_9_70)).symm (fun h => absurd h (by decide)) (by decide +kernel) D70 rfl (Or.inr (Or.inr (Or.inl ⟨rfl, rfl⟩))) (by decide +kernel)
/-- HotThrough.Kitchen.isPassable -/
theorem ma_71 : mArg 71 = [2, 0, 0] := ma9 mt_9_71
noncomputable def B71 : SX 4 := rets 3 (ite 20 21 (cor 16 (cnot (cz 1 (by decide) (cvi v_4_46 (acons (lda 0) (acons (ldi 1) (anil)))))) (cz 1 (by decide) (ban (shr (ldi 2) (ldi 1)) (cst 1)))) (cst 1) (cst 0))
set_option maxRecDepth 100000 in
theorem O71 : BodyOK 71 (runB 71 B71) := body_q 4 71 B71 C71 dq_p4 (congrArg MethodName.cls (mn9 mt_9_71)).symm (fun h => absurd h (by decide)) (by decide +kernel) D71 rfl (Or.inr (Or.inr (Or.inl ⟨rfl, rfl⟩))) (by decide +kernel)
/-- HotThrough.Kitchen.hasDoor -/
theorem ma_72 : mArg 72 = [2, 0] := ma9 mt_9_72
noncomputable def B72 : SX 4 := rets 3 (ite 15 16 (cz 1 (by decide) (ban (shr (get f_4_43 (lda 0)) (ldi 1)) (cst 1))) (cst 1) (cst 0))
set_option maxRecDepth 100000 in
theorem O72 : BodyOK 72 (runB 72 B72) := body_q 4 72 B72 C72 dq_p4 (congrArg MethodName.cls (mn9 mt_9_72)).symm (fun h => absurd h (by decide)) (by decide +kernel) D72 rfl (Or.inr (Or.inr (Or.inl ⟨rfl, rfl⟩))) (by decide +kernel)
/-- HotThrough.Acts.second -/
theorem ma_73 : mArg 73 = [2] := ma9 mt_9_73
noncomputable def B73 : SX 7 := seq 137 (seq 73 (seq 2 (asi 1 (cst 0)) (wk [0, 1] (whl true 67 (cmp 2 (by decide) (ldi 1) (get f_7_120 (get f_7_27 (lda 0)))) (seq 18 (cvv v_7_123 (acons (lda 0) (acons (ldi 1) (anil)))) (seq 48 (ifs (cmp 0 (by decide) (aldi (get f_7_80 (get f_7_31 (lda 0))) (ldi 1)) (cst (-1))) (cvv v_7_130 (acons (lda 0) (acons (add (mul (cst 2) (ldi 1)) (aldi (get f_7_127 (get f_7_31 (lda 0))) (ldi 1))) (anil))))) (cvv v_7_130 (acons (lda 0) (acons (sub (add (mul (cst 2) (ldi 1)) (cst 1)) (aldi (get f_7_127 (get f_7_31 (lda 0))) (ldi 1))) (anil)))))) (inc 1 1)))) (seq 124 (seq 75 (asi 1 (cst 0)) (wk [0, 1] (whl true 118 (cmp 2 (by decide) (ldi 1) (get f_7_133 (get f_7_27 (lda 0)))) (asti (get f_7_95 (get f_7_31 (lda 0))) (ldi 1) (csta s_7_139 (acons (cst 0) (acons (sub (aldi (get f_7_95 (get f_7_31 (lda 0))) (ldi 1)) (aldi (get f_7_136 (get f_7_27 (lda 0))) (ldi 1))) (anil))))) (inc 1 1)))) (popadd pf_7_142 (get f_7_31 (lda 0)) (cst 1)))) (rtv)
set_option maxRecDepth 100000 in
theorem O73 : BodyOK 73 (runB 73 B73) := body_q 7 73 B73 C73 dq_p7 (congrArg MethodName.cls (mn9 mt_9_73)).symm (fun h => absurd h (by decide)) (by decide +kernel) D73 rfl (Or.inr (Or.inr (Or.inr ⟨rfl, rfl⟩))) (by decide +kernel)
/-- HotThrough.Acts.hold -/
theorem ma_74 : mArg 74 = [2, 0] := ma9 mt_9_74
noncomputable def B74 : SX 7 := seq 174 (seq 10 (asi 2 (aldi (get f_7_80 (get f_7_31 (lda 0))) (ldi 1))) (seq 23 (ifs (cnot (cz 1 (by decide) (cvi v_7_148 (acons (get f_7_39 (lda 0)) (acons (ldi 1) (acons (ldi 2) (anil))))))) (rtv)) (seq 49 (asi 3 (csta s_7_161 (acons (cst 9999) (acons (add (get f_7_153 (get f_7_39 (lda 0))) (cvi v_7_155 (acons (get f_7_35 (lda 0)) (acons (get f_7_39 (lda 0)) (anil))))) (anil))))) (seq 69 (asti (get f_7_145 (get f_7_31 (lda 0))) (add (mul (cst 2) (ldi 1)) (get f_7_164 (get f_7_39 (lda 0)))) (ldi 3)) (ifs (cmp 4 (by decide) (ldi 3) (aldi (get f_7_166 (get f_7_27 (lda 0))) (ldi 1))) (seq 95 (aopadd (get f_7_169 (get f_7_31 (lda 0))) (ldi 1) (cst 1)) (seq 105 (popadd pf_7_65 (lda 0) (cst 1)) (seq 117 (popor pf_7_68 (lda 0) (shl (cst 1) (ldi 1))) (seq 129 (popor pf_7_71 (lda 0) (shl (cst 1) (ldi 2))) (seq 139 (asti (get f_7_80 (get f_7_31 (lda 0))) (ldi 1) (cst (-1))) (seq 149 (asti (get f_7_92 (get f_7_31 (lda 0))) (ldi 2) (cst (-1))) (seq 159 (asti (get f_7_95 (get f_7_31 (lda 0))) (ldi 2) (cst 0)) (popor pf_7_172 (get f_7_31 (lda 0)) (shl (cst 1) (ldi 2))))))))))))))) (rtv)
set_option maxRecDepth 100000 in
theorem O74 : BodyOK 74 (runB 74 B74) := body_q 7 74 B74 C74 dq_p7 (congrArg MethodName.cls (mn9 mt_9_74)).symm (fun h => absurd h (by decide)) (by decide +kernel) D74 rfl (Or.inr (Or.inr (Or.inr ⟨rfl, rfl⟩))) (by decide +kernel)
/-- HotThrough.Carrier.begin -/
theorem ma_75 : mArg 75 = [2, 0, 0] := ma9 mt_9_75
noncomputable def B75 : SX 6 := rets 3 (ite 20 21 (cand 0 (cz 1 (by decide) (cvi v_6_85 (acons (lda 0) (acons (ldi 1) (anil))))) (cz 1 (by decide) (cvi v_6_88 (acons (lda 0) (acons (ldi 2) (anil)))))) (cst 1) (cst 0))
set_option maxRecDepth 100000 in
theorem O75 : BodyOK 75 (runB 75 B75) := body_q 6 75 B75 C75 dq_p6 (congrArg MethodName.cls (mn9 mt_9_75)).symm (fun h => absurd h (by decide)) (by decide +kernel) D75 rfl (Or.inr (Or.inr (Or.inl ⟨rfl, rfl⟩))) (by decide +kernel)
/-- HotThrough.Carrier.stand -/
theorem ma_76 : mArg 76 = [2, 0] := ma9 mt_9_76
noncomputable def B76 : SX 6 := seq 13 (ifs (cnot (cz 1 (by decide) (cvi v_6_23 (acons (get f_6_9 (lda 0)) (acons (ldi 1) (anil)))))) (rets 3 (cst 0))) (seq 18 (put pf_6_29 (lda 0) (ldi 1)) (seq 31 (put pf_6_37 (lda 0) (aldi (get f_6_33 (get f_6_9 (lda 0))) (ldi 1))) (seq 44 (put pf_6_44 (lda 0) (aldi (get f_6_39 (get f_6_15 (lda 0))) (ldi 1))) (seq 59 (put pf_6_49 (lda 0) (ban (aldi (get f_6_46 (get f_6_15 (lda 0))) (ldi 1)) (cst 1))) (seq 79 (put pf_6_54 (lda 0) (aldi (get f_6_51 (get f_6_15 (lda 0))) (add (mul (cst 2) (ldi 1)) (get f_6_49 (lda 0))))) (seq 101 (put pf_6_56 (lda 0) (aldi (get f_6_51 (get f_6_15 (lda 0))) (sub (add (mul (cst 2) (ldi 1)) (cst 1)) (get f_6_49 (lda 0))))) (seq 112 (put pf_6_62 (lda 0) (get f_6_59 (get f_6_15 (lda 0)))) (rets 3 (cst 1)))))))))
set_option maxRecDepth 100000 in
theorem O76 : BodyOK 76 (runB 76 B76) := body_q 6 76 B76 C76 dq_p6 (congrArg MethodName.cls (mn9 mt_9_76)).symm (fun h => absurd h (by decide)) (by decide +kernel) D76 rfl (Or.inr (Or.inr (Or.inl ⟨rfl, rfl⟩))) (by decide +kernel)
/-- HotThrough.Carrier.lift -/
theorem ma_77 : mArg 77 = [2, 0] := ma9 mt_9_77
noncomputable def B77 : SX 6 := seq 13 (ifs (cnot (cz 1 (by decide) (cvi v_6_63 (acons (get f_6_9 (lda 0)) (acons (ldi 1) (anil)))))) (rets 3 (cst 0))) (seq 18 (put pf_6_66 (lda 0) (ldi 1)) (seq 31 (put pf_6_72 (lda 0) (aldi (get f_6_69 (get f_6_9 (lda 0))) (ldi 1))) (seq 66 (put pf_6_83 (lda 0) (csta s_6_77 (acons (cst 0) (acons (sub (aldi (get f_6_74 (get f_6_15 (lda 0))) (ldi 1)) (mul (get f_6_72 (lda 0)) (sub (get f_6_62 (lda 0)) (get f_6_59 (get f_6_15 (lda 0)))))) (anil))))) (rets 3 (cst 1)))))
set_option maxRecDepth 100000 in
theorem O77 : BodyOK 77 (runB 77 B77) := body_q 6 77 B77 C77 dq_p6 (congrArg MethodName.cls (mn9 mt_9_77)).symm (fun h => absurd h (by decide)) (by decide +kernel) D77 rfl (Or.inr (Or.inr (Or.inl ⟨rfl, rfl⟩))) (by decide +kernel)
/-- HotThrough.Rule.through -/
theorem ma_78 : mArg 78 = [2, 2] := ma9 mt_9_78
noncomputable def B78 : SX 3 := seq 29 (ifs (cz 0 (by decide) (get f_3_49 (lda 0))) (rets 0 (csta s_3_107 (acons (csta s_3_103 (acons (cst 47) (acons (get f_3_95 (lda 1)) (acons (add (mul (cst 10) (get f_3_100 (lda 1))) (cst 1)) (anil))))) (anil))))) (seq 31 (asi 2 (cst 0)) (seq 172 (seq 33 (asi 3 (cst 0)) (wk [0, 1, 2, 3] (whl true 166 (cmp 2 (by decide) (ldi 3) (get f_3_49 (lda 0))) (seq 49 (asi 4 (aldi (get f_3_9 (lda 0)) (ldi 3))) (ife true 98 (cor 63 (cz 3 (by decide) (ldi 4)) (cz 1 (by decide) (csta s_3_88 (acons (neg (ldi 4)) (anil))))) (ifs (cmp 2 (by decide) (ldi 2) (cst 40)) (seq 92 (asti (get f_3_18 (lda 0)) (ldi 2) (ite 84 91 (cz 3 (by decide) (ldi 4)) (ldi 4) (cvi v_3_110 (acons (lda 1) (acons (neg (ldi 4)) (anil)))))) (inc 2 1))) (ife true 130 (cmp 0 (by decide) (ldi 4) (cst (-33))) (ifs (cmp 3 (by decide) (ldi 2) (cst 1)) (asti (get f_3_18 (lda 0)) (sub (ldi 2) (cst 1)) (neg (aldi (get f_3_18 (lda 0)) (sub (ldi 2) (cst 1)))))) (ifs (cmp 3 (by decide) (ldi 2) (cst 2)) (seq 138 (inc 2 (-1)) (asti (get f_3_18 (lda 0)) (sub (ldi 2) (cst 1)) (csta s_3_103 (acons (neg (ldi 4)) (acons (aldi (get f_3_18 (lda 0)) (sub (ldi 2) (cst 1))) (acons (aldi (get f_3_18 (lda 0)) (ldi 2)) (anil))))))))))) (inc 3 1)))) (rets 0 (csta s_3_107 (acons (aldi (get f_3_18 (lda 0)) (cst 0)) (anil))))))
set_option maxRecDepth 100000 in
theorem O78 : BodyOK 78 (runB 78 B78) := body_q 3 78 B78 C78 dq_p3 (congrArg MethodName.cls (mn9 mt_9_78)).symm (fun h => absurd h (by decide)) (by decide +kernel) D78 rfl (Or.inl ⟨rfl, rfl⟩) (by decide +kernel)
/-- HotThrough.Rule.combine -/
theorem ma_79 : mArg 79 = [0, 0, 0] := ma9 mt_9_79
noncomputable def B79 : SX 3 := sw true (ldi 0) [([60], rets 0 (ite 69 70 (cmp 2 (by decide) (ldi 1) (ldi 2)) (cst 1) (cst 0))), ([62], rets 0 (ite 80 81 (cmp 4 (by decide) (ldi 1) (ldi 2)) (cst 1) (cst 0))), ([61], rets 0 (ite 91 92 (cmp 0 (by decide) (ldi 1) (ldi 2)) (cst 1) (cst 0))), ([43], rets 0 (add (ldi 1) (ldi 2))), ([45], rets 0 (sub (ldi 1) (ldi 2))), ([42], rets 0 (mul (ldi 1) (ldi 2)))] (rets 0 (ite 113 116 (cz 0 (by decide) (ldi 2)) (cst 0) (dvi (ldi 1) (ldi 2))))
set_option maxRecDepth 100000 in
theorem O79 : BodyOK 79 (runB 79 B79) := body_q 3 79 B79 C79 dq_p3 (congrArg MethodName.cls (mn9 mt_9_79)).symm (fun h => absurd h (by decide)) (by decide +kernel) D79 rfl (Or.inl ⟨rfl, rfl⟩) (by decide +kernel)
/-- HotThrough.Rule.within -/
theorem ma_80 : mArg 80 = [0] := ma9 mt_9_80
noncomputable def B80 : SX 3 := rets 0 (csta s_3_119 (acons (cst 0) (acons (csta s_3_113 (acons (cst 999) (acons (ldi 0) (anil)))) (anil))))
set_option maxRecDepth 100000 in
theorem O80 : BodyOK 80 (runB 80 B80) := body_q 3 80 B80 C80 dq_p3 (congrArg MethodName.cls (mn9 mt_9_80)).symm (fun h => absurd h (by decide)) (by decide +kernel) D80 rfl (Or.inl ⟨rfl, rfl⟩) (by decide +kernel)
/-- HotThrough.Carrier.valueOf -/
theorem ma_81 : mArg 81 = [2, 0] := ma9 mt_9_81
noncomputable def B81 : SX 6 := sw true (ldi 1) [([104], rets 0 (get f_6_83 (lda 0))), ([102], rets 0 (get f_6_44 (lda 0))), ([110], rets 0 (get f_6_54 (lda 0))), ([98], rets 0 (get f_6_37 (lda 0))), ([115], rets 0 (get f_6_62 (lda 0))), ([105], rets 0 (get f_6_29 (lda 0))), ([112], rets 0 (get f_6_66 (lda 0)))] (rets 0 (get f_6_49 (lda 0)))
set_option maxRecDepth 100000 in
theorem O81 : BodyOK 81 (runB 81 B81) := body_q 6 81 B81 C81 dq_p6 (congrArg MethodName.cls (mn9 mt_9_81)).symm (fun h => absurd h (by decide)) (by decide +kernel) D81 rfl (Or.inl ⟨rfl, rfl⟩) (by decide +kernel)
/-- HotThrough.Acts.coolHand -/
theorem ma_82 : mArg 82 = [2, 0] := ma9 mt_9_82
noncomputable def B82 : SX 7 := seq 33 (ifs (cand 0 (cz 3 (by decide) (ldi 1)) (cmp 2 (by decide) (ldi 1) (cst 10))) (aopsub (get f_7_145 (get f_7_31 (lda 0))) (ldi 1) (dvi (aldi (get f_7_145 (get f_7_31 (lda 0))) (ldi 1)) (cst 4)))) (rtv)
set_option maxRecDepth 100000 in
theorem O82 : BodyOK 82 (runB 82 B82) := body_q 7 82 B82 C82 dq_p7 (congrArg MethodName.cls (mn9 mt_9_82)).symm (fun h => absurd h (by decide)) (by decide +kernel) D82 rfl (Or.inr (Or.inr (Or.inr ⟨rfl, rfl⟩))) (by decide +kernel)
/-- HotThrough.startRow -/
theorem ma_83 : mArg 83 = [2] := ma9 mt_9_83
noncomputable def B83 : SX 1 := seq 5 (put pf_1_395 (lda 0) (cst 0)) (rtv)
set_option maxRecDepth 100000 in
theorem O83 : BodyOK 83 (runB 83 B83) := body_q 1 83 B83 C83 dq_p1 (congrArg MethodName.cls (mn9 mt_9_83)).symm (fun h => absurd h (by decide)) (by decide +kernel) D83 rfl (Or.inr (Or.inr (Or.inr ⟨rfl, rfl⟩))) (by decide +kernel)
/-- HotThrough.tell -/
theorem ma_84 : mArg 84 = [2, 1] := ma9 mt_9_84
noncomputable def B84 : SX 1 := seq 29 (ifs (cmp 2 (by decide) (get f_1_395 (lda 0)) (cst 16)) (seq 19 (astj (get f_1_100 (lda 0)) (get f_1_395 (lda 0)) (ldj 1)) (popadd pf_1_395 (lda 0) (cst 1)))) (rtv)
set_option maxRecDepth 100000 in
theorem O84 : BodyOK 84 (runB 84 B84) := body_q 1 84 B84 C84 dq_p1 (congrArg MethodName.cls (mn9 mt_9_84)).symm (fun h => absurd h (by decide)) (by decide +kernel) D84 rfl (Or.inr (Or.inr (Or.inr ⟨rfl, rfl⟩))) (by decide +kernel)
/-- HotThrough.pass -/
theorem ma_85 : mArg 85 = [2, 0] := ma9 mt_9_85
noncomputable def B85 : SX 1 := seq 7 (cvv v_1_240 (acons (get f_1_51 (lda 0)) (anil))) (seq 16 (asi 2 (cvi v_1_265 (acons (get f_1_51 (lda 0)) (acons (ldi 1) (anil))))) (seq 29 (ifs (cz 4 (by decide) (ldi 1)) (exs (cvi v_1_246 (acons (get f_1_51 (lda 0)) (acons (ldi 2) (anil)))))) (seq 61 (ifs (cz 3 (by decide) (ldi 2)) (seq 37 (cvv v_1_255 (acons (lda 0) (anil))) (seq 49 (cvv v_1_261 (acons (lda 0) (acons (cvj (get f_1_268 (get f_1_51 (lda 0)))) (anil)))) (cvv v_1_261 (acons (lda 0) (acons (cvj (get f_1_271 (get f_1_51 (lda 0)))) (anil))))))) (rets 0 (ldi 2)))))
set_option maxRecDepth 100000 in
theorem O85 : BodyOK 85 (runB 85 B85) := body_q 1 85 B85 C85 dq_p1 (congrArg MethodName.cls (mn9 mt_9_85)).symm (fun h => absurd h (by decide)) (by decide +kernel) D85 rfl (Or.inl ⟨rfl, rfl⟩) (by decide +kernel)
/-- HotThrough.Acts.elapsed -/
theorem ma_86 : mArg 86 = [2, 0] := ma9 mt_9_86
noncomputable def B86 : SX 7 := seq 12 (ifs (cor 10 (cz 2 (by decide) (ldi 1)) (cmp 4 (by decide) (ldi 1) (cst 99))) (rets 0 (cst (-1)))) (seq 29 (seq 14 (asi 2 (cst 0)) (wk [0, 1, 2] (whl true 23 (cmp 2 (by decide) (ldi 2) (ldi 1)) (cvv v_7_117 (acons (lda 0) (anil))) (inc 2 1)))) (rets 0 (get f_7_65 (lda 0))))
set_option maxRecDepth 100000 in
theorem O86 : BodyOK 86 (runB 86 B86) := body_q 7 86 B86 C86 dq_p7 (congrArg MethodName.cls (mn9 mt_9_86)).symm (fun h => absurd h (by decide)) (by decide +kernel) D86 rfl (Or.inl ⟨rfl, rfl⟩) (by decide +kernel)
/-- HotThrough.change -/
theorem ma_87 : mArg 87 = [2, 0] := ma9 mt_9_87
noncomputable def B87 : SX 1 := seq 7 (cvv v_1_240 (acons (get f_1_51 (lda 0)) (anil))) (rets 0 (cvi v_1_246 (acons (get f_1_51 (lda 0)) (acons (cvi v_1_274 (acons (get f_1_51 (lda 0)) (acons (ldi 1) (anil)))) (anil)))))
set_option maxRecDepth 100000 in
theorem O87 : BodyOK 87 (runB 87 B87) := body_q 1 87 B87 C87 dq_p1 (congrArg MethodName.cls (mn9 mt_9_87)).symm (fun h => absurd h (by decide)) (by decide +kernel) D87 rfl (Or.inl ⟨rfl, rfl⟩) (by decide +kernel)
/-- HotThrough.Acts.changed -/
theorem ma_88 : mArg 88 = [2, 0] := ma9 mt_9_88
noncomputable def B88 : SX 7 := seq 13 (ifs (cnot (cz 1 (by decide) (cvi v_7_74 (acons (get f_7_27 (lda 0)) (acons (ldi 1) (anil)))))) (rets 0 (cst (-1)))) (seq 33 (asti (get f_7_127 (get f_7_31 (lda 0))) (ldi 1) (sub (cst 1) (aldi (get f_7_127 (get f_7_31 (lda 0))) (ldi 1)))) (rets 0 (aldi (get f_7_127 (get f_7_31 (lda 0))) (ldi 1))))
set_option maxRecDepth 100000 in
theorem O88 : BodyOK 88 (runB 88 B88) := body_q 7 88 B88 C88 dq_p7 (congrArg MethodName.cls (mn9 mt_9_88)).symm (fun h => absurd h (by decide)) (by decide +kernel) D88 rfl (Or.inl ⟨rfl, rfl⟩) (by decide +kernel)
/-- HotThrough.give -/
theorem ma_89 : mArg 89 = [2, 0, 0] := ma9 mt_9_89
noncomputable def B89 : SX 1 := seq 7 (cvv v_1_240 (acons (get f_1_51 (lda 0)) (anil))) (rets 0 (cvi v_1_246 (acons (get f_1_51 (lda 0)) (acons (cvi v_1_277 (acons (get f_1_51 (lda 0)) (acons (ldi 1) (acons (ldi 2) (anil))))) (anil)))))
set_option maxRecDepth 100000 in
theorem O89 : BodyOK 89 (runB 89 B89) := body_q 1 89 B89 C89 dq_p1 (congrArg MethodName.cls (mn9 mt_9_89)).symm (fun h => absurd h (by decide)) (by decide +kernel) D89 rfl (Or.inl ⟨rfl, rfl⟩) (by decide +kernel)
/-- HotThrough.Acts.given -/
theorem ma_90 : mArg 90 = [2, 0, 0] := ma9 mt_9_90
noncomputable def B90 : SX 7 := seq 29 (ifs (cor 27 (cor 0 (cnot (cz 1 (by decide) (cvi v_7_74 (acons (get f_7_27 (lda 0)) (acons (ldi 1) (anil)))))) (cnot (cz 1 (by decide) (cvi v_7_74 (acons (get f_7_27 (lda 0)) (acons (ldi 2) (anil))))))) (cmp 0 (by decide) (ldi 1) (ldi 2))) (rets 0 (cst (-1)))) (seq 39 (asi 3 (aldi (get f_7_80 (get f_7_31 (lda 0))) (ldi 1))) (seq 66 (ifs (cor 63 (cnot (cz 1 (by decide) (cvi v_7_83 (acons (get f_7_27 (lda 0)) (acons (ldi 3) (anil)))))) (cmp 1 (by decide) (aldi (get f_7_80 (get f_7_31 (lda 0))) (ldi 2)) (cst (-1)))) (rets 0 (cst (-2)))) (seq 90 (ifs (cmp 1 (by decide) (aldi (get f_7_89 (get f_7_31 (lda 0))) (ldi 1)) (aldi (get f_7_89 (get f_7_31 (lda 0))) (ldi 2))) (rets 0 (cst (-3)))) (seq 100 (asti (get f_7_80 (get f_7_31 (lda 0))) (ldi 1) (cst (-1))) (seq 110 (asti (get f_7_80 (get f_7_31 (lda 0))) (ldi 2) (ldi 3)) (seq 120 (asti (get f_7_92 (get f_7_31 (lda 0))) (ldi 3) (ldi 2)) (rets 0 (ldi 3))))))))
set_option maxRecDepth 100000 in
theorem O90 : BodyOK 90 (runB 90 B90) := body_q 7 90 B90 C90 dq_p7 (congrArg MethodName.cls (mn9 mt_9_90)).symm (fun h => absurd h (by decide)) (by decide +kernel) D90 rfl (Or.inl ⟨rfl, rfl⟩) (by decide +kernel)
/-- HotThrough.fold -/
theorem ma_91 : mArg 91 = [2, 0, 0] := ma9 mt_9_91
noncomputable def B91 : SX 1 := seq 7 (cvv v_1_240 (acons (get f_1_51 (lda 0)) (anil))) (rets 0 (cvi v_1_246 (acons (get f_1_51 (lda 0)) (acons (cvi v_1_280 (acons (get f_1_51 (lda 0)) (acons (ldi 1) (acons (ldi 2) (anil))))) (anil)))))
set_option maxRecDepth 100000 in
theorem O91 : BodyOK 91 (runB 91 B91) := body_q 1 91 B91 C91 dq_p1 (congrArg MethodName.cls (mn9 mt_9_91)).symm (fun h => absurd h (by decide)) (by decide +kernel) D91 rfl (Or.inl ⟨rfl, rfl⟩) (by decide +kernel)
/-- HotThrough.Acts.folded -/
theorem ma_92 : mArg 92 = [2, 0, 0] := ma9 mt_9_92
noncomputable def B92 : SX 7 := seq 23 (ifs (cor 21 (cor 0 (cnot (cz 1 (by decide) (cvi v_7_74 (acons (get f_7_27 (lda 0)) (acons (ldi 1) (anil)))))) (cz 2 (by decide) (ldi 2))) (cmp 4 (by decide) (ldi 2) (cst 9))) (rets 0 (cst (-1)))) (seq 33 (asi 3 (aldi (get f_7_175 (get f_7_31 (lda 0))) (ldi 1))) (seq 43 (asti (get f_7_175 (get f_7_31 (lda 0))) (ldi 1) (ldi 2)) (rets 0 (ldi 3))))
set_option maxRecDepth 100000 in
theorem O92 : BodyOK 92 (runB 92 B92) := body_q 7 92 B92 C92 dq_p7 (congrArg MethodName.cls (mn9 mt_9_92)).symm (fun h => absurd h (by decide)) (by decide +kernel) D92 rfl (Or.inl ⟨rfl, rfl⟩) (by decide +kernel)
/-- HotThrough.door -/
theorem ma_93 : mArg 93 = [2, 0, 0] := ma9 mt_9_93
noncomputable def B93 : SX 1 := seq 7 (cvv v_1_240 (acons (get f_1_51 (lda 0)) (anil))) (rets 0 (cvi v_1_246 (acons (get f_1_51 (lda 0)) (acons (cvi v_1_283 (acons (get f_1_51 (lda 0)) (acons (ldi 1) (acons (ldi 2) (anil))))) (anil)))))
set_option maxRecDepth 100000 in
theorem O93 : BodyOK 93 (runB 93 B93) := body_q 1 93 B93 C93 dq_p1 (congrArg MethodName.cls (mn9 mt_9_93)).symm (fun h => absurd h (by decide)) (by decide +kernel) D93 rfl (Or.inl ⟨rfl, rfl⟩) (by decide +kernel)
/-- HotThrough.Acts.opened -/
theorem ma_94 : mArg 94 = [2, 0, 0] := ma9 mt_9_94
noncomputable def B94 : SX 7 := seq 33 (ifs (cor 31 (cor 0 (cor 0 (cnot (cz 1 (by decide) (cvi v_7_178 (acons (get f_7_27 (lda 0)) (acons (ldi 1) (anil)))))) (cnot (cz 1 (by decide) (cvi v_7_181 (acons (get f_7_27 (lda 0)) (acons (ldi 1) (anil))))))) (cz 2 (by decide) (ldi 2))) (cmp 4 (by decide) (ldi 2) (cst 1))) (rets 0 (cst (-1)))) (seq 57 (put pf_7_107 (get f_7_31 (lda 0)) (bor (ban (get f_7_107 (get f_7_31 (lda 0))) (bxo (shl (cst 1) (ldi 1)) (cst (-1)))) (shl (ldi 2) (ldi 1)))) (rets 0 (csta s_7_184 (acons (get f_7_107 (get f_7_31 (lda 0))) (anil)))))
set_option maxRecDepth 100000 in
theorem O94 : BodyOK 94 (runB 94 B94) := body_q 7 94 B94 C94 dq_p7 (congrArg MethodName.cls (mn9 mt_9_94)).symm (fun h => absurd h (by decide)) (by decide +kernel) D94 rfl (Or.inl ⟨rfl, rfl⟩) (by decide +kernel)
