/-! the trees of the methods (by program) -/
/-- java/lang/Integer.bitCount -/
theorem ma_95 : mArg 95 = [0] := rfl
noncomputable def B95 : SX 21 := seq 10 (asi 0 (sub (ldi 0) (ban (ush (ldi 0) (cst 1)) (ldw k_21_265)))) (seq 24 (asi 0 (add (ban (ldi 0) (ldw k_21_266)) (ban (ush (ldi 0) (cst 2)) (ldw k_21_266)))) (seq 34 (asi 0 (ban (add (ldi 0) (ush (ldi 0) (cst 4))) (ldw k_21_267))) (seq 41 (asi 0 (add (ldi 0) (ush (ldi 0) (cst 8)))) (seq 48 (asi 0 (add (ldi 0) (ush (ldi 0) (cst 16)))) (rets 0 (ban (ldi 0) (cst 63)))))))
set_option maxRecDepth 100000 in
theorem O95 : BodyOK 95 (runB 95 B95) := body_q 21 95 B95 C95 dq_p21 (by eq_refl) (fun h => absurd h (by decide)) (by decide +kernel) D95 rfl (Or.inl ⟨rfl, rfl⟩) (by decide +kernel)
/-- HotThrough.dinner -/
theorem ma_96 : mArg 96 = [2] := rfl
noncomputable def B96 : SX 1 := seq 12 (asi 1 (cvi v_1_286 (acons (get f_1_51 (lda 0)) (acons (get f_1_10 (lda 0)) (anil))))) (seq 18 (ifs (cz 2 (by decide) (ldi 1)) (rets 0 (ldi 1))) (seq 25 (cvv v_1_240 (acons (get f_1_51 (lda 0)) (anil))) (seq 27 (asi 2 (cst 0)) (seq 49 (wk [0, 1, 2] (whl false 27 (cand 0 (cmp 2 (by decide) (ldi 2) (ldi 1)) (cz 3 (by decide) (cvi v_1_287 (acons (get f_1_51 (lda 0)) (acons (ldi 2) (anil)))))) (inc 2 1) (rtv))) (seq 62 (ifs (cz 4 (by decide) (ldi 2)) (exs (cvi v_1_246 (acons (get f_1_51 (lda 0)) (acons (ldi 2) (anil)))))) (seq 66 (cvv v_1_255 (acons (lda 0) (anil))) (seq 80 (cvv v_1_261 (acons (lda 0) (acons (ite 76 77 (cmp 2 (by decide) (ldi 2) (ldi 1)) (ljk 1) (ljk 0)) (anil)))) (seq 92 (cvv v_1_261 (acons (lda 0) (acons (cvj (get f_1_258 (get f_1_51 (lda 0)))) (anil)))) (rets 0 (ldi 2))))))))))
set_option maxRecDepth 100000 in
theorem O96 : BodyOK 96 (runB 96 B96) := body_q 1 96 B96 C96 dq_p1 (by eq_refl) (fun h => absurd h (by decide)) (by decide +kernel) D96 rfl (Or.inl ⟨rfl, rfl⟩) (by decide +kernel)
/-- HotThrough.Acts.read -/
theorem ma_97 : mArg 97 = [2, 2] := rfl
noncomputable def B97 : SX 7 := seq 6 (cvv v_7_189 (acons (lda 1) (acons (cst 60) (anil)))) (seq 8 (asi 2 (cst 0)) (seq 21 (asi 3 (ite 19 20 (cnot (cz 1 (by decide) (cvi v_7_193 (acons (lda 1) (anil))))) (cst 1) (cst 0))) (seq 50 (wk [0, 1, 2, 3] (whl false 21 (cand 0 (cz 1 (by decide) (ldi 3)) (cmp 2 (by decide) (ldi 2) (cst 30))) (seq 37 (cvv v_7_197 (acons (lda 0) (acons (lda 1) (acons (ldi 2) (anil))))) (seq 40 (inc 2 1) (asi 3 (cvi v_7_201 (acons (lda 1) (acons (cst 59) (anil))))))) (rtv))) (seq 56 (asi 4 (cvi v_7_205 (acons (lda 1) (anil)))) (rets 0 (ite 66 70 (cmp 0 (by decide) (ldi 4) (cst (-1))) (ldi 2) (sub (cst (-1)) (ldi 4))))))))
set_option maxRecDepth 100000 in
theorem O97 : BodyOK 97 (runB 97 B97) := body_q 7 97 B97 C97 dq_p7 (by eq_refl) (fun h => absurd h (by decide)) (by decide +kernel) D97 rfl (Or.inl ⟨rfl, rfl⟩) (by decide +kernel)
/-- HotThrough.Acts.readAct -/
theorem ma_98 : mArg 98 = [2, 2, 0] := rfl
noncomputable def B98 : SX 7 := seq 179 (seq 11 (ifs (cor 10 (cz 2 (by decide) (ldi 2)) (cmp 3 (by decide) (ldi 2) (cst 30))) (rtv)) (seq 16 (asi 3 (cvi v_7_209 (acons (lda 1) (anil)))) (seq 28 (ifs (cnot (cz 1 (by decide) (csta s_7_212 (acons (ldi 3) (anil))))) (seq 27 (cvv v_7_215 (acons (lda 1) (anil))) (rtv))) (seq 32 (cvv v_7_218 (acons (lda 1) (anil))) (seq 39 (asti (get f_7_17 (lda 0)) (ldi 2) (ldi 3)) (seq 46 (asti (get f_7_21 (lda 0)) (ldi 2) (cst 0)) (seq 53 (asti (get f_7_24 (lda 0)) (ldi 2) (cst 0)) (sw true (ldi 3) [([116, 103], seq 115 (asti (get f_7_21 (lda 0)) (ldi 2) (cvi v_7_221 (acons (lda 1) (acons (cst 0) (anil))))) (sbr (asti (get f_7_24 (lda 0)) (ldi 2) (cvi v_7_221 (acons (lda 1) (acons (cst 0) (anil))))))), ([100, 99], sbr (asti (get f_7_21 (lda 0)) (ldi 2) (cvi v_7_221 (acons (lda 1) (acons (cst 0) (anil)))))), ([119], seq 154 (asti (get f_7_21 (lda 0)) (ldi 2) (cvi v_7_221 (acons (lda 1) (acons (cst 0) (anil))))) (sbr (asti (get f_7_24 (lda 0)) (ldi 2) (cvi v_7_224 (acons (lda 1) (acons (cst 2) (anil)))))))] (asti (get f_7_21 (lda 0)) (ldi 2) (cvi v_7_224 (acons (lda 1) (acons (cst 2) (anil))))))))))))) (rtv)
set_option maxRecDepth 100000 in
theorem O98 : BodyOK 98 (runB 98 B98) := body_q 7 98 B98 C98 dq_p7 (by eq_refl) (fun h => absurd h (by decide)) (by decide +kernel) D98 rfl (Or.inr (Or.inr (Or.inr ⟨rfl, rfl⟩))) (by decide +kernel)
/-- HotThrough.Acts.isAct -/
theorem ma_99 : mArg 99 = [0] := rfl
noncomputable def B99 : SX 7 := sw true (ldi 0) [([116, 100, 119, 115, 99, 103, 111], rets 3 (cst 1))] (rets 3 (cst 0))
set_option maxRecDepth 100000 in
theorem O99 : BodyOK 99 (runB 99 B99) := body_q 7 99 B99 C99 dq_p7 (by eq_refl) (fun h => absurd h (by decide)) (by decide +kernel) D99 rfl (Or.inr (Or.inr (Or.inl ⟨rfl, rfl⟩))) (by decide +kernel)
/-- HotThrough.Acts.act -/
theorem ma_100 : mArg 100 = [2, 0] := rfl
noncomputable def B100 : SX 7 := seq 12 (ifs (cor 10 (cz 2 (by decide) (ldi 1)) (cmp 3 (by decide) (ldi 1) (cst 30))) (rets 0 (cst (-1)))) (sw true (aldi (get f_7_17 (lda 0)) (ldi 1)) [([116], rets 0 (cvi v_7_227 (acons (lda 0) (acons (aldi (get f_7_21 (lda 0)) (ldi 1)) (acons (aldi (get f_7_24 (lda 0)) (ldi 1)) (anil)))))), ([100], rets 0 (cvi v_7_230 (acons (lda 0) (acons (aldi (get f_7_21 (lda 0)) (ldi 1)) (anil))))), ([119], rets 0 (cvi v_7_233 (acons (lda 0) (acons (aldi (get f_7_21 (lda 0)) (ldi 1)) (acons (aldi (get f_7_24 (lda 0)) (ldi 1)) (anil)))))), ([115], rets 0 (cvi v_7_236 (acons (lda 0) (acons (aldi (get f_7_21 (lda 0)) (ldi 1)) (anil))))), ([99], rets 0 (cvi v_7_239 (acons (lda 0) (acons (aldi (get f_7_21 (lda 0)) (ldi 1)) (anil))))), ([103], rets 0 (cvi v_7_242 (acons (lda 0) (acons (aldi (get f_7_21 (lda 0)) (ldi 1)) (acons (aldi (get f_7_24 (lda 0)) (ldi 1)) (anil))))))] (rets 0 (cvi v_7_245 (acons (lda 0) (acons (aldi (get f_7_21 (lda 0)) (ldi 1)) (acons (cst 1) (anil)))))))
set_option maxRecDepth 100000 in
theorem O100 : BodyOK 100 (runB 100 B100) := body_q 7 100 B100 C100 dq_p7 (by eq_refl) (fun h => absurd h (by decide)) (by decide +kernel) D100 rfl (Or.inl ⟨rfl, rfl⟩) (by decide +kernel)
/-- HotThrough.undo -/
theorem ma_101 : mArg 101 = [2] := rfl
noncomputable def B101 : SX 1 := rets 0 (cvi v_1_290 (acons (get f_1_51 (lda 0)) (anil)))
set_option maxRecDepth 100000 in
theorem O101 : BodyOK 101 (runB 101 B101) := body_q 1 101 B101 C101 dq_p1 (by eq_refl) (fun h => absurd h (by decide)) (by decide +kernel) D101 rfl (Or.inl ⟨rfl, rfl⟩) (by decide +kernel)
/-- HotThrough.Acts.back -/
theorem ma_102 : mArg 102 = [2] := rfl
noncomputable def B102 : SX 7 := seq 9 (ifs (cz 0 (by decide) (get f_7_54 (lda 0))) (rets 0 (cst (-1)))) (seq 19 (popsub pf_7_54 (lda 0) (cst 1)) (seq 39 (cvv v_7_61 (acons (get f_7_31 (lda 0)) (acons (alda (get f_7_11 (lda 0)) (cvi v_7_57 (acons (lda 0) (acons (get f_7_54 (lda 0)) (anil))))) (anil)))) (rets 0 (get f_7_54 (lda 0)))))
set_option maxRecDepth 100000 in
theorem O102 : BodyOK 102 (runB 102 B102) := body_q 7 102 B102 C102 dq_p7 (by eq_refl) (fun h => absurd h (by decide)) (by decide +kernel) D102 rfl (Or.inl ⟨rfl, rfl⟩) (by decide +kernel)
/-- HotThrough.lasts -/
theorem ma_103 : mArg 103 = [2, 0] := rfl
noncomputable def B103 : SX 1 := seq 10 (ifs (cnot (cz 1 (by decide) (cvi v_1_294 (acons (lda 0) (acons (ldi 1) (anil)))))) (rets 0 (cst (-1)))) (seq 28 (exs (cvi v_1_218 (acons (get f_1_42 (lda 0)) (acons (ldi 1) (acons (aldi (get f_1_209 (get f_1_33 (lda 0))) (ldi 1)) (anil)))))) (seq 40 (asi 2 (cvi v_1_297 (acons (get f_1_42 (lda 0)) (acons (cst 300) (acons (cst 0) (anil)))))) (seq 44 (cvv v_1_255 (acons (lda 0) (anil))) (seq 72 (cvv v_1_261 (acons (lda 0) (acons (ite 61 69 (cmp 0 (by decide) (ldi 2) (cst (-1))) (cvj (get f_1_300 (get f_1_42 (lda 0)))) (cvj (get f_1_302 (get f_1_42 (lda 0))))) (anil)))) (rets 0 (ite 82 83 (cmp 0 (by decide) (ldi 2) (cst (-1))) (cst (-2)) (ldi 2)))))))
set_option maxRecDepth 100000 in
theorem O103 : BodyOK 103 (runB 103 B103) := body_q 1 103 B103 C103 dq_p1 (by eq_refl) (fun h => absurd h (by decide)) (by decide +kernel) D103 rfl (Or.inl ⟨rfl, rfl⟩) (by decide +kernel)
/-- HotThrough.holds -/
theorem ma_104 : mArg 104 = [2, 0] := rfl
noncomputable def B104 : SX 1 := rets 3 (ite 28 29 (cand 0 (cz 1 (by decide) (cvi v_1_191 (acons (get f_1_26 (lda 0)) (acons (ldi 1) (anil))))) (cmp 1 (by decide) (aldi (get f_1_209 (get f_1_33 (lda 0))) (ldi 1)) (cst (-1)))) (cst 1) (cst 0))
set_option maxRecDepth 100000 in
theorem O104 : BodyOK 104 (runB 104 B104) := body_q 1 104 B104 C104 dq_p1 (by eq_refl) (fun h => absurd h (by decide)) (by decide +kernel) D104 rfl (Or.inr (Or.inr (Or.inl ⟨rfl, rfl⟩))) (by decide +kernel)
/-- HotThrough.Carrier.burntAfter -/
theorem ma_105 : mArg 105 = [2, 0, 0] := rfl
noncomputable def B105 : SX 6 := seq 36 (seq 2 (asi 3 (cst 1)) (wk [0, 1, 2, 3] (whl true 30 (cmp 5 (by decide) (ldi 3) (ldi 1)) (seq 21 (ifs (cand 0 (cz 4 (by decide) (ldi 2)) (cz 0 (by decide) (rmi (ldi 3) (ldi 2)))) (cvv v_6_104 (acons (lda 0) (anil)))) (ifs (cnot (cz 1 (by decide) (cvi v_6_100 (acons (lda 0) (anil))))) (rets 0 (ldi 3)))) (inc 3 1)))) (rets 0 (cst (-1)))
set_option maxRecDepth 100000 in
theorem O105 : BodyOK 105 (runB 105 B105) := body_q 6 105 B105 C105 dq_p6 (by eq_refl) (fun h => absurd h (by decide)) (by decide +kernel) D105 rfl (Or.inl ⟨rfl, rfl⟩) (by decide +kernel)
/-- HotThrough.Carrier.changeHands -/
theorem ma_106 : mArg 106 = [2] := rfl
noncomputable def B106 : SX 6 := seq 28 (seq 5 (asi 1 (get f_6_54 (lda 0))) (seq 13 (put pf_6_54 (lda 0) (get f_6_56 (lda 0))) (seq 18 (put pf_6_56 (lda 0) (ldi 1)) (put pf_6_49 (lda 0) (sub (cst 1) (get f_6_49 (lda 0))))))) (rtv)
set_option maxRecDepth 100000 in
theorem O106 : BodyOK 106 (runB 106 B106) := body_q 6 106 B106 C106 dq_p6 (by eq_refl) (fun h => absurd h (by decide)) (by decide +kernel) D106 rfl (Or.inr (Or.inr (Or.inr ⟨rfl, rfl⟩))) (by decide +kernel)
/-- HotThrough.Carrier.holdOn -/
theorem ma_107 : mArg 107 = [2] := rfl
noncomputable def B107 : SX 6 := seq 20 (asi 1 (csta s_6_97 (acons (cst 9999) (acons (add (get f_6_54 (lda 0)) (cvi v_6_91 (acons (get f_6_19 (lda 0)) (acons (lda 0) (anil))))) (anil))))) (seq 30 (ifs (cmp 4 (by decide) (ldi 1) (get f_6_37 (lda 0))) (rets 3 (cst 0))) (seq 35 (put pf_6_54 (lda 0) (ldi 1)) (seq 50 (popsub pf_6_56 (lda 0) (dvi (get f_6_56 (lda 0)) (cst 4))) (seq 67 (put pf_6_83 (lda 0) (csta s_6_77 (acons (cst 0) (acons (sub (get f_6_83 (lda 0)) (get f_6_72 (lda 0))) (anil))))) (seq 77 (popadd pf_6_62 (lda 0) (cst 1)) (rets 3 (cst 1)))))))
set_option maxRecDepth 100000 in
theorem O107 : BodyOK 107 (runB 107 B107) := body_q 6 107 B107 C107 dq_p6 (by eq_refl) (fun h => absurd h (by decide)) (by decide +kernel) D107 rfl (Or.inr (Or.inr (Or.inl ⟨rfl, rfl⟩))) (by decide +kernel)
/-- HotThrough.swaps -/
theorem ma_108 : mArg 108 = [2, 0, 0] := rfl
noncomputable def B108 : SX 1 := seq 21 (ifs (cor 19 (cor 0 (cnot (cz 1 (by decide) (cvi v_1_294 (acons (lda 0) (acons (ldi 1) (anil)))))) (cmp 2 (by decide) (ldi 2) (cst 1))) (cmp 4 (by decide) (ldi 2) (cst 99))) (rets 0 (cst (-1)))) (seq 39 (exs (cvi v_1_218 (acons (get f_1_42 (lda 0)) (acons (ldi 1) (acons (aldi (get f_1_209 (get f_1_33 (lda 0))) (ldi 1)) (anil)))))) (seq 51 (asi 3 (cvi v_1_297 (acons (get f_1_42 (lda 0)) (acons (cst 300) (acons (ldi 2) (anil)))))) (seq 55 (cvv v_1_255 (acons (lda 0) (anil))) (seq 74 (cvv v_1_261 (acons (lda 0) (acons (cvj (dvi (ite 67 68 (cmp 0 (by decide) (ldi 3) (cst (-1))) (cst 300) (ldi 3)) (ldi 2))) (anil)))) (rets 0 (ite 84 85 (cmp 0 (by decide) (ldi 3) (cst (-1))) (cst (-2)) (ldi 3)))))))
set_option maxRecDepth 100000 in
theorem O108 : BodyOK 108 (runB 108 B108) := body_q 1 108 B108 C108 dq_p1 (by eq_refl) (fun h => absurd h (by decide)) (by decide +kernel) D108 rfl (Or.inl ⟨rfl, rfl⟩) (by decide +kernel)
/-- HotThrough.often -/
theorem ma_109 : mArg 109 = [2, 0] := rfl
noncomputable def B109 : SX 1 := seq 10 (ifs (cnot (cz 1 (by decide) (cvi v_1_294 (acons (lda 0) (acons (ldi 1) (anil)))))) (rets 0 (cst (-1)))) (seq 12 (asi 2 (cst (-1))) (seq 14 (asi 3 (cst 0)) (seq 85 (seq 18 (asi 4 (cst 99)) (wk [0, 1, 2, 3, 4] (whl true 79 (cand 0 (cmp 3 (by decide) (ldi 4) (cst 1)) (cmp 1 (by decide) (ldi 3) (cst (-1)))) (seq 47 (exs (cvi v_1_218 (acons (get f_1_42 (lda 0)) (acons (ldi 1) (acons (aldi (get f_1_209 (get f_1_33 (lda 0))) (ldi 1)) (anil)))))) (seq 61 (asi 5 (cvi v_1_297 (acons (get f_1_42 (lda 0)) (acons (cst 300) (acons (ldi 4) (anil)))))) (ifs (cor 73 (cmp 0 (by decide) (ldi 5) (cst (-1))) (cmp 3 (by decide) (ldi 5) (ldi 3))) (seq 76 (asi 2 (ldi 4)) (asi 3 (ldi 5)))))) (inc 4 (-1))))) (seq 89 (cvv v_1_255 (acons (lda 0) (anil))) (seq 95 (cvv v_1_261 (acons (lda 0) (acons (cvj (ldi 3)) (anil)))) (rets 0 (ldi 2)))))))
set_option maxRecDepth 100000 in
theorem O109 : BodyOK 109 (runB 109 B109) := body_q 1 109 B109 C109 dq_p1 (by eq_refl) (fun h => absurd h (by decide)) (by decide +kernel) D109 rfl (Or.inl ⟨rfl, rfl⟩) (by decide +kernel)
/-- HotThrough.layers -/
theorem ma_110 : mArg 110 = [2, 0, 0, 0] := rfl
noncomputable def B110 : SX 1 := seq 12 (ifs (cnot (cz 1 (by decide) (cvi v_1_304 (acons (lda 0) (acons (ldi 1) (acons (ldi 2) (acons (ldi 3) (anil)))))))) (rets 0 (cst (-1)))) (seq 78 (seq 15 (asi 4 (cst 0)) (wk [0, 1, 2, 3, 4] (whl true 72 (cmp 5 (by decide) (ldi 4) (cst 9)) (seq 32 (exs (cvi v_1_218 (acons (get f_1_42 (lda 0)) (acons (ldi 1) (acons (ldi 2) (anil)))))) (seq 41 (put pf_1_308 (get f_1_42 (lda 0)) (ldi 4)) (ifs (cmp 0 (by decide) (cvi v_1_310 (acons (get f_1_42 (lda 0)) (acons (ldi 3) (anil)))) (ldi 3)) (seq 57 (cvv v_1_255 (acons (lda 0) (anil))) (seq 69 (cvv v_1_261 (acons (lda 0) (acons (cvj (get f_1_300 (get f_1_42 (lda 0)))) (anil)))) (rets 0 (ldi 4))))))) (inc 4 1)))) (rets 0 (cst (-2))))
set_option maxRecDepth 100000 in
theorem O110 : BodyOK 110 (runB 110 B110) := body_q 1 110 B110 C110 dq_p1 (by eq_refl) (fun h => absurd h (by decide)) (by decide +kernel) D110 rfl (Or.inl ⟨rfl, rfl⟩) (by decide +kernel)
/-- HotThrough.mayHold -/
theorem ma_111 : mArg 111 = [2, 0, 0, 0] := rfl
noncomputable def B111 : SX 1 := rets 3 (ite 48 49 (cand 0 (cand 0 (cand 0 (cand 0 (cz 1 (by decide) (cvi v_1_191 (acons (get f_1_26 (lda 0)) (acons (ldi 1) (anil))))) (cz 1 (by decide) (cvi v_1_173 (acons (get f_1_26 (lda 0)) (acons (ldi 2) (anil)))))) (cnot (cz 1 (by decide) (cvi v_1_226 (acons (get f_1_33 (lda 0)) (acons (ldi 2) (anil))))))) (cmp 3 (by decide) (ldi 3) (cst 1))) (cmp 5 (by decide) (ldi 3) (cst 99))) (cst 1) (cst 0))
set_option maxRecDepth 100000 in
theorem O111 : BodyOK 111 (runB 111 B111) := body_q 1 111 B111 C111 dq_p1 (by eq_refl) (fun h => absurd h (by decide)) (by decide +kernel) D111 rfl (Or.inr (Or.inr (Or.inl ⟨rfl, rfl⟩))) (by decide +kernel)
/-- HotThrough.Carrier.carried -/
theorem ma_112 : mArg 112 = [2, 0] := rfl
noncomputable def B112 : SX 6 := seq 2 (asi 2 (cst 0)) (seq 20 (wk [0, 1, 2] (whl false 2 (cand 0 (cmp 2 (by decide) (ldi 2) (ldi 1)) (cz 1 (by decide) (cvi v_6_100 (acons (lda 0) (anil))))) (inc 2 1) (rtv))) (rets 0 (ldi 2)))
set_option maxRecDepth 100000 in
theorem O112 : BodyOK 112 (runB 112 B112) := body_q 6 112 B112 C112 dq_p6 (by eq_refl) (fun h => absurd h (by decide)) (by decide +kernel) D112 rfl (Or.inl ⟨rfl, rfl⟩) (by decide +kernel)
/-- HotThrough.hottest -/
theorem ma_113 : mArg 113 = [2, 0, 0, 0] := rfl
noncomputable def B113 : SX 1 := seq 12 (ifs (cnot (cz 1 (by decide) (cvi v_1_304 (acons (lda 0) (acons (ldi 1) (acons (ldi 2) (acons (ldi 3) (anil)))))))) (rets 0 (cst (-1)))) (seq 75 (seq 15 (asi 4 (cst 0)) (wk [0, 1, 2, 3, 4] (whl true 69 (cmp 5 (by decide) (ldi 4) (cst 999)) (seq 33 (exs (cvi v_1_218 (acons (get f_1_42 (lda 0)) (acons (ldi 1) (acons (ldi 2) (anil)))))) (seq 42 (put pf_1_302 (get f_1_42 (lda 0)) (ldi 4)) (ifs (cmp 2 (by decide) (cvi v_1_310 (acons (get f_1_42 (lda 0)) (acons (ldi 3) (anil)))) (ldi 3)) (rets 0 (ite 64 68 (cz 0 (by decide) (ldi 4)) (cst (-2)) (sub (ldi 4) (cst 1))))))) (inc 4 1)))) (rets 0 (cst 999)))
set_option maxRecDepth 100000 in
theorem O113 : BodyOK 113 (runB 113 B113) := body_q 1 113 B113 C113 dq_p1 (by eq_refl) (fun h => absurd h (by decide)) (by decide +kernel) D113 rfl (Or.inl ⟨rfl, rfl⟩) (by decide +kernel)
/-- HotThrough.path -/
theorem ma_114 : mArg 114 = [2, 0, 0] := rfl
noncomputable def B114 : SX 1 := seq 24 (ifs (cor 22 (cnot (cz 1 (by decide) (cvi v_1_129 (acons (get f_1_26 (lda 0)) (acons (ldi 1) (anil)))))) (cnot (cz 1 (by decide) (cvi v_1_129 (acons (get f_1_26 (lda 0)) (acons (ldi 2) (anil))))))) (rets 0 (cst (-1)))) (seq 39 (ifs (cnot (cz 1 (by decide) (cvi v_1_313 (acons (get f_1_60 (lda 0)) (acons (ldi 1) (acons (ldi 2) (anil))))))) (rets 0 (cst (-2)))) (seq 43 (cvv v_1_255 (acons (lda 0) (anil))) (seq 76 (seq 45 (asi 3 (cst 0)) (wk [0, 1, 2, 3] (whl true 70 (cmp 2 (by decide) (ldi 3) (get f_1_316 (get f_1_60 (lda 0)))) (cvv v_1_261 (acons (lda 0) (acons (cvj (aldi (get f_1_319 (get f_1_60 (lda 0))) (ldi 3))) (anil)))) (inc 3 1)))) (rets 0 (get f_1_322 (get f_1_60 (lda 0)))))))
set_option maxRecDepth 100000 in
theorem O114 : BodyOK 114 (runB 114 B114) := body_q 1 114 B114 C114 dq_p1 (by eq_refl) (fun h => absurd h (by decide)) (by decide +kernel) D114 rfl (Or.inl ⟨rfl, rfl⟩) (by decide +kernel)
/-- HotThrough.Paths.find -/
theorem ma_115 : mArg 115 = [2, 0, 0] := rfl
noncomputable def B115 : SX 8 := seq 56 (seq 2 (asi 3 (cst 0)) (wk [0, 1, 2, 3] (whl true 50 (cmp 2 (by decide) (ldi 3) (get f_8_32 (get f_8_24 (lda 0)))) (asti (get f_8_11 (lda 0)) (ldi 3) (ite 48 49 (cz 1 (by decide) (cvi v_8_43 (acons (get f_8_24 (lda 0)) (acons (ldi 3) (acons (get f_8_38 (get f_8_28 (lda 0))) (anil)))))) (aldi (get f_8_47 (get f_8_24 (lda 0))) (ldi 3)) (cst (-1)))) (inc 3 1)))) (seq 61 (put pf_8_50 (lda 0) (cst 0)) (seq 72 (ifs (cnot (cz 1 (by decide) (cvi v_8_53 (acons (lda 0) (acons (ldi 1) (acons (ldi 2) (anil))))))) (rets 3 (cst 0))) (seq 82 (put pf_8_56 (lda 0) (aldi (get f_8_15 (lda 0)) (ldi 1))) (seq 88 (cvv v_8_58 (acons (lda 0) (acons (ldi 1) (acons (ldi 2) (anil))))) (rets 3 (cst 1))))))
set_option maxRecDepth 100000 in
theorem O115 : BodyOK 115 (runB 115 B115) := body_q 8 115 B115 C115 dq_p8 (by eq_refl) (fun h => absurd h (by decide)) (by decide +kernel) D115 rfl (Or.inr (Or.inr (Or.inl ⟨rfl, rfl⟩))) (by decide +kernel)
/-- HotThrough.Paths.spread -/
theorem ma_116 : mArg 116 = [2, 0, 0] := rfl
noncomputable def B116 : SX 8 := seq 24 (ifs (cor 22 (cnot (cz 1 (by decide) (cvi v_8_66 (acons (get f_8_24 (lda 0)) (acons (ldi 1) (anil)))))) (cnot (cz 1 (by decide) (cvi v_8_66 (acons (get f_8_24 (lda 0)) (acons (ldi 2) (anil))))))) (rets 3 (cst 0))) (seq 46 (seq 26 (asi 3 (cst 0)) (wk [0, 1, 2, 3] (whl true 40 (cmp 2 (by decide) (ldi 3) (cst 10)) (asti (get f_8_15 (lda 0)) (ldi 3) (ldk k_8_70)) (inc 3 1)))) (seq 53 (asti (get f_8_15 (lda 0)) (ldi 2) (cst 0)) (seq 145 (seq 55 (asi 3 (cst 1)) (wk [0, 1, 2, 3] (whl true 139 (cmp 2 (by decide) (ldi 3) (get f_8_71 (get f_8_24 (lda 0)))) (seq 69 (asi 4 (cst 0)) (wk [0, 1, 2, 3, 4] (whl true 133 (cmp 2 (by decide) (ldi 4) (get f_8_32 (get f_8_24 (lda 0)))) (seq 107 (cvv v_8_79 (acons (lda 0) (acons (ldi 4) (acons (aldi (get f_8_73 (get f_8_24 (lda 0))) (ldi 4)) (acons (aldi (get f_8_76 (get f_8_24 (lda 0))) (ldi 4)) (anil)))))) (cvv v_8_79 (acons (lda 0) (acons (ldi 4) (acons (aldi (get f_8_76 (get f_8_24 (lda 0))) (ldi 4)) (acons (aldi (get f_8_73 (get f_8_24 (lda 0))) (ldi 4)) (anil))))))) (inc 4 1)))) (inc 3 1)))) (rets 3 (ite 160 161 (cmp 2 (by decide) (aldi (get f_8_15 (lda 0)) (ldi 1)) (ldk k_8_70)) (cst 1) (cst 0))))))
set_option maxRecDepth 100000 in
theorem O116 : BodyOK 116 (runB 116 B116) := body_q 8 116 B116 C116 dq_p8 (by eq_refl) (fun h => absurd h (by decide)) (by decide +kernel) D116 rfl (Or.inr (Or.inr (Or.inl ⟨rfl, rfl⟩))) (by decide +kernel)
/-- HotThrough.Paths.relax -/
theorem ma_117 : mArg 117 = [2, 0, 0, 0] := rfl
noncomputable def B117 : SX 8 := seq 62 (ifs (cand 0 (cand 0 (cmp 1 (by decide) (aldi (get f_8_11 (lda 0)) (ldi 1)) (cst (-1))) (cmp 2 (by decide) (aldi (get f_8_15 (lda 0)) (ldi 3)) (ldk k_8_70))) (cmp 2 (by decide) (add (aldi (get f_8_15 (lda 0)) (ldi 3)) (aldi (get f_8_11 (lda 0)) (ldi 1))) (aldi (get f_8_15 (lda 0)) (ldi 2)))) (asti (get f_8_15 (lda 0)) (ldi 2) (add (aldi (get f_8_15 (lda 0)) (ldi 3)) (aldi (get f_8_11 (lda 0)) (ldi 1))))) (rtv)
set_option maxRecDepth 100000 in
theorem O117 : BodyOK 117 (runB 117 B117) := body_q 8 117 B117 C117 dq_p8 (by eq_refl) (fun h => absurd h (by decide)) (by decide +kernel) D117 rfl (Or.inr (Or.inr (Or.inr ⟨rfl, rfl⟩))) (by decide +kernel)
/-- HotThrough.Paths.trace -/
theorem ma_118 : mArg 118 = [2, 0, 0] := rfl
noncomputable def B118 : SX 8 := seq 94 (seq 2 (asi 3 (ldi 1)) (seq 9 (asti (get f_8_18 (lda 0)) (cst 0) (ldi 1)) (seq 14 (put pf_8_50 (lda 0) (cst 1)) (wk [0, 1, 2, 3] (whl false 14 (cand 0 (cmp 1 (by decide) (ldi 3) (ldi 2)) (cmp 2 (by decide) (get f_8_50 (lda 0)) (cst 10))) (seq 35 (asi 4 (cvi v_8_83 (acons (lda 0) (acons (ldi 3) (anil))))) (seq 42 (ifs (cmp 0 (by decide) (ldi 4) (cst (-1))) (rtv)) (seq 67 (asti (get f_8_21 (lda 0)) (sub (get f_8_50 (lda 0)) (cst 1)) (sub (aldi (get f_8_15 (lda 0)) (ldi 3)) (aldi (get f_8_15 (lda 0)) (ldi 4)))) (seq 78 (asti (get f_8_18 (lda 0)) (get f_8_50 (lda 0)) (ldi 4)) (seq 88 (popadd pf_8_50 (lda 0) (cst 1)) (asi 3 (ldi 4))))))) (rtv)))))) (rtv)
set_option maxRecDepth 100000 in
theorem O118 : BodyOK 118 (runB 118 B118) := body_q 8 118 B118 C118 dq_p8 (by eq_refl) (fun h => absurd h (by decide)) (by decide +kernel) D118 rfl (Or.inr (Or.inr (Or.inr ⟨rfl, rfl⟩))) (by decide +kernel)
/-- HotThrough.Paths.nextFrom -/
theorem ma_119 : mArg 119 = [2, 0] := rfl
noncomputable def B119 : SX 8 := seq 2 (asi 2 (cst (-1))) (seq 97 (seq 4 (asi 3 (cst 0)) (wk [0, 1, 2, 3] (whl true 91 (cmp 2 (by decide) (ldi 3) (get f_8_32 (get f_8_24 (lda 0)))) (seq 26 (asi 4 (cvi v_8_87 (acons (get f_8_24 (lda 0)) (acons (ldi 3) (acons (ldi 1) (anil)))))) (seq 72 (asi 5 (ite 69 70 (cand 0 (cand 0 (cmp 1 (by decide) (ldi 4) (cst (-1))) (cmp 1 (by decide) (aldi (get f_8_11 (lda 0)) (ldi 3)) (cst (-1)))) (cmp 0 (by decide) (add (aldi (get f_8_15 (lda 0)) (ldi 4)) (aldi (get f_8_11 (lda 0)) (ldi 3))) (aldi (get f_8_15 (lda 0)) (ldi 1)))) (cst 1) (cst 0))) (ifs (cand 0 (cz 1 (by decide) (ldi 5)) (cor 88 (cmp 0 (by decide) (ldi 2) (cst (-1))) (cmp 2 (by decide) (ldi 4) (ldi 2)))) (asi 2 (ldi 4))))) (inc 3 1)))) (rets 0 (ldi 2)))
set_option maxRecDepth 100000 in
theorem O119 : BodyOK 119 (runB 119 B119) := body_q 8 119 B119 C119 dq_p8 (by eq_refl) (fun h => absurd h (by decide)) (by decide +kernel) D119 rfl (Or.inl ⟨rfl, rfl⟩) (by decide +kernel)
/-- HotThrough.clear -/
theorem ma_120 : mArg 120 = [2, 0, 0] := rfl
noncomputable def B120 : SX 1 := seq 24 (ifs (cor 22 (cnot (cz 1 (by decide) (cvi v_1_129 (acons (get f_1_26 (lda 0)) (acons (ldi 1) (anil)))))) (cnot (cz 1 (by decide) (cvi v_1_129 (acons (get f_1_26 (lda 0)) (acons (ldi 2) (anil))))))) (rets 0 (cst (-1)))) (seq 39 (ifs (cnot (cz 1 (by decide) (cvi v_1_324 (acons (get f_1_60 (lda 0)) (acons (ldi 1) (acons (ldi 2) (anil))))))) (rets 0 (cst (-2)))) (seq 43 (cvv v_1_255 (acons (lda 0) (anil))) (seq 55 (cvv v_1_261 (acons (lda 0) (acons (cvj (get f_1_327 (get f_1_60 (lda 0)))) (anil)))) (seq 67 (cvv v_1_261 (acons (lda 0) (acons (cvj (get f_1_322 (get f_1_60 (lda 0)))) (anil)))) (rets 0 (csta s_1_330 (acons (get f_1_327 (get f_1_60 (lda 0))) (anil))))))))
set_option maxRecDepth 100000 in
theorem O120 : BodyOK 120 (runB 120 B120) := body_q 1 120 B120 C120 dq_p1 (by eq_refl) (fun h => absurd h (by decide)) (by decide +kernel) D120 rfl (Or.inl ⟨rfl, rfl⟩) (by decide +kernel)
/-- HotThrough.Paths.findByDoors -/
theorem ma_121 : mArg 121 = [2, 0, 0] := rfl
noncomputable def B121 : SX 8 := seq 71 (seq 2 (asi 3 (cst 0)) (wk [0, 1, 2, 3] (whl true 65 (cmp 2 (by decide) (ldi 3) (get f_8_32 (get f_8_24 (lda 0)))) (seq 44 (asi 4 (ite 35 42 (cz 1 (by decide) (cvi v_8_43 (acons (get f_8_24 (lda 0)) (acons (ldi 3) (acons (get f_8_38 (get f_8_28 (lda 0))) (anil)))))) (cst 0) (add (cst 16384) (shl (cst 1) (ldi 3))))) (asti (get f_8_11 (lda 0)) (ldi 3) (add (mul (aldi (get f_8_47 (get f_8_24 (lda 0))) (ldi 3)) (ldk k_8_62)) (ldi 4)))) (inc 3 1)))) (seq 82 (ifs (cnot (cz 1 (by decide) (cvi v_8_53 (acons (lda 0) (acons (ldi 1) (acons (ldi 2) (anil))))))) (rets 3 (cst 0))) (seq 95 (put pf_8_56 (lda 0) (dvi (aldi (get f_8_15 (lda 0)) (ldi 1)) (ldk k_8_62))) (seq 109 (put pf_8_63 (lda 0) (rmi (aldi (get f_8_15 (lda 0)) (ldi 1)) (cst 16384))) (rets 3 (cst 1)))))
set_option maxRecDepth 100000 in
theorem O121 : BodyOK 121 (runB 121 B121) := body_q 8 121 B121 C121 dq_p8 (by eq_refl) (fun h => absurd h (by decide)) (by decide +kernel) D121 rfl (Or.inr (Or.inr (Or.inl ⟨rfl, rfl⟩))) (by decide +kernel)
/-- HotThrough.far -/
theorem ma_122 : mArg 122 = [2, 0, 0] := rfl
noncomputable def B122 : SX 1 := seq 21 (ifs (cor 19 (cnot (cz 1 (by decide) (cvi v_1_294 (acons (lda 0) (acons (ldi 1) (anil)))))) (cnot (cz 1 (by decide) (cvi v_1_129 (acons (get f_1_26 (lda 0)) (acons (ldi 2) (anil))))))) (rets 0 (cst (-1)))) (seq 44 (ifs (cnot (cz 1 (by decide) (cvi v_1_313 (acons (get f_1_60 (lda 0)) (acons (aldi (get f_1_197 (get f_1_33 (lda 0))) (ldi 1)) (acons (ldi 2) (anil))))))) (rets 0 (cst (-2)))) (seq 62 (exs (cvi v_1_218 (acons (get f_1_42 (lda 0)) (acons (ldi 1) (acons (aldi (get f_1_209 (get f_1_33 (lda 0))) (ldi 1)) (anil)))))) (seq 64 (asi 3 (cst 0)) (seq 67 (asi 4 (cst 0)) (seq 70 (asi 5 (cst 0)) (seq 145 (wk [0, 1, 2, 3, 4, 5] (whl false 70 (cand 0 (cmp 2 (by decide) (ldi 3) (sub (get f_1_316 (get f_1_60 (lda 0))) (cst 1))) (cnot (cz 1 (by decide) (ldi 5)))) (seq 106 (asi 6 (cvi v_1_310 (acons (get f_1_42 (lda 0)) (acons (aldi (get f_1_335 (get f_1_60 (lda 0))) (ldi 3)) (anil))))) (seq 113 (asi 4 (add (ldi 4) (ldi 6))) (seq 134 (asi 5 (ite 131 132 (cmp 2 (by decide) (ldi 6) (aldi (get f_1_335 (get f_1_60 (lda 0))) (ldi 3))) (cst 1) (cst 0))) (ifx 142 (cnot (cz 1 (by decide) (ldi 5))) (inc 3 1))))) (rtv))) (seq 149 (cvv v_1_255 (acons (lda 0) (anil))) (seq 163 (cvv v_1_261 (acons (lda 0) (acons (ite 159 160 (cz 1 (by decide) (ldi 5)) (ljk 0) (ljk 1)) (anil)))) (seq 170 (cvv v_1_261 (acons (lda 0) (acons (cvj (ldi 4)) (anil)))) (rets 0 (ldi 3)))))))))))
set_option maxRecDepth 100000 in
theorem O122 : BodyOK 122 (runB 122 B122) := body_q 1 122 B122 C122 dq_p1 (by eq_refl) (fun h => absurd h (by decide)) (by decide +kernel) D122 rfl (Or.inl ⟨rfl, rfl⟩) (by decide +kernel)
/-- HotThrough.rests -/
theorem ma_123 : mArg 123 = [2, 0, 0, 0] := rfl
noncomputable def B123 : SX 1 := seq 32 (ifs (cor 30 (cor 0 (cor 0 (cnot (cz 1 (by decide) (cvi v_1_294 (acons (lda 0) (acons (ldi 1) (anil)))))) (cnot (cz 1 (by decide) (cvi v_1_129 (acons (get f_1_26 (lda 0)) (acons (ldi 2) (anil))))))) (cmp 2 (by decide) (ldi 3) (cst 1))) (cmp 4 (by decide) (ldi 3) (cst 60))) (rets 0 (cst (-1)))) (seq 55 (ifs (cnot (cz 1 (by decide) (cvi v_1_313 (acons (get f_1_60 (lda 0)) (acons (aldi (get f_1_197 (get f_1_33 (lda 0))) (ldi 1)) (acons (ldi 2) (anil))))))) (rets 0 (cst (-3)))) (seq 77 (asi 4 (cvi v_1_338 (acons (get f_1_69 (lda 0)) (acons (ldi 1) (acons (aldi (get f_1_209 (get f_1_33 (lda 0))) (ldi 1)) (acons (ldi 3) (acons (cst 10) (anil)))))))) (seq 86 (ifs (cmp 0 (by decide) (ldi 4) (cst (-1))) (rets 0 (cst (-2)))) (seq 90 (cvv v_1_255 (acons (lda 0) (anil))) (seq 121 (seq 93 (asi 5 (cst 0)) (wk [0, 1, 2, 3, 4, 5] (whl true 115 (cmp 2 (by decide) (ldi 5) (ldi 4)) (cvv v_1_261 (acons (lda 0) (acons (cvj (aldi (get f_1_342 (get f_1_69 (lda 0))) (ldi 5))) (anil)))) (inc 5 1)))) (rets 0 (ldi 4)))))))
set_option maxRecDepth 100000 in
theorem O123 : BodyOK 123 (runB 123 B123) := body_q 1 123 B123 C123 dq_p1 (by eq_refl) (fun h => absurd h (by decide)) (by decide +kernel) D123 rfl (Or.inl ⟨rfl, rfl⟩) (by decide +kernel)
/-- HotThrough.Rester.fewest -/
theorem ma_124 : mArg 124 = [2, 0, 0, 0, 0] := rfl
noncomputable def B124 : SX 9 := seq 5 (put pf_9_39 (lda 0) (ldi 3)) (seq 11 (put pf_9_43 (lda 0) (ldi 4)) (seq 16 (put pf_9_46 (lda 0) (cst (-1))) (seq 34 (ifs (cz 1 (by decide) (cvi v_9_49 (acons (get f_9_35 (lda 0)) (acons (ldi 1) (acons (ldi 2) (anil)))))) (cvv v_9_55 (acons (lda 0) (acons (cst 0) (acons (cst 0) (anil)))))) (rets 0 (get f_9_46 (lda 0))))))
set_option maxRecDepth 100000 in
theorem O124 : BodyOK 124 (runB 124 B124) := body_q 9 124 B124 C124 dq_p9 (by eq_refl) (fun h => absurd h (by decide)) (by decide +kernel) D124 rfl (Or.inl ⟨rfl, rfl⟩) (by decide +kernel)
/-- HotThrough.Rester.stop -/
theorem ma_125 : mArg 125 = [2, 0, 0] := rfl
noncomputable def B125 : SX 9 := seq 181 (seq 25 (ifs (cor 19 (cmp 3 (by decide) (ldi 1) (sub (get f_9_59 (get f_9_31 (lda 0))) (cst 1))) (cmp 3 (by decide) (ldi 1) (cst 10))) (seq 24 (cvv v_9_64 (acons (lda 0) (acons (ldi 2) (anil)))) (rtv))) (seq 38 (asti (get f_9_9 (lda 0)) (ldi 1) (get f_9_68 (get f_9_35 (lda 0)))) (seq 51 (asti (get f_9_15 (lda 0)) (ldi 1) (get f_9_70 (get f_9_35 (lda 0)))) (seq 64 (asti (get f_9_18 (lda 0)) (ldi 1) (get f_9_72 (get f_9_35 (lda 0)))) (seq 70 (cvv v_9_74 (acons (lda 0) (acons (ldi 1) (acons (ldi 2) (anil))))) (ifs (cand 0 (cand 0 (cand 0 (cz 4 (by decide) (ldi 1)) (cmp 2 (by decide) (ldi 2) (get f_9_43 (lda 0)))) (cmp 2 (by decide) (ldi 2) (cst 10))) (cz 1 (by decide) (aldi (get f_9_77 (get f_9_27 (lda 0))) (aldi (get f_9_82 (get f_9_31 (lda 0))) (ldi 1))))) (seq 121 (put pf_9_68 (get f_9_35 (lda 0)) (aldi (get f_9_9 (lda 0)) (ldi 1))) (seq 134 (put pf_9_70 (get f_9_35 (lda 0)) (aldi (get f_9_15 (lda 0)) (ldi 1))) (seq 147 (put pf_9_72 (get f_9_35 (lda 0)) (aldi (get f_9_18 (lda 0)) (ldi 1))) (seq 158 (cvv v_9_85 (acons (get f_9_35 (lda 0)) (acons (get f_9_39 (lda 0)) (anil)))) (seq 173 (asti (get f_9_21 (lda 0)) (ldi 2) (aldi (get f_9_82 (get f_9_31 (lda 0))) (ldi 1))) (cvv v_9_74 (acons (lda 0) (acons (ldi 1) (acons (add (ldi 2) (cst 1)) (anil)))))))))))))))) (rtv)
set_option maxRecDepth 100000 in
theorem O125 : BodyOK 125 (runB 125 B125) := body_q 9 125 B125 C125 dq_p9 (by eq_refl) (fun h => absurd h (by decide)) (by decide +kernel) D125 rfl (Or.inr (Or.inr (Or.inr ⟨rfl, rfl⟩))) (by decide +kernel)
/-- HotThrough.Rester.arrived -/
theorem ma_126 : mArg 126 = [2, 0] := rfl
noncomputable def B126 : SX 9 := seq 41 (seq 17 (ifs (cand 0 (cmp 1 (by decide) (get f_9_46 (lda 0)) (cst (-1))) (cnot (cz 1 (by decide) (cvi v_9_95 (acons (lda 0) (acons (ldi 1) (anil))))))) (rtv)) (seq 22 (put pf_9_46 (lda 0) (ldi 1)) (seq 27 (put pf_9_43 (lda 0) (ldi 1)) (cpy y_9_99 (acons (get f_9_21 (lda 0)) (acons (cst 0) (acons (get f_9_24 (lda 0)) (acons (cst 0) (acons (ldi 1) (anil)))))))))) (rtv)
set_option maxRecDepth 100000 in
theorem O126 : BodyOK 126 (runB 126 B126) := body_q 9 126 B126 C126 dq_p9 (by eq_refl) (fun h => absurd h (by decide)) (by decide +kernel) D126 rfl (Or.inr (Or.inr (Or.inr ⟨rfl, rfl⟩))) (by decide +kernel)
/-- HotThrough.Rester.isLess -/
theorem ma_127 : mArg 127 = [2, 0] := rfl
noncomputable def B127 : SX 9 := seq 22 (ifs (cmp 1 (by decide) (ldi 1) (get f_9_46 (lda 0))) (rets 3 (ite 20 21 (cmp 2 (by decide) (ldi 1) (get f_9_46 (lda 0))) (cst 1) (cst 0)))) (seq 71 (seq 24 (asi 2 (cst 0)) (wk [0, 1, 2] (whl true 65 (cmp 2 (by decide) (ldi 2) (ldi 1)) (ifs (cmp 1 (by decide) (aldi (get f_9_21 (lda 0)) (ldi 2)) (aldi (get f_9_24 (lda 0)) (ldi 2))) (rets 3 (ite 63 64 (cmp 2 (by decide) (aldi (get f_9_21 (lda 0)) (ldi 2)) (aldi (get f_9_24 (lda 0)) (ldi 2))) (cst 1) (cst 0)))) (inc 2 1)))) (rets 3 (cst 0)))
set_option maxRecDepth 100000 in
theorem O127 : BodyOK 127 (runB 127 B127) := body_q 9 127 B127 C127 dq_p9 (by eq_refl) (fun h => absurd h (by decide)) (by decide +kernel) D127 rfl (Or.inr (Or.inr (Or.inl ⟨rfl, rfl⟩))) (by decide +kernel)
/-- HotThrough.Rester.goOn -/
theorem ma_128 : mArg 128 = [2, 0, 0] := rfl
noncomputable def B128 : SX 9 := seq 36 (ifs (cmp 0 (by decide) (cvi v_9_91 (acons (get f_9_35 (lda 0)) (acons (aldi (get f_9_88 (get f_9_31 (lda 0))) (ldi 1)) (anil)))) (aldi (get f_9_88 (get f_9_31 (lda 0))) (ldi 1))) (cvv v_9_55 (acons (lda 0) (acons (add (ldi 1) (cst 1)) (acons (ldi 2) (anil)))))) (rtv)
set_option maxRecDepth 100000 in
theorem O128 : BodyOK 128 (runB 128 B128) := body_q 9 128 B128 C128 dq_p9 (by eq_refl) (fun h => absurd h (by decide)) (by decide +kernel) D128 rfl (Or.inr (Or.inr (Or.inr ⟨rfl, rfl⟩))) (by decide +kernel)
/-- HotThrough.Carrier.rest -/
theorem ma_129 : mArg 129 = [2, 0] := rfl
noncomputable def B129 : SX 6 := seq 55 (seq 45 (seq 2 (asi 2 (cst 0)) (wk [0, 1, 2] (whl true 39 (cmp 2 (by decide) (ldi 2) (ldi 1)) (seq 22 (popsub pf_6_54 (lda 0) (dvi (get f_6_54 (lda 0)) (cst 4))) (put pf_6_83 (lda 0) (csta s_6_77 (acons (cst 0) (acons (sub (get f_6_83 (lda 0)) (get f_6_72 (lda 0))) (anil)))))) (inc 2 1)))) (popadd pf_6_62 (lda 0) (ldi 1))) (rtv)
set_option maxRecDepth 100000 in
theorem O129 : BodyOK 129 (runB 129 B129) := body_q 6 129 B129 C129 dq_p6 (by eq_refl) (fun h => absurd h (by decide)) (by decide +kernel) D129 rfl (Or.inr (Or.inr (Or.inr ⟨rfl, rfl⟩))) (by decide +kernel)
/-- HotThrough.soonest -/
theorem ma_130 : mArg 130 = [2, 0, 0] := rfl
noncomputable def B130 : SX 1 := seq 21 (ifs (cor 19 (cnot (cz 1 (by decide) (cvi v_1_294 (acons (lda 0) (acons (ldi 1) (anil)))))) (cnot (cz 1 (by decide) (cvi v_1_129 (acons (get f_1_26 (lda 0)) (acons (ldi 2) (anil))))))) (rets 0 (cst (-1)))) (seq 44 (ifs (cnot (cz 1 (by decide) (cvi v_1_313 (acons (get f_1_60 (lda 0)) (acons (aldi (get f_1_197 (get f_1_33 (lda 0))) (ldi 1)) (acons (ldi 2) (anil))))))) (rets 0 (cst (-3)))) (seq 46 (asi 3 (cst 0)) (seq 49 (asi 4 (cst (-1))) (seq 128 (seq 52 (asi 5 (cst 1)) (wk [0, 1, 2, 3, 4, 5] (whl true 122 (cand 0 (cmp 5 (by decide) (ldi 5) (cst 60)) (cz 1 (by decide) (ldi 4))) (seq 86 (asi 6 (ite 75 84 (cmp 0 (by decide) (ldi 4) (cst (-1))) (cst 10) (dvi (sub (mul (ldi 3) (ldi 4)) (cst 1)) (ldi 5)))) (seq 109 (asi 7 (cvi v_1_338 (acons (get f_1_69 (lda 0)) (acons (ldi 1) (acons (aldi (get f_1_209 (get f_1_33 (lda 0))) (ldi 1)) (acons (ldi 5) (acons (ldi 6) (anil)))))))) (ifs (cmp 1 (by decide) (ldi 7) (cst (-1))) (seq 119 (asi 4 (ldi 7)) (asi 3 (ldi 5)))))) (inc 5 1)))) (seq 137 (ifs (cmp 0 (by decide) (ldi 4) (cst (-1))) (rets 0 (cst (-2)))) (seq 141 (cvv v_1_255 (acons (lda 0) (anil))) (seq 156 (cvv v_1_261 (acons (lda 0) (acons (ite 151 153 (cz 0 (by decide) (ldi 4)) (ljk 0) (cvj (ldi 3))) (anil)))) (seq 163 (cvv v_1_261 (acons (lda 0) (acons (cvj (ldi 4)) (anil)))) (rets 0 (add (get f_1_322 (get f_1_60 (lda 0))) (mul (ldi 3) (ldi 4))))))))))))
set_option maxRecDepth 100000 in
theorem O130 : BodyOK 130 (runB 130 B130) := body_q 1 130 B130 C130 dq_p1 (by eq_refl) (fun h => absurd h (by decide)) (by decide +kernel) D130 rfl (Or.inl ⟨rfl, rfl⟩) (by decide +kernel)
/-- HotThrough.chain -/
theorem ma_131 : mArg 131 = [2, 0, 0, 0] := rfl
noncomputable def B131 : SX 1 := seq 32 (ifs (cor 30 (cor 0 (cnot (cz 1 (by decide) (cvi v_1_173 (acons (get f_1_26 (lda 0)) (acons (ldi 1) (anil)))))) (cnot (cz 1 (by decide) (cvi v_1_129 (acons (get f_1_26 (lda 0)) (acons (ldi 2) (anil))))))) (cnot (cz 1 (by decide) (cvi v_1_345 (acons (lda 0) (acons (ldi 3) (anil))))))) (rets 0 (cst (-1)))) (seq 47 (ifs (cmp 0 (by decide) (aldi (get f_1_182 (get f_1_33 (lda 0))) (ldi 1)) (cst (-1))) (rets 0 (cst (-1)))) (seq 70 (ifs (cnot (cz 1 (by decide) (cvi v_1_313 (acons (get f_1_60 (lda 0)) (acons (aldi (get f_1_182 (get f_1_33 (lda 0))) (ldi 1)) (acons (ldi 2) (anil))))))) (rets 0 (cst (-3)))) (seq 81 (asi 4 (cvi v_1_348 (acons (get f_1_78 (lda 0)) (acons (ldi 1) (acons (ldi 3) (anil)))))) (seq 90 (ifs (cmp 0 (by decide) (ldi 4) (cst (-1))) (rets 0 (cst (-2)))) (seq 94 (cvv v_1_255 (acons (lda 0) (anil))) (seq 132 (seq 97 (asi 5 (cst 0)) (wk [0, 1, 2, 3, 4, 5] (whl true 126 (cmp 2 (by decide) (ldi 5) (sub (get f_1_316 (get f_1_60 (lda 0))) (cst 1))) (cvv v_1_261 (acons (lda 0) (acons (cvj (aldi (get f_1_350 (get f_1_78 (lda 0))) (ldi 5))) (anil)))) (inc 5 1)))) (rets 0 (ldi 4))))))))
set_option maxRecDepth 100000 in
theorem O131 : BodyOK 131 (runB 131 B131) := body_q 1 131 B131 C131 dq_p1 (by eq_refl) (fun h => absurd h (by decide)) (by decide +kernel) D131 rfl (Or.inl ⟨rfl, rfl⟩) (by decide +kernel)
/-- HotThrough.areFree -/
theorem ma_132 : mArg 132 = [2, 0] := rfl
noncomputable def B132 : SX 1 := seq 14 (ifs (cz 1 (by decide) (ush (ldi 1) (get f_1_146 (get f_1_26 (lda 0))))) (rets 3 (cst 0))) (seq 56 (seq 16 (asi 2 (cst 0)) (wk [0, 1, 2] (whl true 50 (cmp 2 (by decide) (ldi 2) (get f_1_146 (get f_1_26 (lda 0)))) (ifs (cand 0 (cz 1 (by decide) (ban (shr (ldi 1) (ldi 2)) (cst 1))) (cmp 1 (by decide) (aldi (get f_1_209 (get f_1_33 (lda 0))) (ldi 2)) (cst (-1)))) (rets 3 (cst 0))) (inc 2 1)))) (rets 3 (cst 1)))
set_option maxRecDepth 100000 in
theorem O132 : BodyOK 132 (runB 132 B132) := body_q 1 132 B132 C132 dq_p1 (by eq_refl) (fun h => absurd h (by decide)) (by decide +kernel) D132 rfl (Or.inr (Or.inr (Or.inl ⟨rfl, rfl⟩))) (by decide +kernel)
/-- HotThrough.Line.fewest -/
theorem ma_133 : mArg 133 = [2, 0, 0] := rfl
noncomputable def B133 : SX 10 := seq 5 (put pf_10_34 (lda 0) (ldi 2)) (seq 30 (seq 7 (asi 3 (cst 0)) (wk [0, 1, 2, 3] (whl true 24 (cmp 2 (by decide) (ldi 3) (get f_10_38 (get f_10_18 (lda 0)))) (cvv v_10_43 (acons (lda 0) (acons (ldi 3) (acons (ldi 1) (anil))))) (inc 3 1)))) (seq 63 (seq 32 (asi 3 (cst 0)) (wk [0, 1, 2, 3] (whl true 57 (cmp 5 (by decide) (ldi 3) (get f_10_38 (get f_10_18 (lda 0)))) (ifs (cz 1 (by decide) (cvi v_10_47 (acons (lda 0) (acons (cst 0) (acons (cst (-1)) (acons (cst 0) (acons (cst 0) (acons (ldi 3) (anil))))))))) (rets 0 (ldi 3))) (inc 3 1)))) (rets 0 (cst (-1)))))
set_option maxRecDepth 100000 in
theorem O133 : BodyOK 133 (runB 133 B133) := body_q 10 133 B133 C133 dq_p10 (by eq_refl) (fun h => absurd h (by decide)) (by decide +kernel) D133 rfl (Or.inl ⟨rfl, rfl⟩) (by decide +kernel)
/-- HotThrough.Line.measure -/
theorem ma_134 : mArg 134 = [2, 0, 0] := rfl
noncomputable def B134 : SX 10 := seq 140 (seq 2 (asi 3 (cst 0)) (seq 5 (asi 4 (cst 0)) (wk [0, 1, 2, 3, 4] (whl true 134 (cmp 2 (by decide) (ldi 4) (sub (get f_10_51 (get f_10_26 (lda 0))) (cst 1))) (seq 28 (exs (cvi v_10_56 (acons (get f_10_30 (lda 0)) (acons (ldi 1) (anil))))) (seq 44 (put pf_10_67 (get f_10_30 (lda 0)) (add (get f_10_62 (get f_10_22 (lda 0))) (ldi 3))) (seq 53 (exs (cvi v_10_68 (acons (get f_10_30 (lda 0)) (acons (ldi 2) (anil))))) (seq 57 (asi 5 (ldi 4)) (seq 107 (wk [0, 1, 2, 3, 4, 5] (whl false 57 (cand 0 (cmp 2 (by decide) (ldi 5) (sub (get f_10_51 (get f_10_26 (lda 0))) (cst 1))) (cmp 0 (by decide) (cvi v_10_74 (acons (get f_10_30 (lda 0)) (acons (aldi (get f_10_71 (get f_10_26 (lda 0))) (ldi 5)) (anil)))) (aldi (get f_10_71 (get f_10_26 (lda 0))) (ldi 5)))) (inc 5 1) (rtv))) (seq 121 (asti (get f_10_9 (lda 0)) (add (mul (ldi 1) (cst 10)) (ldi 4)) (ldi 5)) (asi 3 (add (ldi 3) (aldi (get f_10_71 (get f_10_26 (lda 0))) (ldi 4)))))))))) (inc 4 1))))) (rtv)
set_option maxRecDepth 100000 in
theorem O134 : BodyOK 134 (runB 134 B134) := body_q 10 134 B134 C134 dq_p10 (by eq_refl) (fun h => absurd h (by decide)) (by decide +kernel) D134 rfl (Or.inr (Or.inr (Or.inr ⟨rfl, rfl⟩))) (by decide +kernel)
/-- HotThrough.Line.covers -/
theorem ma_135 : mArg 135 = [2, 0, 0, 0, 0, 0] := rfl
noncomputable def B135 : SX 10 := seq 21 (ifs (cor 19 (cmp 3 (by decide) (ldi 1) (sub (get f_10_51 (get f_10_26 (lda 0))) (cst 1))) (cmp 3 (by decide) (ldi 1) (cst 10))) (rets 3 (cst 1))) (seq 154 (seq 24 (asi 6 (cst 0)) (wk [0, 1, 2, 3, 4, 5, 6] (whl true 148 (cmp 2 (by decide) (ldi 6) (get f_10_38 (get f_10_18 (lda 0)))) (seq 44 (asti (get f_10_15 (lda 0)) (ldi 1) (ldi 6)) (ife false 73 (cmp 0 (by decide) (ldi 6) (ldi 2)) (ifs (cand 0 (cmp 2 (by decide) (ldi 1) (ldi 3)) (cz 1 (by decide) (cvi v_10_47 (acons (lda 0) (acons (add (ldi 1) (cst 1)) (acons (ldi 2) (acons (ldi 3) (acons (ldi 4) (acons (ldi 5) (anil)))))))))) (rets 3 (cst 1))) (ifs (cand 0 (cand 0 (cz 4 (by decide) (ldi 5)) (cz 1 (by decide) (ban (shr (ban (get f_10_34 (lda 0)) (bxo (ldi 4) (cst (-1)))) (ldi 6)) (cst 1)))) (cmp 4 (by decide) (aldi (get f_10_9 (lda 0)) (add (mul (ldi 6) (cst 10)) (ldi 1))) (ldi 1))) (ifs (cz 1 (by decide) (cvi v_10_47 (acons (lda 0) (acons (add (ldi 1) (cst 1)) (acons (ldi 6) (acons (aldi (get f_10_9 (lda 0)) (add (mul (ldi 6) (cst 10)) (ldi 1))) (acons (bor (ldi 4) (shl (cst 1) (ldi 6))) (acons (sub (ldi 5) (cst 1)) (anil))))))))) (rets 3 (cst 1)))))) (inc 6 1)))) (rets 3 (cst 0)))
set_option maxRecDepth 100000 in
theorem O135 : BodyOK 135 (runB 135 B135) := body_q 10 135 B135 C135 dq_p10 (by eq_refl) (fun h => absurd h (by decide)) (by decide +kernel) D135 rfl (Or.inr (Or.inr (Or.inl ⟨rfl, rfl⟩))) (by decide +kernel)
/-- HotThrough.serve -/
theorem ma_136 : mArg 136 = [2, 0, 0, 0, 0] := rfl
noncomputable def B136 : SX 1 := seq 34 (ifs (cor 32 (cor 0 (cnot (cz 1 (by decide) (cvi v_1_191 (acons (get f_1_26 (lda 0)) (acons (ldi 1) (anil)))))) (cmp 1 (by decide) (aldi (get f_1_209 (get f_1_33 (lda 0))) (ldi 1)) (cst (-1)))) (cnot (cz 1 (by decide) (cvi v_1_353 (acons (lda 0) (acons (ldi 2) (anil))))))) (rets 0 (cst (-1)))) (seq 73 (ifs (cor 71 (cor 0 (cor 0 (cnot (cz 1 (by decide) (cvi v_1_129 (acons (get f_1_26 (lda 0)) (acons (ldi 3) (anil)))))) (cmp 1 (by decide) (aldi (get f_1_135 (get f_1_26 (lda 0))) (ldi 3)) (cst 2))) (cz 2 (by decide) (ldi 4))) (cmp 4 (by decide) (ldi 4) (cst 999))) (rets 0 (cst (-1)))) (seq 87 (asi 5 (cvi v_1_356 (acons (get f_1_85 (lda 0)) (acons (ldi 1) (acons (ldi 2) (acons (ldi 3) (acons (ldi 4) (anil)))))))) (seq 96 (ifs (cmp 0 (by decide) (ldi 5) (cst (-1))) (rets 0 (cst (-2)))) (seq 100 (cvv v_1_255 (acons (lda 0) (anil))) (seq 136 (seq 103 (asi 6 (cst 0)) (wk [0, 1, 2, 3, 4, 5, 6] (whl true 130 (cmp 2 (by decide) (ldi 6) (get f_1_359 (get f_1_85 (lda 0)))) (cvv v_1_261 (acons (lda 0) (acons (cvj (aldi (get f_1_360 (get f_1_85 (lda 0))) (ldi 6))) (anil)))) (inc 6 1)))) (seq 151 (cvv v_1_261 (acons (lda 0) (acons (cvj (cvi v_1_361 (acons (get f_1_85 (lda 0)) (acons (ldi 2) (acons (ldi 5) (anil)))))) (anil)))) (rets 0 (ldi 5))))))))
set_option maxRecDepth 100000 in
theorem O136 : BodyOK 136 (runB 136 B136) := body_q 1 136 B136 C136 dq_p1 (by eq_refl) (fun h => absurd h (by decide)) (by decide +kernel) D136 rfl (Or.inl ⟨rfl, rfl⟩) (by decide +kernel)
/-- HotThrough.areOnPlaces -/
theorem ma_137 : mArg 137 = [2, 0] := rfl
noncomputable def B137 : SX 1 := seq 18 (ifs (cor 16 (cz 0 (by decide) (ldi 1)) (cz 1 (by decide) (ush (ldi 1) (get f_1_139 (get f_1_26 (lda 0)))))) (rets 3 (cst 0))) (seq 60 (seq 20 (asi 2 (cst 0)) (wk [0, 1, 2] (whl true 54 (cmp 2 (by decide) (ldi 2) (get f_1_139 (get f_1_26 (lda 0)))) (ifs (cand 0 (cz 1 (by decide) (ban (shr (ldi 1) (ldi 2)) (cst 1))) (cmp 0 (by decide) (aldi (get f_1_182 (get f_1_33 (lda 0))) (ldi 2)) (cst (-1)))) (rets 3 (cst 0))) (inc 2 1)))) (rets 3 (cst 1)))
set_option maxRecDepth 100000 in
theorem O137 : BodyOK 137 (runB 137 B137) := body_q 1 137 B137 C137 dq_p1 (by eq_refl) (fun h => absurd h (by decide)) (by decide +kernel) D137 rfl (Or.inr (Or.inr (Or.inl ⟨rfl, rfl⟩))) (by decide +kernel)
/-- HotThrough.Dishes.soonestOrder -/
theorem ma_138 : mArg 138 = [2, 0, 0, 0, 0] := rfl
noncomputable def B138 : SX 11 := seq 5 (put pf_11_43 (lda 0) (ldi 2)) (seq 11 (put pf_11_47 (lda 0) (ldi 4)) (seq 19 (put pf_11_56 (lda 0) (csta s_11_50 (acons (ldi 2) (anil)))) (seq 24 (put pf_11_59 (lda 0) (cst (-1))) (seq 51 (ifs (cand 0 (cz 1 (by decide) (cvi v_11_62 (acons (lda 0) (acons (ldi 1) (acons (ldi 3) (anil)))))) (cz 1 (by decide) (cvi v_11_66 (acons (get f_11_39 (lda 0)) (acons (ldi 1) (anil)))))) (cvv v_11_72 (acons (lda 0) (acons (cst 0) (acons (cst 0) (acons (cst 0) (anil))))))) (rets 0 (get f_11_59 (lda 0)))))))
set_option maxRecDepth 100000 in
theorem O138 : BodyOK 138 (runB 138 B138) := body_q 11 138 B138 C138 dq_p11 (by eq_refl) (fun h => absurd h (by decide)) (by decide +kernel) D138 rfl (Or.inl ⟨rfl, rfl⟩) (by decide +kernel)
/-- HotThrough.Dishes.measure -/
theorem ma_139 : mArg 139 = [2, 0, 0] := rfl
noncomputable def B139 : SX 11 := seq 108 (seq 2 (asi 3 (cst 0)) (wk [0, 1, 2, 3] (whl true 102 (cmp 2 (by decide) (ldi 3) (get f_11_76 (get f_11_27 (lda 0)))) (ifs (cz 1 (by decide) (ban (shr (get f_11_43 (lda 0)) (ldi 3)) (cst 1))) (seq 54 (ifs (cnot (cz 1 (by decide) (cvi v_11_89 (acons (get f_11_35 (lda 0)) (acons (aldi (get f_11_81 (get f_11_31 (lda 0))) (ldi 1)) (acons (aldi (get f_11_86 (get f_11_31 (lda 0))) (ldi 3)) (anil))))))) (rets 3 (cst 0))) (seq 67 (asti (get f_11_9 (lda 0)) (ldi 3) (get f_11_94 (get f_11_35 (lda 0)))) (seq 89 (ifs (cnot (cz 1 (by decide) (cvi v_11_89 (acons (get f_11_35 (lda 0)) (acons (aldi (get f_11_86 (get f_11_31 (lda 0))) (ldi 3)) (acons (ldi 2) (anil))))))) (rets 3 (cst 0))) (asti (get f_11_15 (lda 0)) (ldi 3) (get f_11_94 (get f_11_35 (lda 0)))))))) (inc 3 1)))) (rets 3 (cst 1))
set_option maxRecDepth 100000 in
theorem O139 : BodyOK 139 (runB 139 B139) := body_q 11 139 B139 C139 dq_p11 (by eq_refl) (fun h => absurd h (by decide)) (by decide +kernel) D139 rfl (Or.inr (Or.inr (Or.inl ⟨rfl, rfl⟩))) (by decide +kernel)
/-- HotThrough.Dishes.bring -/
theorem ma_140 : mArg 140 = [2, 0, 0, 0] := rfl
noncomputable def B140 : SX 11 := seq 226 (seq 19 (ifs (cor 13 (cmp 3 (by decide) (ldi 1) (get f_11_56 (lda 0))) (cmp 3 (by decide) (ldi 1) (cst 5))) (seq 18 (cvv v_11_97 (acons (lda 0) (acons (ldi 3) (anil)))) (rtv))) (seq 32 (asti (get f_11_18 (lda 0)) (ldi 1) (get f_11_101 (get f_11_39 (lda 0)))) (seq 35 (asi 4 (cst 0)) (wk [0, 1, 2, 3, 4] (whl true 220 (cmp 2 (by decide) (ldi 4) (get f_11_76 (get f_11_27 (lda 0)))) (ifs (cz 1 (by decide) (ban (shr (ban (get f_11_43 (lda 0)) (bxo (ldi 2) (cst (-1)))) (ldi 4)) (cst 1))) (seq 86 (asi 5 (ite 77 84 (cz 0 (by decide) (ldi 1)) (aldi (get f_11_9 (lda 0)) (ldi 4)) (aldi (get f_11_15 (lda 0)) (ldi 4)))) (seq 100 (asi 6 (add (add (ldi 3) (ldi 5)) (aldi (get f_11_15 (lda 0)) (ldi 4)))) (ifs (cand 0 (cmp 5 (by decide) (ldi 6) (cst 300)) (cor 125 (cmp 0 (by decide) (get f_11_59 (lda 0)) (cst (-1))) (cmp 5 (by decide) (ldi 6) (get f_11_59 (lda 0))))) (seq 138 (put pf_11_101 (get f_11_39 (lda 0)) (aldi (get f_11_18 (lda 0)) (ldi 1))) (seq 154 (put pf_11_106 (get f_11_39 (lda 0)) (add (get f_11_103 (get f_11_31 (lda 0))) (ldi 3))) (seq 163 (cvv v_11_107 (acons (get f_11_39 (lda 0)) (acons (ldi 5) (anil)))) (seq 173 (exs (cvi v_11_110 (acons (get f_11_39 (lda 0)) (acons (ldi 4) (anil))))) (seq 181 (asti (get f_11_21 (lda 0)) (ldi 1) (ldi 4)) (ifs (cmp 0 (by decide) (cvi v_11_113 (acons (get f_11_39 (lda 0)) (acons (aldi (get f_11_15 (lda 0)) (ldi 4)) (anil)))) (aldi (get f_11_15 (lda 0)) (ldi 4))) (cvv v_11_72 (acons (lda 0) (acons (add (ldi 1) (cst 1)) (acons (bor (ldi 2) (shl (cst 1) (ldi 4))) (acons (ldi 6) (anil)))))))))))))))) (inc 4 1)))))) (rtv)
set_option maxRecDepth 100000 in
theorem O140 : BodyOK 140 (runB 140 B140) := body_q 11 140 B140 C140 dq_p11 (by eq_refl) (fun h => absurd h (by decide)) (by decide +kernel) D140 rfl (Or.inr (Or.inr (Or.inr ⟨rfl, rfl⟩))) (by decide +kernel)
/-- HotThrough.Dishes.arrived -/
theorem ma_141 : mArg 141 = [2, 0] := rfl
noncomputable def B141 : SX 11 := seq 61 (seq 22 (asi 2 (ite 20 21 (cor 16 (cmp 0 (by decide) (get f_11_59 (lda 0)) (cst (-1))) (cmp 2 (by decide) (ldi 1) (get f_11_59 (lda 0)))) (cst 1) (cst 0))) (ifs (cand 0 (cz 1 (by decide) (ldi 2)) (cmp 3 (by decide) (cvi v_11_116 (acons (lda 0) (acons (get f_11_43 (lda 0)) (acons (ldi 1) (anil))))) (get f_11_47 (lda 0)))) (seq 47 (put pf_11_59 (lda 0) (ldi 1)) (cpy y_11_120 (acons (get f_11_21 (lda 0)) (acons (cst 0) (acons (get f_11_24 (lda 0)) (acons (cst 0) (acons (cst 5) (anil)))))))))) (rtv)
set_option maxRecDepth 100000 in
theorem O141 : BodyOK 141 (runB 141 B141) := body_q 11 141 B141 C141 dq_p11 (by eq_refl) (fun h => absurd h (by decide)) (by decide +kernel) D141 rfl (Or.inr (Or.inr (Or.inr ⟨rfl, rfl⟩))) (by decide +kernel)
/-- HotThrough.Dishes.leastHeat -/
theorem ma_142 : mArg 142 = [2, 0, 0] := rfl
noncomputable def B142 : SX 11 := seq 4 (asi 3 (cst 999)) (seq 66 (seq 7 (asi 4 (cst 0)) (wk [0, 1, 2, 3, 4] (whl true 60 (cmp 2 (by decide) (ldi 4) (get f_11_76 (get f_11_27 (lda 0)))) (ifs (cz 1 (by decide) (ban (shr (ldi 1) (ldi 4)) (cst 1))) (asi 3 (csta s_11_137 (acons (ldi 3) (acons (csta s_11_132 (acons (cst 0) (acons (sub (aldi (get f_11_126 (get f_11_31 (lda 0))) (ldi 4)) (mul (aldi (get f_11_129 (get f_11_27 (lda 0))) (ldi 4)) (ldi 2))) (anil)))) (anil)))))) (inc 4 1)))) (rets 0 (ldi 3)))
set_option maxRecDepth 100000 in
theorem O142 : BodyOK 142 (runB 142 B142) := body_q 11 142 B142 C142 dq_p11 (by eq_refl) (fun h => absurd h (by decide)) (by decide +kernel) D142 rfl (Or.inl ⟨rfl, rfl⟩) (by decide +kernel)
/-- HotThrough.mark -/
theorem ma_143 : mArg 143 = [2, 0, 0] := rfl
noncomputable def B143 : SX 1 := seq 24 (ifs (cor 22 (cor 0 (cnot (cz 1 (by decide) (cvi v_1_129 (acons (get f_1_26 (lda 0)) (acons (ldi 1) (anil)))))) (cz 2 (by decide) (ldi 2))) (cmp 4 (by decide) (ldi 2) (cst 300))) (rets 0 (cst (-1)))) (rets 0 (cvi v_1_364 (acons (get f_1_92 (lda 0)) (acons (ldi 1) (acons (ldi 2) (anil))))))
set_option maxRecDepth 100000 in
theorem O143 : BodyOK 143 (runB 143 B143) := body_q 1 143 B143 C143 dq_p1 (by eq_refl) (fun h => absurd h (by decide)) (by decide +kernel) D143 rfl (Or.inl ⟨rfl, rfl⟩) (by decide +kernel)
/-- HotThrough.Marks.add -/
theorem ma_144 : mArg 144 = [2, 0, 0] := rfl
noncomputable def B144 : SX 12 := seq 11 (ifs (cmp 3 (by decide) (get f_12_35 (lda 0)) (cst 8)) (rets 0 (cst (-1)))) (seq 21 (asti (get f_12_9 (lda 0)) (get f_12_35 (lda 0)) (ldi 1)) (seq 31 (asti (get f_12_15 (lda 0)) (get f_12_35 (lda 0)) (ldi 2)) (seq 41 (popadd pf_12_35 (lda 0) (cst 1)) (rets 0 (get f_12_35 (lda 0))))))
set_option maxRecDepth 100000 in
theorem O144 : BodyOK 144 (runB 144 B144) := body_q 12 144 B144 C144 dq_p12 (by eq_refl) (fun h => absurd h (by decide)) (by decide +kernel) D144 rfl (Or.inl ⟨rfl, rfl⟩) (by decide +kernel)
/-- HotThrough.wipe -/
theorem ma_145 : mArg 145 = [2] := rfl
noncomputable def B145 : SX 1 := seq 8 (asi 1 (get f_1_367 (get f_1_92 (lda 0)))) (seq 16 (put pf_1_367 (get f_1_92 (lda 0)) (cst 0)) (rets 0 (ldi 1)))
set_option maxRecDepth 100000 in
theorem O145 : BodyOK 145 (runB 145 B145) := body_q 1 145 B145 C145 dq_p1 (by eq_refl) (fun h => absurd h (by decide)) (by decide +kernel) D145 rfl (Or.inl ⟨rfl, rfl⟩) (by decide +kernel)
/-- HotThrough.fits -/
theorem ma_146 : mArg 146 = [2, 0, 0] := rfl
noncomputable def B146 : SX 1 := seq 29 (ifs (cor 27 (cor 0 (cnot (cz 1 (by decide) (cvi v_1_129 (acons (get f_1_26 (lda 0)) (acons (ldi 1) (anil)))))) (cnot (cz 1 (by decide) (cvi v_1_129 (acons (get f_1_26 (lda 0)) (acons (ldi 2) (anil))))))) (cmp 0 (by decide) (ldi 1) (ldi 2))) (rets 0 (cst (-1)))) (seq 39 (asi 3 (cvi v_1_368 (acons (get f_1_92 (lda 0)) (acons (ldi 1) (acons (ldi 2) (anil)))))) (seq 43 (cvv v_1_255 (acons (lda 0) (anil))) (seq 79 (seq 46 (asi 4 (cst 0)) (wk [0, 1, 2, 3, 4] (whl true 73 (cmp 2 (by decide) (ldi 4) (get f_1_371 (get f_1_92 (lda 0)))) (cvv v_1_261 (acons (lda 0) (acons (cvj (aldi (get f_1_374 (get f_1_92 (lda 0))) (ldi 4))) (anil)))) (inc 4 1)))) (rets 0 (ldi 3)))))
set_option maxRecDepth 100000 in
theorem O146 : BodyOK 146 (runB 146 B146) := body_q 1 146 B146 C146 dq_p1 (by eq_refl) (fun h => absurd h (by decide)) (by decide +kernel) D146 rfl (Or.inl ⟨rfl, rfl⟩) (by decide +kernel)
/-- HotThrough.Marks.fitting -/
theorem ma_147 : mArg 147 = [2, 0, 0] := rfl
noncomputable def B147 : SX 12 := seq 21 (seq 2 (asi 3 (cst 0)) (wk [0, 1, 2, 3] (whl true 15 (cmp 2 (by decide) (ldi 3) (cst 10)) (asti (get f_12_18 (lda 0)) (ldi 3) (cst (-1))) (inc 3 1)))) (seq 26 (put pf_12_39 (lda 0) (ldi 2)) (seq 31 (put pf_12_42 (lda 0) (cst 0)) (seq 36 (put pf_12_45 (lda 0) (cst 0)) (seq 43 (cvv v_12_48 (acons (lda 0) (acons (ldi 1) (acons (cst 0) (acons (cst 0) (anil)))))) (rets 0 (get f_12_42 (lda 0)))))))
set_option maxRecDepth 100000 in
theorem O147 : BodyOK 147 (runB 147 B147) := body_q 12 147 B147 C147 dq_p12 (by eq_refl) (fun h => absurd h (by decide)) (by decide +kernel) D147 rfl (Or.inl ⟨rfl, rfl⟩) (by decide +kernel)
/-- HotThrough.Marks.visit -/
theorem ma_148 : mArg 148 = [2, 0, 0, 0] := rfl
noncomputable def B148 : SX 12 := seq 86 (seq 18 (ifs (cor 17 (cnot (cz 1 (by decide) (cvi v_12_52 (acons (get f_12_27 (lda 0)) (acons (ldi 1) (anil)))))) (cmp 3 (by decide) (ldi 2) (cst 10))) (rtv)) (seq 25 (asti (get f_12_21 (lda 0)) (ldi 2) (ldi 1)) (seq 32 (asti (get f_12_18 (lda 0)) (ldi 1) (ldi 3)) (seq 79 (ife true 50 (cmp 0 (by decide) (ldi 1) (get f_12_39 (lda 0))) (cvv v_12_58 (acons (lda 0) (acons (add (ldi 2) (cst 1)) (anil)))) (seq 53 (asi 4 (cst 0)) (wk [0, 1, 2, 3, 4] (whl true 73 (cmp 2 (by decide) (ldi 4) (get f_12_62 (get f_12_27 (lda 0)))) (cvv v_12_64 (acons (lda 0) (acons (ldi 1) (acons (ldi 4) (acons (ldi 2) (anil)))))) (inc 4 1))))) (asti (get f_12_18 (lda 0)) (ldi 1) (cst (-1))))))) (rtv)
set_option maxRecDepth 100000 in
theorem O148 : BodyOK 148 (runB 148 B148) := body_q 12 148 B148 C148 dq_p12 (by eq_refl) (fun h => absurd h (by decide)) (by decide +kernel) D148 rfl (Or.inr (Or.inr (Or.inr ⟨rfl, rfl⟩))) (by decide +kernel)
/-- HotThrough.Marks.arrived -/
theorem ma_149 : mArg 149 = [2, 0] := rfl
noncomputable def B149 : SX 12 := seq 73 (seq 37 (seq 2 (asi 2 (cst 0)) (wk [0, 1, 2] (whl true 31 (cmp 2 (by decide) (ldi 2) (get f_12_35 (lda 0))) (ifs (cmp 1 (by decide) (aldi (get f_12_18 (lda 0)) (aldi (get f_12_9 (lda 0)) (ldi 2))) (aldi (get f_12_15 (lda 0)) (ldi 2))) (rtv)) (inc 2 1)))) (seq 63 (ifs (cz 0 (by decide) (get f_12_42 (lda 0))) (seq 49 (put pf_12_45 (lda 0) (ldi 1)) (cpy y_12_86 (acons (get f_12_21 (lda 0)) (acons (cst 0) (acons (get f_12_24 (lda 0)) (acons (cst 0) (acons (ldi 1) (anil))))))))) (popadd pf_12_42 (lda 0) (cst 1)))) (rtv)
set_option maxRecDepth 100000 in
theorem O149 : BodyOK 149 (runB 149 B149) := body_q 12 149 B149 C149 dq_p12 (by eq_refl) (fun h => absurd h (by decide)) (by decide +kernel) D149 rfl (Or.inr (Or.inr (Or.inr ⟨rfl, rfl⟩))) (by decide +kernel)
/-- HotThrough.Marks.visitBy -/
theorem ma_150 : mArg 150 = [2, 0, 0, 0] := rfl
noncomputable def B150 : SX 12 := seq 89 (seq 3 (asi 4 (cst 0)) (wk [0, 1, 2, 3, 4] (whl true 83 (cand 0 (cmp 2 (by decide) (ldi 4) (get f_12_67 (get f_12_27 (lda 0)))) (cmp 0 (by decide) (aldi (get f_12_18 (lda 0)) (ldi 2)) (cst (-1)))) (ifs (cand 0 (cmp 0 (by decide) (cvi v_12_70 (acons (get f_12_27 (lda 0)) (acons (ldi 4) (acons (ldi 1) (anil))))) (ldi 2)) (cz 1 (by decide) (cvi v_12_79 (acons (get f_12_27 (lda 0)) (acons (ldi 4) (acons (get f_12_74 (get f_12_31 (lda 0))) (anil))))))) (cvv v_12_48 (acons (lda 0) (acons (ldi 2) (acons (add (ldi 3) (cst 1)) (acons (add (aldi (get f_12_18 (lda 0)) (ldi 1)) (aldi (get f_12_83 (get f_12_27 (lda 0))) (ldi 4))) (anil))))))) (inc 4 1)))) (rtv)
set_option maxRecDepth 100000 in
theorem O150 : BodyOK 150 (runB 150 B150) := body_q 12 150 B150 C150 dq_p12 (by eq_refl) (fun h => absurd h (by decide)) (by decide +kernel) D150 rfl (Or.inr (Or.inr (Or.inr ⟨rfl, rfl⟩))) (by decide +kernel)
/-- HotThrough.dinners -/
theorem ma_151 : mArg 151 = [2, 0, 0, 0, 0] := rfl
noncomputable def B151 : SX 1 := seq 34 (ifs (cor 32 (cor 0 (cor 0 (cnot (cz 1 (by decide) (cvi v_1_294 (acons (lda 0) (acons (ldi 1) (anil)))))) (cnot (cz 1 (by decide) (cvi v_1_129 (acons (get f_1_26 (lda 0)) (acons (ldi 2) (anil))))))) (cmp 2 (by decide) (ldi 4) (cst 1))) (cmp 4 (by decide) (ldi 4) (cst 50))) (rets 0 (cst (-1)))) (seq 57 (ifs (cnot (cz 1 (by decide) (cvi v_1_313 (acons (get f_1_60 (lda 0)) (acons (aldi (get f_1_197 (get f_1_33 (lda 0))) (ldi 1)) (acons (ldi 2) (anil))))))) (rets 0 (cst (-2)))) (seq 60 (asi 5 (ldi 3)) (seq 63 (asi 6 (cst 0)) (seq 66 (asi 7 (cst (-1))) (seq 69 (asi 8 (cst (-1))) (seq 205 (seq 72 (asi 9 (cst 0)) (wk [0, 1, 2, 3, 4, 5, 6, 7, 8, 9] (whl true 199 (cmp 2 (by decide) (ldi 9) (ldi 4)) (seq 91 (asi 5 (add (mul (ldi 5) (ldw k_1_377)) (cst 12345))) (seq 109 (exs (cvi v_1_218 (acons (get f_1_42 (lda 0)) (acons (ldi 1) (acons (aldi (get f_1_209 (get f_1_33 (lda 0))) (ldi 1)) (anil)))))) (seq 134 (asi 10 (csta s_1_232 (acons (cst 999) (acons (add (get f_1_302 (get f_1_42 (lda 0))) (rmi (ush (ldi 5) (cst 16)) (cst 200))) (anil))))) (seq 143 (put pf_1_302 (get f_1_42 (lda 0)) (ldi 10)) (ife true 182 (cmp 0 (by decide) (cvi v_1_310 (acons (get f_1_42 (lda 0)) (acons (get f_1_322 (get f_1_60 (lda 0))) (anil)))) (get f_1_322 (get f_1_60 (lda 0)))) (seq 170 (inc 6 1) (asi 7 (csta s_1_237 (acons (ldi 7) (acons (ldi 10) (anil)))))) (ifs (cor 195 (cmp 0 (by decide) (ldi 8) (cst (-1))) (cmp 2 (by decide) (ldi 10) (ldi 8))) (asi 8 (ldi 10)))))))) (inc 9 1)))) (seq 209 (cvv v_1_255 (acons (lda 0) (anil))) (seq 216 (cvv v_1_261 (acons (lda 0) (acons (cvj (ldi 7)) (anil)))) (seq 223 (cvv v_1_261 (acons (lda 0) (acons (cvj (ldi 8)) (anil)))) (rets 0 (ldi 6)))))))))))
set_option maxRecDepth 100000 in
theorem O151 : BodyOK 151 (runB 151 B151) := body_q 1 151 B151 C151 dq_p1 (by eq_refl) (fun h => absurd h (by decide)) (by decide +kernel) D151 rfl (Or.inl ⟨rfl, rfl⟩) (by decide +kernel)
/-- HotThrough.keep -/
theorem ma_152 : mArg 152 = [2, 0] := rfl
noncomputable def B152 : SX 1 := seq 11 (ifs (cor 9 (cz 2 (by decide) (ldi 1)) (cmp 3 (by decide) (ldi 1) (cst 3))) (rets 3 (cst 0))) (seq 24 (cvv v_1_378 (acons (alda (get f_1_96 (lda 0)) (ldi 1)) (acons (get f_1_33 (lda 0)) (anil)))) (seq 36 (popor pf_1_123 (lda 0) (shl (cst 1) (ldi 1))) (rets 3 (cst 1))))
set_option maxRecDepth 100000 in
theorem O152 : BodyOK 152 (runB 152 B152) := body_q 1 152 B152 C152 dq_p1 (by eq_refl) (fun h => absurd h (by decide)) (by decide +kernel) D152 rfl (Or.inr (Or.inr (Or.inl ⟨rfl, rfl⟩))) (by decide +kernel)
/-- HotThrough.again -/
theorem ma_153 : mArg 153 = [2, 0] := rfl
noncomputable def B153 : SX 1 := seq 22 (ifs (cor 20 (cor 0 (cz 2 (by decide) (ldi 1)) (cmp 3 (by decide) (ldi 1) (cst 3))) (cz 0 (by decide) (ban (shr (get f_1_123 (lda 0)) (ldi 1)) (cst 1)))) (rets 3 (cst 0))) (seq 35 (cvv v_1_378 (acons (get f_1_33 (lda 0)) (acons (alda (get f_1_96 (lda 0)) (ldi 1)) (anil)))) (seq 42 (cvv v_1_120 (acons (get f_1_51 (lda 0)) (anil))) (rets 3 (cst 1))))
set_option maxRecDepth 100000 in
theorem O153 : BodyOK 153 (runB 153 B153) := body_q 1 153 B153 C153 dq_p1 (by eq_refl) (fun h => absurd h (by decide)) (by decide +kernel) D153 rfl (Or.inr (Or.inr (Or.inl ⟨rfl, rfl⟩))) (by decide +kernel)
/-- HotThrough.count -/
theorem ma_154 : mArg 154 = [2, 0] := rfl
noncomputable def B154 : SX 1 := sw true (ldi 1) [([0], rets 0 (get f_1_382 (get f_1_26 (lda 0)))), ([1], rets 0 (get f_1_384 (get f_1_26 (lda 0)))), ([2], rets 0 (get f_1_139 (get f_1_26 (lda 0)))), ([3], rets 0 (get f_1_146 (get f_1_26 (lda 0)))), ([4], rets 0 (get f_1_387 (get f_1_33 (lda 0)))), ([5], rets 0 (get f_1_170 (get f_1_33 (lda 0)))), ([6], rets 0 (get f_1_188 (get f_1_33 (lda 0)))), ([7], rets 0 (cvi v_1_390 (acons (get f_1_33 (lda 0)) (acons (get f_1_146 (get f_1_26 (lda 0))) (anil))))), ([8], rets 0 (get f_1_392 (get f_1_51 (lda 0)))), ([9], rets 0 (get f_1_367 (get f_1_92 (lda 0)))), ([10], rets 0 (get f_1_395 (lda 0))), ([11], rets 0 (get f_1_112 (get f_1_10 (lda 0))))] (rets 0 (cst (-100)))
set_option maxRecDepth 100000 in
theorem O154 : BodyOK 154 (runB 154 B154) := body_q 1 154 B154 C154 dq_p1 (by eq_refl) (fun h => absurd h (by decide)) (by decide +kernel) D154 rfl (Or.inl ⟨rfl, rfl⟩) (by decide +kernel)
/-- HotThrough.State.burnings -/
theorem ma_155 : mArg 155 = [2, 0] := rfl
noncomputable def B155 : SX 5 := seq 2 (asi 2 (cst 0)) (seq 29 (seq 4 (asi 3 (cst 0)) (wk [0, 1, 2, 3] (whl true 23 (cand 0 (cmp 2 (by decide) (ldi 3) (ldi 1)) (cmp 2 (by decide) (ldi 3) (cst 5))) (asi 2 (add (ldi 2) (aldi (get f_5_36 (lda 0)) (ldi 3)))) (inc 3 1)))) (rets 0 (ldi 2)))
set_option maxRecDepth 100000 in
theorem O155 : BodyOK 155 (runB 155 B155) := body_q 5 155 B155 C155 dq_p5 (by eq_refl) (fun h => absurd h (by decide)) (by decide +kernel) D155 rfl (Or.inl ⟨rfl, rfl⟩) (by decide +kernel)
/-- HotThrough.place -/
theorem ma_156 : mArg 156 = [2, 0, 0] := rfl
noncomputable def B156 : SX 1 := seq 28 (ifs (cor 20 (cor 0 (cnot (cz 1 (by decide) (cvi v_1_129 (acons (get f_1_26 (lda 0)) (acons (ldi 1) (anil)))))) (cz 2 (by decide) (ldi 2))) (cmp 4 (by decide) (ldi 2) (cst 3))) (thr 132 134)) (sw true (ldi 2) [([0], rets 0 (aldi (get f_1_135 (get f_1_26 (lda 0))) (ldi 1))), ([1], rets 0 (cvi v_1_142 (acons (get f_1_33 (lda 0)) (acons (ldi 1) (acons (get f_1_139 (get f_1_26 (lda 0))) (anil)))))), ([2], rets 0 (cvi v_1_149 (acons (get f_1_33 (lda 0)) (acons (ldi 1) (acons (get f_1_146 (get f_1_26 (lda 0))) (anil))))))] (rets 0 (cvi v_1_152 (acons (get f_1_26 (lda 0)) (acons (ldi 1) (anil))))))
/-- HotThrough.State.potsOn -/
theorem ma_157 : mArg 157 = [2, 0, 0] := rfl
noncomputable def B157 : SX 5 := seq 2 (asi 3 (cst 0)) (seq 41 (seq 5 (asi 4 (cst 0)) (wk [0, 1, 2, 3, 4] (whl true 35 (cand 0 (cmp 2 (by decide) (ldi 4) (ldi 2)) (cmp 2 (by decide) (ldi 4) (cst 5))) (ifs (cmp 0 (by decide) (aldi (get f_5_15 (lda 0)) (ldi 4)) (ldi 1)) (asi 3 (bor (ldi 3) (shl (cst 1) (ldi 4))))) (inc 4 1)))) (rets 0 (ldi 3)))
set_option maxRecDepth 100000 in
theorem O157 : BodyOK 157 (runB 157 B157) := body_q 5 157 B157 C157 dq_p5 (by eq_refl) (fun h => absurd h (by decide)) (by decide +kernel) D157 rfl (Or.inl ⟨rfl, rfl⟩) (by decide +kernel)
/-- HotThrough.State.peopleAt -/
theorem ma_158 : mArg 158 = [2, 0, 0] := rfl
noncomputable def B158 : SX 5 := seq 2 (asi 3 (cst 0)) (seq 41 (seq 5 (asi 4 (cst 0)) (wk [0, 1, 2, 3, 4] (whl true 35 (cand 0 (cmp 2 (by decide) (ldi 4) (ldi 2)) (cmp 2 (by decide) (ldi 4) (cst 5))) (ifs (cmp 0 (by decide) (aldi (get f_5_21 (lda 0)) (ldi 4)) (ldi 1)) (asi 3 (bor (ldi 3) (shl (cst 1) (ldi 4))))) (inc 4 1)))) (rets 0 (ldi 3)))
set_option maxRecDepth 100000 in
theorem O158 : BodyOK 158 (runB 158 B158) := body_q 5 158 B158 C158 dq_p5 (by eq_refl) (fun h => absurd h (by decide)) (by decide +kernel) D158 rfl (Or.inl ⟨rfl, rfl⟩) (by decide +kernel)
/-- HotThrough.Kitchen.waysAt -/
theorem ma_159 : mArg 159 = [2, 0] := rfl
noncomputable def B159 : SX 4 := seq 2 (asi 2 (cst 0)) (seq 44 (seq 4 (asi 3 (cst 0)) (wk [0, 1, 2, 3] (whl true 38 (cmp 2 (by decide) (ldi 3) (get f_4_34 (lda 0))) (ifs (cor 32 (cmp 0 (by decide) (aldi (get f_4_15 (lda 0)) (ldi 3)) (ldi 1)) (cmp 0 (by decide) (aldi (get f_4_18 (lda 0)) (ldi 3)) (ldi 1))) (asi 2 (bor (ldi 2) (shl (cst 1) (ldi 3))))) (inc 3 1)))) (rets 0 (ldi 2)))
set_option maxRecDepth 100000 in
theorem O159 : BodyOK 159 (runB 159 B159) := body_q 4 159 B159 C159 dq_p4 (by eq_refl) (fun h => absurd h (by decide)) (by decide +kernel) D159 rfl (Or.inl ⟨rfl, rfl⟩) (by decide +kernel)
/-- HotThrough.way -/
theorem ma_160 : mArg 160 = [2, 0, 0] := rfl
noncomputable def B160 : SX 1 := seq 28 (ifs (cor 20 (cor 0 (cnot (cz 1 (by decide) (cvi v_1_155 (acons (get f_1_26 (lda 0)) (acons (ldi 1) (anil)))))) (cz 2 (by decide) (ldi 2))) (cmp 4 (by decide) (ldi 2) (cst 3))) (thr 132 134)) (sw true (ldi 2) [([0], rets 0 (aldi (get f_1_158 (get f_1_26 (lda 0))) (ldi 1))), ([1], rets 0 (aldi (get f_1_161 (get f_1_26 (lda 0))) (ldi 1))), ([2], rets 0 (aldi (get f_1_164 (get f_1_26 (lda 0))) (ldi 1)))] (rets 0 (ite 113 114 (cz 1 (by decide) (cvi v_1_167 (acons (get f_1_26 (lda 0)) (acons (ldi 1) (anil))))) (add (cst 1) (ban (shr (get f_1_170 (get f_1_33 (lda 0))) (ldi 1)) (cst 1))) (cst 0))))
/-- HotThrough.pot -/
theorem ma_161 : mArg 161 = [2, 0, 0] := rfl
noncomputable def B161 : SX 1 := seq 28 (ifs (cor 20 (cor 0 (cnot (cz 1 (by decide) (cvi v_1_173 (acons (get f_1_26 (lda 0)) (acons (ldi 1) (anil)))))) (cz 2 (by decide) (ldi 2))) (cmp 4 (by decide) (ldi 2) (cst 4))) (thr 132 134)) (sw true (ldi 2) [([0], rets 0 (aldi (get f_1_176 (get f_1_33 (lda 0))) (ldi 1))), ([1], rets 0 (aldi (get f_1_179 (get f_1_26 (lda 0))) (ldi 1))), ([2], rets 0 (aldi (get f_1_182 (get f_1_33 (lda 0))) (ldi 1))), ([3], rets 0 (aldi (get f_1_185 (get f_1_33 (lda 0))) (ldi 1)))] (rets 0 (ban (shr (get f_1_188 (get f_1_33 (lda 0))) (ldi 1)) (cst 1))))
/-- HotThrough.person -/
theorem ma_162 : mArg 162 = [2, 0, 0] := rfl
noncomputable def B162 : SX 1 := seq 29 (ifs (cor 21 (cor 0 (cnot (cz 1 (by decide) (cvi v_1_191 (acons (get f_1_26 (lda 0)) (acons (ldi 1) (anil)))))) (cz 2 (by decide) (ldi 2))) (cmp 4 (by decide) (ldi 2) (cst 8))) (thr 132 134)) (sw true (ldi 2) [([0], rets 0 (aldi (get f_1_194 (get f_1_26 (lda 0))) (ldi 1))), ([1], rets 0 (aldi (get f_1_197 (get f_1_33 (lda 0))) (ldi 1))), ([2], rets 0 (aldi (get f_1_200 (get f_1_33 (lda 0))) (mul (cst 2) (ldi 1)))), ([3], rets 0 (aldi (get f_1_200 (get f_1_33 (lda 0))) (add (mul (cst 2) (ldi 1)) (cst 1)))), ([4], rets 0 (aldi (get f_1_203 (get f_1_33 (lda 0))) (ldi 1))), ([5], rets 0 (aldi (get f_1_206 (get f_1_33 (lda 0))) (ldi 1))), ([6], rets 0 (aldi (get f_1_209 (get f_1_33 (lda 0))) (ldi 1))), ([7], rets 0 (aldi (get f_1_212 (get f_1_33 (lda 0))) (ldi 1)))] (rets 0 (cvi v_1_215 (acons (lda 0) (acons (ldi 1) (anil))))))
/-- HotThrough.throughNext -/
theorem ma_163 : mArg 163 = [2, 0] := rfl
noncomputable def B163 : SX 1 := rets 0 (ite 34 35 (cz 1 (by decide) (cvi v_1_218 (acons (get f_1_42 (lda 0)) (acons (ldi 1) (acons (aldi (get f_1_209 (get f_1_33 (lda 0))) (ldi 1)) (anil)))))) (cvi v_1_222 (acons (get f_1_19 (lda 0)) (acons (get f_1_42 (lda 0)) (anil)))) (cst 0))
set_option maxRecDepth 100000 in
theorem O163 : BodyOK 163 (runB 163 B163) := body_q 1 163 B163 C163 dq_p1 (by eq_refl) (fun h => absurd h (by decide)) (by decide +kernel) D163 rfl (Or.inl ⟨rfl, rfl⟩) (by decide +kernel)
/-- HotThrough.row -/
theorem ma_164 : mArg 164 = [2, 0] := rfl
noncomputable def B164 : SX 1 := seq 26 (ifs (cor 18 (cor 0 (cz 2 (by decide) (ldi 1)) (cmp 3 (by decide) (ldi 1) (get f_1_395 (lda 0)))) (cmp 3 (by decide) (ldi 1) (cst 16))) (thr 132 134)) (rets 1 (aldj (get f_1_100 (lda 0)) (ldi 1)))
/-- HotThroughModel.init -/
theorem ma_165 : mArg 165 = [2] := rfl
noncomputable def B165 : SX 113 := seq 4 (oini o_113_3 (lda 0)) (seq 12 (pfi (by decide) zf_113_9 (lda 0) (nwa a_15 (cst 24))) (seq 20 (pfi (by decide) zf_113_13 (lda 0) (nwa a_14 (cst 10))) (seq 28 (pfi (by decide) zf_113_17 (lda 0) (nwa a_14 (cst 14))) (seq 36 (pfi (by decide) zf_113_20 (lda 0) (nwa a_14 (cst 14))) (seq 44 (pfi (by decide) zf_113_23 (lda 0) (nwa a_14 (cst 14))) (seq 52 (pfi (by decide) zf_113_26 (lda 0) (nwa a_16 (cst 14))) (seq 59 (pfi (by decide) zf_113_30 (lda 0) (nwa a_14 (cst 5))) (seq 66 (pfi (by decide) zf_113_33 (lda 0) (nwa a_14 (cst 5))) (seq 74 (pfi (by decide) zf_113_36 (lda 0) (nwa a_14 (cst 52))) (seq 82 (pfi (by decide) zf_113_39 (lda 0) (nwa a_14 (cst 52))) (seq 90 (pfi (by decide) zf_113_42 (lda 0) (nwa a_14 (cst 80))) (seq 98 (pfi (by decide) zf_113_45 (lda 0) (nwa a_14 (cst 10))) (seq 106 (pfi (by decide) zf_113_48 (lda 0) (nwa a_14 (cst 56))) (seq 114 (pfi (by decide) zf_113_51 (lda 0) (nwa a_14 (cst 15))) (seq 122 (pfi (by decide) zf_113_54 (lda 0) (nwa a_14 (cst 10))) (seq 130 (pfi (by decide) zf_113_57 (lda 0) (nwa a_14 (cst 80))) (seq 138 (pfi (by decide) zf_113_60 (lda 0) (nwa a_14 (cst 80))) (seq 146 (pfi (by decide) zf_113_63 (lda 0) (nwa a_14 (cst 80))) (seq 154 (pfi (by decide) zf_113_66 (lda 0) (nwa a_14 (cst 8))) (seq 163 (pfi (by decide) zf_113_69 (lda 0) (nwa a_14 (cst 832))) (seq 171 (pfi (by decide) zf_113_72 (lda 0) (nwa a_14 (cst 60))) (seq 179 (pfi (by decide) zf_113_75 (lda 0) (nwa a_14 (cst 60))) (seq 187 (pfi (by decide) zf_113_78 (lda 0) (nwa a_14 (cst 60))) (seq 195 (pfi (by decide) zf_113_81 (lda 0) (nwa a_14 (cst 100))) (seq 203 (pfi (by decide) zf_113_84 (lda 0) (nwa a_14 (cst 100))) (seq 211 (pfi (by decide) zf_113_87 (lda 0) (nwa a_14 (cst 10))) (seq 219 (pfi (by decide) zf_113_90 (lda 0) (nwa a_14 (cst 10))) (seq 227 (pfi (by decide) zf_113_93 (lda 0) (nwa a_14 (cst 10))) (seq 234 (pfi (by decide) zf_113_96 (lda 0) (nwa a_14 (cst 5))) (seq 241 (pfi (by decide) zf_113_99 (lda 0) (nwa a_14 (cst 5))) (seq 249 (pfi (by decide) zf_113_102 (lda 0) (nwa a_14 (cst 30))) (seq 257 (pfi (by decide) zf_113_105 (lda 0) (nwa a_14 (cst 8))) (seq 265 (pfi (by decide) zf_113_108 (lda 0) (nwa a_14 (cst 8))) (seq 273 (pfi (by decide) zf_113_111 (lda 0) (nwa a_14 (cst 10))) (seq 281 (pfi (by decide) zf_113_114 (lda 0) (nwa a_14 (cst 10))) (seq 288 (pfi (by decide) zf_113_117 (lda 0) (nwa a_16 (cst 3))) (seq 295 (pfi (by decide) zf_113_120 (lda 0) (nwa a_14 (cst 3))) (seq 304 (pfi (by decide) zf_113_123 (lda 0) (nwa a_14 (cst 156))) (rtv)))))))))))))))))))))))))))))))))))))))
set_option maxRecDepth 100000 in
theorem O165 : BodyOK 165 (runB 165 B165) := body_q 113 165 B165 C165 dq_p113 (by eq_refl) (fun _ => by decide +kernel) (by decide +kernel) D165 rfl (Or.inr (Or.inr (Or.inr ⟨rfl, rfl⟩))) (by decide +kernel)
/-- HotThroughModel.sign -/
theorem ma_167 : mArg 167 = [2, 0] := rfl
noncomputable def B167 : SX 13 := seq 5 (put pf_13_126 (lda 0) (cst 0)) (seq 16 (ifs (cmp 4 (by decide) (get f_13_160 (lda 0)) (cst 76)) (rets 0 (cst (-1)))) (seq 53 (seq 18 (asi 2 (cst 0)) (wk [0, 1, 2] (whl true 47 (cmp 2 (by decide) (ldi 2) (cst 4)) (asti (get f_13_42 (lda 0)) (add (get f_13_160 (lda 0)) (ldi 2)) (ban (shr (ldi 1) (sub (cst 24) (mul (cst 8) (ldi 2)))) (cst 255))) (inc 2 1)))) (seq 63 (popadd pf_13_160 (lda 0) (cst 4)) (rets 0 (get f_13_160 (lda 0))))))
set_option maxRecDepth 100000 in
theorem O167 : BodyOK 167 (runB 167 B167) := body_q 13 167 B167 C167 dq_p13 (by eq_refl) (fun h => absurd h (by decide)) (by decide +kernel) D167 rfl (Or.inl ⟨rfl, rfl⟩) (by decide +kernel)
/-- HotThroughModel.end -/
theorem ma_168 : mArg 168 = [2, 0] := rfl
noncomputable def B168 : SX 13 := seq 5 (put pf_13_126 (lda 0) (cst 0)) (seq 21 (ifs (cnot (cz 1 (by decide) (csta s_13_136 (acons (cvj (ldi 1)) (acons (ljk 0) (acons (cvj (get f_13_160 (lda 0))) (anil))))))) (rets 3 (cst 0))) (seq 26 (put pf_13_160 (lda 0) (ldi 1)) (rets 3 (cst 1))))
set_option maxRecDepth 100000 in
theorem O168 : BodyOK 168 (runB 168 B168) := body_q 13 168 B168 C168 dq_p13 (by eq_refl) (fun h => absurd h (by decide)) (by decide +kernel) D168 rfl (Or.inr (Or.inr (Or.inl ⟨rfl, rfl⟩))) (by decide +kernel)
/-- HotThroughModel.in -/
theorem ma_169 : mArg 169 = [1, 1, 1] := rfl
noncomputable def B169 : SX 13 := rets 3 (ite 17 18 (cand 0 (cmj 3 (by decide) (ldj 0) (ldj 2)) (cmj 5 (by decide) (ldj 0) (ldj 4))) (cst 1) (cst 0))
set_option maxRecDepth 100000 in
theorem O169 : BodyOK 169 (runB 169 B169) := body_q 13 169 B169 C169 dq_p13 (by eq_refl) (fun h => absurd h (by decide)) (by decide +kernel) D169 rfl (Or.inr (Or.inr (Or.inl ⟨rfl, rfl⟩))) (by decide +kernel)
/-- HotThroughModel.kitchen -/
theorem ma_170 : mArg 170 = [2] := rfl
noncomputable def B170 : SX 13 := seq 5 (put pf_13_126 (lda 0) (cst 0)) (seq 12 (asi 1 (cvi v_13_250 (acons (lda 0) (acons (cst 76) (anil))))) (seq 17 (put pf_13_204 (lda 0) (cst 0)) (seq 22 (put pf_13_212 (lda 0) (cst 0)) (seq 27 (put pf_13_224 (lda 0) (cst 0)) (seq 32 (put pf_13_233 (lda 0) (cst 0)) (seq 34 (asi 2 (cst 1)) (seq 44 (asi 3 (ite 42 43 (cz 4 (by decide) (ldi 1)) (cst 1) (cst 0))) (seq 75 (wk [0, 1, 2, 3] (whl false 44 (cz 1 (by decide) (ldi 3)) (seq 53 (asi 2 (cvi v_13_253 (acons (lda 0) (anil)))) (asi 3 (ite 70 71 (cand 0 (cz 1 (by decide) (ldi 2)) (cz 1 (by decide) (cvi v_13_220 (acons (lda 0) (acons (cst 59) (anil)))))) (cst 1) (cst 0)))) (rtv))) (seq 85 (asi 4 (cvi v_13_256 (acons (lda 0) (acons (ldi 1) (acons (cst 76) (acons (ldi 2) (anil))))))) (seq 93 (ifs (cz 2 (by decide) (ldi 4)) (rets 0 (ldi 4))) (seq 137 (seq 96 (asi 5 (cst 0)) (wk [0, 1, 2, 3, 4, 5] (whl true 131 (cmp 2 (by decide) (ldi 5) (get f_13_204 (lda 0))) (seq 121 (asti (get f_13_13 (lda 0)) (get f_13_133 (lda 0)) (aldi (get f_13_45 (lda 0)) (ldi 5))) (popadd pf_13_133 (lda 0) (cst 1))) (inc 5 1)))) (seq 252 (seq 140 (asi 5 (cst 0)) (wk [0, 1, 2, 3, 4, 5] (whl true 246 (cmp 2 (by decide) (ldi 5) (get f_13_212 (lda 0))) (seq 167 (asti (get f_13_17 (lda 0)) (get f_13_146 (lda 0)) (aldi (get f_13_48 (lda 0)) (mul (cst 4) (ldi 5)))) (seq 187 (asti (get f_13_20 (lda 0)) (get f_13_146 (lda 0)) (aldi (get f_13_48 (lda 0)) (add (mul (cst 4) (ldi 5)) (cst 1)))) (seq 207 (asti (get f_13_23 (lda 0)) (get f_13_146 (lda 0)) (aldi (get f_13_48 (lda 0)) (add (mul (cst 4) (ldi 5)) (cst 2)))) (seq 236 (astz (get f_13_26 (lda 0)) (get f_13_146 (lda 0)) (ite 234 235 (cmp 0 (by decide) (aldi (get f_13_48 (lda 0)) (add (mul (cst 4) (ldi 5)) (cst 3))) (cst 1)) (cst 1) (cst 0))) (popadd pf_13_146 (lda 0) (cst 1)))))) (inc 5 1)))) (seq 360 (seq 255 (asi 5 (cst 0)) (wk [0, 1, 2, 3, 4, 5] (whl true 354 (cmp 2 (by decide) (ldi 5) (get f_13_224 (lda 0))) (seq 286 (asti (get f_13_36 (lda 0)) (add (mul (cst 3) (get f_13_140 (lda 0))) (cst 0)) (aldi (get f_13_51 (lda 0)) (mul (cst 3) (ldi 5)))) (seq 310 (asti (get f_13_36 (lda 0)) (add (mul (cst 3) (get f_13_140 (lda 0))) (cst 1)) (aldi (get f_13_51 (lda 0)) (add (mul (cst 3) (ldi 5)) (cst 2)))) (seq 324 (asti (get f_13_36 (lda 0)) (add (mul (cst 3) (get f_13_140 (lda 0))) (cst 2)) (cst 0)) (seq 344 (asti (get f_13_30 (lda 0)) (get f_13_140 (lda 0)) (aldi (get f_13_51 (lda 0)) (add (mul (cst 3) (ldi 5)) (cst 1)))) (popadd pf_13_140 (lda 0) (cst 1)))))) (inc 5 1)))) (seq 467 (seq 363 (asi 5 (cst 0)) (wk [0, 1, 2, 3, 4, 5] (whl true 461 (cmp 2 (by decide) (ldi 5) (get f_13_233 (lda 0))) (seq 390 (asti (get f_13_33 (lda 0)) (get f_13_143 (lda 0)) (aldi (get f_13_54 (lda 0)) (mul (cst 2) (ldi 5)))) (seq 451 (seq 393 (asi 6 (cst 0)) (wk [0, 1, 2, 3, 4, 5, 6] (whl true 445 (cmp 2 (by decide) (ldi 6) (cst 7)) (asti (get f_13_36 (lda 0)) (add (csta s_13_149 (acons (get f_13_143 (lda 0)) (anil))) (ldi 6)) (ite 433 444 (cz 0 (by decide) (ldi 6)) (aldi (get f_13_54 (lda 0)) (add (mul (cst 2) (ldi 5)) (cst 1))) (ite 443 444 (cmp 0 (by decide) (ldi 6) (cst 5)) (cst (-1)) (cst 0)))) (inc 6 1)))) (popadd pf_13_143 (lda 0) (cst 1)))) (inc 5 1)))) (seq 486 (ifs (cz 4 (by decide) (ldi 1)) (seq 476 (put pf_13_260 (lda 0) (cst 0)) (popadd pf_13_263 (lda 0) (cst 1)))) (rets 0 (add (add (add (get f_13_204 (lda 0)) (get f_13_212 (lda 0))) (get f_13_224 (lda 0))) (get f_13_233 (lda 0)))))))))))))))))))
set_option maxRecDepth 100000 in
theorem O170 : BodyOK 170 (runB 170 B170) := body_q 13 170 B170 C170 dq_p13 (by eq_refl) (fun h => absurd h (by decide)) (by decide +kernel) D170 rfl (Or.inl ⟨rfl, rfl⟩) (by decide +kernel)
/-- HotThroughModel.begins -/
theorem ma_171 : mArg 171 = [2, 0] := rfl
noncomputable def B171 : SX 13 := seq 5 (asi 2 (get f_13_160 (lda 0))) (seq 10 (put pf_13_160 (lda 0) (cst 0)) (seq 15 (put pf_13_163 (lda 0) (cst 0)) (seq 20 (put pf_13_166 (lda 0) (cst 0)) (seq 29 (put pf_13_175 (lda 0) (csta s_13_169 (acons (ldi 2) (acons (ldi 1) (anil))))) (rets 0 (ldi 2))))))
set_option maxRecDepth 100000 in
theorem O171 : BodyOK 171 (runB 171 B171) := body_q 13 171 B171 C171 dq_p13 (by eq_refl) (fun h => absurd h (by decide)) (by decide +kernel) D171 rfl (Or.inl ⟨rfl, rfl⟩) (by decide +kernel)
/-- HotThroughModel.readsLine -/
theorem ma_172 : mArg 172 = [2] := rfl
noncomputable def B172 : SX 13 := sw true (cvi v_13_196 (acons (lda 0) (acons (ldt t_13_236) (anil)))) [([0, 1, 2], rets 3 (cvi v_13_238 (acons (lda 0) (anil)))), ([3], rets 3 (cvi v_13_241 (acons (lda 0) (anil)))), ([4], rets 3 (cvi v_13_244 (acons (lda 0) (anil)))), ([5], rets 3 (cvi v_13_247 (acons (lda 0) (anil))))] (rets 3 (cst 0))
set_option maxRecDepth 100000 in
theorem O172 : BodyOK 172 (runB 172 B172) := body_q 13 172 B172 C172 dq_p13 (by eq_refl) (fun h => absurd h (by decide)) (by decide +kernel) D172 rfl (Or.inr (Or.inr (Or.inl ⟨rfl, rfl⟩))) (by decide +kernel)
/-- HotThroughModel.among -/
theorem ma_173 : mArg 173 = [2, 2] := rfl
noncomputable def B173 : SX 13 := seq 46 (seq 2 (asi 2 (cst 0)) (wk [0, 1, 2] (whl true 40 (cand 0 (cmp 2 (by decide) (ldi 2) (cvt c_13_186 (acons (lda 1) (anil)))) (cmp 2 (by decide) (get f_13_163 (lda 0)) (get f_13_175 (lda 0)))) (ifs (cmp 0 (by decide) (cvt c_13_192 (acons (lda 1) (acons (ldi 2) (anil)))) (aldi (get f_13_42 (lda 0)) (get f_13_163 (lda 0)))) (rets 0 (ldi 2))) (inc 2 1)))) (rets 0 (cst (-1)))
set_option maxRecDepth 100000 in
theorem O173 : BodyOK 173 (runB 173 B173) := body_q 13 173 B173 C173 dq_p13 (by eq_refl) (fun h => absurd h (by decide)) (by decide +kernel) D173 rfl (Or.inl ⟨rfl, rfl⟩) (by decide +kernel)
/-- HotThroughModel.readsPlace -/
theorem ma_176 : mArg 176 = [2] := rfl
noncomputable def B176 : SX 13 := seq 16 (ifs (cmp 0 (by decide) (add (get f_13_133 (lda 0)) (get f_13_204 (lda 0))) (cst 10)) (rets 3 (cst 0))) (seq 31 (asti (get f_13_45 (lda 0)) (get f_13_204 (lda 0)) (cvi v_13_209 (acons (lda 0) (acons (ldt t_13_207) (anil))))) (seq 41 (popadd pf_13_204 (lda 0) (cst 1)) (rets 3 (cst 1))))
set_option maxRecDepth 100000 in
theorem O176 : BodyOK 176 (runB 176 B176) := body_q 13 176 B176 C176 dq_p13 (by eq_refl) (fun h => absurd h (by decide)) (by decide +kernel) D176 rfl (Or.inr (Or.inr (Or.inl ⟨rfl, rfl⟩))) (by decide +kernel)
/-- HotThroughModel.takesOf -/
theorem ma_177 : mArg 177 = [2, 2] := rfl
noncomputable def B177 : SX 13 := seq 6 (asi 2 (cvi v_13_196 (acons (lda 0) (acons (lda 1) (anil))))) (seq 27 (popadd pf_13_163 (lda 0) (csta s_13_178 (acons (ite 19 20 (cz 3 (by decide) (ldi 2)) (cst 1) (cst 0)) (anil)))) (rets 0 (ldi 2)))
set_option maxRecDepth 100000 in
theorem O177 : BodyOK 177 (runB 177 B177) := body_q 13 177 B177 C177 dq_p13 (by eq_refl) (fun h => absurd h (by decide)) (by decide +kernel) D177 rfl (Or.inl ⟨rfl, rfl⟩) (by decide +kernel)
/-- HotThroughModel.flag -/
theorem ma_178 : mArg 178 = [0] := rfl
noncomputable def B178 : SX 13 := rets 0 (ite 8 9 (cz 1 (by decide) (ldi 0)) (cst 1) (cst 0))
set_option maxRecDepth 100000 in
theorem O178 : BodyOK 178 (runB 178 B178) := body_q 13 178 B178 C178 dq_p13 (by eq_refl) (fun h => absurd h (by decide)) (by decide +kernel) D178 rfl (Or.inl ⟨rfl, rfl⟩) (by decide +kernel)
/-- HotThroughModel.readsWay -/
theorem ma_179 : mArg 179 = [2] := rfl
noncomputable def B179 : SX 13 := seq 16 (ifs (cmp 0 (by decide) (add (get f_13_146 (lda 0)) (get f_13_212 (lda 0))) (cst 14)) (rets 3 (cst 0))) (seq 23 (asi 1 (mul (cst 4) (get f_13_212 (lda 0)))) (seq 33 (popadd pf_13_163 (lda 0) (cst 1)) (seq 43 (asti (get f_13_48 (lda 0)) (ldi 1) (cvi v_13_215 (acons (lda 0) (anil)))) (seq 86 (ifs (cor 84 (cz 2 (by decide) (aldi (get f_13_48 (lda 0)) (ldi 1))) (cand 0 (cmp 2 (by decide) (get f_13_163 (lda 0)) (get f_13_175 (lda 0))) (cmp 0 (by decide) (sub (aldi (get f_13_42 (lda 0)) (get f_13_163 (lda 0))) (cst 97)) (aldi (get f_13_48 (lda 0)) (ldi 1))))) (rets 3 (cst 0))) (seq 98 (asti (get f_13_48 (lda 0)) (add (ldi 1) (cst 1)) (cvi v_13_215 (acons (lda 0) (anil)))) (seq 111 (ifs (cz 2 (by decide) (aldi (get f_13_48 (lda 0)) (add (ldi 1) (cst 1)))) (rets 3 (cst 0))) (seq 127 (asti (get f_13_48 (lda 0)) (add (ldi 1) (cst 2)) (add (cst 1) (cvi v_13_209 (acons (lda 0) (acons (ldt t_13_218) (anil)))))) (seq 140 (ifs (cz 0 (by decide) (aldi (get f_13_48 (lda 0)) (add (ldi 1) (cst 2)))) (rets 3 (cst 0))) (seq 157 (asti (get f_13_48 (lda 0)) (add (ldi 1) (cst 3)) (csta s_13_178 (acons (cvi v_13_220 (acons (lda 0) (acons (cst 33) (anil)))) (anil)))) (seq 167 (popadd pf_13_212 (lda 0) (cst 1)) (rets 3 (cst 1))))))))))))
set_option maxRecDepth 100000 in
theorem O179 : BodyOK 179 (runB 179 B179) := body_q 13 179 B179 C179 dq_p13 (by eq_refl) (fun h => absurd h (by decide)) (by decide +kernel) D179 rfl (Or.inr (Or.inr (Or.inl ⟨rfl, rfl⟩))) (by decide +kernel)
/-- HotThroughModel.letter -/
theorem ma_180 : mArg 180 = [2] := rfl
noncomputable def B180 : SX 13 := seq 28 (asi 1 (ite 26 27 (cmp 2 (by decide) (get f_13_163 (lda 0)) (get f_13_175 (lda 0))) (sub (aldi (get f_13_42 (lda 0)) (get f_13_163 (lda 0))) (cst 97)) (cst (-1)))) (seq 51 (ifs (cnot (cz 1 (by decide) (csta s_13_136 (acons (cvj (ldi 1)) (acons (ljk 0) (acons (cvj (sub (add (get f_13_133 (lda 0)) (get f_13_204 (lda 0))) (cst 1))) (anil))))))) (rets 0 (cst (-1)))) (seq 61 (popadd pf_13_163 (lda 0) (cst 1)) (rets 0 (ldi 1))))
set_option maxRecDepth 100000 in
theorem O180 : BodyOK 180 (runB 180 B180) := body_q 13 180 B180 C180 dq_p13 (by eq_refl) (fun h => absurd h (by decide)) (by decide +kernel) D180 rfl (Or.inl ⟨rfl, rfl⟩) (by decide +kernel)
/-- HotThroughModel.takes -/
theorem ma_181 : mArg 181 = [2, 0] := rfl
noncomputable def B181 : SX 13 := seq 30 (asi 2 (ite 28 29 (cand 0 (cmp 2 (by decide) (get f_13_163 (lda 0)) (get f_13_175 (lda 0))) (cmp 0 (by decide) (aldi (get f_13_42 (lda 0)) (get f_13_163 (lda 0))) (ldi 1))) (cst 1) (cst 0))) (seq 43 (popadd pf_13_163 (lda 0) (csta s_13_178 (acons (ldi 2) (anil)))) (rets 3 (ldi 2)))
set_option maxRecDepth 100000 in
theorem O181 : BodyOK 181 (runB 181 B181) := body_q 13 181 B181 C181 dq_p13 (by eq_refl) (fun h => absurd h (by decide)) (by decide +kernel) D181 rfl (Or.inr (Or.inr (Or.inl ⟨rfl, rfl⟩))) (by decide +kernel)
/-- HotThroughModel.readsPot -/
theorem ma_182 : mArg 182 = [2] := rfl
noncomputable def B182 : SX 13 := seq 15 (ifs (cmp 0 (by decide) (add (get f_13_140 (lda 0)) (get f_13_224 (lda 0))) (cst 5)) (rets 3 (cst 0))) (seq 22 (asi 1 (mul (cst 3) (get f_13_224 (lda 0)))) (seq 32 (popadd pf_13_163 (lda 0) (cst 1)) (seq 43 (asti (get f_13_51 (lda 0)) (ldi 1) (cvi v_13_227 (acons (lda 0) (acons (cst 3) (anil))))) (seq 63 (ifs (cor 61 (cz 2 (by decide) (aldi (get f_13_51 (lda 0)) (ldi 1))) (cnot (cz 1 (by decide) (cvi v_13_220 (acons (lda 0) (acons (cst 45) (anil))))))) (rets 3 (cst 0))) (seq 76 (asti (get f_13_51 (lda 0)) (add (ldi 1) (cst 1)) (cvi v_13_227 (acons (lda 0) (acons (cst 1) (anil))))) (seq 98 (ifs (cor 96 (cz 2 (by decide) (aldi (get f_13_51 (lda 0)) (add (ldi 1) (cst 1)))) (cnot (cz 1 (by decide) (cvi v_13_220 (acons (lda 0) (acons (cst 64) (anil))))))) (rets 3 (cst 0))) (seq 110 (asti (get f_13_51 (lda 0)) (add (ldi 1) (cst 2)) (cvi v_13_215 (acons (lda 0) (anil)))) (seq 148 (ifs (cand 0 (cz 3 (by decide) (aldi (get f_13_51 (lda 0)) (add (ldi 1) (cst 2)))) (cz 0 (by decide) (cvi v_13_230 (acons (lda 0) (acons (aldi (get f_13_51 (lda 0)) (add (ldi 1) (cst 2))) (anil)))))) (seq 146 (popsub pf_13_163 (lda 0) (cst 1)) (rets 3 (cst 0)))) (seq 158 (popadd pf_13_224 (lda 0) (cst 1)) (rets 3 (ite 173 174 (cz 3 (by decide) (aldi (get f_13_51 (lda 0)) (add (ldi 1) (cst 2)))) (cst 1) (cst 0))))))))))))
set_option maxRecDepth 100000 in
theorem O182 : BodyOK 182 (runB 182 B182) := body_q 13 182 B182 C182 dq_p13 (by eq_refl) (fun h => absurd h (by decide)) (by decide +kernel) D182 rfl (Or.inr (Or.inr (Or.inl ⟨rfl, rfl⟩))) (by decide +kernel)
/-- HotThroughModel.number -/
theorem ma_183 : mArg 183 = [2, 0] := rfl
noncomputable def B183 : SX 13 := seq 9 (ifs (cnot (cz 1 (by decide) (cvi v_13_200 (acons (lda 0) (anil))))) (rets 0 (cst (-1)))) (seq 11 (asi 2 (cst 0)) (seq 59 (seq 13 (asi 3 (cst 0)) (wk [0, 1, 2, 3] (whl true 53 (cand 0 (cmp 2 (by decide) (ldi 3) (ldi 1)) (cz 1 (by decide) (cvi v_13_200 (acons (lda 0) (anil))))) (seq 43 (asi 2 (sub (add (mul (cst 10) (ldi 2)) (aldi (get f_13_42 (lda 0)) (get f_13_163 (lda 0)))) (cst 48))) (popadd pf_13_163 (lda 0) (cst 1))) (inc 3 1)))) (rets 0 (ldi 2))))
set_option maxRecDepth 100000 in
theorem O183 : BodyOK 183 (runB 183 B183) := body_q 13 183 B183 C183 dq_p13 (by eq_refl) (fun h => absurd h (by decide)) (by decide +kernel) D183 rfl (Or.inl ⟨rfl, rfl⟩) (by decide +kernel)
/-- HotThroughModel.isDigit -/
theorem ma_184 : mArg 184 = [2] := rfl
noncomputable def B184 : SX 13 := rets 3 (ite 37 38 (cand 0 (cmp 2 (by decide) (get f_13_163 (lda 0)) (get f_13_175 (lda 0))) (cz 1 (by decide) (csta s_13_136 (acons (cvj (aldi (get f_13_42 (lda 0)) (get f_13_163 (lda 0)))) (acons (ldk2 j_13_182) (acons (ldk2 j_13_184) (anil))))))) (cst 1) (cst 0))
set_option maxRecDepth 100000 in
theorem O184 : BodyOK 184 (runB 184 B184) := body_q 13 184 B184 C184 dq_p13 (by eq_refl) (fun h => absurd h (by decide)) (by decide +kernel) D184 rfl (Or.inr (Or.inr (Or.inl ⟨rfl, rfl⟩))) (by decide +kernel)
/-- HotThroughModel.kindOf -/
theorem ma_185 : mArg 185 = [2, 0] := rfl
noncomputable def B185 : SX 13 := rets 0 (ite 17 28 (cmp 2 (by decide) (ldi 1) (get f_13_133 (lda 0))) (aldi (get f_13_13 (lda 0)) (ldi 1)) (aldi (get f_13_45 (lda 0)) (sub (ldi 1) (get f_13_133 (lda 0)))))
set_option maxRecDepth 100000 in
theorem O185 : BodyOK 185 (runB 185 B185) := body_q 13 185 B185 C185 dq_p13 (by eq_refl) (fun h => absurd h (by decide)) (by decide +kernel) D185 rfl (Or.inl ⟨rfl, rfl⟩) (by decide +kernel)
/-- HotThroughModel.readsOne -/
theorem ma_186 : mArg 186 = [2] := rfl
noncomputable def B186 : SX 13 := seq 15 (ifs (cmp 0 (by decide) (add (get f_13_143 (lda 0)) (get f_13_233 (lda 0))) (cst 5)) (rets 3 (cst 0))) (seq 22 (asi 1 (mul (cst 2) (get f_13_233 (lda 0)))) (seq 32 (popadd pf_13_163 (lda 0) (cst 1)) (seq 43 (asti (get f_13_54 (lda 0)) (ldi 1) (cvi v_13_227 (acons (lda 0) (acons (cst 2) (anil))))) (seq 69 (popsub pf_13_163 (lda 0) (csta s_13_178 (acons (ite 61 62 (cz 0 (by decide) (aldi (get f_13_54 (lda 0)) (ldi 1))) (cst 1) (cst 0)) (anil)))) (seq 90 (ifs (cor 88 (cmp 2 (by decide) (aldi (get f_13_54 (lda 0)) (ldi 1)) (cst 1)) (cnot (cz 1 (by decide) (cvi v_13_220 (acons (lda 0) (acons (cst 64) (anil))))))) (rets 3 (cst 0))) (seq 102 (asti (get f_13_54 (lda 0)) (add (ldi 1) (cst 1)) (cvi v_13_215 (acons (lda 0) (anil)))) (seq 112 (popadd pf_13_233 (lda 0) (cst 1)) (rets 3 (ite 127 128 (cz 3 (by decide) (aldi (get f_13_54 (lda 0)) (add (ldi 1) (cst 1)))) (cst 1) (cst 0))))))))))
set_option maxRecDepth 100000 in
theorem O186 : BodyOK 186 (runB 186 B186) := body_q 13 186 B186 C186 dq_p13 (by eq_refl) (fun h => absurd h (by decide)) (by decide +kernel) D186 rfl (Or.inr (Or.inr (Or.inl ⟨rfl, rfl⟩))) (by decide +kernel)
/-- HotThroughModel.faultOf -/
theorem ma_187 : mArg 187 = [2, 0, 0, 0] := rfl
noncomputable def B187 : SX 13 := seq 22 (asi 4 (ite 19 20 (cand 0 (cz 1 (by decide) (ldi 3)) (cmp 0 (by decide) (get f_13_163 (lda 0)) (get f_13_175 (lda 0)))) (cst 1) (cst 0))) (seq 44 (ifs (cand 0 (cmp 4 (by decide) (ldi 1) (ldi 2)) (cor 40 (cz 1 (by decide) (ldi 4)) (cmp 3 (by decide) (get f_13_163 (lda 0)) (ldi 2)))) (rets 0 (sub (cst (-1)) (ldi 2)))) (rets 0 (ite 53 59 (cz 1 (by decide) (ldi 4)) (cst 0) (sub (cst (-1)) (get f_13_163 (lda 0))))))
set_option maxRecDepth 100000 in
theorem O187 : BodyOK 187 (runB 187 B187) := body_q 13 187 B187 C187 dq_p13 (by eq_refl) (fun h => absurd h (by decide)) (by decide +kernel) D187 rfl (Or.inl ⟨rfl, rfl⟩) (by decide +kernel)
/-- HotThroughModel.one -/
theorem ma_188 : mArg 188 = [0] := rfl
noncomputable def B188 : SX 13 := rets 0 (add (cst 15) (mul (cst 7) (ldi 0)))
set_option maxRecDepth 100000 in
theorem O188 : BodyOK 188 (runB 188 B188) := body_q 13 188 B188 C188 dq_p13 (by eq_refl) (fun h => absurd h (by decide)) (by decide +kernel) D188 rfl (Or.inl ⟨rfl, rfl⟩) (by decide +kernel)
/-- HotThroughModel.rule -/
theorem ma_189 : mArg 189 = [2] := rfl
noncomputable def B189 : SX 13 := seq 5 (put pf_13_126 (lda 0) (cst 0)) (seq 12 (asi 1 (cvi v_13_250 (acons (lda 0) (acons (cst 40) (anil))))) (seq 17 (put pf_13_266 (lda 0) (cst 0)) (seq 35 (asi 2 (ite 33 34 (cor 29 (cz 0 (by decide) (ldi 1)) (cz 1 (by decide) (cvi v_13_278 (acons (lda 0) (acons (cst 0) (anil)))))) (cst 1) (cst 0))) (seq 44 (asi 3 (cvi v_13_256 (acons (lda 0) (acons (ldi 1) (acons (cst 40) (acons (ldi 2) (anil))))))) (seq 50 (ifs (cz 2 (by decide) (ldi 3)) (rets 0 (ldi 3))) (seq 58 (put pf_13_287 (lda 0) (get f_13_266 (lda 0))) (seq 90 (seq 61 (asi 4 (cst 0)) (wk [0, 1, 2, 3, 4] (whl true 84 (cmp 2 (by decide) (ldi 4) (get f_13_266 (lda 0))) (asti (get f_13_57 (lda 0)) (ldi 4) (aldi (get f_13_60 (lda 0)) (ldi 4))) (inc 4 1)))) (rets 0 (cst 0)))))))))
set_option maxRecDepth 100000 in
theorem O189 : BodyOK 189 (runB 189 B189) := body_q 13 189 B189 C189 dq_p13 (by eq_refl) (fun h => absurd h (by decide)) (by decide +kernel) D189 rfl (Or.inl ⟨rfl, rfl⟩) (by decide +kernel)
/-- HotThroughModel.readsRank -/
theorem ma_190 : mArg 190 = [2, 0] := rfl
noncomputable def B190 : SX 13 := seq 10 (ifs (cmp 0 (by decide) (ldi 1) (cst 3)) (rets 3 (cvi v_13_269 (acons (lda 0) (anil))))) (seq 22 (ifs (cnot (cz 1 (by decide) (cvi v_13_278 (acons (lda 0) (acons (add (ldi 1) (cst 1)) (anil)))))) (rets 3 (cst 0))) (seq 24 (asi 2 (cst 1)) (seq 116 (wk [0, 1, 2] (whl false 24 (cz 1 (by decide) (ldi 2)) (seq 57 (asi 3 (cvi v_13_209 (acons (lda 0) (acons (ite 39 53 (cz 0 (by decide) (ldi 1)) (ldtw t_13_281) (ite 50 53 (cmp 0 (by decide) (ldi 1) (cst 1)) (ldtw t_13_283) (ldtw t_13_285))) (anil))))) (seq 63 (ifs (cz 2 (by decide) (ldi 3)) (rets 3 (cst 1))) (seq 75 (ifs (cnot (cz 1 (by decide) (cvi v_13_278 (acons (lda 0) (acons (add (ldi 1) (cst 1)) (anil)))))) (rets 3 (cst 0))) (seq 103 (cvv v_13_272 (acons (lda 0) (acons (add (add (cst 2000) (ldi 3)) (ite 89 99 (cz 0 (by decide) (ldi 1)) (cst 0) (ite 98 99 (cmp 0 (by decide) (ldi 1) (cst 1)) (cst 3) (cst 5)))) (anil)))) (asi 2 (ite 111 112 (cz 4 (by decide) (ldi 1)) (cst 1) (cst 0))))))) (rtv))) (rets 3 (cst 1)))))
set_option maxRecDepth 100000 in
theorem O190 : BodyOK 190 (runB 190 B190) := body_q 13 190 B190 C190 dq_p13 (by eq_refl) (fun h => absurd h (by decide)) (by decide +kernel) D190 rfl (Or.inr (Or.inr (Or.inl ⟨rfl, rfl⟩))) (by decide +kernel)
/-- HotThroughModel.readsThing -/
theorem ma_191 : mArg 191 = [2] := rfl
noncomputable def B191 : SX 13 := seq 23 (ifs (cz 1 (by decide) (cvi v_13_220 (acons (lda 0) (acons (cst 45) (anil))))) (seq 14 (asi 1 (cvi v_13_269 (acons (lda 0) (anil)))) (seq 21 (cvv v_13_272 (acons (lda 0) (acons (cst 3000) (anil)))) (rets 3 (ldi 1))))) (seq 41 (ifs (cz 1 (by decide) (cvi v_13_200 (acons (lda 0) (anil)))) (seq 39 (cvv v_13_272 (acons (lda 0) (acons (cvi v_13_227 (acons (lda 0) (acons (cst 3) (anil)))) (anil)))) (rets 3 (cst 1)))) (seq 49 (asi 1 (cvi v_13_209 (acons (lda 0) (acons (ldtw t_13_276) (anil))))) (seq 64 (ifs (cz 3 (by decide) (ldi 1)) (seq 62 (cvv v_13_272 (acons (lda 0) (acons (add (cst 1000) (ldi 1)) (anil)))) (rets 3 (cst 1)))) (seq 83 (ifs (cor 81 (cmp 0 (by decide) (get f_13_166 (lda 0)) (cst 4)) (cnot (cz 1 (by decide) (cvi v_13_220 (acons (lda 0) (acons (cst 40) (anil))))))) (rets 3 (cst 0))) (seq 93 (popadd pf_13_166 (lda 0) (cst 1)) (seq 112 (ifs (cor 110 (cnot (cz 1 (by decide) (cvi v_13_278 (acons (lda 0) (acons (cst 0) (anil)))))) (cnot (cz 1 (by decide) (cvi v_13_220 (acons (lda 0) (acons (cst 41) (anil))))))) (rets 3 (cst 0))) (seq 122 (popsub pf_13_166 (lda 0) (cst 1)) (rets 3 (cst 1)))))))))
set_option maxRecDepth 100000 in
theorem O191 : BodyOK 191 (runB 191 B191) := body_q 13 191 B191 C191 dq_p13 (by eq_refl) (fun h => absurd h (by decide)) (by decide +kernel) D191 rfl (Or.inr (Or.inr (Or.inl ⟨rfl, rfl⟩))) (by decide +kernel)
/-- HotThroughModel.codes -/
theorem ma_192 : mArg 192 = [2, 0] := rfl
noncomputable def B192 : SX 13 := seq 20 (seq 10 (asti (get f_13_60 (lda 0)) (get f_13_266 (lda 0)) (ldi 1)) (popadd pf_13_266 (lda 0) (cst 1))) (rtv)
set_option maxRecDepth 100000 in
theorem O192 : BodyOK 192 (runB 192 B192) := body_q 13 192 B192 C192 dq_p13 (by eq_refl) (fun h => absurd h (by decide)) (by decide +kernel) D192 rfl (Or.inr (Or.inr (Or.inr ⟨rfl, rfl⟩))) (by decide +kernel)
