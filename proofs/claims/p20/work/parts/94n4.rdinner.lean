section
def DnR (m m' : Mem) : Prop := ∀ x j, ¬ (x = 249 ∧ (j = 0 ∨ (18 ≤ j ∧ j ≤ 21) ∨ j = 44)) → ¬ (270 ≤ x ∧ x ≤ 272) → m' x j = m x j
theorem D235_fin {tc pl e i s : Int} {g : Fg} {m m1 m3 m4 m5 : Mem} {X : Int × AS} {Q : Int → Sto → Prop} (hu : 0 ≤ m1 249 39 ∧ m1 249 39 ≤ 15) (h3 : FB (NTR m1) m3) (hF : DnR m m1) (h1 : X.1 = i) (h2 : X.2 = asR m3 258 0) (hq : ∀ v m', JR 3 g tc pl m' → v = X.1 → ACR m m' (if v = 0 then -1 else v) → asR m' 258 0 = X.2 → Q v (S9 e m')) (hs : s = if i = 0 then -1 else i) (h4 : s < 0 ∧ m4 = m5 ∨ 0 ≤ s ∧ ADR m5 m4) (hJ : JR 3 g tc pl m4) (hr : RwR m3 m5) : Q i (S9 e m4) := by
  subst hs
  refine ACR_end (m := m1) (v := i) (X := (i, asR m3 258 0)) hu h3 rfl (fun m9 j a b => hq i m9 j h1.symm ?_ (by rw [h2]; exact congrArg Prod.snd b)) h4 hJ hr
  have e39 : m1 249 39 = m 249 39 := hF 249 39 (by omega) (by omega)
  have e58 : ∀ y, m1 258 y = m 258 y := fun y => hF 258 y (by omega) (by omega)
  have e69 : ∀ y, m1 269 y = m 269 y := fun y => hF 269 y (by omega) (by omega)
  obtain ⟨b1, b2⟩ := a
  simp only [e39, e58, e69] at b2
  exact ⟨fun x j q => (b1 x j q).trans (hF x j (by omega) (by omega)), b2⟩
set_option maxHeartbeats 1500000 in
theorem f_235 {d : Nat} {tc pl e : Int} {g : Fg} {m : Mem} {Q : Int → Sto → Prop} {R : ENV → Int} {L : Int} (hJ : JR 3 g tc pl m) (hI : IV L (m 249 5) (m 249 6) (asR m 258 0)) (hK : KR2 m) (hR : RuR m R) (hW : WBR L m) (h0 : DF (m 260) tc < 0 → ∀ m', JR 3 g 0 pl m' → DnR m m' → Q (DF (m 260) tc) (S9 e m')) (hq : DF (m 260) tc = 0 → ∀ v m', JR 3 g 0 pl m' → v = (runs (doR m R) (DN (m 260) tc).2.2 (x0R m)).1 → ACR m m' (if v = 0 then -1 else v) → asR m' 258 0 = (runs (doR m R) (DN (m 260) tc).2.2 (x0R m)).2 → Q v (S9 e m')) : Cl (d + 10) 235 [249] Q (S9 e m) := by
  have hL := JR_l hJ
  have hs := JR_s hJ
  have eH : ((m 249 6).toNat : Int) = m 249 6 := by omega
  have eP : ((m 249 5).toNat : Int) = m 249 5 := by omega
  simp only [cl_235, runB, B235, ma_235, rho_2, wf_13_304, wf_13_399, wpf_13_126, wpf_13_130, wpopadd_pf_13_130, wpf_13_399, wpopadd_pf_13_399, wc_171, wc_178, wc_181, wc_187, wc_215, wc_218, wc_222, wc_225, wc_236, wc_237, cl_222, B222, ma_222, wpf_13_304, wpopadd_pf_13_304, wpf_13_307, wpopor_pf_13_307, wpf_13_310, wpopor_pf_13_310, cl_225, B225, ma_225, rho_21, wf_13_130, wf_13_9, w_cst, w_ldi, w_ldj, w_lda, w_ljk, w_ldk, w_ldw, w_ldk2, w_ldt, w_ldtw, w_neg, w_cvb, w_cvs, w_cvc, w_cvj, w_add, w_sub, w_mul, w_ban, w_bor, w_bxo, w_shl, w_shr, w_ush, w_dvi, w_rmi, w_aldi, w_aldj, w_aldz, w_aldc, w_alda, w_ite, w_cmp, w_cmj, w_cz, w_cnot, w_cand, w_cor, w_nil, w_cons, w_cvi, w_csta, w_cvt, w_cvv, w_csv, w_cpy, w_seq, w_sbr, w_sbn, w_brk, w_ifs, w_ifx, w_ife, w_wk, w_rets, w_rtv, w_thr, w_asi, w_asj, w_asa, w_inc, w_exs, w_asti, w_astj, w_astz, w_astc, w_aopadd, w_aopsub, w_sw, if_true, if_false, ↓reduceIte, hdl_c, S9_1, S9_m, bud9, live9, inb9, wrn, wr9_14, wr9_15, wr9_16, wr9_17, tq9_14, tq9_15, tq9_16, tq9_17, tq_0, tq_1, tq_3, upr_rl, rl_0, rl_1, rl_2, rl_3, rl_4, rl_5, rl_6, rl_7, rl_8, rl_9, rl_10, rl_11, rl_12, rl_13, sp_0, sp_1, sp_2, sp_3, sp_4, sp_5, sp_6, sp_7, sp_8, sp_9, sp_10, sp_11, sp_12, sp_13, se_0, se_1, se_2, se_3, se_4, se_5, se_6, se_7, se_8, se_9, se_10, se_11, se_12, se_13, sem_0, sem_1, sem_2, sem_3, sem_4, sem_5, kc_249, kl9_249, sr_249_10, sr_249_11, sr_249_12, sr_249_13, sr_249_14, sr_249_15, sr_249_16, sr_249_17, sr_249_2, sr_249_22, sr_249_23, sr_249_24, sr_249_25, sr_249_30, sr_249_31, sr_249_34, sr_249_35, sr_249_40, sr_249_41, sr_249_42, sr_249_43, sr_249_50, sr_249_51, sr_249_52, sr_249_54, sr_249_55, sr_249_57, sr_249_58, sr_249_61, sr_249_63, sr_249_64, sr_249_67, sr_249_68, sr_249_69, sr_249_70, sr_249_71, sr_249_8, sr_249_9, kc_250, kl9_250, kc_258, kl9_258, kc_260, kl9_260, kc_269, kl9_269, kc_270, kl9_270, List.getD_cons_zero, List.getD_cons_succ, Bool.false_eq_true, wrn3, wrn1, cpmS, cpok9, upm_app, Int.reduceEq, and_self, and_true, true_and, and_false, false_and, if_true, if_false, ↓reduceIte, Int.reduceToNat, upm_f, Int.reduceEq, Int.reduceNe, ne_eq, not_false_eq_true, not_true_eq_false]
  repeat' (first
    | (with_reducible exact True.intro)
    | (with_reducible exact False.elim)
    | (with_reducible rfl)
    | (with_reducible refine And.intro ?_ ?_)
    | intro _
    | ((with_reducible refine p_171x ?_ ?_ (fun t9 ht9 => ?_)); (next => simp only [upm_app, Int.reduceEq, and_self, and_true, true_and, and_false, false_and, if_true, if_false, ↓reduceIte, Int.reduceToNat, upm_f, Int.reduceEq, Int.reduceNe, ne_eq, not_false_eq_true, not_true_eq_false]; omega); (next => decide); (simp only [upm_app, Int.reduceEq, and_self, and_true, true_and, and_false, false_and, if_true, if_false, ↓reduceIte, Int.reduceToNat, upm_f, Int.reduceEq, Int.reduceNe, ne_eq, not_false_eq_true, not_true_eq_false, hs.1] at ht9); simp only [hdl_c, S9_1, S9_m, bud9, live9, inb9, wrn, wr9_14, wr9_15, wr9_16, wr9_17, tq9_14, tq9_15, tq9_16, tq9_17, tq_0, tq_1, tq_3, upr_rl, rl_0, rl_1, rl_2, rl_3, rl_4, rl_5, rl_6, rl_7, rl_8, rl_9, rl_10, rl_11, rl_12, rl_13, sp_0, sp_1, sp_2, sp_3, sp_4, sp_5, sp_6, sp_7, sp_8, sp_9, sp_10, sp_11, sp_12, sp_13, se_0, se_1, se_2, se_3, se_4, se_5, se_6, se_7, se_8, se_9, se_10, se_11, se_12, se_13, sem_0, sem_1, sem_2, sem_3, sem_4, sem_5, List.getD_cons_zero, List.getD_cons_succ, Bool.false_eq_true, wrn3, wrn1, cpmS, cpok9, if_true, if_false, ↓reduceIte, wc_171, wc_178, wc_181, wc_187, wc_215, wc_218, wc_222, wc_225, wc_236, wc_237, cl_222, runB, B222, ma_222, rho_2, wpf_13_304, wpopadd_pf_13_304, wpf_13_307, wpopor_pf_13_307, wpf_13_310, wpopor_pf_13_310, cl_225, B225, ma_225, rho_21, wf_13_130, wf_13_9, wpf_13_130, wpopadd_pf_13_130, w_cst, w_ldi, w_ldj, w_lda, w_ljk, w_ldk, w_ldw, w_ldk2, w_ldt, w_ldtw, w_neg, w_cvb, w_cvs, w_cvc, w_cvj, w_add, w_sub, w_mul, w_ban, w_bor, w_bxo, w_shl, w_shr, w_ush, w_dvi, w_rmi, w_aldi, w_aldj, w_aldz, w_aldc, w_alda, w_ite, w_cmp, w_cmj, w_cz, w_cnot, w_cand, w_cor, w_nil, w_cons, w_cvi, w_csta, w_cvt, w_cvv, w_csv, w_cpy, w_seq, w_sbr, w_sbn, w_brk, w_ifs, w_ifx, w_ife, w_wk, w_rets, w_rtv, w_thr, w_asi, w_asj, w_asa, w_inc, w_exs, w_asti, w_astj, w_astz, w_astc, w_aopadd, w_aopsub, w_sw, if_true, if_false, ↓reduceIte, kc_249, kl9_249, sr_249_10, sr_249_11, sr_249_12, sr_249_13, sr_249_14, sr_249_15, sr_249_16, sr_249_17, sr_249_2, sr_249_22, sr_249_23, sr_249_24, sr_249_25, sr_249_30, sr_249_31, sr_249_34, sr_249_35, sr_249_40, sr_249_41, sr_249_42, sr_249_43, sr_249_50, sr_249_51, sr_249_52, sr_249_54, sr_249_55, sr_249_57, sr_249_58, sr_249_61, sr_249_63, sr_249_64, sr_249_67, sr_249_68, sr_249_69, sr_249_70, sr_249_71, sr_249_8, sr_249_9, kc_250, kl9_250, kc_258, kl9_258, kc_260, kl9_260, kc_269, kl9_269, kc_270, kl9_270, upm_app, Int.reduceEq, and_self, and_true, true_and, and_false, false_and, if_true, if_false, ↓reduceIte, Int.reduceToNat, upm_f, Int.reduceEq, Int.reduceNe, ne_eq, not_false_eq_true, not_true_eq_false, hs.1])
    | ((with_reducible refine p_187y ?_ ?_ (fun v9 h9 => ?_)); (next => omega); (next => decide); have hV : v9 = DF (m 260) tc := (by rcases hc1 with ⟨l, q1, q2, q3, q4, q5⟩ | ⟨q1, q2⟩; (next => by_cases hz : (DN (m 260) tc).2.1 = min tc 60; (next => by_cases hy : tc ≤ 60; (next => rw [DF_0 q4 hz hy]; omega); (next => rw [DF_o q4 hz hy]; omega)); (next => rw [DF_n (fun q => hz q.2)]; omega)); (next => rw [DF_n (fun q => q2 q.1)]; omega)); have hV0 : v9 ≤ 0 := (by omega); clear h9; (try simp only [hdl_c, S9_1, S9_m, bud9, live9, inb9, wrn, wr9_14, wr9_15, wr9_16, wr9_17, tq9_14, tq9_15, tq9_16, tq9_17, tq_0, tq_1, tq_3, upr_rl, rl_0, rl_1, rl_2, rl_3, rl_4, rl_5, rl_6, rl_7, rl_8, rl_9, rl_10, rl_11, rl_12, rl_13, sp_0, sp_1, sp_2, sp_3, sp_4, sp_5, sp_6, sp_7, sp_8, sp_9, sp_10, sp_11, sp_12, sp_13, se_0, se_1, se_2, se_3, se_4, se_5, se_6, se_7, se_8, se_9, se_10, se_11, se_12, se_13, sem_0, sem_1, sem_2, sem_3, sem_4, sem_5, List.getD_cons_zero, List.getD_cons_succ, Bool.false_eq_true, wrn3, wrn1, cpmS, cpok9, if_true, if_false, ↓reduceIte, wc_171, wc_178, wc_181, wc_187, wc_215, wc_218, wc_222, wc_225, wc_236, wc_237, cl_222, runB, B222, ma_222, rho_2, wpf_13_304, wpopadd_pf_13_304, wpf_13_307, wpopor_pf_13_307, wpf_13_310, wpopor_pf_13_310, cl_225, B225, ma_225, rho_21, wf_13_130, wf_13_9, wpf_13_130, wpopadd_pf_13_130, w_cst, w_ldi, w_ldj, w_lda, w_ljk, w_ldk, w_ldw, w_ldk2, w_ldt, w_ldtw, w_neg, w_cvb, w_cvs, w_cvc, w_cvj, w_add, w_sub, w_mul, w_ban, w_bor, w_bxo, w_shl, w_shr, w_ush, w_dvi, w_rmi, w_aldi, w_aldj, w_aldz, w_aldc, w_alda, w_ite, w_cmp, w_cmj, w_cz, w_cnot, w_cand, w_cor, w_nil, w_cons, w_cvi, w_csta, w_cvt, w_cvv, w_csv, w_cpy, w_seq, w_sbr, w_sbn, w_brk, w_ifs, w_ifx, w_ife, w_wk, w_rets, w_rtv, w_thr, w_asi, w_asj, w_asa, w_inc, w_exs, w_asti, w_astj, w_astz, w_astc, w_aopadd, w_aopsub, w_sw, if_true, if_false, ↓reduceIte, kc_249, kl9_249, sr_249_10, sr_249_11, sr_249_12, sr_249_13, sr_249_14, sr_249_15, sr_249_16, sr_249_17, sr_249_2, sr_249_22, sr_249_23, sr_249_24, sr_249_25, sr_249_30, sr_249_31, sr_249_34, sr_249_35, sr_249_40, sr_249_41, sr_249_42, sr_249_43, sr_249_50, sr_249_51, sr_249_52, sr_249_54, sr_249_55, sr_249_57, sr_249_58, sr_249_61, sr_249_63, sr_249_64, sr_249_67, sr_249_68, sr_249_69, sr_249_70, sr_249_71, sr_249_8, sr_249_9, kc_250, kl9_250, kc_258, kl9_258, kc_260, kl9_260, kc_269, kl9_269, kc_270, kl9_270, upm_app, Int.reduceEq, and_self, and_true, true_and, and_false, false_and, if_true, if_false, ↓reduceIte, Int.reduceToNat, upm_f, Int.reduceEq, Int.reduceNe, ne_eq, not_false_eq_true, not_true_eq_false]))
    | ((with_reducible refine p_215x ?_ (fun w9 => ?_)); (next => rw [hF2 249 39 (by omega) (by omega)]; omega); (try simp only [hdl_c, S9_1, S9_m, bud9, live9, inb9, wrn, wr9_14, wr9_15, wr9_16, wr9_17, tq9_14, tq9_15, tq9_16, tq9_17, tq_0, tq_1, tq_3, upr_rl, rl_0, rl_1, rl_2, rl_3, rl_4, rl_5, rl_6, rl_7, rl_8, rl_9, rl_10, rl_11, rl_12, rl_13, sp_0, sp_1, sp_2, sp_3, sp_4, sp_5, sp_6, sp_7, sp_8, sp_9, sp_10, sp_11, sp_12, sp_13, se_0, se_1, se_2, se_3, se_4, se_5, se_6, se_7, se_8, se_9, se_10, se_11, se_12, se_13, sem_0, sem_1, sem_2, sem_3, sem_4, sem_5, List.getD_cons_zero, List.getD_cons_succ, Bool.false_eq_true, wrn3, wrn1, cpmS, cpok9, if_true, if_false, ↓reduceIte, wc_171, wc_178, wc_181, wc_187, wc_215, wc_218, wc_222, wc_225, wc_236, wc_237, cl_222, runB, B222, ma_222, rho_2, wpf_13_304, wpopadd_pf_13_304, wpf_13_307, wpopor_pf_13_307, wpf_13_310, wpopor_pf_13_310, cl_225, B225, ma_225, rho_21, wf_13_130, wf_13_9, wpf_13_130, wpopadd_pf_13_130, w_cst, w_ldi, w_ldj, w_lda, w_ljk, w_ldk, w_ldw, w_ldk2, w_ldt, w_ldtw, w_neg, w_cvb, w_cvs, w_cvc, w_cvj, w_add, w_sub, w_mul, w_ban, w_bor, w_bxo, w_shl, w_shr, w_ush, w_dvi, w_rmi, w_aldi, w_aldj, w_aldz, w_aldc, w_alda, w_ite, w_cmp, w_cmj, w_cz, w_cnot, w_cand, w_cor, w_nil, w_cons, w_cvi, w_csta, w_cvt, w_cvv, w_csv, w_cpy, w_seq, w_sbr, w_sbn, w_brk, w_ifs, w_ifx, w_ife, w_wk, w_rets, w_rtv, w_thr, w_asi, w_asj, w_asa, w_inc, w_exs, w_asti, w_astj, w_astz, w_astc, w_aopadd, w_aopsub, w_sw, if_true, if_false, ↓reduceIte, kc_249, kl9_249, sr_249_10, sr_249_11, sr_249_12, sr_249_13, sr_249_14, sr_249_15, sr_249_16, sr_249_17, sr_249_2, sr_249_22, sr_249_23, sr_249_24, sr_249_25, sr_249_30, sr_249_31, sr_249_34, sr_249_35, sr_249_40, sr_249_41, sr_249_42, sr_249_43, sr_249_50, sr_249_51, sr_249_52, sr_249_54, sr_249_55, sr_249_57, sr_249_58, sr_249_61, sr_249_63, sr_249_64, sr_249_67, sr_249_68, sr_249_69, sr_249_70, sr_249_71, sr_249_8, sr_249_9, kc_250, kl9_250, kc_258, kl9_258, kc_260, kl9_260, kc_269, kl9_269, kc_270, kl9_270, upm_app, Int.reduceEq, and_self, and_true, true_and, and_false, false_and, if_true, if_false, ↓reduceIte, Int.reduceToNat, upm_f, Int.reduceEq, Int.reduceNe, ne_eq, not_false_eq_true, not_true_eq_false]))
    | (with_reducible refine p_178 (fun v9 h9 => ?_); simp only [hdl_c, S9_1, S9_m, bud9, live9, inb9, wrn, wr9_14, wr9_15, wr9_16, wr9_17, tq9_14, tq9_15, tq9_16, tq9_17, tq_0, tq_1, tq_3, upr_rl, rl_0, rl_1, rl_2, rl_3, rl_4, rl_5, rl_6, rl_7, rl_8, rl_9, rl_10, rl_11, rl_12, rl_13, sp_0, sp_1, sp_2, sp_3, sp_4, sp_5, sp_6, sp_7, sp_8, sp_9, sp_10, sp_11, sp_12, sp_13, se_0, se_1, se_2, se_3, se_4, se_5, se_6, se_7, se_8, se_9, se_10, se_11, se_12, se_13, sem_0, sem_1, sem_2, sem_3, sem_4, sem_5, List.getD_cons_zero, List.getD_cons_succ, Bool.false_eq_true, wrn3, wrn1, cpmS, cpok9, if_true, if_false, ↓reduceIte, wc_171, wc_178, wc_181, wc_187, wc_215, wc_218, wc_222, wc_225, wc_236, wc_237, cl_222, runB, B222, ma_222, rho_2, wpf_13_304, wpopadd_pf_13_304, wpf_13_307, wpopor_pf_13_307, wpf_13_310, wpopor_pf_13_310, cl_225, B225, ma_225, rho_21, wf_13_130, wf_13_9, wpf_13_130, wpopadd_pf_13_130, w_cst, w_ldi, w_ldj, w_lda, w_ljk, w_ldk, w_ldw, w_ldk2, w_ldt, w_ldtw, w_neg, w_cvb, w_cvs, w_cvc, w_cvj, w_add, w_sub, w_mul, w_ban, w_bor, w_bxo, w_shl, w_shr, w_ush, w_dvi, w_rmi, w_aldi, w_aldj, w_aldz, w_aldc, w_alda, w_ite, w_cmp, w_cmj, w_cz, w_cnot, w_cand, w_cor, w_nil, w_cons, w_cvi, w_csta, w_cvt, w_cvv, w_csv, w_cpy, w_seq, w_sbr, w_sbn, w_brk, w_ifs, w_ifx, w_ife, w_wk, w_rets, w_rtv, w_thr, w_asi, w_asj, w_asa, w_inc, w_exs, w_asti, w_astj, w_astz, w_astc, w_aopadd, w_aopsub, w_sw, if_true, if_false, ↓reduceIte, kc_249, kl9_249, sr_249_10, sr_249_11, sr_249_12, sr_249_13, sr_249_14, sr_249_15, sr_249_16, sr_249_17, sr_249_2, sr_249_22, sr_249_23, sr_249_24, sr_249_25, sr_249_30, sr_249_31, sr_249_34, sr_249_35, sr_249_40, sr_249_41, sr_249_42, sr_249_43, sr_249_50, sr_249_51, sr_249_52, sr_249_54, sr_249_55, sr_249_57, sr_249_58, sr_249_61, sr_249_63, sr_249_64, sr_249_67, sr_249_68, sr_249_69, sr_249_70, sr_249_71, sr_249_8, sr_249_9, kc_250, kl9_250, kc_258, kl9_258, kc_260, kl9_260, kc_269, kl9_269, kc_270, kl9_270, upm_app, Int.reduceEq, and_self, and_true, true_and, and_false, false_and, if_true, if_false, ↓reduceIte, Int.reduceToNat, upm_f, Int.reduceEq, Int.reduceNe, ne_eq, not_false_eq_true, not_true_eq_false]; (try simp (disch := omega) only [w15_0, w15_1, w15_3, w15_4, w15_5, w15_6, w3_0, w3_1, w3_2, upm_app, Int.reduceEq, and_self, and_true, true_and, and_false, false_and, if_true, if_false, ↓reduceIte]))
    | (with_reducible refine p_181x ?_ ?_ (fun v9 x9 h9 => ?_); (next => first | ((try simp only [upm_app, Int.reduceEq, and_self, and_true, true_and, and_false, false_and, if_true, if_false, ↓reduceIte]); first | omega | (unfold w32; omega) | (unfold w32 at *; omega)) | (refine stx_c ?_; decide) | omega | (with_reducible rfl) | decide | (unfold w32; omega) | (simp (disch := omega) only [w32_eq]; omega) | (simp [upm] <;> (first | omega | (unfold w32; omega)))); (next => first | ((try simp only [upm_app, Int.reduceEq, and_self, and_true, true_and, and_false, false_and, if_true, if_false, ↓reduceIte]); first | omega | (unfold w32; omega) | (unfold w32 at *; omega)) | (refine stx_c ?_; decide) | omega | (with_reducible rfl) | decide | (unfold w32; omega) | (simp (disch := omega) only [w32_eq]; omega) | (simp [upm] <;> (first | omega | (unfold w32; omega)))); (try simp only [upm_app, Int.reduceEq, and_self, and_true, true_and, and_false, false_and, if_true, if_false, ↓reduceIte] at h9); simp only [hdl_c, S9_1, S9_m, bud9, live9, inb9, wrn, wr9_14, wr9_15, wr9_16, wr9_17, tq9_14, tq9_15, tq9_16, tq9_17, tq_0, tq_1, tq_3, upr_rl, rl_0, rl_1, rl_2, rl_3, rl_4, rl_5, rl_6, rl_7, rl_8, rl_9, rl_10, rl_11, rl_12, rl_13, sp_0, sp_1, sp_2, sp_3, sp_4, sp_5, sp_6, sp_7, sp_8, sp_9, sp_10, sp_11, sp_12, sp_13, se_0, se_1, se_2, se_3, se_4, se_5, se_6, se_7, se_8, se_9, se_10, se_11, se_12, se_13, sem_0, sem_1, sem_2, sem_3, sem_4, sem_5, List.getD_cons_zero, List.getD_cons_succ, Bool.false_eq_true, wrn3, wrn1, cpmS, cpok9, if_true, if_false, ↓reduceIte, wc_171, wc_178, wc_181, wc_187, wc_215, wc_218, wc_222, wc_225, wc_236, wc_237, cl_222, runB, B222, ma_222, rho_2, wpf_13_304, wpopadd_pf_13_304, wpf_13_307, wpopor_pf_13_307, wpf_13_310, wpopor_pf_13_310, cl_225, B225, ma_225, rho_21, wf_13_130, wf_13_9, wpf_13_130, wpopadd_pf_13_130, w_cst, w_ldi, w_ldj, w_lda, w_ljk, w_ldk, w_ldw, w_ldk2, w_ldt, w_ldtw, w_neg, w_cvb, w_cvs, w_cvc, w_cvj, w_add, w_sub, w_mul, w_ban, w_bor, w_bxo, w_shl, w_shr, w_ush, w_dvi, w_rmi, w_aldi, w_aldj, w_aldz, w_aldc, w_alda, w_ite, w_cmp, w_cmj, w_cz, w_cnot, w_cand, w_cor, w_nil, w_cons, w_cvi, w_csta, w_cvt, w_cvv, w_csv, w_cpy, w_seq, w_sbr, w_sbn, w_brk, w_ifs, w_ifx, w_ife, w_wk, w_rets, w_rtv, w_thr, w_asi, w_asj, w_asa, w_inc, w_exs, w_asti, w_astj, w_astz, w_astc, w_aopadd, w_aopsub, w_sw, if_true, if_false, ↓reduceIte, kc_249, kl9_249, sr_249_10, sr_249_11, sr_249_12, sr_249_13, sr_249_14, sr_249_15, sr_249_16, sr_249_17, sr_249_2, sr_249_22, sr_249_23, sr_249_24, sr_249_25, sr_249_30, sr_249_31, sr_249_34, sr_249_35, sr_249_40, sr_249_41, sr_249_42, sr_249_43, sr_249_50, sr_249_51, sr_249_52, sr_249_54, sr_249_55, sr_249_57, sr_249_58, sr_249_61, sr_249_63, sr_249_64, sr_249_67, sr_249_68, sr_249_69, sr_249_70, sr_249_71, sr_249_8, sr_249_9, kc_250, kl9_250, kc_258, kl9_258, kc_260, kl9_260, kc_269, kl9_269, kc_270, kl9_270, upm_app, Int.reduceEq, and_self, and_true, true_and, and_false, false_and, if_true, if_false, ↓reduceIte, Int.reduceToNat, upm_f, Int.reduceEq, Int.reduceNe, ne_eq, not_false_eq_true, not_true_eq_false]; (try simp (disch := omega) only [w15_0, w15_1, w15_3, w15_4, w15_5, w15_6, w3_0, w3_1, w3_2, upm_app, Int.reduceEq, and_self, and_true, true_and, and_false, false_and, if_true, if_false, ↓reduceIte]))
    | ((with_reducible refine l235 (g := g) (tc := 0) (pl := pl) ⟨?_, ?_, ?_, ?_⟩ ?_ (fun c1 m1 hJ1 hF1 hi1 hA1 hr1 hc1 => ?_)); (next => simp only [upm_app, Int.reduceEq, and_self, and_true, true_and, and_false, false_and, if_true, if_false, ↓reduceIte, Int.reduceToNat, upm_f, Int.reduceEq, Int.reduceNe, ne_eq, not_false_eq_true, not_true_eq_false]); (next => simp only [upm_app, Int.reduceEq, and_self, and_true, true_and, and_false, false_and, if_true, if_false, ↓reduceIte, Int.reduceToNat, upm_f, Int.reduceEq, Int.reduceNe, ne_eq, not_false_eq_true, not_true_eq_false]); (next => simp only [upm_app, Int.reduceEq, and_self, and_true, true_and, and_false, false_and, if_true, if_false, ↓reduceIte, Int.reduceToNat, upm_f, Int.reduceEq, Int.reduceNe, ne_eq, not_false_eq_true, not_true_eq_false]; omega); (next => simp only [upm_app, Int.reduceEq, and_self, and_true, true_and, and_false, false_and, if_true, if_false, ↓reduceIte, Int.reduceToNat, upm_f, Int.reduceEq, Int.reduceNe, ne_eq, not_false_eq_true, not_true_eq_false]; omega); (next => repeat (first | assumption | (refine JR_len0 (tc := tc) ?_) | (refine JR_up ?_ (by first | decide | (unfold frR; omega)) (by first | decide | simp [frc]) (by first | (simp [BdR]; done) | (simp [BdR] <;> first | omega | (unfold w32; omega)))))); have hFM : DnR m (upm (upm (upm (upm (upm (upm m 249 0 0) 249 18 0) 249 19 0) 249 21 0) 249 20 t9) 249 44 0) := (fun x j z1 z2 => (by (repeat rw [upm_app, if_neg (by omega)]))); have hz0 : m1 249 0 = 0 := (by rw [hF1 249 0 (by omega) (by omega)]; simp only [upm_app, Int.reduceEq, and_self, and_true, true_and, and_false, false_and, if_true, if_false, ↓reduceIte, Int.reduceToNat, upm_f, Int.reduceEq, Int.reduceNe, ne_eq, not_false_eq_true, not_true_eq_false]); have hF2 : DnR m m1 := (fun x j z1 z2 => (hF1 x j (by omega) (by omega)).trans (hFM x j z1 z2)); have e20 : m1 249 20 = min tc 60 := (by rw [hF1 249 20 (by omega) (by omega)]; simp only [upm_app, Int.reduceEq, and_self, and_true, true_and, and_false, false_and, if_true, if_false, ↓reduceIte, Int.reduceToNat, upm_f, Int.reduceEq, Int.reduceNe, ne_eq, not_false_eq_true, not_true_eq_false]; exact ht9); (simp only [upm_app, Int.reduceEq, and_self, and_true, true_and, and_false, false_and, if_true, if_false, ↓reduceIte, Int.reduceToNat, upm_f, Int.reduceEq, Int.reduceNe, ne_eq, not_false_eq_true, not_true_eq_false, ht9] at hr1 hc1); have htc : tc ≠ 0 := (by omega); (rw [← DN_1 htc] at hr1 hc1); (try simp only [hdl_c, S9_1, S9_m, bud9, live9, inb9, wrn, wr9_14, wr9_15, wr9_16, wr9_17, tq9_14, tq9_15, tq9_16, tq9_17, tq_0, tq_1, tq_3, upr_rl, rl_0, rl_1, rl_2, rl_3, rl_4, rl_5, rl_6, rl_7, rl_8, rl_9, rl_10, rl_11, rl_12, rl_13, sp_0, sp_1, sp_2, sp_3, sp_4, sp_5, sp_6, sp_7, sp_8, sp_9, sp_10, sp_11, sp_12, sp_13, se_0, se_1, se_2, se_3, se_4, se_5, se_6, se_7, se_8, se_9, se_10, se_11, se_12, se_13, sem_0, sem_1, sem_2, sem_3, sem_4, sem_5, List.getD_cons_zero, List.getD_cons_succ, Bool.false_eq_true, wrn3, wrn1, cpmS, cpok9, if_true, if_false, ↓reduceIte, wc_171, wc_178, wc_181, wc_187, wc_215, wc_218, wc_222, wc_225, wc_236, wc_237, cl_222, runB, B222, ma_222, rho_2, wpf_13_304, wpopadd_pf_13_304, wpf_13_307, wpopor_pf_13_307, wpf_13_310, wpopor_pf_13_310, cl_225, B225, ma_225, rho_21, wf_13_130, wf_13_9, wpf_13_130, wpopadd_pf_13_130, w_cst, w_ldi, w_ldj, w_lda, w_ljk, w_ldk, w_ldw, w_ldk2, w_ldt, w_ldtw, w_neg, w_cvb, w_cvs, w_cvc, w_cvj, w_add, w_sub, w_mul, w_ban, w_bor, w_bxo, w_shl, w_shr, w_ush, w_dvi, w_rmi, w_aldi, w_aldj, w_aldz, w_aldc, w_alda, w_ite, w_cmp, w_cmj, w_cz, w_cnot, w_cand, w_cor, w_nil, w_cons, w_cvi, w_csta, w_cvt, w_cvv, w_csv, w_cpy, w_seq, w_sbr, w_sbn, w_brk, w_ifs, w_ifx, w_ife, w_wk, w_rets, w_rtv, w_thr, w_asi, w_asj, w_asa, w_inc, w_exs, w_asti, w_astj, w_astz, w_astc, w_aopadd, w_aopsub, w_sw, if_true, if_false, ↓reduceIte, kc_249, kl9_249, sr_249_10, sr_249_11, sr_249_12, sr_249_13, sr_249_14, sr_249_15, sr_249_16, sr_249_17, sr_249_2, sr_249_22, sr_249_23, sr_249_24, sr_249_25, sr_249_30, sr_249_31, sr_249_34, sr_249_35, sr_249_40, sr_249_41, sr_249_42, sr_249_43, sr_249_50, sr_249_51, sr_249_52, sr_249_54, sr_249_55, sr_249_57, sr_249_58, sr_249_61, sr_249_63, sr_249_64, sr_249_67, sr_249_68, sr_249_69, sr_249_70, sr_249_71, sr_249_8, sr_249_9, kc_250, kl9_250, kc_258, kl9_258, kc_260, kl9_260, kc_269, kl9_269, kc_270, kl9_270, upm_app, Int.reduceEq, and_self, and_true, true_and, and_false, false_and, if_true, if_false, ↓reduceIte, Int.reduceToNat, upm_f, Int.reduceEq, Int.reduceNe, ne_eq, not_false_eq_true, not_true_eq_false]))
    | ((with_reducible refine whl_i (fun k r u => r = rl [249, 0, 1, 0] ∧ u = S9 e (upm (upm (upm (upm (upm (upm m 249 0 0) 249 18 0) 249 19 0) 249 21 0) 249 20 t9) 249 44 0)) 0 ?_ ?_); (next => exact ⟨by rw [show tc = 0 by omega], rfl⟩); rintro k r u ⟨rfl, rfl⟩; have htc : tc = 0 := (by omega); have hJM : JR 3 g 0 pl (upm (upm (upm (upm (upm (upm m 249 0 0) 249 18 0) 249 19 0) 249 21 0) 249 20 t9) 249 44 0) := (by repeat (first | assumption | (refine JR_len0 (tc := tc) ?_) | (refine JR_up ?_ (by first | decide | (unfold frR; omega)) (by first | decide | simp [frc]) (by first | (simp [BdR]; done) | (simp [BdR] <;> first | omega | (unfold w32; omega)))))); have hFM : DnR m (upm (upm (upm (upm (upm (upm m 249 0 0) 249 18 0) 249 19 0) 249 21 0) 249 20 t9) 249 44 0) := (fun x j z1 z2 => (by (repeat rw [upm_app, if_neg (by omega)]))); have hz0 : (upm (upm (upm (upm (upm (upm m 249 0 0) 249 18 0) 249 19 0) 249 21 0) 249 20 t9) 249 44 0) 249 0 = 0 := (by simp only [upm_app, Int.reduceEq, and_self, and_true, true_and, and_false, false_and, if_true, if_false, ↓reduceIte, Int.reduceToNat, upm_f, Int.reduceEq, Int.reduceNe, ne_eq, not_false_eq_true, not_true_eq_false]); have e20 : (upm (upm (upm (upm (upm (upm m 249 0 0) 249 18 0) 249 19 0) 249 21 0) 249 20 t9) 249 44 0) 249 20 = min tc 60 := (by simp only [upm_app, Int.reduceEq, and_self, and_true, true_and, and_false, false_and, if_true, if_false, ↓reduceIte, Int.reduceToNat, upm_f, Int.reduceEq, Int.reduceNe, ne_eq, not_false_eq_true, not_true_eq_false]; exact ht9); have e19 : (upm (upm (upm (upm (upm (upm m 249 0 0) 249 18 0) 249 19 0) 249 21 0) 249 20 t9) 249 44 0) 249 19 = 0 := (by simp only [upm_app, Int.reduceEq, and_self, and_true, true_and, and_false, false_and, if_true, if_false, ↓reduceIte, Int.reduceToNat, upm_f, Int.reduceEq, Int.reduceNe, ne_eq, not_false_eq_true, not_true_eq_false]); have e44 : (upm (upm (upm (upm (upm (upm m 249 0 0) 249 18 0) 249 19 0) 249 21 0) 249 20 t9) 249 44 0) 249 44 = 0 := (by simp only [upm_app, Int.reduceEq, and_self, and_true, true_and, and_false, false_and, if_true, if_false, ↓reduceIte, Int.reduceToNat, upm_f, Int.reduceEq, Int.reduceNe, ne_eq, not_false_eq_true, not_true_eq_false]); generalize hm1 : (upm (upm (upm (upm (upm (upm m 249 0 0) 249 18 0) 249 19 0) 249 21 0) 249 20 t9) 249 44 0) = m1 at *; have hJ1 := hJM; have hF2 := hFM; obtain ⟨c1, hc0⟩ : ∃ c1 : Int, c1 = 1 := ⟨_, rfl⟩; have hA1 : 0 ≤ m1 249 19 ∧ m1 249 19 ≤ 60 := (by omega); have hi1 : 0 ≤ m1 249 44 ∧ m1 249 44 ≤ 31 := (by omega); have hr1 : (DN (m 260) tc).2.1 = m1 249 19 := (by rw [DN_0 htc, e19]); have hc1 : (∃ l : List ACT, m1 249 44 = l.length ∧ ALR m1 0 l ∧ c1 = 1 ∧ (DN (m 260) tc).1 = 1 ∧ (DN (m 260) tc).2.2 = l) ∨ c1 = 0 ∧ (DN (m 260) tc).1 ≠ 1 := (Or.inl ⟨[], e44, trivial, hc0, by rw [DN_0 htc], by rw [DN_0 htc]⟩); clear hm1; simp only [cl_235, runB, B235, ma_235, rho_2, wf_13_304, wf_13_399, wpf_13_126, wpf_13_130, wpopadd_pf_13_130, wpf_13_399, wpopadd_pf_13_399, wc_171, wc_178, wc_181, wc_187, wc_215, wc_218, wc_222, wc_225, wc_236, wc_237, cl_222, B222, ma_222, wpf_13_304, wpopadd_pf_13_304, wpf_13_307, wpopor_pf_13_307, wpf_13_310, wpopor_pf_13_310, cl_225, B225, ma_225, rho_21, wf_13_130, wf_13_9, w_cst, w_ldi, w_ldj, w_lda, w_ljk, w_ldk, w_ldw, w_ldk2, w_ldt, w_ldtw, w_neg, w_cvb, w_cvs, w_cvc, w_cvj, w_add, w_sub, w_mul, w_ban, w_bor, w_bxo, w_shl, w_shr, w_ush, w_dvi, w_rmi, w_aldi, w_aldj, w_aldz, w_aldc, w_alda, w_ite, w_cmp, w_cmj, w_cz, w_cnot, w_cand, w_cor, w_nil, w_cons, w_cvi, w_csta, w_cvt, w_cvv, w_csv, w_cpy, w_seq, w_sbr, w_sbn, w_brk, w_ifs, w_ifx, w_ife, w_wk, w_rets, w_rtv, w_thr, w_asi, w_asj, w_asa, w_inc, w_exs, w_asti, w_astj, w_astz, w_astc, w_aopadd, w_aopsub, w_sw, if_true, if_false, ↓reduceIte, hdl_c, S9_1, S9_m, bud9, live9, inb9, wrn, wr9_14, wr9_15, wr9_16, wr9_17, tq9_14, tq9_15, tq9_16, tq9_17, tq_0, tq_1, tq_3, upr_rl, rl_0, rl_1, rl_2, rl_3, rl_4, rl_5, rl_6, rl_7, rl_8, rl_9, rl_10, rl_11, rl_12, rl_13, sp_0, sp_1, sp_2, sp_3, sp_4, sp_5, sp_6, sp_7, sp_8, sp_9, sp_10, sp_11, sp_12, sp_13, se_0, se_1, se_2, se_3, se_4, se_5, se_6, se_7, se_8, se_9, se_10, se_11, se_12, se_13, sem_0, sem_1, sem_2, sem_3, sem_4, sem_5, kc_249, kl9_249, sr_249_10, sr_249_11, sr_249_12, sr_249_13, sr_249_14, sr_249_15, sr_249_16, sr_249_17, sr_249_2, sr_249_22, sr_249_23, sr_249_24, sr_249_25, sr_249_30, sr_249_31, sr_249_34, sr_249_35, sr_249_40, sr_249_41, sr_249_42, sr_249_43, sr_249_50, sr_249_51, sr_249_52, sr_249_54, sr_249_55, sr_249_57, sr_249_58, sr_249_61, sr_249_63, sr_249_64, sr_249_67, sr_249_68, sr_249_69, sr_249_70, sr_249_71, sr_249_8, sr_249_9, kc_250, kl9_250, kc_258, kl9_258, kc_260, kl9_260, kc_269, kl9_269, kc_270, kl9_270, List.getD_cons_zero, List.getD_cons_succ, Bool.false_eq_true, wrn3, wrn1, cpmS, cpok9, upm_app, Int.reduceEq, and_self, and_true, true_and, and_false, false_and, if_true, if_false, ↓reduceIte, Int.reduceToNat, upm_f, Int.reduceEq, Int.reduceNe, ne_eq, not_false_eq_true, not_true_eq_false])
    | (subst hV; exact h0 (by omega) _ hJ1 hF2)
    | omega
    | (with_reducible contradiction)
    | (exfalso; omega)
    | (unfold w32; omega)
    | (simp (disch := omega) only [w32_eq]; omega)
    | (with_reducible show (_ : Int) ≤ _; simp [upm] <;> (first | omega | (unfold w32; omega)))
    | (with_reducible show (_ : Int) < _; simp [upm] <;> (first | omega | (unfold w32; omega))))
  all_goals (
    (rcases hc1 with ⟨l, w1, w2, w3, w4, w5⟩ | ⟨w1, w2⟩; rotate_left 1; (next => exfalso; rw [DF_n (fun q => w2 q.1)] at hV; omega); have hw0 : DF (m 260) tc = 0 := (by omega); have eK : ∀ x, 251 ≤ x → x ≤ 257 → NT0 m1 x = m x := (fun x z0 z1 => (by funext j; rw [NT0_f m1 (by omega) (by omega)]; exact hF2 x j (by omega) (by omega))); have eN : ∀ j, 1 ≤ j → j ≤ 17 → NT0 m1 249 j = m 249 j := (fun j z0 z1 => (by rw [NT0_f m1 (by decide) (by omega)]; exact hF2 249 j (by omega) (by omega))); have n32 : NT0 m1 249 32 = m 249 32 := (by rw [NT0_f m1 (by decide) (by omega)]; exact hF2 249 32 (by omega) (by omega)); have n65 : ∀ j, NT0 m1 265 j = m 265 j := (fun j => by rw [NT0_f m1 (by decide) (by omega)]; exact hF2 265 j (by omega) (by omega)); have hx1 : x0R m1 = x0R m := (by unfold x0R; rw [show asR m1 258 0 = asR m 258 0 from asR_fr (fun y _ _ => hF2 258 _ (by omega) (by omega)) (fun y _ _ => hF2 249 y (by omega) (by omega))]); have hJ2 := NT0_J hJ1; have hup : upm m1 249 0 0 = m1 := (by funext x j; rw [upm_app]; split; (next h => rw [h.1, h.2, hz0]); (next => rfl)); have hN0 : upm (upm (upm (cpf m1 258 0 269 (52 * m1 249 39) 52) 249 36 0) 249 37 0) 249 38 0 = NT0 m1 := (by show _ = upm (upm (upm (cpf (upm m1 249 0 0) 258 0 269 (52 * m1 249 39) 52) 249 36 0) 249 37 0) 249 38 0; rw [hup]); have hu1 : 0 ≤ m1 249 39 ∧ m1 249 39 ≤ 15 := (by rw [hF2 249 39 (by omega) (by omega)]; omega); have hc44 : NT0 m1 249 44 = m1 249 44 := NT0_f m1 (by decide) (by omega); have hAN : ∀ x j, 270 ≤ x → x ≤ 272 → NT0 m1 x j = m1 x j := (fun x j _ _ => NT0_f m1 (by omega) (by omega)); have hxA : asR (NT0 m1) 258 0 = x0R m := (by rw [NT0_A, hx1]); have w5b := w5.symm; subst w5b; obtain ⟨zn, hzn⟩ : ∃ z : Int, z = tc := ⟨_, rfl⟩; obtain ⟨zc, hzc⟩ : ∃ z : Int, z = c1 := ⟨_, rfl⟩; obtain ⟨zm, hzm⟩ : ∃ z : Int, z = 0 := ⟨_, rfl⟩; obtain ⟨zf, hzf⟩ : ∃ z : Int, z = v9 := ⟨_, rfl⟩; (with_reducible refine whl_i (fun k r u => ∃ (i : Int) (m9 : Mem) (p t : List ACT), r = rl [249, zn, zc, zm, zf, i] ∧ u = S9 e m9 ∧ JR 3 g 0 pl m9 ∧ FB (NT0 m1) m9 ∧ IV L (m 249 5) (m 249 6) (asR m9 258 0) ∧ (i + k = m1 249 44 + 1) ∧ i = p.length ∧ (DN (m 260) tc).2.2 = p ++ t ∧ (runs (doR m R) (DN (m 260) tc).2.2 (x0R m)).1 = i + (runs (doR m R) t (asR m9 258 0)).1 ∧ (runs (doR m R) (DN (m 260) tc).2.2 (x0R m)).2 = (runs (doR m R) t (asR m9 258 0)).2 ∧ (0 ≤ asR m9 258 0 11 0 ∧ asR m9 258 0 11 0 ≤ 500 * i)) ((m1 249 44).toNat + 1) ?_ ?_); (next => exact ⟨0, NT0 m1, [], (DN (m 260) tc).2.2, (by rw [hzn, hzc, hzm, hzf]; first | done | rfl | (rw [htc, hc0])), (by rw [hN0]), hJ2, fun _ _ _ => rfl, (by rw [hxA]; exact IV_SE hI (SE_sy (x0R_SE m))), (by omega), rfl, rfl, (by rw [hxA]; omega), (by rw [hxA]), (by rw [hxA, x0R_110]; omega)⟩); clear hzn hzc hzm hzf; rintro k r u ⟨i, m9, p, t, rfl, rfl, hJ9, hF9, hI9, hk9, hi9, hl9, hr9, hs9, hc9⟩; have ew : w32 (i + 1) = i + 1 := (by unfold w32; omega); have hlen : m1 249 44 = i + t.length := (by rw [w1, hl9, List.length_append]; omega); have t0 : (0 : Int) ≤ t.length := (by omega); have i0 : 0 ≤ i := (by omega); have b44 : m9 249 44 = m1 249 44 := (by rw [hF9 249 44 (by omega), hc44]))
    rcases t with _ | ⟨ac, t⟩
    next =>
      have he : m1 249 44 = i := (by rw [hlen]; exact Int.add_zero i)
      have hR1 : (runs (doR m R) (DN (m 260) tc).2.2 (x0R m)).1 = i ∧ (runs (doR m R) (DN (m 260) tc).2.2 (x0R m)).2 = asR m9 258 0 := ⟨by rw [hr9]; show i + 0 = i; omega, by rw [hs9]; rfl⟩
      simp only [cl_235, runB, B235, ma_235, rho_2, wf_13_304, wf_13_399, wpf_13_126, wpf_13_130, wpopadd_pf_13_130, wpf_13_399, wpopadd_pf_13_399, wc_171, wc_178, wc_181, wc_187, wc_215, wc_218, wc_222, wc_225, wc_236, wc_237, cl_222, B222, ma_222, wpf_13_304, wpopadd_pf_13_304, wpf_13_307, wpopor_pf_13_307, wpf_13_310, wpopor_pf_13_310, cl_225, B225, ma_225, rho_21, wf_13_130, wf_13_9, w_cst, w_ldi, w_ldj, w_lda, w_ljk, w_ldk, w_ldw, w_ldk2, w_ldt, w_ldtw, w_neg, w_cvb, w_cvs, w_cvc, w_cvj, w_add, w_sub, w_mul, w_ban, w_bor, w_bxo, w_shl, w_shr, w_ush, w_dvi, w_rmi, w_aldi, w_aldj, w_aldz, w_aldc, w_alda, w_ite, w_cmp, w_cmj, w_cz, w_cnot, w_cand, w_cor, w_nil, w_cons, w_cvi, w_csta, w_cvt, w_cvv, w_csv, w_cpy, w_seq, w_sbr, w_sbn, w_brk, w_ifs, w_ifx, w_ife, w_wk, w_rets, w_rtv, w_thr, w_asi, w_asj, w_asa, w_inc, w_exs, w_asti, w_astj, w_astz, w_astc, w_aopadd, w_aopsub, w_sw, if_true, if_false, ↓reduceIte, hdl_c, S9_1, S9_m, bud9, live9, inb9, wrn, wr9_14, wr9_15, wr9_16, wr9_17, tq9_14, tq9_15, tq9_16, tq9_17, tq_0, tq_1, tq_3, upr_rl, rl_0, rl_1, rl_2, rl_3, rl_4, rl_5, rl_6, rl_7, rl_8, rl_9, rl_10, rl_11, rl_12, rl_13, sp_0, sp_1, sp_2, sp_3, sp_4, sp_5, sp_6, sp_7, sp_8, sp_9, sp_10, sp_11, sp_12, sp_13, se_0, se_1, se_2, se_3, se_4, se_5, se_6, se_7, se_8, se_9, se_10, se_11, se_12, se_13, sem_0, sem_1, sem_2, sem_3, sem_4, sem_5, kc_249, kl9_249, sr_249_10, sr_249_11, sr_249_12, sr_249_13, sr_249_14, sr_249_15, sr_249_16, sr_249_17, sr_249_2, sr_249_22, sr_249_23, sr_249_24, sr_249_25, sr_249_30, sr_249_31, sr_249_34, sr_249_35, sr_249_40, sr_249_41, sr_249_42, sr_249_43, sr_249_50, sr_249_51, sr_249_52, sr_249_54, sr_249_55, sr_249_57, sr_249_58, sr_249_61, sr_249_63, sr_249_64, sr_249_67, sr_249_68, sr_249_69, sr_249_70, sr_249_71, sr_249_8, sr_249_9, kc_250, kl9_250, kc_258, kl9_258, kc_260, kl9_260, kc_269, kl9_269, kc_270, kl9_270, List.getD_cons_zero, List.getD_cons_succ, Bool.false_eq_true, wrn3, wrn1, cpmS, cpok9, upm_app, Int.reduceEq, and_self, and_true, true_and, and_false, false_and, if_true, if_false, ↓reduceIte, Int.reduceToNat, upm_f, Int.reduceEq, Int.reduceNe, ne_eq, not_false_eq_true, not_true_eq_false, ew, b44]
      repeat' (first
        | (with_reducible exact True.intro)
        | (with_reducible exact False.elim)
        | (with_reducible rfl)
        | (with_reducible refine And.intro ?_ ?_)
        | intro _
        | ((with_reducible refine f_218 (g := g) (tc := 0) (pl := pl) ?_ (fun m4 hJ4 h4 => ?_)); (next => repeat (first | assumption | (refine JR_up ?_ (by first | decide | (unfold frR; omega)) (by first | decide | simp [frc]) (by first | (simp [BdR]; done) | (simp [BdR] <;> first | omega | (unfold w32; omega)))))); (try simp only [hdl_c, S9_1, S9_m, bud9, live9, inb9, wrn, wr9_14, wr9_15, wr9_16, wr9_17, tq9_14, tq9_15, tq9_16, tq9_17, tq_0, tq_1, tq_3, upr_rl, rl_0, rl_1, rl_2, rl_3, rl_4, rl_5, rl_6, rl_7, rl_8, rl_9, rl_10, rl_11, rl_12, rl_13, sp_0, sp_1, sp_2, sp_3, sp_4, sp_5, sp_6, sp_7, sp_8, sp_9, sp_10, sp_11, sp_12, sp_13, se_0, se_1, se_2, se_3, se_4, se_5, se_6, se_7, se_8, se_9, se_10, se_11, se_12, se_13, sem_0, sem_1, sem_2, sem_3, sem_4, sem_5, List.getD_cons_zero, List.getD_cons_succ, Bool.false_eq_true, wrn3, wrn1, cpmS, cpok9, if_true, if_false, ↓reduceIte, wc_171, wc_178, wc_181, wc_187, wc_215, wc_218, wc_222, wc_225, wc_236, wc_237, cl_222, runB, B222, ma_222, rho_2, wpf_13_304, wpopadd_pf_13_304, wpf_13_307, wpopor_pf_13_307, wpf_13_310, wpopor_pf_13_310, cl_225, B225, ma_225, rho_21, wf_13_130, wf_13_9, wpf_13_130, wpopadd_pf_13_130, w_cst, w_ldi, w_ldj, w_lda, w_ljk, w_ldk, w_ldw, w_ldk2, w_ldt, w_ldtw, w_neg, w_cvb, w_cvs, w_cvc, w_cvj, w_add, w_sub, w_mul, w_ban, w_bor, w_bxo, w_shl, w_shr, w_ush, w_dvi, w_rmi, w_aldi, w_aldj, w_aldz, w_aldc, w_alda, w_ite, w_cmp, w_cmj, w_cz, w_cnot, w_cand, w_cor, w_nil, w_cons, w_cvi, w_csta, w_cvt, w_cvv, w_csv, w_cpy, w_seq, w_sbr, w_sbn, w_brk, w_ifs, w_ifx, w_ife, w_wk, w_rets, w_rtv, w_thr, w_asi, w_asj, w_asa, w_inc, w_exs, w_asti, w_astj, w_astz, w_astc, w_aopadd, w_aopsub, w_sw, if_true, if_false, ↓reduceIte, kc_249, kl9_249, sr_249_10, sr_249_11, sr_249_12, sr_249_13, sr_249_14, sr_249_15, sr_249_16, sr_249_17, sr_249_2, sr_249_22, sr_249_23, sr_249_24, sr_249_25, sr_249_30, sr_249_31, sr_249_34, sr_249_35, sr_249_40, sr_249_41, sr_249_42, sr_249_43, sr_249_50, sr_249_51, sr_249_52, sr_249_54, sr_249_55, sr_249_57, sr_249_58, sr_249_61, sr_249_63, sr_249_64, sr_249_67, sr_249_68, sr_249_69, sr_249_70, sr_249_71, sr_249_8, sr_249_9, kc_250, kl9_250, kc_258, kl9_258, kc_260, kl9_260, kc_269, kl9_269, kc_270, kl9_270, upm_app, Int.reduceEq, and_self, and_true, true_and, and_false, false_and, if_true, if_false, ↓reduceIte, Int.reduceToNat, upm_f, Int.reduceEq, Int.reduceNe, ne_eq, not_false_eq_true, not_true_eq_false]))
        | (with_reducible refine p_178 (fun v9 h9 => ?_); simp only [hdl_c, S9_1, S9_m, bud9, live9, inb9, wrn, wr9_14, wr9_15, wr9_16, wr9_17, tq9_14, tq9_15, tq9_16, tq9_17, tq_0, tq_1, tq_3, upr_rl, rl_0, rl_1, rl_2, rl_3, rl_4, rl_5, rl_6, rl_7, rl_8, rl_9, rl_10, rl_11, rl_12, rl_13, sp_0, sp_1, sp_2, sp_3, sp_4, sp_5, sp_6, sp_7, sp_8, sp_9, sp_10, sp_11, sp_12, sp_13, se_0, se_1, se_2, se_3, se_4, se_5, se_6, se_7, se_8, se_9, se_10, se_11, se_12, se_13, sem_0, sem_1, sem_2, sem_3, sem_4, sem_5, List.getD_cons_zero, List.getD_cons_succ, Bool.false_eq_true, wrn3, wrn1, cpmS, cpok9, if_true, if_false, ↓reduceIte, wc_171, wc_178, wc_181, wc_187, wc_215, wc_218, wc_222, wc_225, wc_236, wc_237, cl_222, runB, B222, ma_222, rho_2, wpf_13_304, wpopadd_pf_13_304, wpf_13_307, wpopor_pf_13_307, wpf_13_310, wpopor_pf_13_310, cl_225, B225, ma_225, rho_21, wf_13_130, wf_13_9, wpf_13_130, wpopadd_pf_13_130, w_cst, w_ldi, w_ldj, w_lda, w_ljk, w_ldk, w_ldw, w_ldk2, w_ldt, w_ldtw, w_neg, w_cvb, w_cvs, w_cvc, w_cvj, w_add, w_sub, w_mul, w_ban, w_bor, w_bxo, w_shl, w_shr, w_ush, w_dvi, w_rmi, w_aldi, w_aldj, w_aldz, w_aldc, w_alda, w_ite, w_cmp, w_cmj, w_cz, w_cnot, w_cand, w_cor, w_nil, w_cons, w_cvi, w_csta, w_cvt, w_cvv, w_csv, w_cpy, w_seq, w_sbr, w_sbn, w_brk, w_ifs, w_ifx, w_ife, w_wk, w_rets, w_rtv, w_thr, w_asi, w_asj, w_asa, w_inc, w_exs, w_asti, w_astj, w_astz, w_astc, w_aopadd, w_aopsub, w_sw, if_true, if_false, ↓reduceIte, kc_249, kl9_249, sr_249_10, sr_249_11, sr_249_12, sr_249_13, sr_249_14, sr_249_15, sr_249_16, sr_249_17, sr_249_2, sr_249_22, sr_249_23, sr_249_24, sr_249_25, sr_249_30, sr_249_31, sr_249_34, sr_249_35, sr_249_40, sr_249_41, sr_249_42, sr_249_43, sr_249_50, sr_249_51, sr_249_52, sr_249_54, sr_249_55, sr_249_57, sr_249_58, sr_249_61, sr_249_63, sr_249_64, sr_249_67, sr_249_68, sr_249_69, sr_249_70, sr_249_71, sr_249_8, sr_249_9, kc_250, kl9_250, kc_258, kl9_258, kc_260, kl9_260, kc_269, kl9_269, kc_270, kl9_270, upm_app, Int.reduceEq, and_self, and_true, true_and, and_false, false_and, if_true, if_false, ↓reduceIte, Int.reduceToNat, upm_f, Int.reduceEq, Int.reduceNe, ne_eq, not_false_eq_true, not_true_eq_false]; (try simp (disch := omega) only [w15_0, w15_1, w15_3, w15_4, w15_5, w15_6, w3_0, w3_1, w3_2, upm_app, Int.reduceEq, and_self, and_true, true_and, and_false, false_and, if_true, if_false, ↓reduceIte]))
        | (with_reducible refine p_181x ?_ ?_ (fun v9 x9 h9 => ?_); (next => first | ((try simp only [upm_app, Int.reduceEq, and_self, and_true, true_and, and_false, false_and, if_true, if_false, ↓reduceIte]); first | omega | (unfold w32; omega) | (unfold w32 at *; omega)) | (refine stx_c ?_; decide) | omega | (with_reducible rfl) | decide | (unfold w32; omega) | (simp (disch := omega) only [w32_eq]; omega) | (simp [upm] <;> (first | omega | (unfold w32; omega)))); (next => first | ((try simp only [upm_app, Int.reduceEq, and_self, and_true, true_and, and_false, false_and, if_true, if_false, ↓reduceIte]); first | omega | (unfold w32; omega) | (unfold w32 at *; omega)) | (refine stx_c ?_; decide) | omega | (with_reducible rfl) | decide | (unfold w32; omega) | (simp (disch := omega) only [w32_eq]; omega) | (simp [upm] <;> (first | omega | (unfold w32; omega)))); (try simp only [upm_app, Int.reduceEq, and_self, and_true, true_and, and_false, false_and, if_true, if_false, ↓reduceIte] at h9); simp only [hdl_c, S9_1, S9_m, bud9, live9, inb9, wrn, wr9_14, wr9_15, wr9_16, wr9_17, tq9_14, tq9_15, tq9_16, tq9_17, tq_0, tq_1, tq_3, upr_rl, rl_0, rl_1, rl_2, rl_3, rl_4, rl_5, rl_6, rl_7, rl_8, rl_9, rl_10, rl_11, rl_12, rl_13, sp_0, sp_1, sp_2, sp_3, sp_4, sp_5, sp_6, sp_7, sp_8, sp_9, sp_10, sp_11, sp_12, sp_13, se_0, se_1, se_2, se_3, se_4, se_5, se_6, se_7, se_8, se_9, se_10, se_11, se_12, se_13, sem_0, sem_1, sem_2, sem_3, sem_4, sem_5, List.getD_cons_zero, List.getD_cons_succ, Bool.false_eq_true, wrn3, wrn1, cpmS, cpok9, if_true, if_false, ↓reduceIte, wc_171, wc_178, wc_181, wc_187, wc_215, wc_218, wc_222, wc_225, wc_236, wc_237, cl_222, runB, B222, ma_222, rho_2, wpf_13_304, wpopadd_pf_13_304, wpf_13_307, wpopor_pf_13_307, wpf_13_310, wpopor_pf_13_310, cl_225, B225, ma_225, rho_21, wf_13_130, wf_13_9, wpf_13_130, wpopadd_pf_13_130, w_cst, w_ldi, w_ldj, w_lda, w_ljk, w_ldk, w_ldw, w_ldk2, w_ldt, w_ldtw, w_neg, w_cvb, w_cvs, w_cvc, w_cvj, w_add, w_sub, w_mul, w_ban, w_bor, w_bxo, w_shl, w_shr, w_ush, w_dvi, w_rmi, w_aldi, w_aldj, w_aldz, w_aldc, w_alda, w_ite, w_cmp, w_cmj, w_cz, w_cnot, w_cand, w_cor, w_nil, w_cons, w_cvi, w_csta, w_cvt, w_cvv, w_csv, w_cpy, w_seq, w_sbr, w_sbn, w_brk, w_ifs, w_ifx, w_ife, w_wk, w_rets, w_rtv, w_thr, w_asi, w_asj, w_asa, w_inc, w_exs, w_asti, w_astj, w_astz, w_astc, w_aopadd, w_aopsub, w_sw, if_true, if_false, ↓reduceIte, kc_249, kl9_249, sr_249_10, sr_249_11, sr_249_12, sr_249_13, sr_249_14, sr_249_15, sr_249_16, sr_249_17, sr_249_2, sr_249_22, sr_249_23, sr_249_24, sr_249_25, sr_249_30, sr_249_31, sr_249_34, sr_249_35, sr_249_40, sr_249_41, sr_249_42, sr_249_43, sr_249_50, sr_249_51, sr_249_52, sr_249_54, sr_249_55, sr_249_57, sr_249_58, sr_249_61, sr_249_63, sr_249_64, sr_249_67, sr_249_68, sr_249_69, sr_249_70, sr_249_71, sr_249_8, sr_249_9, kc_250, kl9_250, kc_258, kl9_258, kc_260, kl9_260, kc_269, kl9_269, kc_270, kl9_270, upm_app, Int.reduceEq, and_self, and_true, true_and, and_false, false_and, if_true, if_false, ↓reduceIte, Int.reduceToNat, upm_f, Int.reduceEq, Int.reduceNe, ne_eq, not_false_eq_true, not_true_eq_false]; (try simp (disch := omega) only [w15_0, w15_1, w15_3, w15_4, w15_5, w15_6, w3_0, w3_1, w3_2, upm_app, Int.reduceEq, and_self, and_true, true_and, and_false, false_and, if_true, if_false, ↓reduceIte]))
        | ((with_reducible show Q 0 _); have hi0 : i = 0 := (by omega); subst hi0; (with_reducible refine D235_fin (i := 0) (s := (-1)) hu1 (FB_0 hF9) hF2 hR1.1 hR1.2 (hq hw0) ?_ (Or.inl ⟨by decide, rfl⟩) ?_ ?_); (next => first | (rw [if_pos (by omega)]) | (rw [if_neg (by omega)])); (next => repeat (first | assumption | (refine JR_up ?_ (by first | decide | (unfold frR; omega)) (by first | decide | simp [frc]) (by first | (simp [BdR]; done) | (simp [BdR] <;> first | omega | (unfold w32; omega)))))); (next => intro x j z1 z2; (try simp only [upm_app]); (repeat rw [if_neg (by omega)])))
        | ((with_reducible show Q i _); (with_reducible refine D235_fin (i := i) (s := i) hu1 (FB_0 hF9) hF2 hR1.1 hR1.2 (hq hw0) ?_ (Or.inr ⟨by omega, h4⟩) hJ4 ?_); (next => first | (rw [if_pos (by omega)]) | (rw [if_neg (by omega)])); (next => intro x j z1 z2; (try simp only [upm_app]); (repeat rw [if_neg (by omega)])))
        | omega
        | (with_reducible contradiction)
        | (exfalso; omega)
        | (unfold w32; omega)
        | (simp (disch := omega) only [w32_eq]; omega)
        | (with_reducible show (_ : Int) ≤ _; simp [upm] <;> (first | omega | (unfold w32; omega)))
        | (with_reducible show (_ : Int) < _; simp [upm] <;> (first | omega | (unfold w32; omega))))
    next =>
      (have bK : ∀ x, 251 ≤ x → x ≤ 257 → m9 x = m x := (fun x z0 z1 => (by funext j; rw [hF9 x j (by omega)]; exact congrFun (eK x z0 z1) j)); have b4 : m9 249 4 = m 249 4 := (by rw [hF9 249 4 (by omega)]; exact eN 4 (by decide) (by decide)); have b5 : m9 249 5 = m 249 5 := (by rw [hF9 249 5 (by omega)]; exact eN 5 (by decide) (by decide)); have b6 : m9 249 6 = m 249 6 := (by rw [hF9 249 6 (by omega)]; exact eN 6 (by decide) (by decide)); have hat := ALR_at (m := m9) (a := ac) (t := t) p 0 i (by omega) (by rw [← hl9]; exact ALR_fr _ 0 (fun x j z0 z1 _ _ => (hF9 x j (by omega)).trans (hAN x j z0 z1)) w2); have hdc : doR m9 R = doR m R := doR_fr bK b4 b5 b6)
      have hlt : i < m1 249 44 := (by rw [hlen, List.length_cons]; omega)
      simp only [cl_235, runB, B235, ma_235, rho_2, wf_13_304, wf_13_399, wpf_13_126, wpf_13_130, wpopadd_pf_13_130, wpf_13_399, wpopadd_pf_13_399, wc_171, wc_178, wc_181, wc_187, wc_215, wc_218, wc_222, wc_225, wc_236, wc_237, cl_222, B222, ma_222, wpf_13_304, wpopadd_pf_13_304, wpf_13_307, wpopor_pf_13_307, wpf_13_310, wpopor_pf_13_310, cl_225, B225, ma_225, rho_21, wf_13_130, wf_13_9, w_cst, w_ldi, w_ldj, w_lda, w_ljk, w_ldk, w_ldw, w_ldk2, w_ldt, w_ldtw, w_neg, w_cvb, w_cvs, w_cvc, w_cvj, w_add, w_sub, w_mul, w_ban, w_bor, w_bxo, w_shl, w_shr, w_ush, w_dvi, w_rmi, w_aldi, w_aldj, w_aldz, w_aldc, w_alda, w_ite, w_cmp, w_cmj, w_cz, w_cnot, w_cand, w_cor, w_nil, w_cons, w_cvi, w_csta, w_cvt, w_cvv, w_csv, w_cpy, w_seq, w_sbr, w_sbn, w_brk, w_ifs, w_ifx, w_ife, w_wk, w_rets, w_rtv, w_thr, w_asi, w_asj, w_asa, w_inc, w_exs, w_asti, w_astj, w_astz, w_astc, w_aopadd, w_aopsub, w_sw, if_true, if_false, ↓reduceIte, hdl_c, S9_1, S9_m, bud9, live9, inb9, wrn, wr9_14, wr9_15, wr9_16, wr9_17, tq9_14, tq9_15, tq9_16, tq9_17, tq_0, tq_1, tq_3, upr_rl, rl_0, rl_1, rl_2, rl_3, rl_4, rl_5, rl_6, rl_7, rl_8, rl_9, rl_10, rl_11, rl_12, rl_13, sp_0, sp_1, sp_2, sp_3, sp_4, sp_5, sp_6, sp_7, sp_8, sp_9, sp_10, sp_11, sp_12, sp_13, se_0, se_1, se_2, se_3, se_4, se_5, se_6, se_7, se_8, se_9, se_10, se_11, se_12, se_13, sem_0, sem_1, sem_2, sem_3, sem_4, sem_5, kc_249, kl9_249, sr_249_10, sr_249_11, sr_249_12, sr_249_13, sr_249_14, sr_249_15, sr_249_16, sr_249_17, sr_249_2, sr_249_22, sr_249_23, sr_249_24, sr_249_25, sr_249_30, sr_249_31, sr_249_34, sr_249_35, sr_249_40, sr_249_41, sr_249_42, sr_249_43, sr_249_50, sr_249_51, sr_249_52, sr_249_54, sr_249_55, sr_249_57, sr_249_58, sr_249_61, sr_249_63, sr_249_64, sr_249_67, sr_249_68, sr_249_69, sr_249_70, sr_249_71, sr_249_8, sr_249_9, kc_250, kl9_250, kc_258, kl9_258, kc_260, kl9_260, kc_269, kl9_269, kc_270, kl9_270, List.getD_cons_zero, List.getD_cons_succ, Bool.false_eq_true, wrn3, wrn1, cpmS, cpok9, upm_app, Int.reduceEq, and_self, and_true, true_and, and_false, false_and, if_true, if_false, ↓reduceIte, Int.reduceToNat, upm_f, Int.reduceEq, Int.reduceNe, ne_eq, not_false_eq_true, not_true_eq_false, ew, b44]
      repeat' (first
        | (with_reducible exact True.intro)
        | (with_reducible exact False.elim)
        | (with_reducible rfl)
        | (with_reducible refine And.intro ?_ ?_)
        | intro _
        | ((with_reducible show Cl _ 237 _ _ _); (with_reducible refine f_237 (g := g) (tc := 0) (pl := pl) (R := R) (L := L) (a := ac) hJ9 (by rw [b5, b6]; exact hI9) (KR2_fr hK b5 b6 (fun j => by rw [bK 256 (by decide) (by decide)]) (fun j => by rw [bK 257 (by decide) (by decide)])) (RuR_fr hR (by rw [hF9 249 32 (by omega)]; exact n32) (fun j => by rw [hF9 265 j (by omega)]; exact n65 j)) (WBR_fr hW bK b4) ⟨by omega, by omega⟩ hat ⟨hc9.1, by omega⟩ (fun v8 m8 hJ8 hF8 hv8 hA8 => ?_)); (rw [hdc] at hv8 hA8); have hI8 : IV L (m 249 5) (m 249 6) (asR m8 258 0) := (by rw [hA8, ← eP, ← eH]; exact doA_i (by rw [eP, eH]; exact hI9) (fun q q0 q1 => hK.2 q q0 (by omega)) hW); have hcc := doA_c (R := R) (BE := m 257) (CO := m 256) (P := (m 249 5).toNat) (H := (m 249 6).toNat) (W := m 249 4) (O := m 252) (T := m 253) (S := m 254) (D := m 255) (K1 := m 251) (a := ac) (x := asR m9 258 0) (L := L) (by rw [eP, eH]; exact hI9) (by omega) (fun q q0 q1 => hK.2 q q0 (by omega)) (fun w _ _ => JR_254 hJ w) ⟨hc9.1, by omega⟩; have hcd : asR m9 258 0 11 0 ≤ asR m8 258 0 11 0 ∧ asR m8 258 0 11 0 ≤ asR m9 258 0 11 0 + 500 := (by rw [hA8]; exact hcc); have d44 : m8 249 44 = m1 249 44 := (by rw [hF8 249 44 (by omega), b44]); simp only [hdl_c, S9_1, S9_m, bud9, live9, inb9, wrn, wr9_14, wr9_15, wr9_16, wr9_17, tq9_14, tq9_15, tq9_16, tq9_17, tq_0, tq_1, tq_3, upr_rl, rl_0, rl_1, rl_2, rl_3, rl_4, rl_5, rl_6, rl_7, rl_8, rl_9, rl_10, rl_11, rl_12, rl_13, sp_0, sp_1, sp_2, sp_3, sp_4, sp_5, sp_6, sp_7, sp_8, sp_9, sp_10, sp_11, sp_12, sp_13, se_0, se_1, se_2, se_3, se_4, se_5, se_6, se_7, se_8, se_9, se_10, se_11, se_12, se_13, sem_0, sem_1, sem_2, sem_3, sem_4, sem_5, List.getD_cons_zero, List.getD_cons_succ, Bool.false_eq_true, wrn3, wrn1, cpmS, cpok9, if_true, if_false, ↓reduceIte, wc_171, wc_178, wc_181, wc_187, wc_215, wc_218, wc_222, wc_225, wc_236, wc_237, cl_222, runB, B222, ma_222, rho_2, wpf_13_304, wpopadd_pf_13_304, wpf_13_307, wpopor_pf_13_307, wpf_13_310, wpopor_pf_13_310, cl_225, B225, ma_225, rho_21, wf_13_130, wf_13_9, wpf_13_130, wpopadd_pf_13_130, w_cst, w_ldi, w_ldj, w_lda, w_ljk, w_ldk, w_ldw, w_ldk2, w_ldt, w_ldtw, w_neg, w_cvb, w_cvs, w_cvc, w_cvj, w_add, w_sub, w_mul, w_ban, w_bor, w_bxo, w_shl, w_shr, w_ush, w_dvi, w_rmi, w_aldi, w_aldj, w_aldz, w_aldc, w_alda, w_ite, w_cmp, w_cmj, w_cz, w_cnot, w_cand, w_cor, w_nil, w_cons, w_cvi, w_csta, w_cvt, w_cvv, w_csv, w_cpy, w_seq, w_sbr, w_sbn, w_brk, w_ifs, w_ifx, w_ife, w_wk, w_rets, w_rtv, w_thr, w_asi, w_asj, w_asa, w_inc, w_exs, w_asti, w_astj, w_astz, w_astc, w_aopadd, w_aopsub, w_sw, if_true, if_false, ↓reduceIte, kc_249, kl9_249, sr_249_10, sr_249_11, sr_249_12, sr_249_13, sr_249_14, sr_249_15, sr_249_16, sr_249_17, sr_249_2, sr_249_22, sr_249_23, sr_249_24, sr_249_25, sr_249_30, sr_249_31, sr_249_34, sr_249_35, sr_249_40, sr_249_41, sr_249_42, sr_249_43, sr_249_50, sr_249_51, sr_249_52, sr_249_54, sr_249_55, sr_249_57, sr_249_58, sr_249_61, sr_249_63, sr_249_64, sr_249_67, sr_249_68, sr_249_69, sr_249_70, sr_249_71, sr_249_8, sr_249_9, kc_250, kl9_250, kc_258, kl9_258, kc_260, kl9_260, kc_269, kl9_269, kc_270, kl9_270, upm_app, Int.reduceEq, and_self, and_true, true_and, and_false, false_and, if_true, if_false, ↓reduceIte, Int.reduceToNat, upm_f, Int.reduceEq, Int.reduceNe, ne_eq, not_false_eq_true, not_true_eq_false, ew, d44])
        | ((with_reducible refine f_218 (g := g) (tc := 0) (pl := pl) ?_ (fun m4 hJ4 h4 => ?_)); (next => repeat (first | assumption | (refine JR_up ?_ (by first | decide | (unfold frR; omega)) (by first | decide | simp [frc]) (by first | (simp [BdR]; done) | (simp [BdR] <;> first | omega | (unfold w32; omega)))))); (try simp only [hdl_c, S9_1, S9_m, bud9, live9, inb9, wrn, wr9_14, wr9_15, wr9_16, wr9_17, tq9_14, tq9_15, tq9_16, tq9_17, tq_0, tq_1, tq_3, upr_rl, rl_0, rl_1, rl_2, rl_3, rl_4, rl_5, rl_6, rl_7, rl_8, rl_9, rl_10, rl_11, rl_12, rl_13, sp_0, sp_1, sp_2, sp_3, sp_4, sp_5, sp_6, sp_7, sp_8, sp_9, sp_10, sp_11, sp_12, sp_13, se_0, se_1, se_2, se_3, se_4, se_5, se_6, se_7, se_8, se_9, se_10, se_11, se_12, se_13, sem_0, sem_1, sem_2, sem_3, sem_4, sem_5, List.getD_cons_zero, List.getD_cons_succ, Bool.false_eq_true, wrn3, wrn1, cpmS, cpok9, if_true, if_false, ↓reduceIte, wc_171, wc_178, wc_181, wc_187, wc_215, wc_218, wc_222, wc_225, wc_236, wc_237, cl_222, runB, B222, ma_222, rho_2, wpf_13_304, wpopadd_pf_13_304, wpf_13_307, wpopor_pf_13_307, wpf_13_310, wpopor_pf_13_310, cl_225, B225, ma_225, rho_21, wf_13_130, wf_13_9, wpf_13_130, wpopadd_pf_13_130, w_cst, w_ldi, w_ldj, w_lda, w_ljk, w_ldk, w_ldw, w_ldk2, w_ldt, w_ldtw, w_neg, w_cvb, w_cvs, w_cvc, w_cvj, w_add, w_sub, w_mul, w_ban, w_bor, w_bxo, w_shl, w_shr, w_ush, w_dvi, w_rmi, w_aldi, w_aldj, w_aldz, w_aldc, w_alda, w_ite, w_cmp, w_cmj, w_cz, w_cnot, w_cand, w_cor, w_nil, w_cons, w_cvi, w_csta, w_cvt, w_cvv, w_csv, w_cpy, w_seq, w_sbr, w_sbn, w_brk, w_ifs, w_ifx, w_ife, w_wk, w_rets, w_rtv, w_thr, w_asi, w_asj, w_asa, w_inc, w_exs, w_asti, w_astj, w_astz, w_astc, w_aopadd, w_aopsub, w_sw, if_true, if_false, ↓reduceIte, kc_249, kl9_249, sr_249_10, sr_249_11, sr_249_12, sr_249_13, sr_249_14, sr_249_15, sr_249_16, sr_249_17, sr_249_2, sr_249_22, sr_249_23, sr_249_24, sr_249_25, sr_249_30, sr_249_31, sr_249_34, sr_249_35, sr_249_40, sr_249_41, sr_249_42, sr_249_43, sr_249_50, sr_249_51, sr_249_52, sr_249_54, sr_249_55, sr_249_57, sr_249_58, sr_249_61, sr_249_63, sr_249_64, sr_249_67, sr_249_68, sr_249_69, sr_249_70, sr_249_71, sr_249_8, sr_249_9, kc_250, kl9_250, kc_258, kl9_258, kc_260, kl9_260, kc_269, kl9_269, kc_270, kl9_270, upm_app, Int.reduceEq, and_self, and_true, true_and, and_false, false_and, if_true, if_false, ↓reduceIte, Int.reduceToNat, upm_f, Int.reduceEq, Int.reduceNe, ne_eq, not_false_eq_true, not_true_eq_false]))
        | (with_reducible refine p_178 (fun v9 h9 => ?_); simp only [hdl_c, S9_1, S9_m, bud9, live9, inb9, wrn, wr9_14, wr9_15, wr9_16, wr9_17, tq9_14, tq9_15, tq9_16, tq9_17, tq_0, tq_1, tq_3, upr_rl, rl_0, rl_1, rl_2, rl_3, rl_4, rl_5, rl_6, rl_7, rl_8, rl_9, rl_10, rl_11, rl_12, rl_13, sp_0, sp_1, sp_2, sp_3, sp_4, sp_5, sp_6, sp_7, sp_8, sp_9, sp_10, sp_11, sp_12, sp_13, se_0, se_1, se_2, se_3, se_4, se_5, se_6, se_7, se_8, se_9, se_10, se_11, se_12, se_13, sem_0, sem_1, sem_2, sem_3, sem_4, sem_5, List.getD_cons_zero, List.getD_cons_succ, Bool.false_eq_true, wrn3, wrn1, cpmS, cpok9, if_true, if_false, ↓reduceIte, wc_171, wc_178, wc_181, wc_187, wc_215, wc_218, wc_222, wc_225, wc_236, wc_237, cl_222, runB, B222, ma_222, rho_2, wpf_13_304, wpopadd_pf_13_304, wpf_13_307, wpopor_pf_13_307, wpf_13_310, wpopor_pf_13_310, cl_225, B225, ma_225, rho_21, wf_13_130, wf_13_9, wpf_13_130, wpopadd_pf_13_130, w_cst, w_ldi, w_ldj, w_lda, w_ljk, w_ldk, w_ldw, w_ldk2, w_ldt, w_ldtw, w_neg, w_cvb, w_cvs, w_cvc, w_cvj, w_add, w_sub, w_mul, w_ban, w_bor, w_bxo, w_shl, w_shr, w_ush, w_dvi, w_rmi, w_aldi, w_aldj, w_aldz, w_aldc, w_alda, w_ite, w_cmp, w_cmj, w_cz, w_cnot, w_cand, w_cor, w_nil, w_cons, w_cvi, w_csta, w_cvt, w_cvv, w_csv, w_cpy, w_seq, w_sbr, w_sbn, w_brk, w_ifs, w_ifx, w_ife, w_wk, w_rets, w_rtv, w_thr, w_asi, w_asj, w_asa, w_inc, w_exs, w_asti, w_astj, w_astz, w_astc, w_aopadd, w_aopsub, w_sw, if_true, if_false, ↓reduceIte, kc_249, kl9_249, sr_249_10, sr_249_11, sr_249_12, sr_249_13, sr_249_14, sr_249_15, sr_249_16, sr_249_17, sr_249_2, sr_249_22, sr_249_23, sr_249_24, sr_249_25, sr_249_30, sr_249_31, sr_249_34, sr_249_35, sr_249_40, sr_249_41, sr_249_42, sr_249_43, sr_249_50, sr_249_51, sr_249_52, sr_249_54, sr_249_55, sr_249_57, sr_249_58, sr_249_61, sr_249_63, sr_249_64, sr_249_67, sr_249_68, sr_249_69, sr_249_70, sr_249_71, sr_249_8, sr_249_9, kc_250, kl9_250, kc_258, kl9_258, kc_260, kl9_260, kc_269, kl9_269, kc_270, kl9_270, upm_app, Int.reduceEq, and_self, and_true, true_and, and_false, false_and, if_true, if_false, ↓reduceIte, Int.reduceToNat, upm_f, Int.reduceEq, Int.reduceNe, ne_eq, not_false_eq_true, not_true_eq_false]; (try simp (disch := omega) only [w15_0, w15_1, w15_3, w15_4, w15_5, w15_6, w3_0, w3_1, w3_2, upm_app, Int.reduceEq, and_self, and_true, true_and, and_false, false_and, if_true, if_false, ↓reduceIte]))
        | (with_reducible refine p_181x ?_ ?_ (fun v9 x9 h9 => ?_); (next => first | ((try simp only [upm_app, Int.reduceEq, and_self, and_true, true_and, and_false, false_and, if_true, if_false, ↓reduceIte]); first | omega | (unfold w32; omega) | (unfold w32 at *; omega)) | (refine stx_c ?_; decide) | omega | (with_reducible rfl) | decide | (unfold w32; omega) | (simp (disch := omega) only [w32_eq]; omega) | (simp [upm] <;> (first | omega | (unfold w32; omega)))); (next => first | ((try simp only [upm_app, Int.reduceEq, and_self, and_true, true_and, and_false, false_and, if_true, if_false, ↓reduceIte]); first | omega | (unfold w32; omega) | (unfold w32 at *; omega)) | (refine stx_c ?_; decide) | omega | (with_reducible rfl) | decide | (unfold w32; omega) | (simp (disch := omega) only [w32_eq]; omega) | (simp [upm] <;> (first | omega | (unfold w32; omega)))); (try simp only [upm_app, Int.reduceEq, and_self, and_true, true_and, and_false, false_and, if_true, if_false, ↓reduceIte] at h9); simp only [hdl_c, S9_1, S9_m, bud9, live9, inb9, wrn, wr9_14, wr9_15, wr9_16, wr9_17, tq9_14, tq9_15, tq9_16, tq9_17, tq_0, tq_1, tq_3, upr_rl, rl_0, rl_1, rl_2, rl_3, rl_4, rl_5, rl_6, rl_7, rl_8, rl_9, rl_10, rl_11, rl_12, rl_13, sp_0, sp_1, sp_2, sp_3, sp_4, sp_5, sp_6, sp_7, sp_8, sp_9, sp_10, sp_11, sp_12, sp_13, se_0, se_1, se_2, se_3, se_4, se_5, se_6, se_7, se_8, se_9, se_10, se_11, se_12, se_13, sem_0, sem_1, sem_2, sem_3, sem_4, sem_5, List.getD_cons_zero, List.getD_cons_succ, Bool.false_eq_true, wrn3, wrn1, cpmS, cpok9, if_true, if_false, ↓reduceIte, wc_171, wc_178, wc_181, wc_187, wc_215, wc_218, wc_222, wc_225, wc_236, wc_237, cl_222, runB, B222, ma_222, rho_2, wpf_13_304, wpopadd_pf_13_304, wpf_13_307, wpopor_pf_13_307, wpf_13_310, wpopor_pf_13_310, cl_225, B225, ma_225, rho_21, wf_13_130, wf_13_9, wpf_13_130, wpopadd_pf_13_130, w_cst, w_ldi, w_ldj, w_lda, w_ljk, w_ldk, w_ldw, w_ldk2, w_ldt, w_ldtw, w_neg, w_cvb, w_cvs, w_cvc, w_cvj, w_add, w_sub, w_mul, w_ban, w_bor, w_bxo, w_shl, w_shr, w_ush, w_dvi, w_rmi, w_aldi, w_aldj, w_aldz, w_aldc, w_alda, w_ite, w_cmp, w_cmj, w_cz, w_cnot, w_cand, w_cor, w_nil, w_cons, w_cvi, w_csta, w_cvt, w_cvv, w_csv, w_cpy, w_seq, w_sbr, w_sbn, w_brk, w_ifs, w_ifx, w_ife, w_wk, w_rets, w_rtv, w_thr, w_asi, w_asj, w_asa, w_inc, w_exs, w_asti, w_astj, w_astz, w_astc, w_aopadd, w_aopsub, w_sw, if_true, if_false, ↓reduceIte, kc_249, kl9_249, sr_249_10, sr_249_11, sr_249_12, sr_249_13, sr_249_14, sr_249_15, sr_249_16, sr_249_17, sr_249_2, sr_249_22, sr_249_23, sr_249_24, sr_249_25, sr_249_30, sr_249_31, sr_249_34, sr_249_35, sr_249_40, sr_249_41, sr_249_42, sr_249_43, sr_249_50, sr_249_51, sr_249_52, sr_249_54, sr_249_55, sr_249_57, sr_249_58, sr_249_61, sr_249_63, sr_249_64, sr_249_67, sr_249_68, sr_249_69, sr_249_70, sr_249_71, sr_249_8, sr_249_9, kc_250, kl9_250, kc_258, kl9_258, kc_260, kl9_260, kc_269, kl9_269, kc_270, kl9_270, upm_app, Int.reduceEq, and_self, and_true, true_and, and_false, false_and, if_true, if_false, ↓reduceIte, Int.reduceToNat, upm_f, Int.reduceEq, Int.reduceNe, ne_eq, not_false_eq_true, not_true_eq_false]; (try simp (disch := omega) only [w15_0, w15_1, w15_3, w15_4, w15_5, w15_6, w3_0, w3_1, w3_2, upm_app, Int.reduceEq, and_self, and_true, true_and, and_false, false_and, if_true, if_false, ↓reduceIte]))
        | ((with_reducible refine ⟨k - 1, ?_, i + 1, m8, p ++ [ac], t, rfl, rfl, hJ8, ?_, hI8, ?_, ?_, ?_, ?_, ?_, ?_⟩); (next => omega); (next => exact fun x j q => (hF8 x j q).trans (hF9 x j q)); (next => omega); (next => rw [List.length_append, List.length_singleton]; omega); (next => rw [hl9, List.append_assoc, List.singleton_append]); (next => rw [hr9, runs_y (hv8.1 (by assumption)), hA8]; omega); (next => rw [hs9, runs_y (hv8.1 (by assumption)), hA8]); (next => omega))
        | ((with_reducible show Q 0 _); have hng : ¬ 0 ≤ (doR m R ac (asR m9 258 0)).1 := (fun z => by have := hv8.2 z; omega); have hR1 : (runs (doR m R) (DN (m 260) tc).2.2 (x0R m)).1 = i ∧ (runs (doR m R) (DN (m 260) tc).2.2 (x0R m)).2 = asR m8 258 0 := ⟨by rw [hr9, runs_n hng]; omega, by rw [hs9, runs_n hng, hA8]⟩; have hi0 : i = 0 := (by omega); subst hi0; (with_reducible refine D235_fin (i := 0) (s := (-1)) hu1 (FB_0 (fun x j q => (hF8 x j q).trans (hF9 x j q))) hF2 hR1.1 hR1.2 (hq hw0) ?_ (Or.inl ⟨by decide, rfl⟩) ?_ ?_); (next => first | (rw [if_pos (by omega)]) | (rw [if_neg (by omega)])); (next => repeat (first | assumption | (refine JR_up ?_ (by first | decide | (unfold frR; omega)) (by first | decide | simp [frc]) (by first | (simp [BdR]; done) | (simp [BdR] <;> first | omega | (unfold w32; omega)))))); (next => intro x j z1 z2; (try simp only [upm_app]); (repeat rw [if_neg (by omega)])))
        | ((with_reducible show Q i _); have hng : ¬ 0 ≤ (doR m R ac (asR m9 258 0)).1 := (fun z => by have := hv8.2 z; omega); have hR1 : (runs (doR m R) (DN (m 260) tc).2.2 (x0R m)).1 = i ∧ (runs (doR m R) (DN (m 260) tc).2.2 (x0R m)).2 = asR m8 258 0 := ⟨by rw [hr9, runs_n hng]; omega, by rw [hs9, runs_n hng, hA8]⟩; (with_reducible refine D235_fin (i := i) (s := i) hu1 (FB_0 (fun x j q => (hF8 x j q).trans (hF9 x j q))) hF2 hR1.1 hR1.2 (hq hw0) ?_ (Or.inr ⟨by omega, h4⟩) hJ4 ?_); (next => first | (rw [if_pos (by omega)]) | (rw [if_neg (by omega)])); (next => intro x j z1 z2; (try simp only [upm_app]); (repeat rw [if_neg (by omega)])))
        | omega
        | (with_reducible contradiction)
        | (exfalso; omega)
        | (unfold w32; omega)
        | (simp (disch := omega) only [w32_eq]; omega)
        | (with_reducible show (_ : Int) ≤ _; simp [upm] <;> (first | omega | (unfold w32; omega)))
        | (with_reducible show (_ : Int) < _; simp [upm] <;> (first | omega | (unfold w32; omega)))))
end
section
/-! an act on both sides keeps the relation (pure) -/
theorem DB_door {W o a b : Int} (h : DB W o) (ha : 0 ≤ a ∧ a < W) (hb : 0 ≤ b ∧ b ≤ 1) (hW : W ≤ 14) : DB W (ior (iand o (ixor (ishl 1 a) (-1))) (ishl b a)) := fun w w0 w1 => by
  have hw := h w w0 w1
  obtain ⟨n, rfl⟩ : ∃ n : Nat, w = n := ⟨w.toNat, by omega⟩
  obtain ⟨k, rfl⟩ : ∃ n : Nat, a = n := ⟨a.toNat, by omega⟩
  have nk : n ≠ k := by omega
  refine tb_ext (iand_in _ _) (ior_in _ _) (fun i hi => ?_)
  have q := congrArg (fun z => tb z i) hw
  simp only [tb_and, tb_xor, tb_m1 hi, tb_or] at q ⊢
  have e1 : ∀ j : Nat, j < 32 → tb (ishl 1 (j : Int)) i = decide (i = j) := fun j hj => tb_bit hj hi
  rw [e1 n (by omega)] at q ⊢
  rw [e1 k (by omega)]
  have e2 : tb (ishl b (k : Int)) i = (if b = 1 then decide (i = k) else false) := by
    have : b = 0 ∨ b = 1 := by omega
    rcases this with rfl | rfl
    · rw [tb_shl (by omega) hi]; simp [tb_0]
    · rw [e1 k (by omega)]; simp
  rw [e2]
  by_cases z : i = n
  · subst z
    simp [nk] at q ⊢
    simp [q]
  · simp [z]
/-- an act that was noted, on both sides -/
theorem GS_two {R : ENV → Int} {m m1 m2 : Mem} {s : Int} {X Y : AS} (hP : m 8 2 ≤ 5) (hH : m 8 3 ≤ 5) (h : GS R m) (hC : ACC m m1 s) (hR : ACR m1 m2 s) (eX : asC m1 15 = X) (eY : asR m2 258 0 = Y) (hI : IV (m 8 0) (m 8 2) (m 8 3) X) (hD : HD (m 8 2) (m 8 3) X (m1 18)) (hS : SE (m 8 2) (m 8 3) X Y) (hB : DB (m 8 1) (X 10 0)) (hN : BN (m 8 2) (m 8 3) X) : GS R m2 := by
  obtain ⟨c1, ⟨c2, c3⟩, c4, c5⟩ := hC
  obtain ⟨r1, r2⟩ := hR
  have lo : ∀ x j, x < 249 → m2 x j = m1 x j := fun x j q => r1 x j (Or.inl q)
  have hi : ∀ x j, 249 ≤ x → m1 x j = m x j := fun x j q => c1 x j (Or.inr q)
  have eA : asC m2 15 = X := (asC_fr (fun x j x0 x1 => lo x j (by omega)) (fun j _ _ => lo 26 j (by decide))).trans eX
  refine GS_act (v := s) hP hH h (fun x j q => ?_) ⟨by rw [eA]; exact hI, ?_, by rw [eA, eY]; exact hS, ?_, by rw [eA]; exact hN⟩ ⟨?_, fun j j0 j1 => ?_⟩ (fun k k0 k1 kn x j x0 x1 => ?_) ?_ ?_
  · unfold KCl at q
    rw [r1 x j (by omega)]
    by_cases z : 249 ≤ x
    · exact hi x j z
    · exact c1 x j (Or.inl (by unfold KCl; omega))
  · rw [eA, show m2 (15 + 3) = m1 18 from by funext j; exact lo 18 j (by decide)]; exact hD
  · rw [← c_op m2, eA]; exact hB
  · exact SE_tr (SE_st (fun x j x0 x1 => lo x j (by omega))) c2
  · rw [lo _ j (by omega)]; exact c3 j j0 j1
  · rw [lo x j (by omega)]; exact c4 k k0 k1 kn x j x0 x1
  · rw [lo 26 8 (by decide), lo 26 9 (by decide)]; exact c5
  · have e39 := hi 249 39 (by decide)
    have e58 : ∀ y, m1 258 y = m 258 y := fun y => hi 258 y (by decide)
    have e69 : ∀ y, m1 269 y = m 269 y := fun y => hi 269 y (by decide)
    simp only [e39, e58, e69] at r2
    exact r2
/-- heat and sheet, on both sides -/
theorem GS_two0 {R : ENV → Int} {m m1 m2 : Mem} {X Y : AS} (hP : m 8 2 ≤ 5) (hH : m 8 3 ≤ 5) (h : GS R m) (hC : ∀ x j, ¬ ((15 ≤ x ∧ x ≤ 25) ∨ x = 7 ∨ (x = 26 ∧ 4 ≤ j ∧ j ≤ 6)) → m1 x j = m x j) (hR : ∀ x j, ¬ (x = 258 ∨ x = 267 ∨ x = 268 ∨ (x = 249 ∧ (j = 0 ∨ 36 ≤ j ∧ j ≤ 38))) → m2 x j = m1 x j) (eX : asC m1 15 = X) (eY : asR m2 258 0 = Y) (hI : IV (m 8 0) (m 8 2) (m 8 3) X) (hD : HD (m 8 2) (m 8 3) X (m1 18)) (hS : SE (m 8 2) (m 8 3) X Y) (hB : DB (m 8 1) (X 10 0)) (hN : BN (m 8 2) (m 8 3) X) : GS R m2 := by
  have lo : ∀ x j, x < 249 → m2 x j = m1 x j := fun x j q => hR x j (by omega)
  have eA : asC m2 15 = X := (asC_fr (fun x j x0 x1 => lo x j (by omega)) (fun j _ _ => lo 26 j (by decide))).trans eX
  refine GS_now hP hH h (fun x j q => ?_) ⟨by rw [eA]; exact hI, ?_, by rw [eA, eY]; exact hS, ?_, by rw [eA]; exact hN⟩ (fun x j q => ?_)
  · unfold KCl at q
    exact (hR x j (by omega)).trans (hC x j (by omega))
  · rw [eA, show m2 (15 + 3) = m1 18 from by funext j; exact lo 18 j (by decide)]; exact hD
  · rw [← c_op m2, eA]; exact hB
  · exact (hR x j (by omega)).trans (hC x j (by omega))
section
variable {P H L : Int} {x : AS} {a b : Int}
theorem take_o : (aTake P H x a b).2 10 0 = x 10 0 := by
  unfold aTake; (repeat' split) <;> (first | rfl | (rw [asU_f _ _ _ _ (by decide), asU_f _ _ _ _ (by decide)]))
theorem down_o {K1 : Int → Int} : (aDown H K1 x a).2 10 0 = x 10 0 := by
  unfold aDown; (repeat' split) <;> (first | rfl | (rw [asU_f _ _ _ _ (by decide), asU_f _ _ _ _ (by decide)]))
theorem change_o : (aChange H x a).2 10 0 = x 10 0 := by
  unfold aChange; (repeat' split) <;> (first | rfl | (rw [asU_f _ _ _ _ (by decide)]))
theorem give_o : (aGive H x a b).2 10 0 = x 10 0 := by
  unfold aGive; (repeat' split) <;> (first | rfl | (rw [asU_f _ _ _ _ (by decide), asU_f _ _ _ _ (by decide)]))
theorem fold_o : (aFold H x a b).2 10 0 = x 10 0 := by
  unfold aFold; (repeat' split) <;> (first | rfl | (rw [asU_f _ _ _ _ (by decide)]))
theorem heat_o : (aHeat P x a b).2 10 0 = x 10 0 := by
  unfold aHeat; (repeat' split) <;> (first | rfl | (rw [asU_f _ _ _ _ (by decide)]))
theorem take_b (h : BN P H x) : BN P H (aTake P H x a b).2 := by
  unfold aTake; (repeat' split) <;> (first | exact h | exact BN_U (by decide) (BN_U (by decide) h))
theorem down_b {K1 : Int → Int} (h : BN P H x) : BN P H (aDown H K1 x a).2 := by
  unfold aDown; (repeat' split) <;> (first | exact h | exact BN_U (by decide) (BN_U (by decide) h))
theorem change_b (h : BN P H x) : BN P H (aChange H x a).2 := by
  unfold aChange; (repeat' split) <;> (first | exact h | exact BN_U (by decide) h)
theorem give_b (h : BN P H x) : BN P H (aGive H x a b).2 := by
  unfold aGive; (repeat' split) <;> (first | exact h | exact BN_U (by decide) (BN_U (by decide) h))
theorem fold_b (h : BN P H x) : BN P H (aFold H x a b).2 := by
  unfold aFold; (repeat' split) <;> (first | exact h | exact BN_U (by decide) h)
theorem heat_b (h : BN P H x) : BN P H (aHeat P x a b).2 := by
  unfold aHeat; (repeat' split) <;> (first | exact h | exact BN_U (by decide) h)
theorem door_b {B : Int → Int} {W : Int} {D : Int → Int} (h : BN P H x) : BN P H (aDoor B W D x a b).2 := by
  unfold aDoor; (repeat' split) <;> (first | exact h | exact BN_U (by decide) h)
theorem door_o {B : Int → Int} {W : Int} {D : Int → Int} (hW : W ≤ 14) (h : DB W (x 10 0)) : DB W ((aDoor B W D x a b).2 10 0) := by
  unfold aDoor
  split
  · exact h
  · rename_i z
    obtain ⟨q1, -, q2, q3⟩ := Decidable.not_not.mp z
    show DB W (asU x 10 0 _ 10 0)
    rw [asU_v]
    exact DB_door h q1 ⟨q2, q3⟩ hW
end
section
variable {R : ENV → Int} {BE CO : Int → Int} {P H : Nat} {W L : Int} {O T S D K1 : Int → Int} {x : AS} {a b : Int}
theorem walk_o (h : IV L P H x) (hc : ∀ q : Int, 0 ≤ q → q < P → 0 ≤ CO q ∧ CO q ≤ 9) : (aWalk R BE CO P H W O T S D x a b).2 10 0 = x 10 0 := by
  unfold aWalk
  split
  · rfl
  · split
    · rfl
    · split
      · rfl
      · show asU (secs R BE CO P H (S b).toNat x) 3 a (if O b = x 3 a then T b else O b) 10 0 = _
        rw [asU_f _ _ _ _ (by decide), secs_3 (Or.inr (Or.inr ⟨rfl, rfl⟩)) hc _ _ h]
theorem pass_o (h : IV L P H x) (hc : ∀ q : Int, 0 ≤ q → q < P → 0 ≤ CO q ∧ CO q ≤ 9) : (aPass R BE CO P H x a).2 10 0 = x 10 0 := by
  unfold aPass
  split
  · rfl
  · exact secs_3 (Or.inr (Or.inr ⟨rfl, rfl⟩)) hc _ _ h
theorem pass_i (h : IV L P H x) (hc : ∀ q : Int, 0 ≤ q → q < P → 0 ≤ CO q ∧ CO q ≤ 9) : IV L P H (aPass R BE CO P H x a).2 := by
  unfold aPass
  split
  · exact h
  · exact IV_secs hc _ _ h
theorem pass_e {BE' CO' : Int → Int} {y : AS} (h : IV L P H x) (e : SE P H x y) (n : SN x y) (hb : ∀ p : Int, 0 ≤ p → p < H → BE p = BE' p) (hc : ∀ q : Int, 0 ≤ q → q < P → CO q = CO' q) (hk : ∀ q : Int, 0 ≤ q → q < P → 0 ≤ CO q ∧ CO q ≤ 9) : AE P H (aPass R BE CO P H x a) (aPass R BE' CO' P H y a) := by
  unfold aPass
  refine AE_if Iff.rfl (fun _ => ⟨rfl, e, n⟩) (fun _ => ?_)
  obtain ⟨s1, s2⟩ := SE_secs (R := R) hb hc hk a.toNat x y h e n
  exact ⟨s2 0 (by decide) (by decide), s1, s2⟩
theorem walk_b (h : IV L P H x) (hn : BN P H x) (hP : (P : Int) ≤ 5) (hc : ∀ q : Int, 0 ≤ q → q < P → 0 ≤ CO q ∧ CO q ≤ 9) : BN P H (aWalk R BE CO P H W O T S D x a b).2 := by
  unfold aWalk
  (repeat' split) <;> (first | exact hn | exact BN_U (by decide) (BN_secs hP hc _ _ h hn))
theorem pass_b (h : IV L P H x) (hn : BN P H x) (hP : (P : Int) ≤ 5) (hc : ∀ q : Int, 0 ≤ q → q < P → 0 ≤ CO q ∧ CO q ≤ 9) : BN P H (aPass R BE CO P H x a).2 := by
  unfold aPass
  (repeat' split) <;> (first | exact hn | exact BN_secs hP hc _ _ h hn)
theorem doA_b {ac : ACT} (h : IV L P H x) (hn : BN P H x) (hP : (P : Int) ≤ 5) (hc : ∀ q : Int, 0 ≤ q → q < P → 0 ≤ CO q ∧ CO q ≤ 9) : BN P H (doA R BE CO P H W O T S D K1 ac x).2 := by
  unfold doA
  split
  · exact take_b hn
  split
  · exact down_b hn
  split
  · exact walk_b h hn hP hc
  split
  · unfold dPass
    split
    · exact hn
    · exact BN_secs hP hc _ _ h hn
  split
  · exact change_b hn
  split
  · exact give_b hn
  · exact door_b hn
theorem doA_o {ac : ACT} (hW : W ≤ 14) (h : IV L P H x) (hc : ∀ q : Int, 0 ≤ q → q < P → 0 ≤ CO q ∧ CO q ≤ 9) (hd : DB W (x 10 0)) : DB W ((doA R BE CO P H W O T S D K1 ac x).2 10 0) := by
  unfold doA
  split
  · rw [take_o]; exact hd
  split
  · rw [down_o]; exact hd
  split
  · rw [walk_o h hc]; exact hd
  split
  · unfold dPass
    split
    · exact hd
    · show DB W (secs R BE CO P H _ x 10 0)
      rw [secs_3 (Or.inr (Or.inr ⟨rfl, rfl⟩)) hc _ _ h]; exact hd
  split
  · rw [change_o]; exact hd
  split
  · rw [give_o]; exact hd
  · exact door_o hW hd
end
theorem runs_o {f : ACT → AS → AR} {L P H W : Int} (hi : ∀ a x, IV L P H x → IV L P H (f a x).2) (ho : ∀ a x, IV L P H x → DB W (x 10 0) → DB W ((f a x).2 10 0)) : ∀ (l : List ACT) (x : AS), IV L P H x → DB W (x 10 0) → DB W ((runs f l x).2 10 0)
  | [], _, _, h => h
  | a :: t, x, h, hd => by
    by_cases z : 0 ≤ (f a x).1
    · rw [runs_y z]; exact runs_o hi ho t _ (hi a x h) (ho a x h hd)
    · rw [runs_n z]; exact ho a x h hd
theorem runs_b {f : ACT → AS → AR} {L P H : Int} (hi : ∀ a x, IV L P H x → IV L P H (f a x).2) (hb : ∀ a x, IV L P H x → BN P H x → BN P H (f a x).2) : ∀ (l : List ACT) (x : AS), IV L P H x → BN P H x → BN P H (runs f l x).2
  | [], _, _, h => h
  | a :: t, x, h, hd => by
    by_cases z : 0 ≤ (f a x).1
    · rw [runs_y z]; exact runs_b hi hb t _ (hi a x h) (hb a x h hd)
    · rw [runs_n z]; exact hb a x h hd
theorem sheet_b {P : Nat} {P' H kd n f st : Int} {x : AS} (h : BN P' H x) : BN P' H (aSheet P x kd n f st).2 := by
  unfold aSheet
  split
  · exact h
  · split
    · exact h
    · exact BN_fr h (fun _ _ _ => shS_f (by decide) P) (fun _ _ _ => shS_f (by decide) P)
theorem sheet_o {P : Nat} {kd n f st : Int} {x : AS} : (aSheet P x kd n f st).2 10 0 = x 10 0 := by
  unfold aSheet
  split
  · rfl
  · split
    · rfl
    · exact shS_f (by decide) P
end
section
/-! what THE KITCHEN's text keeps of its values and of the state -/
/-- the state, as the one function of THE KITCHEN's values tells it -/
def asK (f : Int → Int) (o nw : Int) : AS := fun a j => if a = 0 then f (200 + j) else if a = 1 then f (210 + j) else if a = 2 then f (220 + j) else if a = 3 then f (310 + j) else if a = 4 then f (320 + j) else if a = 5 then f (330 + j) else if a = 6 then f (340 + j) else if a = 7 then f (350 + j) else if a = 8 then f (360 + j) else if a = 9 then f (370 + j) else if a = 10 then (if j = 0 then o else nw) else 0
section
variable (f : Int → Int) (o nw j : Int)
theorem ak_0 : asK f o nw 0 j = f (200 + j) := by simp [asK]
theorem ak_1 : asK f o nw 1 j = f (210 + j) := by simp [asK]
theorem ak_2 : asK f o nw 2 j = f (220 + j) := by simp [asK]
theorem ak_3 : asK f o nw 3 j = f (310 + j) := by simp [asK]
theorem ak_4 : asK f o nw 4 j = f (320 + j) := by simp [asK]
theorem ak_5 : asK f o nw 5 j = f (330 + j) := by simp [asK]
theorem ak_6 : asK f o nw 6 j = f (340 + j) := by simp [asK]
theorem ak_7 : asK f o nw 7 j = f (350 + j) := by simp [asK]
theorem ak_8 : asK f o nw 8 j = f (360 + j) := by simp [asK]
theorem ak_9 : asK f o nw 9 j = f (370 + j) := by simp [asK]
theorem ak_o : asK f o nw 10 0 = o := by simp [asK]
theorem ak_n : asK f o nw 10 1 = nw := by simp [asK]
end
theorem vW_100 {f : Int → Int} {n a b s d j : Int} (hj : 0 ≤ j ∧ j < 20) (hn : 0 ≤ n ∧ n < 14) : vW f n a b s d (100 + j) = (if j = n then a else f (100 + j)) := by
  unfold vW kup
  by_cases z : j = n
  · subst z
    rw [if_pos rfl]
    (repeat (first | rw [if_neg (by omega)] | rw [if_pos (by omega)]))
  · rw [if_neg z]
    (repeat rw [if_neg (by omega)])
theorem vW_120 {f : Int → Int} {n a b s d j : Int} (hj : 0 ≤ j ∧ j < 20) (hn : 0 ≤ n ∧ n < 14) : vW f n a b s d (120 + j) = (if j = n then b else f (120 + j)) := by
  unfold vW kup
  by_cases z : j = n
  · subst z
    rw [if_pos rfl]
    (repeat (first | rw [if_neg (by omega)] | rw [if_pos (by omega)]))
  · rw [if_neg z]
    (repeat rw [if_neg (by omega)])
theorem vW_200 {f : Int → Int} {n a b s d j : Int} (hj : 0 ≤ j ∧ j < 10) (hn : 0 ≤ n ∧ n < 14) : vW f n a b s d (200 + j) = f (200 + j) := by
  unfold vW kup
  (repeat rw [if_neg (by omega)])
theorem vW_210 {f : Int → Int} {n a b s d j : Int} (hj : 0 ≤ j ∧ j < 10) (hn : 0 ≤ n ∧ n < 14) : vW f n a b s d (210 + j) = f (210 + j) := by
  unfold vW kup
  (repeat rw [if_neg (by omega)])
theorem vW_220 {f : Int → Int} {n a b s d j : Int} (hj : 0 ≤ j ∧ j < 10) (hn : 0 ≤ n ∧ n < 14) : vW f n a b s d (220 + j) = f (220 + j) := by
  unfold vW kup
  (repeat rw [if_neg (by omega)])
theorem vW_230 {f : Int → Int} {n a b s d j : Int} (hj : 0 ≤ j ∧ j < 10) (hn : 0 ≤ n ∧ n < 14) : vW f n a b s d (230 + j) = f (230 + j) := by
  unfold vW kup
  (repeat rw [if_neg (by omega)])
theorem vW_300 {f : Int → Int} {n a b s d j : Int} (hj : 0 ≤ j ∧ j < 10) (hn : 0 ≤ n ∧ n < 14) : vW f n a b s d (300 + j) = f (300 + j) := by
  unfold vW kup
  (repeat rw [if_neg (by omega)])
theorem vW_310 {f : Int → Int} {n a b s d j : Int} (hj : 0 ≤ j ∧ j < 10) (hn : 0 ≤ n ∧ n < 14) : vW f n a b s d (310 + j) = f (310 + j) := by
  unfold vW kup
  (repeat rw [if_neg (by omega)])
theorem vW_320 {f : Int → Int} {n a b s d j : Int} (hj : 0 ≤ j ∧ j < 10) (hn : 0 ≤ n ∧ n < 14) : vW f n a b s d (320 + j) = f (320 + j) := by
  unfold vW kup
  (repeat rw [if_neg (by omega)])
theorem vW_330 {f : Int → Int} {n a b s d j : Int} (hj : 0 ≤ j ∧ j < 10) (hn : 0 ≤ n ∧ n < 14) : vW f n a b s d (330 + j) = f (330 + j) := by
  unfold vW kup
  (repeat rw [if_neg (by omega)])
theorem vW_340 {f : Int → Int} {n a b s d j : Int} (hj : 0 ≤ j ∧ j < 10) (hn : 0 ≤ n ∧ n < 14) : vW f n a b s d (340 + j) = f (340 + j) := by
  unfold vW kup
  (repeat rw [if_neg (by omega)])
theorem vW_350 {f : Int → Int} {n a b s d j : Int} (hj : 0 ≤ j ∧ j < 10) (hn : 0 ≤ n ∧ n < 14) : vW f n a b s d (350 + j) = f (350 + j) := by
  unfold vW kup
  (repeat rw [if_neg (by omega)])
theorem vW_360 {f : Int → Int} {n a b s d j : Int} (hj : 0 ≤ j ∧ j < 10) (hn : 0 ≤ n ∧ n < 14) : vW f n a b s d (360 + j) = f (360 + j) := by
  unfold vW kup
  (repeat rw [if_neg (by omega)])
theorem vW_370 {f : Int → Int} {n a b s d j : Int} (hj : 0 ≤ j ∧ j < 10) (hn : 0 ≤ n ∧ n < 14) : vW f n a b s d (370 + j) = f (370 + j) := by
  unfold vW kup
  (repeat rw [if_neg (by omega)])
theorem vO_100 {f : Int → Int} {n a b s j : Int} (hj : 0 ≤ j ∧ j < 20) (hn : 0 ≤ n ∧ n < 14) : vO f n a b s (100 + j) = f (100 + j) := by
  unfold vO kup
  (repeat rw [if_neg (by omega)])
theorem vO_120 {f : Int → Int} {n a b s j : Int} (hj : 0 ≤ j ∧ j < 20) (hn : 0 ≤ n ∧ n < 14) : vO f n a b s (120 + j) = f (120 + j) := by
  unfold vO kup
  (repeat rw [if_neg (by omega)])
theorem vO_200 {f : Int → Int} {n a b s j : Int} (hj : 0 ≤ j ∧ j < 10) (hn : 0 ≤ n ∧ n < 10) : vO f n a b s (200 + j) = (if j = n then a else f (200 + j)) := by
  unfold vO kup
  by_cases z : j = n
  · subst z
    rw [if_pos rfl]
    (repeat (first | rw [if_neg (by omega)] | rw [if_pos (by omega)]))
  · rw [if_neg z]
    (repeat rw [if_neg (by omega)])
theorem vO_210 {f : Int → Int} {n a b s j : Int} (hj : 0 ≤ j ∧ j < 10) (hn : 0 ≤ n ∧ n < 10) : vO f n a b s (210 + j) = (if j = n then b else f (210 + j)) := by
  unfold vO kup
  by_cases z : j = n
  · subst z
    rw [if_pos rfl]
    (repeat (first | rw [if_neg (by omega)] | rw [if_pos (by omega)]))
  · rw [if_neg z]
    (repeat rw [if_neg (by omega)])
theorem vO_220 {f : Int → Int} {n a b s j : Int} (hj : 0 ≤ j ∧ j < 10) (hn : 0 ≤ n ∧ n < 10) : vO f n a b s (220 + j) = (if j = n then 0 else f (220 + j)) := by
  unfold vO kup
  by_cases z : j = n
  · subst z
    rw [if_pos rfl]
    (repeat (first | rw [if_neg (by omega)] | rw [if_pos (by omega)]))
  · rw [if_neg z]
    (repeat rw [if_neg (by omega)])
theorem vO_230 {f : Int → Int} {n a b s j : Int} (hj : 0 ≤ j ∧ j < 10) (hn : 0 ≤ n ∧ n < 10) : vO f n a b s (230 + j) = (if j = n then s else f (230 + j)) := by
  unfold vO kup
  by_cases z : j = n
  · subst z
    rw [if_pos rfl]
    (repeat (first | rw [if_neg (by omega)] | rw [if_pos (by omega)]))
  · rw [if_neg z]
    (repeat rw [if_neg (by omega)])
theorem vO_300 {f : Int → Int} {n a b s j : Int} (hj : 0 ≤ j ∧ j < 10) (hn : 0 ≤ n ∧ n < 10) : vO f n a b s (300 + j) = f (300 + j) := by
  unfold vO kup
  (repeat rw [if_neg (by omega)])
theorem vO_310 {f : Int → Int} {n a b s j : Int} (hj : 0 ≤ j ∧ j < 10) (hn : 0 ≤ n ∧ n < 10) : vO f n a b s (310 + j) = f (310 + j) := by
  unfold vO kup
  (repeat rw [if_neg (by omega)])
theorem vO_320 {f : Int → Int} {n a b s j : Int} (hj : 0 ≤ j ∧ j < 10) (hn : 0 ≤ n ∧ n < 10) : vO f n a b s (320 + j) = f (320 + j) := by
  unfold vO kup
  (repeat rw [if_neg (by omega)])
theorem vO_330 {f : Int → Int} {n a b s j : Int} (hj : 0 ≤ j ∧ j < 10) (hn : 0 ≤ n ∧ n < 10) : vO f n a b s (330 + j) = f (330 + j) := by
  unfold vO kup
  (repeat rw [if_neg (by omega)])
theorem vO_340 {f : Int → Int} {n a b s j : Int} (hj : 0 ≤ j ∧ j < 10) (hn : 0 ≤ n ∧ n < 10) : vO f n a b s (340 + j) = f (340 + j) := by
  unfold vO kup
  (repeat rw [if_neg (by omega)])
theorem vO_350 {f : Int → Int} {n a b s j : Int} (hj : 0 ≤ j ∧ j < 10) (hn : 0 ≤ n ∧ n < 10) : vO f n a b s (350 + j) = f (350 + j) := by
  unfold vO kup
  (repeat rw [if_neg (by omega)])
theorem vO_360 {f : Int → Int} {n a b s j : Int} (hj : 0 ≤ j ∧ j < 10) (hn : 0 ≤ n ∧ n < 10) : vO f n a b s (360 + j) = f (360 + j) := by
  unfold vO kup
  (repeat rw [if_neg (by omega)])
theorem vO_370 {f : Int → Int} {n a b s j : Int} (hj : 0 ≤ j ∧ j < 10) (hn : 0 ≤ n ∧ n < 10) : vO f n a b s (370 + j) = f (370 + j) := by
  unfold vO kup
  (repeat rw [if_neg (by omega)])
theorem vH_100 {f : Int → Int} {n a b j : Int} (hj : 0 ≤ j ∧ j < 20) (hn : 0 ≤ n ∧ n < 14) : vH f n a b (100 + j) = f (100 + j) := by
  unfold vH kup
  (repeat rw [if_neg (by omega)])
theorem vH_120 {f : Int → Int} {n a b j : Int} (hj : 0 ≤ j ∧ j < 20) (hn : 0 ≤ n ∧ n < 14) : vH f n a b (120 + j) = f (120 + j) := by
  unfold vH kup
  (repeat rw [if_neg (by omega)])
theorem vH_200 {f : Int → Int} {n a b j : Int} (hj : 0 ≤ j ∧ j < 10) (hn : 0 ≤ n ∧ n < 10) : vH f n a b (200 + j) = f (200 + j) := by
  unfold vH kup
  (repeat rw [if_neg (by omega)])
theorem vH_210 {f : Int → Int} {n a b j : Int} (hj : 0 ≤ j ∧ j < 10) (hn : 0 ≤ n ∧ n < 10) : vH f n a b (210 + j) = f (210 + j) := by
  unfold vH kup
  (repeat rw [if_neg (by omega)])
theorem vH_220 {f : Int → Int} {n a b j : Int} (hj : 0 ≤ j ∧ j < 10) (hn : 0 ≤ n ∧ n < 10) : vH f n a b (220 + j) = f (220 + j) := by
  unfold vH kup
  (repeat rw [if_neg (by omega)])
theorem vH_230 {f : Int → Int} {n a b j : Int} (hj : 0 ≤ j ∧ j < 10) (hn : 0 ≤ n ∧ n < 10) : vH f n a b (230 + j) = f (230 + j) := by
  unfold vH kup
  (repeat rw [if_neg (by omega)])
theorem vH_300 {f : Int → Int} {n a b j : Int} (hj : 0 ≤ j ∧ j < 10) (hn : 0 ≤ n ∧ n < 10) : vH f n a b (300 + j) = (if j = n then a else f (300 + j)) := by
  unfold vH kup
  by_cases z : j = n
  · subst z
    rw [if_pos rfl]
    (repeat (first | rw [if_neg (by omega)] | rw [if_pos (by omega)]))
  · rw [if_neg z]
    (repeat rw [if_neg (by omega)])
theorem vH_310 {f : Int → Int} {n a b j : Int} (hj : 0 ≤ j ∧ j < 10) (hn : 0 ≤ n ∧ n < 10) : vH f n a b (310 + j) = (if j = n then b else f (310 + j)) := by
  unfold vH kup
  by_cases z : j = n
  · subst z
    rw [if_pos rfl]
    (repeat (first | rw [if_neg (by omega)] | rw [if_pos (by omega)]))
  · rw [if_neg z]
    (repeat rw [if_neg (by omega)])
theorem vH_320 {f : Int → Int} {n a b j : Int} (hj : 0 ≤ j ∧ j < 10) (hn : 0 ≤ n ∧ n < 10) : vH f n a b (320 + j) = (if j = n then 0 else f (320 + j)) := by
  unfold vH kup
  by_cases z : j = n
  · subst z
    rw [if_pos rfl]
    (repeat (first | rw [if_neg (by omega)] | rw [if_pos (by omega)]))
  · rw [if_neg z]
    (repeat rw [if_neg (by omega)])
theorem vH_330 {f : Int → Int} {n a b j : Int} (hj : 0 ≤ j ∧ j < 10) (hn : 0 ≤ n ∧ n < 10) : vH f n a b (330 + j) = (if j = n then 0 else f (330 + j)) := by
  unfold vH kup
  by_cases z : j = n
  · subst z
    rw [if_pos rfl]
    (repeat (first | rw [if_neg (by omega)] | rw [if_pos (by omega)]))
  · rw [if_neg z]
    (repeat rw [if_neg (by omega)])
theorem vH_340 {f : Int → Int} {n a b j : Int} (hj : 0 ≤ j ∧ j < 10) (hn : 0 ≤ n ∧ n < 10) : vH f n a b (340 + j) = (if j = n then 0 else f (340 + j)) := by
  unfold vH kup
  by_cases z : j = n
  · subst z
    rw [if_pos rfl]
    (repeat (first | rw [if_neg (by omega)] | rw [if_pos (by omega)]))
  · rw [if_neg z]
    (repeat rw [if_neg (by omega)])
theorem vH_350 {f : Int → Int} {n a b j : Int} (hj : 0 ≤ j ∧ j < 10) (hn : 0 ≤ n ∧ n < 10) : vH f n a b (350 + j) = (if j = n then 0 else f (350 + j)) := by
  unfold vH kup
  by_cases z : j = n
  · subst z
    rw [if_pos rfl]
    (repeat (first | rw [if_neg (by omega)] | rw [if_pos (by omega)]))
  · rw [if_neg z]
    (repeat rw [if_neg (by omega)])
theorem vH_360 {f : Int → Int} {n a b j : Int} (hj : 0 ≤ j ∧ j < 10) (hn : 0 ≤ n ∧ n < 10) : vH f n a b (360 + j) = (if j = n then -1 else f (360 + j)) := by
  unfold vH kup
  by_cases z : j = n
  · subst z
    rw [if_pos rfl]
    (repeat (first | rw [if_neg (by omega)] | rw [if_pos (by omega)]))
  · rw [if_neg z]
    (repeat rw [if_neg (by omega)])
theorem vH_370 {f : Int → Int} {n a b j : Int} (hj : 0 ≤ j ∧ j < 10) (hn : 0 ≤ n ∧ n < 10) : vH f n a b (370 + j) = (if j = n then 0 else f (370 + j)) := by
  unfold vH kup
  by_cases z : j = n
  · subst z
    rw [if_pos rfl]
    (repeat (first | rw [if_neg (by omega)] | rw [if_pos (by omega)]))
  · rw [if_neg z]
    (repeat rw [if_neg (by omega)])
/-- what holds of a kitchen that was told -/
def KIV (H0 : Int) (s : KS) (o nw : Int) : Prop := ((0 ≤ s.1 ∧ s.1 ≤ 10) ∧ (0 ≤ s.2.1 ∧ s.2.1 ≤ 14) ∧ (0 ≤ s.2.2.1 ∧ s.2.2.1 ≤ 5) ∧ (0 ≤ s.2.2.2.1 ∧ s.2.2.2.1 ≤ 5)) ∧ IV s.1 s.2.2.1 s.2.2.2.1 (asK s.2.2.2.2 o nw) ∧ (∀ w, 0 ≤ w → w < s.2.1 → ((0 ≤ s.2.2.2.2 (100 + w) ∧ s.2.2.2.2 (100 + w) < s.1) ∧ (0 ≤ s.2.2.2.2 (120 + w) ∧ s.2.2.2.2 (120 + w) < s.1) ∧ s.2.2.2.2 (100 + w) ≠ s.2.2.2.2 (120 + w))) ∧ (∀ q, 0 ≤ q → q < s.2.2.1 → 0 ≤ s.2.2.2.2 (230 + q) ∧ s.2.2.2.2 (230 + q) ≤ 9) ∧ (∀ p, 0 ≤ p → p < s.2.2.2.1 → 0 ≤ s.2.2.2.2 (300 + p) ∧ s.2.2.2.2 (300 + p) ≤ 99) ∧ (∀ p, H0 ≤ p → 0 ≤ p → p < s.2.2.2.1 → s.2.2.2.2 (360 + p) = -1) ∧ BN s.2.2.1 s.2.2.2.1 (asK s.2.2.2.2 o nw)
theorem IV_L {L L' P H : Int} {x : AS} (h : IV L P H x) (hL : L ≤ L') : IV L' P H x := by
  obtain ⟨h1, h2, h3, h4⟩ := h
  refine ⟨fun p p0 p1 => ?_, h2, fun q q0 q1 => ?_, h4⟩
  · obtain ⟨a, b, c, d, e, f, g⟩ := h1 p p0 p1
    exact ⟨a, ⟨b.1, by omega⟩, c, d, e, f, g⟩
  · obtain ⟨a, b, c⟩ := h3 q q0 q1
    exact ⟨a, ⟨b.1, by omega⟩, c⟩
/-- a pot more -/
theorem IV_pot {L P H : Int} {x y : AS} (h : IV L P H x) (hP : 0 ≤ P) (ho : ∀ f j, 0 ≤ f → f ≤ 2 → 0 ≤ j → j < P → y f j = x f j) (hp : ∀ f j, 3 ≤ f → f ≤ 9 → 0 ≤ j → j < H → y f j = x f j) (hn : y 10 1 = x 10 1) (h0 : 0 ≤ y 0 P ∧ y 0 P ≤ 999) (h1 : 0 ≤ y 1 P ∧ y 1 P < L) (h2 : y 2 P = 0) : IV L (P + 1) H y := by
  obtain ⟨k1, k2, k3, k4⟩ := h
  refine ⟨fun p p0 p1 => ?_, fun p q p0 p1 q0 q1 => ?_, fun q q0 q1 => ?_, by rw [hn]; exact k4⟩
  · obtain ⟨a, b, c, d, e, f, g⟩ := k1 p p0 p1
    rw [hp 8 p (by decide) (by decide) p0 p1, hp 3 p (by decide) (by decide) p0 p1, hp 6 p (by decide) (by decide) p0 p1, hp 4 p (by decide) (by decide) p0 p1, hp 5 p (by decide) (by decide) p0 p1, hp 7 p (by decide) (by decide) p0 p1]
    refine ⟨by omega, b, c, fun z => ?_, e, f, g⟩
    rw [ho 1 _ (by decide) (by decide) z (by omega), ho 2 _ (by decide) (by decide) z (by omega)]
    exact d z
  · rw [hp 8 p (by decide) (by decide) p0 p1, hp 8 q (by decide) (by decide) q0 q1]; exact k2 p q p0 p1 q0 q1
  · by_cases z : q = P
    · subst z
      exact ⟨h0, by omega, Or.inl h2⟩
    · rw [ho 0 q (by decide) (by decide) q0 (by omega), ho 1 q (by decide) (by decide) q0 (by omega), ho 2 q (by decide) (by decide) q0 (by omega)]
      exact k3 q q0 (by omega)
theorem BN_pot {P H : Int} {x y : AS} (h : BN P H x) (hP : 0 ≤ P) (e2 : ∀ q, 0 ≤ q → q < P → y 2 q = x 2 q) (e9 : ∀ p, 0 ≤ p → p < H → y 9 p = x 9 p) (h2 : y 2 P = 0) : BN (P + 1) H y := by
  obtain ⟨a, b⟩ := BN_fr h e2 e9
  refine ⟨a, ?_⟩
  rw [show (P + 1).toNat = P.toNat + 1 by omega, b]
  show _ = sm (y 2) P.toNat + y 2 (P.toNat : Int)
  rw [show ((P.toNat : Nat) : Int) = P by omega, h2, Int.add_zero]
theorem BN_one {P H : Int} {x y : AS} (h : BN P H x) (hH : 0 ≤ H) (e2 : ∀ q, 0 ≤ q → q < P → y 2 q = x 2 q) (e9 : ∀ p, 0 ≤ p → p < H → y 9 p = x 9 p) (h9 : y 9 H = 0) : BN P (H + 1) y := by
  obtain ⟨a, b⟩ := BN_fr h e2 e9
  refine ⟨fun p p0 p1 => ?_, ?_⟩
  · by_cases z : p = H
    · rw [z, h9]; decide
    · exact a p p0 (by omega)
  · rw [show (H + 1).toNat = H.toNat + 1 by omega, ← b]
    show sm (y 9) H.toNat + y 9 (H.toNat : Int) = _
    rw [show ((H.toNat : Nat) : Int) = H by omega, h9, Int.add_zero]
/-- one of the people more -/
theorem IV_one {L P H : Int} {x y : AS} (h : IV L P H x) (hH : 0 ≤ H) (ho : ∀ f j, 0 ≤ f → f ≤ 2 → 0 ≤ j → j < P → y f j = x f j) (hp : ∀ f j, 3 ≤ f → f ≤ 9 → 0 ≤ j → j < H → y f j = x f j) (hn : y 10 1 = x 10 1) (hP : 0 ≤ P) (h3 : 0 ≤ y 3 H ∧ y 3 H < L) (h4 : y 4 H = 0) (h5 : y 5 H = 0) (h6 : y 6 H = 0) (h7 : y 7 H = 0) (h8 : y 8 H = -1) : IV L P (H + 1) y := by
  obtain ⟨k1, k2, k3, k4⟩ := h
  refine ⟨fun p p0 p1 => ?_, fun p q p0 p1 q0 q1 hq hn8 => ?_, fun q q0 q1 => ?_, by rw [hn]; exact k4⟩
  · by_cases z : p = H
    · subst z
      rw [h4, h5, h6, h7, h8]
      exact ⟨by omega, h3, by omega, fun y => absurd y (by decide), inI_0, inI_0, by omega⟩
    · obtain ⟨a, b, c, d, e, f, g⟩ := k1 p p0 (by omega)
      rw [hp 8 p (by decide) (by decide) p0 (by omega), hp 3 p (by decide) (by decide) p0 (by omega), hp 6 p (by decide) (by decide) p0 (by omega), hp 4 p (by decide) (by decide) p0 (by omega), hp 5 p (by decide) (by decide) p0 (by omega), hp 7 p (by decide) (by decide) p0 (by omega)]
      refine ⟨a, b, c, fun w => ?_, e, f, g⟩
      rw [ho 1 _ (by decide) (by decide) w a.2, ho 2 _ (by decide) (by decide) w a.2]
      exact d w
  · by_cases z : p = H
    · subst z; rw [h8] at hn8; exact absurd hn8 (by decide)
    · rw [hp 8 p (by decide) (by decide) p0 (by omega)] at hq hn8
      by_cases w : q = H
      · subst w; rw [h8] at hq; omega
      · rw [hp 8 q (by decide) (by decide) q0 (by omega)] at hq
        exact k2 p q p0 (by omega) q0 (by omega) hq hn8
  · rw [ho 0 q (by decide) (by decide) q0 q1, ho 1 q (by decide) (by decide) q0 q1, ho 2 q (by decide) (by decide) q0 q1]
    exact k3 q q0 q1
theorem nv_c {T : Int → Int} {L p : Int} : (nv T L 2 0 p).1 < 100 := by
  by_cases h1 : dgt T L p
  · rw [nv_y 1 h1]
    by_cases h2 : dgt T L (p + 1)
    · rw [nv_y 0 h2, nv_0]; unfold dgt at h1 h2; dsimp only; omega
    · rw [nv_n _ h2]; unfold dgt at h1; dsimp only; omega
  · rw [nv_n _ h1]; show (0 : Int) < 100; decide
theorem f02 {f : Int} (h0 : 0 ≤ f) (h1 : f ≤ 2) : f = 0 ∨ f = 1 ∨ f = 2 := by omega
theorem f39 {f : Int} (h0 : 3 ≤ f) (h1 : f ≤ 9) : f = 3 ∨ f = 4 ∨ f = 5 ∨ f = 6 ∨ f = 7 ∨ f = 8 ∨ f = 9 := by omega
theorem KIV_P {s : KS} {H0 o nw v : Int} (h : KIV H0 s o nw) (hr : s.1 < 10) : KIV H0 (s.1 + 1, s.2.1, s.2.2.1, s.2.2.2.1, kup s.2.2.2.2 s.1 v) o nw := by
  obtain ⟨⟨b1, b2, b3, b4⟩, i, w, q, p, l, bn⟩ := h
  have e : ∀ j, 10 ≤ j → kup s.2.2.2.2 s.1 v j = s.2.2.2.2 j := fun j hj => by unfold kup; rw [if_neg (by omega)]
  refine ⟨⟨by dsimp only; omega, b2, b3, b4⟩, ?_, fun j j0 j1 => ?_, fun j j0 j1 => ?_, fun j j0 j1 => ?_, fun j jh j0 j1 => ?_, ?_⟩
  · refine IV_L (IV_SE i ⟨fun f j f0 f1 j0 j1 => ?_, fun f j f0 f1 j0 j1 => ?_, ?_, ?_⟩) (by dsimp only; omega)
    · (try dsimp only at j1)
      rcases f02 f0 f1 with rfl | rfl | rfl <;> simp only [ak_0, ak_1, ak_2, ak_3, ak_4, ak_5, ak_6, ak_7, ak_8, ak_9, ak_n] <;> exact (e _ (by omega)).symm
    · (try dsimp only at j1)
      rcases f39 f0 f1 with rfl | rfl | rfl | rfl | rfl | rfl | rfl <;> simp only [ak_0, ak_1, ak_2, ak_3, ak_4, ak_5, ak_6, ak_7, ak_8, ak_9, ak_n] <;> exact (e _ (by omega)).symm
    · rw [ak_o, ak_o]
    · rw [ak_n, ak_n]
  · dsimp only
    rw [e _ (by omega), e _ (by omega)]
    have := w j j0 j1
    omega
  · dsimp only; rw [e _ (by omega)]; exact q j j0 j1
  · dsimp only; rw [e _ (by omega)]; exact p j j0 j1
  · dsimp only; rw [e _ (by omega)]; exact l j jh j0 j1
  · exact BN_fr bn (fun j j0 j1 => by (try dsimp only at j1); rw [ak_2, ak_2]; exact e _ (by omega)) (fun j j0 j1 => by (try dsimp only at j1); rw [ak_9, ak_9]; exact e _ (by omega))
theorem KIV_W {s : KS} {H0 o nw a b c d : Int} (h : KIV H0 s o nw) (hr : s.2.1 < 14) (ha : 0 ≤ a ∧ a < s.1) (hb : 0 ≤ b ∧ b < s.1) (hab : b ≠ a) : KIV H0 (s.1, s.2.1 + 1, s.2.2.1, s.2.2.2.1, vW s.2.2.2.2 s.2.1 a b c d) o nw := by
  obtain ⟨⟨b1, b2, b3, b4⟩, i, w, q, p, l, bn⟩ := h
  have hn : 0 ≤ s.2.1 ∧ s.2.1 < 14 := by omega
  refine ⟨⟨b1, by dsimp only; omega, b3, b4⟩, ?_, fun j j0 j1 => ?_, fun j j0 j1 => ?_, fun j j0 j1 => ?_, fun j jh j0 j1 => ?_, ?_⟩
  · refine IV_SE i ⟨fun f j f0 f1 j0 j1 => ?_, fun f j f0 f1 j0 j1 => ?_, ?_, ?_⟩
    · (try dsimp only at j1)
      rcases f02 f0 f1 with rfl | rfl | rfl <;> simp only [ak_0, ak_1, ak_2, ak_3, ak_4, ak_5, ak_6, ak_7, ak_8, ak_9, ak_n]
      · exact (vW_200 ⟨j0, by omega⟩ hn).symm
      · exact (vW_210 ⟨j0, by omega⟩ hn).symm
      · exact (vW_220 ⟨j0, by omega⟩ hn).symm
    · (try dsimp only at j1)
      rcases f39 f0 f1 with rfl | rfl | rfl | rfl | rfl | rfl | rfl <;> simp only [ak_0, ak_1, ak_2, ak_3, ak_4, ak_5, ak_6, ak_7, ak_8, ak_9, ak_n]
      · exact (vW_310 ⟨j0, by omega⟩ hn).symm
      · exact (vW_320 ⟨j0, by omega⟩ hn).symm
      · exact (vW_330 ⟨j0, by omega⟩ hn).symm
      · exact (vW_340 ⟨j0, by omega⟩ hn).symm
      · exact (vW_350 ⟨j0, by omega⟩ hn).symm
      · exact (vW_360 ⟨j0, by omega⟩ hn).symm
      · exact (vW_370 ⟨j0, by omega⟩ hn).symm
    · rw [ak_o, ak_o]
    · rw [ak_n, ak_n]
  · dsimp only at j1 ⊢
    rw [vW_100 ⟨j0, by omega⟩ hn, vW_120 ⟨j0, by omega⟩ hn]
    by_cases z : j = s.2.1
    · rw [if_pos z, if_pos z]; omega
    · rw [if_neg z, if_neg z]; exact w j j0 (by omega)
  · dsimp only at j1 ⊢; rw [vW_230 ⟨j0, by omega⟩ hn]; exact q j j0 j1
  · dsimp only at j1 ⊢; rw [vW_300 ⟨j0, by omega⟩ hn]; exact p j j0 j1
  · dsimp only at j1 ⊢; rw [vW_360 ⟨j0, by omega⟩ hn]; exact l j jh j0 j1
  · exact BN_fr bn (fun j j0 j1 => by (try dsimp only at j1); rw [ak_2, ak_2]; exact vW_220 ⟨j0, by omega⟩ hn) (fun j j0 j1 => by (try dsimp only at j1); rw [ak_9, ak_9]; exact vW_370 ⟨j0, by omega⟩ hn)
theorem KIV_O {s : KS} {H0 o nw a b c : Int} (h : KIV H0 s o nw) (hr : s.2.2.1 < 5) (ha : 0 ≤ a ∧ a ≤ 999) (hb : 0 ≤ b ∧ b < s.1) (hc : 0 ≤ c ∧ c ≤ 9) : KIV H0 (s.1, s.2.1, s.2.2.1 + 1, s.2.2.2.1, vO s.2.2.2.2 s.2.2.1 a b c) o nw := by
  obtain ⟨⟨b1, b2, b3, b4⟩, i, w, q, p, l, bn⟩ := h
  have hn : 0 ≤ s.2.2.1 ∧ s.2.2.1 < 10 := by omega
  have hn14 : 0 ≤ s.2.2.1 ∧ s.2.2.1 < 14 := by omega
  refine ⟨⟨b1, b2, by dsimp only; omega, b4⟩, ?_, fun j j0 j1 => ?_, fun j j0 j1 => ?_, fun j j0 j1 => ?_, fun j jh j0 j1 => ?_, ?_⟩
  · refine IV_pot i b3.1 (fun f j f0 f1 j0 j1 => ?_) (fun f j f0 f1 j0 j1 => ?_) ?_ ?_ ?_ ?_
    · (try dsimp only at j1)
      rcases f02 f0 f1 with rfl | rfl | rfl <;> simp only [ak_0, ak_1, ak_2, ak_3, ak_4, ak_5, ak_6, ak_7, ak_8, ak_9, ak_n]
      · rw [vO_200 ⟨j0, by omega⟩ hn, if_neg (by omega)]
      · rw [vO_210 ⟨j0, by omega⟩ hn, if_neg (by omega)]
      · rw [vO_220 ⟨j0, by omega⟩ hn, if_neg (by omega)]
    · (try dsimp only at j1)
      rcases f39 f0 f1 with rfl | rfl | rfl | rfl | rfl | rfl | rfl <;> simp only [ak_0, ak_1, ak_2, ak_3, ak_4, ak_5, ak_6, ak_7, ak_8, ak_9, ak_n]
      · exact vO_310 ⟨j0, by omega⟩ hn
      · exact vO_320 ⟨j0, by omega⟩ hn
      · exact vO_330 ⟨j0, by omega⟩ hn
      · exact vO_340 ⟨j0, by omega⟩ hn
      · exact vO_350 ⟨j0, by omega⟩ hn
      · exact vO_360 ⟨j0, by omega⟩ hn
      · exact vO_370 ⟨j0, by omega⟩ hn
    · rw [ak_n, ak_n]
    · rw [ak_0]; (try dsimp only); rw [vO_200 ⟨by omega, by omega⟩ hn, if_pos rfl]; exact ha
    · rw [ak_1]; (try dsimp only); rw [vO_210 ⟨by omega, by omega⟩ hn, if_pos rfl]; exact hb
    · rw [ak_2]; (try dsimp only); rw [vO_220 ⟨by omega, by omega⟩ hn, if_pos rfl]
  · dsimp only at j1 ⊢
    rw [vO_100 ⟨j0, by omega⟩ hn14, vO_120 ⟨j0, by omega⟩ hn14]; exact w j j0 j1
  · dsimp only at j1 ⊢; rw [vO_230 ⟨j0, by omega⟩ hn]
    by_cases z : j = s.2.2.1
    · rw [if_pos z]; exact hc
    · rw [if_neg z]; exact q j j0 (by omega)
  · dsimp only at j1 ⊢; rw [vO_300 ⟨j0, by omega⟩ hn]; exact p j j0 j1
  · dsimp only at j1 ⊢; rw [vO_360 ⟨j0, by omega⟩ hn]; exact l j jh j0 j1
  · exact BN_pot bn b3.1 (fun j j0 j1 => by (try dsimp only at j1); rw [ak_2, ak_2]; (try dsimp only); rw [vO_220 ⟨j0, by omega⟩ hn, if_neg (by omega)]) (fun j j0 j1 => by (try dsimp only at j1); rw [ak_9, ak_9]; exact vO_370 ⟨j0, by omega⟩ hn) (by rw [ak_2]; (try dsimp only); rw [vO_220 ⟨by omega, by omega⟩ hn, if_pos rfl])
theorem KIV_H {s : KS} {H0 o nw a b : Int} (h : KIV H0 s o nw) (hr : s.2.2.2.1 < 5) (ha : 0 ≤ a ∧ a ≤ 99) (hb : 0 ≤ b ∧ b < s.1) : KIV H0 (s.1, s.2.1, s.2.2.1, s.2.2.2.1 + 1, vH s.2.2.2.2 s.2.2.2.1 a b) o nw := by
  obtain ⟨⟨b1, b2, b3, b4⟩, i, w, q, p, l, bn⟩ := h
  have hn : 0 ≤ s.2.2.2.1 ∧ s.2.2.2.1 < 10 := by omega
  have hn14 : 0 ≤ s.2.2.2.1 ∧ s.2.2.2.1 < 14 := by omega
  refine ⟨⟨b1, b2, b3, by dsimp only; omega⟩, ?_, fun j j0 j1 => ?_, fun j j0 j1 => ?_, fun j j0 j1 => ?_, fun j jh j0 j1 => ?_, ?_⟩
  · refine IV_one i b4.1 (fun f j f0 f1 j0 j1 => ?_) (fun f j f0 f1 j0 j1 => ?_) ?_ b3.1 ?_ ?_ ?_ ?_ ?_ ?_
    · (try dsimp only at j1)
      rcases f02 f0 f1 with rfl | rfl | rfl <;> simp only [ak_0, ak_1, ak_2, ak_3, ak_4, ak_5, ak_6, ak_7, ak_8, ak_9, ak_n]
      · exact vH_200 ⟨j0, by omega⟩ hn
      · exact vH_210 ⟨j0, by omega⟩ hn
      · exact vH_220 ⟨j0, by omega⟩ hn
    · (try dsimp only at j1)
      rcases f39 f0 f1 with rfl | rfl | rfl | rfl | rfl | rfl | rfl <;> simp only [ak_0, ak_1, ak_2, ak_3, ak_4, ak_5, ak_6, ak_7, ak_8, ak_9, ak_n]
      · rw [vH_310 ⟨j0, by omega⟩ hn, if_neg (by omega)]
      · rw [vH_320 ⟨j0, by omega⟩ hn, if_neg (by omega)]
      · rw [vH_330 ⟨j0, by omega⟩ hn, if_neg (by omega)]
      · rw [vH_340 ⟨j0, by omega⟩ hn, if_neg (by omega)]
      · rw [vH_350 ⟨j0, by omega⟩ hn, if_neg (by omega)]
      · rw [vH_360 ⟨j0, by omega⟩ hn, if_neg (by omega)]
      · rw [vH_370 ⟨j0, by omega⟩ hn, if_neg (by omega)]
    · rw [ak_n, ak_n]
    · rw [ak_3]; (try dsimp only); rw [vH_310 ⟨by omega, by omega⟩ hn, if_pos rfl]; exact hb
    · rw [ak_4]; (try dsimp only); rw [vH_320 ⟨by omega, by omega⟩ hn, if_pos rfl]
    · rw [ak_5]; (try dsimp only); rw [vH_330 ⟨by omega, by omega⟩ hn, if_pos rfl]
    · rw [ak_6]; (try dsimp only); rw [vH_340 ⟨by omega, by omega⟩ hn, if_pos rfl]
    · rw [ak_7]; (try dsimp only); rw [vH_350 ⟨by omega, by omega⟩ hn, if_pos rfl]
    · rw [ak_8]; (try dsimp only); rw [vH_360 ⟨by omega, by omega⟩ hn, if_pos rfl]
  · dsimp only at j1 ⊢
    rw [vH_100 ⟨j0, by omega⟩ hn14, vH_120 ⟨j0, by omega⟩ hn14]; exact w j j0 j1
  · dsimp only at j1 ⊢; rw [vH_230 ⟨j0, by omega⟩ hn]; exact q j j0 j1
  · dsimp only at j1 ⊢; rw [vH_300 ⟨j0, by omega⟩ hn]
    by_cases z : j = s.2.2.2.1
    · rw [if_pos z]; exact ha
    · rw [if_neg z]; exact p j j0 (by omega)
  · dsimp only at j1 ⊢; rw [vH_360 ⟨j0, by omega⟩ hn]
    by_cases z : j = s.2.2.2.1
    · rw [if_pos z]
    · rw [if_neg z]; exact l j jh j0 (by omega)
  · exact BN_one bn b4.1 (fun j j0 j1 => by (try dsimp only at j1); rw [ak_2, ak_2]; exact vH_220 ⟨j0, by omega⟩ hn) (fun j j0 j1 => by (try dsimp only at j1); rw [ak_9, ak_9]; (try dsimp only); rw [vH_370 ⟨j0, by omega⟩ hn, if_neg (by omega)]) (by rw [ak_9]; (try dsimp only); rw [vH_370 ⟨by omega, by omega⟩ hn, if_pos rfl])
theorem some_s {α : Type} {a b : α} (h : some a = some b) : a = b := Option.some.inj h
theorem lk_I {T : Int → Int} {L p p' : Int} {s s' : KS} {H0 o nw : Int} (h : KIV H0 s o nw) (hl : lk T L s p = some (s', p')) : KIV H0 s' o nw := by
  unfold lk lkW lkO lkH at hl
  have n1 := nv_r (T := T) (L := L) 3 0 (p + 1) (by decide)
  have n2 := nv_r (T := T) (L := L) 2 0 (p + 1) (by decide)
  have n3 := nv_b (T := T) (L := L) (p := p + 1)
  have n4 := nv_c (T := T) (L := L) (p := p + 1)
  split at hl
  · split at hl
    · rename_i z
      rw [show s' = _ from (congrArg Prod.fst (some_s hl)).symm]; exact KIV_P h z
    · exact absurd hl (by simp)
  split at hl
  · split at hl
    · rename_i z
      obtain ⟨z1, z2, z3, z4, -⟩ := z
      unfold let1 at z2 z3
      rw [show s' = _ from (congrArg Prod.fst (some_s hl)).symm]; exact KIV_W h z1 (by omega) (by omega) (by omega)
    · exact absurd hl (by simp)
  split at hl
  · split at hl
    · rename_i z
      obtain ⟨z1, z2, z3, z4, z5, z6, z7, z8, -⟩ := z
      unfold let1 at z8
      unfold dgt at z5
      rw [show s' = _ from (congrArg Prod.fst (some_s hl)).symm]; exact KIV_O h z1 (by omega) (by omega) (by omega)
    · exact absurd hl (by simp)
  split at hl
  · split at hl
    · rename_i z
      obtain ⟨z1, z2, z3, z4, z5, z6⟩ := z
      unfold let1 at z6
      rw [show s' = _ from (congrArg Prod.fst (some_s hl)).symm]; exact KIV_H h z1 (by omega) (by omega)
    · exact absurd hl (by simp)
  · exact absurd hl (by simp)
theorem lks_I {T : Int → Int} {L : Int} {H0 o nw : Int} : ∀ (n : Nat) (s : KS) (p : Int) (s' : KS) (p' : Int), KIV H0 s o nw → lks T L n s p = some (s', p') → KIV H0 s' o nw
  | 0, _, _, _, _, _, h => absurd h (by simp [lks])
  | n + 1, s, p, s', p', h, hl => by
    generalize hA : lk T L s p = A
    rcases A with _ | ⟨s1, p1⟩
    · rw [lks_n n hA] at hl; exact absurd hl (by simp)
    · have h1 := lk_I h hA
      by_cases z : p1 < L ∧ T p1 = 59
      · rw [lks_y n hA z] at hl; exact lks_I n _ _ _ _ h1 hl
      · rw [lks_x n hA z] at hl
        rw [show s' = _ from (congrArg Prod.fst (some_s hl)).symm]; exact h1
theorem kit_I {T : Int → Int} {tc : Int} {s s' : KS} {H0 o nw : Int} (h : KIV H0 s o nw) (hl : kit T tc s = some s') : KIV H0 s' o nw := by
  generalize hA : lks T (min tc 76) 81 s 0 = A
  rcases A with _ | ⟨s1, p1⟩
  · rw [kit_n hA] at hl; exact absurd hl (by simp)
  · by_cases z : p1 = min tc 76 ∧ tc ≤ 76
    · rw [kit_y hA z] at hl
      rw [← some_s hl]; exact lks_I 81 _ _ _ _ h hA
    · rw [kit_x hA z] at hl; exact absurd hl (by simp)
end
section
/-! both sides of each call, under a relation of the two memories -/
/-- the text; THE KITCHEN's counts and kinds; marks; what is kept -/
def RT (tc : Int) (m : Mem) : Prop := (∀ j, 0 ≤ j → j < tc → m 260 j = m 3 j) ∧ (∀ j, 0 ≤ m 3 j ∧ m 3 j < 256) ∧ ∀ j, 0 ≤ m 260 j ∧ m 260 j < 256
def RK (m : Mem) : Prop := m 249 3 = m 8 0 ∧ m 249 4 = m 8 1 ∧ m 249 5 = m 8 2 ∧ m 249 6 = m 8 3 ∧ ∀ j, 0 ≤ j → j < m 8 0 → m 251 j = m 9 j
def RM (m : Mem) : Prop := m 249 62 = m 211 4
def RX (tc : Int) (m : Mem) : Prop := RT tc m ∧ RK m ∧ RM m
def GSx (m : Mem) : Prop := ∃ R, GS R m
theorem GSx_fr {tc : Int} {m m2 : Mem} (hC : BC tc m) (e : ∀ x j, GCl x j → m2 x j = m x j) (h : GSx m) : GSx m2 := by
  have hs := JC_s (BC_g 0 hC)
  obtain ⟨R, h⟩ := h
  exact ⟨R, GS_fr (by omega) (by omega) e h⟩
theorem GCl_C {x j : Int} (h : GCl x j) : frC 4 x j := by unfold GCl at h; unfold frC; omega
theorem GCl_R {x j : Int} (h : GCl x j) : frR 4 x j := by unfold GCl at h; unfold frR; omega
theorem GCl_n {x j : Int} (h : GCl x j) : ¬ (x = 288 ∨ x = 2 ∨ x = 3 ∨ x = 260 ∨ (x = 249 ∧ j ≠ 32 ∧ j ≠ 39) ∨ x = 211 ∨ x = 212 ∨ x = 213 ∨ x = 281 ∨ x = 282) := by unfold GCl at h; omega
theorem GS_0 : GS rl0 zM := by
  refine ⟨⟨fun w w0 w1 => absurd w1 (by rw [zM_0]; omega), fun q q0 q1 => absurd q1 (by rw [zM_0]; omega), fun p p0 p1 => absurd p1 (by rw [zM_0]; omega)⟩, ⟨⟨fun p p0 p1 => absurd p1 (by rw [zM_0]; omega), fun p q p0 p1 => absurd p1 (by rw [zM_0]; omega), fun q q0 q1 => absurd q1 (by rw [zM_0]; omega), ?_⟩, fun q q0 q1 => absurd q1 (by rw [zM_0]; omega), ⟨fun f j _ _ j0 j1 => absurd j1 (by rw [zM_0]; omega), fun f j _ _ j0 j1 => absurd j1 (by rw [zM_0]; omega), ?_, ?_⟩, fun w w0 w1 => ?_, ⟨fun p p0 p1 => absurd p1 (by rw [zM_0]; omega), by simp only [zM_0]; rfl⟩⟩, ⟨?_, fun i i0 i1 => absurd i1 (by rw [zM_0]; omega)⟩, fun i i0 i1 z => ?_, Or.inl ⟨zM_0 4 1, rfl⟩, Or.inl ⟨zM_0 249 32, rfl⟩⟩
  · rw [c_no, zM_0]; exact inI_0
  · rw [c_op, r_op, zM_0, zM_0]
  · rw [c_no, r_no, zM_0, zM_0]
  · rw [zM_0]
    exact tb_ext (iand_in _ _) inI_0 (fun i hi => by simp [tb_and, tb_0])
  · simp only [zM_0]; decide
  · rw [zM_0] at z
    exact absurd ((kbit0 i).resolve_right (by omega)) z
theorem GSx_0 : GSx zM := ⟨_, GS_0⟩
def JJ (n : Nat) (m : Mem) : Prop := ∃ tc pl, BC tc m ∧ BR tc pl m ∧ RX tc m ∧ RB n m ∧ GSx m
theorem RX_fr {tc tc' : Int} (hle : tc' ≤ tc) {m m1 m2 : Mem} (e1 : ∀ x j, frC 2 x j → m1 x j = m x j) (e2 : ∀ x j, frR 2 x j → m2 x j = m1 x j) (h : RX tc m) : RX tc' m2 := by
  have c : ∀ x j, frC 2 x j → x < 249 → m2 x j = m x j := fun x j q hx => by rw [e2 x j (Or.inl hx), e1 x j q]
  have r : ∀ x j, frR 2 x j → 249 ≤ x → m2 x j = m x j := fun x j q hx => by rw [e2 x j q, e1 x j (Or.inl hx)]
  obtain ⟨⟨t1, t2, t3⟩, ⟨k1, k2, k3, k4, k5⟩, hm⟩ := h
  refine ⟨⟨fun j h0 h1 => ?_, fun j => ?_, fun j => ?_⟩, ⟨?_, ?_, ?_, ?_, fun j h0 h1 => ?_⟩, ?_⟩
  · rw [r 260 j (by unfold frR; omega) (by decide), c 3 j (by unfold frC; omega) (by decide)]; exact t1 j h0 (by omega)
  · rw [c 3 j (by unfold frC; omega) (by decide)]; exact t2 j
  · rw [r 260 j (by unfold frR; omega) (by decide)]; exact t3 j
  · rw [r 249 3 (by unfold frR; omega) (by decide), c 8 0 (by unfold frC; omega) (by decide)]; exact k1
  · rw [r 249 4 (by unfold frR; omega) (by decide), c 8 1 (by unfold frC; omega) (by decide)]; exact k2
  · rw [r 249 5 (by unfold frR; omega) (by decide), c 8 2 (by unfold frC; omega) (by decide)]; exact k3
  · rw [r 249 6 (by unfold frR; omega) (by decide), c 8 3 (by unfold frC; omega) (by decide)]; exact k4
  · rw [c 8 0 (by unfold frC; omega) (by decide)] at h1
    rw [r 251 j (by unfold frR; omega) (by decide), c 9 j (by unfold frC; omega) (by decide)]; exact k5 j h0 h1
  · show m2 249 62 = m2 211 4
    rw [r 249 62 (by unfold frR; omega) (by decide), c 211 4 (by unfold frC; omega) (by decide)]; exact hm
theorem JJ_C4 {n : Nat} {tc tc' pl : Int} {m m1 : Mem} (hC : JC 4 (gC 4 m) tc m1) (hR : BR tc' pl m) (hX : RX tc m) (hB : RB n m) (hC0 : BC tc m) (hG : GSx m) : tc = tc' → JJ n m1 := fun e => by
  subst e
  exact ⟨tc, pl, BC_of hC, BR_tr hR (fun x j q _ => FC_of hC x j (Or.inl q)), RX_fr (Int.le_refl _) (fun x j q => FC_of hC x j (frC_le (by decide) q)) (fun _ _ _ => rfl) hX, RB_fr (Nat.le_refl n) (FC_of hC 1 12 (by unfold frC; omega)) (FC_of hC 249 7 (Or.inl (by decide))) (fun j => FC_of hC 285 j (Or.inl (by decide))) (fun j => FC_of hC 286 j (Or.inl (by decide))) hB, GSx_fr hC0 (fun x j q => FC_of hC x j (GCl_C q)) hG⟩
theorem RX_288 {tc : Int} {m : Mem} {v : Int} (h : RX tc m) : RX tc (upm m 288 0 v) := by
  have e : ∀ x j, x ≠ 288 → upm m 288 0 v x j = m x j := fun x j hx => upm_a _ _ _ _ _ _ hx
  obtain ⟨⟨t1, t2, t3⟩, ⟨k1, k2, k3, k4, k5⟩, hm⟩ := h
  refine ⟨⟨fun j h0 h1 => ?_, fun j => ?_, fun j => ?_⟩, ⟨?_, ?_, ?_, ?_, fun j h0 h1 => ?_⟩, ?_⟩
  · rw [e _ _ (by decide), e _ _ (by decide)]; exact t1 j h0 h1
  · rw [e _ _ (by decide)]; exact t2 j
  · rw [e _ _ (by decide)]; exact t3 j
  · rw [e _ _ (by decide), e _ _ (by decide)]; exact k1
  · rw [e _ _ (by decide), e _ _ (by decide)]; exact k2
  · rw [e _ _ (by decide), e _ _ (by decide)]; exact k3
  · rw [e _ _ (by decide), e _ _ (by decide)]; exact k4
  · rw [e _ _ (by decide)] at h1; rw [e _ _ (by decide), e _ _ (by decide)]; exact k5 j h0 h1
  · show upm m 288 0 v 249 62 = upm m 288 0 v 211 4
    rw [e _ _ (by decide), e _ _ (by decide)]; exact hm
theorem JJ_288 {n : Nat} {m : Mem} {v : Int} (h : JJ n m) : JJ n (upm m 288 0 v) := by
  obtain ⟨tc, pl, hC, hR, hX, hB, hG⟩ := h
  exact ⟨tc, pl, BC_tr hC (fun x j hx => upm_a _ _ _ _ _ _ (by omega)), BR_tr hR (fun x j h0 h1 => upm_a _ _ _ _ _ _ (by omega)), RX_288 hX, RB_fr (Nat.le_refl n) (upm_a _ _ _ _ _ _ (by decide)) (upm_a _ _ _ _ _ _ (by decide)) (fun j => upm_a _ _ _ _ _ _ (by decide)) (fun j => upm_a _ _ _ _ _ _ (by decide)) hB, GSx_fr hC (fun x j q => upm_a _ _ _ _ _ _ (fun z => GCl_n q (Or.inl z))) hG⟩
theorem JJ_le {n : Nat} {m : Mem} (h : JJ (n + 1) m) : JJ n m := by
  obtain ⟨tc, pl, hC, hR, hX, hB, hG⟩ := h
  exact ⟨tc, pl, hC, hR, hX, RB_fr (Nat.le_succ n) rfl rfl (fun _ => rfl) (fun _ => rfl) hB, hG⟩
theorem RB_0 : RB 512 zM := by
  refine ⟨⟨by rw [zM_0]; decide, by rw [zM_0]; decide⟩, fun i i0 i1 => ?_⟩
  rw [zM_0, zM_0, zM_0, zM_0]
  exact ⟨by decide, fun z => absurd ((kbit0 i).resolve_right (by omega)) z, fun z => absurd rfl z.1⟩
theorem JJ_0 : JJ 512 zM := by
  refine ⟨0, 1, ⟨by decide, fun a j => ?_⟩, ⟨⟨by decide, by decide, fun a j => ?_⟩, Or.inr ⟨rfl, rfl⟩, fun w h0 h1 => absurd h1 (by show ¬ w < 0; omega), fun k hk => absurd hk (by show ¬ (k : Int) < 0; omega)⟩, ⟨⟨fun _ _ _ => rfl, fun _ => (by rw [zM_0]; decide), fun _ => (by rw [zM_0]; decide)⟩, ⟨rfl, rfl, rfl, rfl, fun _ _ _ => rfl⟩, rfl⟩, RB_0, GSx_0⟩
  · rw [zM_0]; simp [BdC]
  · rw [zM_0]; simp [BdR, RBd]
theorem cB_193 {n : Nat} {a b : Int} {m1 : Mem} (h : JJ (n + 1) m1) : Cl 230 193 [249, a, b] (fun w u' => ∃ m2, u' = S9 0 m2 ∧ JJ n m2) (S9 0 m1) := by
  obtain ⟨tc, pl, hC, hR, hX, hB, hG⟩ := h
  refine s_193 (d := 227) (g := gR 4 m1) (JW_mk (BR_g 4 hR)) (fun w m2 h2 => ⟨m2, rfl, tc, pl, ?_, ?_, ?_, ?_, ?_⟩)
  · exact BC_tr hC (fun x j q => FR_of (JW_1 h2) x j (Or.inl q))
  · exact BR_of (JW_1 h2)
  · exact RX_fr (Int.le_refl _) (fun _ _ _ => rfl) (fun x j q => FR_of (JW_1 h2) x j (frR_le (by decide) q)) hX
  · exact RB_fr (Nat.le_succ n) (FR_of (JW_1 h2) 1 12 (Or.inl (by decide))) (FR_of (JW_1 h2) 249 7 (by unfold frR; omega)) (fun j => FR_of (JW_1 h2) 285 j (by unfold frR; omega)) (fun j => FR_of (JW_1 h2) 286 j (by unfold frR; omega)) hB
  · exact GSx_fr hC (fun x j q => FR_of (JW_1 h2) x j (GCl_R q)) hG
theorem cB_196 {n : Nat} {a b : Int} {m1 : Mem} (h : JJ (n + 1) m1) : Cl 230 196 [249, a, b] (fun w u' => ∃ m2, u' = S9 0 m2 ∧ JJ n m2) (S9 0 m1) := by
  obtain ⟨tc, pl, hC, hR, hX, hB, hG⟩ := h
  refine s_196 (d := 227) (g := gR 4 m1) (JW_mk (BR_g 4 hR)) (fun w m2 h2 => ⟨m2, rfl, tc, pl, ?_, ?_, ?_, ?_, ?_⟩)
  · exact BC_tr hC (fun x j q => FR_of (JW_1 h2) x j (Or.inl q))
  · exact BR_of (JW_1 h2)
  · exact RX_fr (Int.le_refl _) (fun _ _ _ => rfl) (fun x j q => FR_of (JW_1 h2) x j (frR_le (by decide) q)) hX
  · exact RB_fr (Nat.le_succ n) (FR_of (JW_1 h2) 1 12 (Or.inl (by decide))) (FR_of (JW_1 h2) 249 7 (by unfold frR; omega)) (fun j => FR_of (JW_1 h2) 285 j (by unfold frR; omega)) (fun j => FR_of (JW_1 h2) 286 j (by unfold frR; omega)) hB
  · exact GSx_fr hC (fun x j q => FR_of (JW_1 h2) x j (GCl_R q)) hG
theorem cB_200 {n : Nat} {a b : Int} {m1 : Mem} (h : JJ (n + 1) m1) : Cl 230 200 [249, a, b] (fun w u' => ∃ m2, u' = S9 0 m2 ∧ JJ n m2) (S9 0 m1) := by
  obtain ⟨tc, pl, hC, hR, hX, hB, hG⟩ := h
  refine s_200 (d := 226) (g := gR 4 m1) (JW_mk (BR_g 4 hR)) (fun w m2 h2 => ⟨m2, rfl, tc, pl, ?_, ?_, ?_, ?_, ?_⟩)
  · exact BC_tr hC (fun x j q => FR_of (JW_1 h2) x j (Or.inl q))
  · exact BR_of (JW_1 h2)
  · exact RX_fr (Int.le_refl _) (fun _ _ _ => rfl) (fun x j q => FR_of (JW_1 h2) x j (frR_le (by decide) q)) hX
  · exact RB_fr (Nat.le_succ n) (FR_of (JW_1 h2) 1 12 (Or.inl (by decide))) (FR_of (JW_1 h2) 249 7 (by unfold frR; omega)) (fun j => FR_of (JW_1 h2) 285 j (by unfold frR; omega)) (fun j => FR_of (JW_1 h2) 286 j (by unfold frR; omega)) hB
  · exact GSx_fr hC (fun x j q => FR_of (JW_1 h2) x j (GCl_R q)) hG
theorem cB_204 {n : Nat} {a b : Int} {m1 : Mem} (h : JJ (n + 1) m1) : Cl 230 204 [249, a, b] (fun w u' => ∃ m2, u' = S9 0 m2 ∧ JJ n m2) (S9 0 m1) := by
  obtain ⟨tc, pl, hC, hR, hX, hB, hG⟩ := h
  refine s_204 (d := 224) (g := gR 4 m1) (JW_mk (BR_g 4 hR)) (fun w m2 h2 => ⟨m2, rfl, tc, pl, ?_, ?_, ?_, ?_, ?_⟩)
  · exact BC_tr hC (fun x j q => FR_of (JW_1 h2) x j (Or.inl q))
  · exact BR_of (JW_1 h2)
  · exact RX_fr (Int.le_refl _) (fun _ _ _ => rfl) (fun x j q => FR_of (JW_1 h2) x j (frR_le (by decide) q)) hX
  · exact RB_fr (Nat.le_succ n) (FR_of (JW_1 h2) 1 12 (Or.inl (by decide))) (FR_of (JW_1 h2) 249 7 (by unfold frR; omega)) (fun j => FR_of (JW_1 h2) 285 j (by unfold frR; omega)) (fun j => FR_of (JW_1 h2) 286 j (by unfold frR; omega)) hB
  · exact GSx_fr hC (fun x j q => FR_of (JW_1 h2) x j (GCl_R q)) hG
theorem two_103 {n : Nat} {a : Int} {m : Mem} (h : JJ (n + 1) m) : Cl 230 103 [1, a] (fun v u => ∃ m1, u = S9 0 m1 ∧ Cl 230 238 [249, a] (fun w u' => ∃ m2, u' = S9 0 m2 ∧ JJ n m2) (S9 0 m1)) (S9 0 m) := by
  obtain ⟨tc, pl, hC, hR, hX, hB, hG⟩ := h
  refine s_103 (d := 222) (g := gC 4 m) (BC_g 4 hC) (fun v m1 h1 => ⟨m1, rfl, ?_⟩)
  refine s_238 (d := 222) (g := gR 4 m1) (JW_mk (BR_g 4 (BR_tr hR (fun x j q _ => FC_of h1 x j (Or.inl q))))) (fun w m2 h2 => ⟨m2, rfl, tc, pl, ?_, ?_, ?_, ?_, ?_⟩)
  · exact BC_tr (BC_of h1) (fun x j q => FR_of (JW_1 h2) x j (Or.inl q))
  · exact BR_of (JW_1 h2)
  · exact RX_fr (Int.le_refl _) (fun x j q => FC_of h1 x j (frC_le (by decide) q)) (fun x j q => FR_of (JW_1 h2) x j (frR_le (by decide) q)) hX
  · exact RB_fr (Nat.le_succ n) ((FR_of (JW_1 h2) 1 12 (Or.inl (by decide))).trans (FC_of h1 1 12 (by unfold frC; omega))) ((FR_of (JW_1 h2) 249 7 (by unfold frR; omega)).trans (FC_of h1 249 7 (Or.inl (by decide)))) (fun j => (FR_of (JW_1 h2) 285 j (by unfold frR; omega)).trans (FC_of h1 285 j (Or.inl (by decide)))) (fun j => (FR_of (JW_1 h2) 286 j (by unfold frR; omega)).trans (FC_of h1 286 j (Or.inl (by decide)))) hB
  · exact GSx_fr hC (fun x j q => (FR_of (JW_1 h2) x j (GCl_R q)).trans (FC_of h1 x j (GCl_C q))) hG
theorem two_108 {n : Nat} {a b : Int} {m : Mem} (h : JJ (n + 1) m) : Cl 230 108 [1, a, b] (fun v u => ∃ m1, u = S9 0 m1 ∧ Cl 230 242 [249, a, b] (fun w u' => ∃ m2, u' = S9 0 m2 ∧ JJ n m2) (S9 0 m1)) (S9 0 m) := by
  obtain ⟨tc, pl, hC, hR, hX, hB, hG⟩ := h
  refine s_108 (d := 222) (g := gC 4 m) (BC_g 4 hC) (fun v m1 h1 => ⟨m1, rfl, ?_⟩)
  refine s_242 (d := 222) (g := gR 4 m1) (JW_mk (BR_g 4 (BR_tr hR (fun x j q _ => FC_of h1 x j (Or.inl q))))) (fun w m2 h2 => ⟨m2, rfl, tc, pl, ?_, ?_, ?_, ?_, ?_⟩)
  · exact BC_tr (BC_of h1) (fun x j q => FR_of (JW_1 h2) x j (Or.inl q))
  · exact BR_of (JW_1 h2)
  · exact RX_fr (Int.le_refl _) (fun x j q => FC_of h1 x j (frC_le (by decide) q)) (fun x j q => FR_of (JW_1 h2) x j (frR_le (by decide) q)) hX
  · exact RB_fr (Nat.le_succ n) ((FR_of (JW_1 h2) 1 12 (Or.inl (by decide))).trans (FC_of h1 1 12 (by unfold frC; omega))) ((FR_of (JW_1 h2) 249 7 (by unfold frR; omega)).trans (FC_of h1 249 7 (Or.inl (by decide)))) (fun j => (FR_of (JW_1 h2) 285 j (by unfold frR; omega)).trans (FC_of h1 285 j (Or.inl (by decide)))) (fun j => (FR_of (JW_1 h2) 286 j (by unfold frR; omega)).trans (FC_of h1 286 j (Or.inl (by decide)))) hB
  · exact GSx_fr hC (fun x j q => (FR_of (JW_1 h2) x j (GCl_R q)).trans (FC_of h1 x j (GCl_C q))) hG
theorem two_109 {n : Nat} {a : Int} {m : Mem} (h : JJ (n + 1) m) : Cl 230 109 [1, a] (fun v u => ∃ m1, u = S9 0 m1 ∧ Cl 230 243 [249, a] (fun w u' => ∃ m2, u' = S9 0 m2 ∧ JJ n m2) (S9 0 m1)) (S9 0 m) := by
  obtain ⟨tc, pl, hC, hR, hX, hB, hG⟩ := h
  refine s_109 (d := 222) (g := gC 4 m) (BC_g 4 hC) (fun v m1 h1 => ⟨m1, rfl, ?_⟩)
  refine s_243 (d := 222) (g := gR 4 m1) (JW_mk (BR_g 4 (BR_tr hR (fun x j q _ => FC_of h1 x j (Or.inl q))))) (fun w m2 h2 => ⟨m2, rfl, tc, pl, ?_, ?_, ?_, ?_, ?_⟩)
  · exact BC_tr (BC_of h1) (fun x j q => FR_of (JW_1 h2) x j (Or.inl q))
  · exact BR_of (JW_1 h2)
  · exact RX_fr (Int.le_refl _) (fun x j q => FC_of h1 x j (frC_le (by decide) q)) (fun x j q => FR_of (JW_1 h2) x j (frR_le (by decide) q)) hX
  · exact RB_fr (Nat.le_succ n) ((FR_of (JW_1 h2) 1 12 (Or.inl (by decide))).trans (FC_of h1 1 12 (by unfold frC; omega))) ((FR_of (JW_1 h2) 249 7 (by unfold frR; omega)).trans (FC_of h1 249 7 (Or.inl (by decide)))) (fun j => (FR_of (JW_1 h2) 285 j (by unfold frR; omega)).trans (FC_of h1 285 j (Or.inl (by decide)))) (fun j => (FR_of (JW_1 h2) 286 j (by unfold frR; omega)).trans (FC_of h1 286 j (Or.inl (by decide)))) hB
  · exact GSx_fr hC (fun x j q => (FR_of (JW_1 h2) x j (GCl_R q)).trans (FC_of h1 x j (GCl_C q))) hG
theorem two_110 {n : Nat} {a b c : Int} {m : Mem} (h : JJ (n + 1) m) : Cl 230 110 [1, a, b, c] (fun v u => ∃ m1, u = S9 0 m1 ∧ Cl 230 244 [249, a, b, c] (fun w u' => ∃ m2, u' = S9 0 m2 ∧ JJ n m2) (S9 0 m1)) (S9 0 m) := by
  obtain ⟨tc, pl, hC, hR, hX, hB, hG⟩ := h
  refine s_110 (d := 222) (g := gC 4 m) (BC_g 4 hC) (fun v m1 h1 => ⟨m1, rfl, ?_⟩)
  refine s_244 (d := 224) (g := gR 4 m1) (JW_mk (BR_g 4 (BR_tr hR (fun x j q _ => FC_of h1 x j (Or.inl q))))) (fun w m2 h2 => ⟨m2, rfl, tc, pl, ?_, ?_, ?_, ?_, ?_⟩)
  · exact BC_tr (BC_of h1) (fun x j q => FR_of (JW_1 h2) x j (Or.inl q))
  · exact BR_of (JW_1 h2)
  · exact RX_fr (Int.le_refl _) (fun x j q => FC_of h1 x j (frC_le (by decide) q)) (fun x j q => FR_of (JW_1 h2) x j (frR_le (by decide) q)) hX
  · exact RB_fr (Nat.le_succ n) ((FR_of (JW_1 h2) 1 12 (Or.inl (by decide))).trans (FC_of h1 1 12 (by unfold frC; omega))) ((FR_of (JW_1 h2) 249 7 (by unfold frR; omega)).trans (FC_of h1 249 7 (Or.inl (by decide)))) (fun j => (FR_of (JW_1 h2) 285 j (by unfold frR; omega)).trans (FC_of h1 285 j (Or.inl (by decide)))) (fun j => (FR_of (JW_1 h2) 286 j (by unfold frR; omega)).trans (FC_of h1 286 j (Or.inl (by decide)))) hB
  · exact GSx_fr hC (fun x j q => (FR_of (JW_1 h2) x j (GCl_R q)).trans (FC_of h1 x j (GCl_C q))) hG
theorem two_113 {n : Nat} {a b c : Int} {m : Mem} (h : JJ (n + 1) m) : Cl 230 113 [1, a, b, c] (fun v u => ∃ m1, u = S9 0 m1 ∧ Cl 230 248 [249, a, b, c] (fun w u' => ∃ m2, u' = S9 0 m2 ∧ JJ n m2) (S9 0 m1)) (S9 0 m) := by
  obtain ⟨tc, pl, hC, hR, hX, hB, hG⟩ := h
  refine s_113 (d := 222) (g := gC 4 m) (BC_g 4 hC) (fun v m1 h1 => ⟨m1, rfl, ?_⟩)
  refine s_248 (d := 224) (g := gR 4 m1) (JW_mk (BR_g 4 (BR_tr hR (fun x j q _ => FC_of h1 x j (Or.inl q))))) (fun w m2 h2 => ⟨m2, rfl, tc, pl, ?_, ?_, ?_, ?_, ?_⟩)
  · exact BC_tr (BC_of h1) (fun x j q => FR_of (JW_1 h2) x j (Or.inl q))
  · exact BR_of (JW_1 h2)
  · exact RX_fr (Int.le_refl _) (fun x j q => FC_of h1 x j (frC_le (by decide) q)) (fun x j q => FR_of (JW_1 h2) x j (frR_le (by decide) q)) hX
  · exact RB_fr (Nat.le_succ n) ((FR_of (JW_1 h2) 1 12 (Or.inl (by decide))).trans (FC_of h1 1 12 (by unfold frC; omega))) ((FR_of (JW_1 h2) 249 7 (by unfold frR; omega)).trans (FC_of h1 249 7 (Or.inl (by decide)))) (fun j => (FR_of (JW_1 h2) 285 j (by unfold frR; omega)).trans (FC_of h1 285 j (Or.inl (by decide)))) (fun j => (FR_of (JW_1 h2) 286 j (by unfold frR; omega)).trans (FC_of h1 286 j (Or.inl (by decide)))) hB
  · exact GSx_fr hC (fun x j q => (FR_of (JW_1 h2) x j (GCl_R q)).trans (FC_of h1 x j (GCl_C q))) hG
theorem two_114 {n : Nat} {a b : Int} {m : Mem} (h : JJ (n + 1) m) : Cl 230 114 [1, a, b] (fun v u => ∃ m1, u = S9 0 m1 ∧ Cl 230 249 [249, a, b] (fun w u' => ∃ m2, u' = S9 0 m2 ∧ JJ n m2) (S9 0 m1)) (S9 0 m) := by
  obtain ⟨tc, pl, hC, hR, hX, hB, hG⟩ := h
  refine s_114 (d := 224) (g := gC 4 m) (BC_g 4 hC) (fun v m1 h1 => ⟨m1, rfl, ?_⟩)
  refine s_249 (d := 225) (g := gR 4 m1) (BR_g 4 (BR_tr hR (fun x j q _ => FC_of h1 x j (Or.inl q)))) (fun w m2 h2 => ⟨m2, rfl, tc, pl, ?_, ?_, ?_, ?_, ?_⟩)
  · exact BC_tr (BC_of h1) (fun x j q => FR_of h2 x j (Or.inl q))
  · exact BR_of h2
  · exact RX_fr (Int.le_refl _) (fun x j q => FC_of h1 x j (frC_le (by decide) q)) (fun x j q => FR_of h2 x j (frR_le (by decide) q)) hX
  · exact RB_fr (Nat.le_succ n) ((FR_of h2 1 12 (Or.inl (by decide))).trans (FC_of h1 1 12 (by unfold frC; omega))) ((FR_of h2 249 7 (by unfold frR; omega)).trans (FC_of h1 249 7 (Or.inl (by decide)))) (fun j => (FR_of h2 285 j (by unfold frR; omega)).trans (FC_of h1 285 j (Or.inl (by decide)))) (fun j => (FR_of h2 286 j (by unfold frR; omega)).trans (FC_of h1 286 j (Or.inl (by decide)))) hB
  · exact GSx_fr hC (fun x j q => (FR_of h2 x j (GCl_R q)).trans (FC_of h1 x j (GCl_C q))) hG
theorem two_120 {n : Nat} {a b : Int} {m : Mem} (h : JJ (n + 1) m) : Cl 230 120 [1, a, b] (fun v u => ∃ m1, u = S9 0 m1 ∧ Cl 230 253 [249, a, b] (fun w u' => ∃ m2, u' = S9 0 m2 ∧ JJ n m2) (S9 0 m1)) (S9 0 m) := by
  obtain ⟨tc, pl, hC, hR, hX, hB, hG⟩ := h
  refine s_120 (d := 224) (g := gC 4 m) (BC_g 4 hC) (fun v m1 h1 => ⟨m1, rfl, ?_⟩)
  refine s_253 (d := 225) (g := gR 4 m1) (BR_g 4 (BR_tr hR (fun x j q _ => FC_of h1 x j (Or.inl q)))) (fun w m2 h2 => ⟨m2, rfl, tc, pl, ?_, ?_, ?_, ?_, ?_⟩)
  · exact BC_tr (BC_of h1) (fun x j q => FR_of h2 x j (Or.inl q))
  · exact BR_of h2
  · exact RX_fr (Int.le_refl _) (fun x j q => FC_of h1 x j (frC_le (by decide) q)) (fun x j q => FR_of h2 x j (frR_le (by decide) q)) hX
  · exact RB_fr (Nat.le_succ n) ((FR_of h2 1 12 (Or.inl (by decide))).trans (FC_of h1 1 12 (by unfold frC; omega))) ((FR_of h2 249 7 (by unfold frR; omega)).trans (FC_of h1 249 7 (Or.inl (by decide)))) (fun j => (FR_of h2 285 j (by unfold frR; omega)).trans (FC_of h1 285 j (Or.inl (by decide)))) (fun j => (FR_of h2 286 j (by unfold frR; omega)).trans (FC_of h1 286 j (Or.inl (by decide)))) hB
  · exact GSx_fr hC (fun x j q => (FR_of h2 x j (GCl_R q)).trans (FC_of h1 x j (GCl_C q))) hG
theorem two_122 {n : Nat} {a b : Int} {m : Mem} (h : JJ (n + 1) m) : Cl 230 122 [1, a, b] (fun v u => ∃ m1, u = S9 0 m1 ∧ Cl 230 254 [249, a, b] (fun w u' => ∃ m2, u' = S9 0 m2 ∧ JJ n m2) (S9 0 m1)) (S9 0 m) := by
  obtain ⟨tc, pl, hC, hR, hX, hB, hG⟩ := h
  refine s_122 (d := 222) (g := gC 4 m) (BC_g 4 hC) (fun v m1 h1 => ⟨m1, rfl, ?_⟩)
  refine s_254 (d := 223) (g := gR 4 m1) (BR_g 4 (BR_tr hR (fun x j q _ => FC_of h1 x j (Or.inl q)))) (fun w m2 h2 => ⟨m2, rfl, tc, pl, ?_, ?_, ?_, ?_, ?_⟩)
  · exact BC_tr (BC_of h1) (fun x j q => FR_of h2 x j (Or.inl q))
  · exact BR_of h2
  · exact RX_fr (Int.le_refl _) (fun x j q => FC_of h1 x j (frC_le (by decide) q)) (fun x j q => FR_of h2 x j (frR_le (by decide) q)) hX
  · exact RB_fr (Nat.le_succ n) ((FR_of h2 1 12 (Or.inl (by decide))).trans (FC_of h1 1 12 (by unfold frC; omega))) ((FR_of h2 249 7 (by unfold frR; omega)).trans (FC_of h1 249 7 (Or.inl (by decide)))) (fun j => (FR_of h2 285 j (by unfold frR; omega)).trans (FC_of h1 285 j (Or.inl (by decide)))) (fun j => (FR_of h2 286 j (by unfold frR; omega)).trans (FC_of h1 286 j (Or.inl (by decide)))) hB
  · exact GSx_fr hC (fun x j q => (FR_of h2 x j (GCl_R q)).trans (FC_of h1 x j (GCl_C q))) hG
theorem two_123 {n : Nat} {a b c : Int} {m : Mem} (h : JJ (n + 1) m) : Cl 230 123 [1, a, b, c] (fun v u => ∃ m1, u = S9 0 m1 ∧ Cl 230 256 [249, a, b, c] (fun w u' => ∃ m2, u' = S9 0 m2 ∧ JJ n m2) (S9 0 m1)) (S9 0 m) := by
  obtain ⟨tc, pl, hC, hR, hX, hB, hG⟩ := h
  refine s_123 (d := 198) (g := gC 4 m) (BC_g 4 hC) (fun v m1 h1 => ⟨m1, rfl, ?_⟩)
  refine s_256 (d := 221) (g := gR 4 m1) (BR_g 4 (BR_tr hR (fun x j q _ => FC_of h1 x j (Or.inl q)))) (fun w m2 h2 => ⟨m2, rfl, tc, pl, ?_, ?_, ?_, ?_, ?_⟩)
  · exact BC_tr (BC_of h1) (fun x j q => FR_of h2 x j (Or.inl q))
  · exact BR_of h2
  · exact RX_fr (Int.le_refl _) (fun x j q => FC_of h1 x j (frC_le (by decide) q)) (fun x j q => FR_of h2 x j (frR_le (by decide) q)) hX
  · exact RB_fr (Nat.le_succ n) ((FR_of h2 1 12 (Or.inl (by decide))).trans (FC_of h1 1 12 (by unfold frC; omega))) ((FR_of h2 249 7 (by unfold frR; omega)).trans (FC_of h1 249 7 (Or.inl (by decide)))) (fun j => (FR_of h2 285 j (by unfold frR; omega)).trans (FC_of h1 285 j (Or.inl (by decide)))) (fun j => (FR_of h2 286 j (by unfold frR; omega)).trans (FC_of h1 286 j (Or.inl (by decide)))) hB
  · exact GSx_fr hC (fun x j q => (FR_of h2 x j (GCl_R q)).trans (FC_of h1 x j (GCl_C q))) hG
theorem two_130 {n : Nat} {a b : Int} {m : Mem} (h : JJ (n + 1) m) : Cl 230 130 [1, a, b] (fun v u => ∃ m1, u = S9 0 m1 ∧ Cl 230 263 [249, a, b] (fun w u' => ∃ m2, u' = S9 0 m2 ∧ JJ n m2) (S9 0 m1)) (S9 0 m) := by
  obtain ⟨tc, pl, hC, hR, hX, hB, hG⟩ := h
  refine s_130 (d := 198) (g := gC 4 m) (BC_g 4 hC) (fun v m1 h1 => ⟨m1, rfl, ?_⟩)
  refine s_263 (d := 221) (g := gR 4 m1) (BR_g 4 (BR_tr hR (fun x j q _ => FC_of h1 x j (Or.inl q)))) (fun w m2 h2 => ⟨m2, rfl, tc, pl, ?_, ?_, ?_, ?_, ?_⟩)
  · exact BC_tr (BC_of h1) (fun x j q => FR_of h2 x j (Or.inl q))
  · exact BR_of h2
  · exact RX_fr (Int.le_refl _) (fun x j q => FC_of h1 x j (frC_le (by decide) q)) (fun x j q => FR_of h2 x j (frR_le (by decide) q)) hX
  · exact RB_fr (Nat.le_succ n) ((FR_of h2 1 12 (Or.inl (by decide))).trans (FC_of h1 1 12 (by unfold frC; omega))) ((FR_of h2 249 7 (by unfold frR; omega)).trans (FC_of h1 249 7 (Or.inl (by decide)))) (fun j => (FR_of h2 285 j (by unfold frR; omega)).trans (FC_of h1 285 j (Or.inl (by decide)))) (fun j => (FR_of h2 286 j (by unfold frR; omega)).trans (FC_of h1 286 j (Or.inl (by decide)))) hB
  · exact GSx_fr hC (fun x j q => (FR_of h2 x j (GCl_R q)).trans (FC_of h1 x j (GCl_C q))) hG
theorem two_131 {n : Nat} {a b c : Int} {m : Mem} (h : JJ (n + 1) m) : Cl 230 131 [1, a, b, c] (fun v u => ∃ m1, u = S9 0 m1 ∧ Cl 230 264 [249, a, b, c] (fun w u' => ∃ m2, u' = S9 0 m2 ∧ JJ n m2) (S9 0 m1)) (S9 0 m) := by
  obtain ⟨tc, pl, hC, hR, hX, hB, hG⟩ := h
  refine s_131 (d := 217) (g := gC 4 m) (BC_g 4 hC) (fun v m1 h1 => ⟨m1, rfl, ?_⟩)
  refine s_264 (d := 213) (g := gR 4 m1) (BR_g 4 (BR_tr hR (fun x j q _ => FC_of h1 x j (Or.inl q)))) (fun w m2 h2 => ⟨m2, rfl, tc, pl, ?_, ?_, ?_, ?_, ?_⟩)
  · exact BC_tr (BC_of h1) (fun x j q => FR_of h2 x j (Or.inl q))
  · exact BR_of h2
  · exact RX_fr (Int.le_refl _) (fun x j q => FC_of h1 x j (frC_le (by decide) q)) (fun x j q => FR_of h2 x j (frR_le (by decide) q)) hX
  · exact RB_fr (Nat.le_succ n) ((FR_of h2 1 12 (Or.inl (by decide))).trans (FC_of h1 1 12 (by unfold frC; omega))) ((FR_of h2 249 7 (by unfold frR; omega)).trans (FC_of h1 249 7 (Or.inl (by decide)))) (fun j => (FR_of h2 285 j (by unfold frR; omega)).trans (FC_of h1 285 j (Or.inl (by decide)))) (fun j => (FR_of h2 286 j (by unfold frR; omega)).trans (FC_of h1 286 j (Or.inl (by decide)))) hB
  · exact GSx_fr hC (fun x j q => (FR_of h2 x j (GCl_R q)).trans (FC_of h1 x j (GCl_C q))) hG
theorem two_136 {n : Nat} {a b c f : Int} {m : Mem} (hi : inI b) (h : JJ (n + 1) m) : Cl 230 136 [1, a, b, c, f] (fun v u => ∃ m1, u = S9 0 m1 ∧ Cl 230 266 [249, a, b, c, f] (fun w u' => ∃ m2, u' = S9 0 m2 ∧ JJ n m2) (S9 0 m1)) (S9 0 m) := by
  obtain ⟨tc, pl, hC, hR, hX, hB, hG⟩ := h
  refine s_136 (d := 215) (g := gC 4 m) hi (BC_g 4 hC) (fun v m1 h1 => ⟨m1, rfl, ?_⟩)
  refine s_266 (d := 216) (g := gR 4 m1) (BR_g 4 (BR_tr hR (fun x j q _ => FC_of h1 x j (Or.inl q)))) (fun w m2 h2 => ⟨m2, rfl, tc, pl, ?_, ?_, ?_, ?_, ?_⟩)
  · exact BC_tr (BC_of h1) (fun x j q => FR_of h2 x j (Or.inl q))
  · exact BR_of h2
  · exact RX_fr (Int.le_refl _) (fun x j q => FC_of h1 x j (frC_le (by decide) q)) (fun x j q => FR_of h2 x j (frR_le (by decide) q)) hX
  · exact RB_fr (Nat.le_succ n) ((FR_of h2 1 12 (Or.inl (by decide))).trans (FC_of h1 1 12 (by unfold frC; omega))) ((FR_of h2 249 7 (by unfold frR; omega)).trans (FC_of h1 249 7 (Or.inl (by decide)))) (fun j => (FR_of h2 285 j (by unfold frR; omega)).trans (FC_of h1 285 j (Or.inl (by decide)))) (fun j => (FR_of h2 286 j (by unfold frR; omega)).trans (FC_of h1 286 j (Or.inl (by decide)))) hB
  · exact GSx_fr hC (fun x j q => (FR_of h2 x j (GCl_R q)).trans (FC_of h1 x j (GCl_C q))) hG
theorem two_146 {n : Nat} {a b : Int} {m : Mem} (h : JJ (n + 1) m) : Cl 230 146 [1, a, b] (fun v u => ∃ m1, u = S9 0 m1 ∧ Cl 230 271 [249, a, b] (fun w u' => ∃ m2, u' = S9 0 m2 ∧ JJ n m2) (S9 0 m1)) (S9 0 m) := by
  obtain ⟨tc, pl, hC, hR, hX, hB, hG⟩ := h
  refine s_146 (d := 204) (g := gC 4 m) (BC_g 4 hC) (fun v m1 h1 => ⟨m1, rfl, ?_⟩)
  refine s_271 (d := 215) (g := gR 4 m1) (BR_g 4 (BR_tr hR (fun x j q _ => FC_of h1 x j (Or.inl q)))) (fun w m2 h2 => ⟨m2, rfl, tc, pl, ?_, ?_, ?_, ?_, ?_⟩)
  · exact BC_tr (BC_of h1) (fun x j q => FR_of h2 x j (Or.inl q))
  · exact BR_of h2
  · exact RX_fr (Int.le_refl _) (fun x j q => FC_of h1 x j (frC_le (by decide) q)) (fun x j q => FR_of h2 x j (frR_le (by decide) q)) hX
  · exact RB_fr (Nat.le_succ n) ((FR_of h2 1 12 (Or.inl (by decide))).trans (FC_of h1 1 12 (by unfold frC; omega))) ((FR_of h2 249 7 (by unfold frR; omega)).trans (FC_of h1 249 7 (Or.inl (by decide)))) (fun j => (FR_of h2 285 j (by unfold frR; omega)).trans (FC_of h1 285 j (Or.inl (by decide)))) (fun j => (FR_of h2 286 j (by unfold frR; omega)).trans (FC_of h1 286 j (Or.inl (by decide)))) hB
  · exact GSx_fr hC (fun x j q => (FR_of h2 x j (GCl_R q)).trans (FC_of h1 x j (GCl_C q))) hG
theorem two_151 {n : Nat} {a b c f : Int} {m : Mem} (h : JJ (n + 1) m) : Cl 230 151 [1, a, b, c, f] (fun v u => ∃ m1, u = S9 0 m1 ∧ Cl 230 275 [249, a, b, c, f] (fun w u' => ∃ m2, u' = S9 0 m2 ∧ JJ n m2) (S9 0 m1)) (S9 0 m) := by
  obtain ⟨tc, pl, hC, hR, hX, hB, hG⟩ := h
  refine s_151 (d := 222) (g := gC 4 m) (BC_g 4 hC) (fun v m1 h1 => ⟨m1, rfl, ?_⟩)
  refine s_275 (d := 223) (g := gR 4 m1) (BR_g 4 (BR_tr hR (fun x j q _ => FC_of h1 x j (Or.inl q)))) (fun w m2 h2 => ⟨m2, rfl, tc, pl, ?_, ?_, ?_, ?_, ?_⟩)
  · exact BC_tr (BC_of h1) (fun x j q => FR_of h2 x j (Or.inl q))
  · exact BR_of h2
  · exact RX_fr (Int.le_refl _) (fun x j q => FC_of h1 x j (frC_le (by decide) q)) (fun x j q => FR_of h2 x j (frR_le (by decide) q)) hX
  · exact RB_fr (Nat.le_succ n) ((FR_of h2 1 12 (Or.inl (by decide))).trans (FC_of h1 1 12 (by unfold frC; omega))) ((FR_of h2 249 7 (by unfold frR; omega)).trans (FC_of h1 249 7 (Or.inl (by decide)))) (fun j => (FR_of h2 285 j (by unfold frR; omega)).trans (FC_of h1 285 j (Or.inl (by decide)))) (fun j => (FR_of h2 286 j (by unfold frR; omega)).trans (FC_of h1 286 j (Or.inl (by decide)))) hB
  · exact GSx_fr hC (fun x j q => (FR_of h2 x j (GCl_R q)).trans (FC_of h1 x j (GCl_C q))) hG
theorem two_154 {n : Nat} {a : Int} {m : Mem} (h : JJ (n + 1) m) : Cl 230 154 [1, a] (fun v u => ∃ m1, u = S9 0 m1 ∧ Cl 230 278 [249, a] (fun w u' => ∃ m2, u' = S9 0 m2 ∧ JJ n m2) (S9 0 m1)) (S9 0 m) := by
  obtain ⟨tc, pl, hC, hR, hX, hB, hG⟩ := h
  refine s_154 (d := 227) (g := gC 4 m) (BC_g 4 hC) (fun v m1 h1 => ⟨m1, rfl, ?_⟩)
  refine s_278 (d := 227) (g := gR 4 m1) (JW_mk (BR_g 4 (BR_tr hR (fun x j q _ => FC_of h1 x j (Or.inl q))))) (fun w m2 h2 => ⟨m2, rfl, tc, pl, ?_, ?_, ?_, ?_, ?_⟩)
  · exact BC_tr (BC_of h1) (fun x j q => FR_of (JW_1 h2) x j (Or.inl q))
  · exact BR_of (JW_1 h2)
  · exact RX_fr (Int.le_refl _) (fun x j q => FC_of h1 x j (frC_le (by decide) q)) (fun x j q => FR_of (JW_1 h2) x j (frR_le (by decide) q)) hX
  · exact RB_fr (Nat.le_succ n) ((FR_of (JW_1 h2) 1 12 (Or.inl (by decide))).trans (FC_of h1 1 12 (by unfold frC; omega))) ((FR_of (JW_1 h2) 249 7 (by unfold frR; omega)).trans (FC_of h1 249 7 (Or.inl (by decide)))) (fun j => (FR_of (JW_1 h2) 285 j (by unfold frR; omega)).trans (FC_of h1 285 j (Or.inl (by decide)))) (fun j => (FR_of (JW_1 h2) 286 j (by unfold frR; omega)).trans (FC_of h1 286 j (Or.inl (by decide)))) hB
  · exact GSx_fr hC (fun x j q => (FR_of (JW_1 h2) x j (GCl_R q)).trans (FC_of h1 x j (GCl_C q))) hG
theorem cB_281 {n : Nat} {a : Int} {m1 : Mem} (h : JJ (n + 1) m1) : Cl 230 281 [249, a] (fun w u' => ∃ m2, u' = S9 0 m2 ∧ JJ n m2) (S9 0 m1) := by
  obtain ⟨tc, pl, hC, hR, hX, hB, hG⟩ := h
  refine s_281 (d := 228) (g := gR 4 m1) (JW_mk (BR_g 4 hR)) (fun w m2 h2 => ⟨m2, rfl, tc, pl, ?_, ?_, ?_, ?_, ?_⟩)
  · exact BC_tr hC (fun x j q => FR_of (JW_1 h2) x j (Or.inl q))
  · exact BR_of (JW_1 h2)
  · exact RX_fr (Int.le_refl _) (fun _ _ _ => rfl) (fun x j q => FR_of (JW_1 h2) x j (frR_le (by decide) q)) hX
  · exact RB_fr (Nat.le_succ n) (FR_of (JW_1 h2) 1 12 (Or.inl (by decide))) (FR_of (JW_1 h2) 249 7 (by unfold frR; omega)) (fun j => FR_of (JW_1 h2) 285 j (by unfold frR; omega)) (fun j => FR_of (JW_1 h2) 286 j (by unfold frR; omega)) hB
  · exact GSx_fr hC (fun x j q => FR_of (JW_1 h2) x j (GCl_R q)) hG
end
section
/-! sign, end, kitchen, mark, wipe on both sides -/
theorem BC_up {tc a j v : Int} {m : Mem} (h : BC tc m) (ha : a < 249) (hv : BdC tc a j v) : BC tc (upm m a j v) := BC_of (JC_up (BC_g 0 h) (by unfold frC; omega) hv)
theorem BC_hi {tc a j v : Int} {m : Mem} (h : BC tc m) (ha : 249 ≤ a) : BC tc (upm m a j v) := BC_tr h (fun x y hx => upm_a _ _ _ _ _ _ (by omega))
theorem BR_up {tc pl a j v : Int} {m : Mem} (h : BR tc pl m) (ha : 249 ≤ a ∧ a < 288) (hf : frc a j) (hv : BdR tc pl a j v) : BR tc pl (upm m a j v) := BR_of (JR_up (BR_g 0 h) (by unfold frR; omega) hf hv)
theorem BR_lo {tc pl a j v : Int} {m : Mem} (h : BR tc pl m) (ha : a < 249) : BR tc pl (upm m a j v) := BR_tr h (fun x y hx _ => upm_a _ _ _ _ _ _ (by omega))
theorem BR_0 {tc pl : Int} {m : Mem} (h : BR tc pl m) : BR tc pl (upm m 249 0 0) := BR_up h (by decide) (by first | decide | simp [frc]) (by simp [BdR])
/-- THE KITCHEN and the marks' number stand where their cells stand -/
theorem RKM_fr {m m' : Mem} (e : ∀ x j, (x = 8 ∨ x = 9 ∨ x = 211 ∨ x = 251 ∨ (x = 249 ∧ (3 ≤ j ∧ j ≤ 6 ∨ j = 62))) → m' x j = m x j) (h : RK m ∧ RM m) : RK m' ∧ RM m' := by
  obtain ⟨⟨k1, k2, k3, k4, k5⟩, hm⟩ := h
  refine ⟨⟨?_, ?_, ?_, ?_, fun j h0 h1 => ?_⟩, ?_⟩
  · rw [e 249 3 (by omega), e 8 0 (by omega)]; exact k1
  · rw [e 249 4 (by omega), e 8 1 (by omega)]; exact k2
  · rw [e 249 5 (by omega), e 8 2 (by omega)]; exact k3
  · rw [e 249 6 (by omega), e 8 3 (by omega)]; exact k4
  · rw [e 8 0 (by omega)] at h1
    rw [e 251 j (by omega), e 9 j (by omega)]; exact k5 j h0 h1
  · show m' 249 62 = m' 211 4
    rw [e 249 62 (by omega), e 211 4 (by omega)]; exact hm
theorem RT_fr {tc : Int} {m m' : Mem} (e : ∀ x j, (x = 3 ∨ x = 260) → m' x j = m x j) (h : RT tc m) : RT tc m' :=
  ⟨fun j h0 h1 => by rw [e _ _ (Or.inr rfl), e _ _ (Or.inl rfl)]; exact h.1 j h0 h1, fun j => by rw [e _ _ (Or.inl rfl)]; exact h.2.1 j, fun j => by rw [e _ _ (Or.inr rfl)]; exact h.2.2 j⟩
theorem BC_len {tc v : Int} {m : Mem} (h : BC tc m) (h0 : 0 ≤ v) (h1 : v ≤ 80) : BC v (upm m 2 1 v) := BC_of (JC_len (BC_g 0 h) h0 h1)
theorem BR_len {tc pl v : Int} {m : Mem} (h : BR tc pl m) (h0 : 0 ≤ v) (h1 : v ≤ 80) : BR v pl (upm m 249 18 v) := BR_of (JR_len (BR_g 0 h) h0 h1)
theorem BC_3 {tc : Int} {m m' : Mem} (h : BC tc m) (e : ∀ x j, x < 249 → x ≠ 3 → m' x j = m x j) : BC tc m' := by
  refine ⟨h.1, fun a j => ?_⟩
  by_cases ha : a < 249
  · by_cases h3 : a = 3
    · subst h3; simp [BdC, hnd]
    · rw [e a j ha h3]; exact h.2 a j
  · exact BdC_out (by omega)
theorem BR_260 {tc pl : Int} {m m' : Mem} (h : BR tc pl m) (e : ∀ x j, 249 ≤ x → x < 288 → x ≠ 260 → m' x j = m x j) : BR tc pl m' := by
  have e5 : m' 265 = m 265 := by funext y; exact e 265 y (by decide) (by decide) (by decide)
  refine ⟨⟨h.1.1, h.1.2.1, fun a j => ?_⟩, ?_, fun w h0 h1 => ?_, ?_⟩
  · by_cases ha : 249 ≤ a ∧ a < 288
    · by_cases h3 : a = 260
      · subst h3; simp [BdR]
      · rw [e a j ha.1 ha.2 h3]; exact h.1.2.2 a j
    · exact BdR_out (by omega)
  · rw [e 249 3 (by decide) (by decide) (by decide)]; exact h.2.1
  · rw [e 254 w (by decide) (by decide) (by decide)]
    rw [e 249 4 (by decide) (by decide) (by decide)] at h1
    exact h.2.2.1 w h0 h1
  · rw [e5, e 249 32 (by decide) (by decide) (by decide)]; exact h.2.2.2
theorem two_12 {a : Int} {n : Nat} {m : Mem} (h : JJ (n + 1) m) : Cl 230 12 [1, a] (fun v u => ∃ m1, u = S9 0 m1 ∧ Cl 230 167 [249, a] (fun w u' => ∃ m2, u' = S9 0 m2 ∧ JJ n m2) (S9 0 m1)) (S9 0 m) := by
  obtain ⟨tc, pl, hC, hR, hX, hB, hG⟩ := h
  have hs := JC_s (BC_g 0 hC)
  have hr := JR_s (BR_g 0 hR)
  have e0 : ∀ m9 : Mem, ∀ x j, ¬ (x = 249 ∧ j = 0) → upm m9 249 0 0 x j = m9 x j := fun m9 x j q => by unfold upm; rw [if_neg q]
  refine t_sign (d := 228) (by omega) (by omega) ⟨fun h => ⟨m, rfl, t_signM (by omega) (by omega) ⟨fun h' => ⟨_, rfl, ⟨tc, pl, BC_hi hC (by decide), BR_0 hR, ⟨RT_fr (fun x j q => e0 _ _ _ (by omega)) hX.1, RKM_fr (fun x j q => e0 _ _ _ (by omega)) hX.2⟩, RB_fr (Nat.le_succ n) (e0 _ _ _ (by omega)) (e0 _ _ _ (by omega)) (fun j => e0 _ _ _ (by omega)) (fun j => e0 _ _ _ (by omega)) hB, GSx_fr hC (fun x j q => e0 _ _ _ (fun y => GCl_n q (by omega))) hG⟩⟩, fun h' => absurd h' (by omega)⟩⟩, fun h m1 g => ⟨m1, rfl, ?_⟩⟩
  obtain ⟨g1, g2, g3⟩ := g
  rw [hs.1] at g1 g2 g3
  have e18 : m1 249 18 = tc := by rw [g1 _ _ (by omega) (by omega)]; exact hr.1
  refine t_signM (by omega) (by omega) ⟨fun h' => absurd h' (by omega), fun _ m2 k => ⟨m2, rfl, ?_⟩⟩
  obtain ⟨k1, k2, k3⟩ := k
  rw [e18] at k1 k2 k3
  have c : ∀ x j, x < 249 → ¬ (x = 3 ∧ tc ≤ j ∧ j < tc + 4) → ¬ (x = 2 ∧ j = 1) → m2 x j = m x j := fun x j hx h1 h2 => by rw [k1 x j (by omega) (by omega), e0 _ _ _ (by omega), g1 x j h1 h2]
  have r : ∀ x j, 249 ≤ x → ¬ (x = 260 ∧ tc ≤ j ∧ j < tc + 4) → ¬ (x = 249 ∧ j = 18) → ¬ (x = 249 ∧ j = 0) → m2 x j = m x j := fun x j hx h1 h2 h3 => by rw [k1 x j h1 h2, e0 _ _ _ h3, g1 x j (by omega) (by omega)]
  have m23 : ∀ j, m2 3 j = m1 3 j := fun j => by rw [k1 3 j (by omega) (by omega), e0 _ _ _ (by omega)]
  refine ⟨tc + 4, pl, ?_, ?_, ⟨⟨fun j h0 h1 => ?_, fun j => ?_, fun j => ?_⟩, RKM_fr (m := m) (fun x j q => ?_) hX.2⟩, RB_fr (Nat.le_succ n) (c 1 12 (by decide) (by omega) (by omega)) (r 249 7 (by decide) (by omega) (by omega) (by omega)) (fun j => r 285 j (by decide) (by omega) (by omega) (by omega)) (fun j => r 286 j (by decide) (by omega) (by omega) (by omega)) hB, GSx_fr hC (fun x j q => by have z := GCl_n q; by_cases hx : x < 249; exact c x j hx (by omega) (by omega); exact r x j (by omega) (by omega) (by omega) (by omega)) hG⟩
  · refine BC_3 (BC_len hC (v := tc + 4) (by omega) (by omega)) (fun x j hx h3 => ?_)
    by_cases q : x = 2 ∧ j = 1
    · obtain ⟨rfl, rfl⟩ := q
      rw [upm_v, k1 2 1 (by omega) (by omega), e0 _ _ _ (by omega), g3]
    · rw [c x j hx (by omega) q]; unfold upm; rw [if_neg q]
  · refine BR_260 (BR_len (BR_0 hR) (v := tc + 4) (by omega) (by omega)) (fun x j h0 h1 h3 => ?_)
    by_cases q : x = 249 ∧ j = 18
    · obtain ⟨rfl, rfl⟩ := q
      rw [upm_v, k3]
    · rw [k1 x j (by omega) q]
      by_cases q0 : x = 249 ∧ j = 0
      · obtain ⟨rfl, rfl⟩ := q0
        rw [upm_v, upm_k (by decide), upm_v]
      · rw [e0 _ _ _ q0, g1 x j (by omega) (by omega)]
        unfold upm; rw [if_neg q, if_neg q0]
  · rw [m23]
    by_cases hj : j < tc
    · rw [r 260 j (by decide) (by omega) (by omega) (by omega), g1 3 j (by omega) (by omega)]
      exact hX.1.1 j h0 hj
    · have e1 := g2 (j - tc) (by omega) (by omega)
      have e2 := k2 (j - tc) (by omega) (by omega)
      rw [show tc + (j - tc) = j by omega] at e1 e2
      rw [e1, e2]
  · rw [m23]
    by_cases hj : tc ≤ j ∧ j < tc + 4
    · have e1 := g2 (j - tc) (by omega) (by omega)
      rw [show tc + (j - tc) = j by omega] at e1
      rw [e1]; exact and255 _
    · rw [g1 3 j (by omega) (by omega)]; exact hX.1.2.1 j
  · by_cases hj : tc ≤ j ∧ j < tc + 4
    · have e1 := k2 (j - tc) (by omega) (by omega)
      rw [show tc + (j - tc) = j by omega] at e1
      rw [e1]; exact and255 _
    · rw [r 260 j (by decide) (by omega) (by omega) (by omega)]; exact hX.1.2.2 j
  · by_cases hx : x < 249
    · exact c x j hx (by omega) (by omega)
    · exact r x j (by omega) (by omega) (by omega) (by omega)
theorem two_14 {a : Int} {n : Nat} {m : Mem} (h : JJ (n + 1) m) : Cl 230 14 [1, a] (fun v u => ∃ m1, u = S9 0 m1 ∧ Cl 230 168 [249, a] (fun w u' => ∃ m2, u' = S9 0 m2 ∧ JJ n m2) (S9 0 m1)) (S9 0 m) := by
  obtain ⟨tc, pl, hC, hR, hX, hB, hG⟩ := h
  have hs := JC_s (BC_g 0 hC)
  have hr := JR_s (BR_g 0 hR)
  refine s_14 (d := 228) (g := gC 4 m) (BC_g 4 hC) (fun v m1 tc1 h1 p1 => ⟨m1, rfl, ?_⟩)
  refine s_168 (d := 228) (g := gR 4 m1) (JW_mk (BR_g 4 (BR_tr hR (fun x j q _ => h1.2.1 x j (Or.inl q))))) (fun w m2 tc2 h2 p2 => ?_)
  have et : tc2 = tc1 := by omega
  subst et
  refine ⟨m2, rfl, ⟨tc2, pl, ?_, ?_, ?_, ?_, ?_⟩⟩
  · exact BC_tr (BC_of h1) (fun x j q => (JW_1 h2).1.2.2.1 x j (Or.inl q))
  · exact BR_of (JW_1 h2)
  · exact RX_fr (by omega) (fun x j q => h1.2.1 x j (frC_le (by decide) q)) (fun x j q => (JW_1 h2).1.2.2.1 x j (frR_le (by decide) q)) hX
  · exact RB_fr (Nat.le_succ n) (((JW_1 h2).1.2.2.1 1 12 (Or.inl (by decide))).trans (h1.2.1 1 12 (by show frC 4 1 12; unfold frC; omega))) (((JW_1 h2).1.2.2.1 249 7 (by show frR 4 249 7; unfold frR; omega)).trans (h1.2.1 249 7 (Or.inl (by decide)))) (fun j => ((JW_1 h2).1.2.2.1 285 j (by show frR 4 285 j; unfold frR; omega)).trans (h1.2.1 285 j (Or.inl (by decide)))) (fun j => ((JW_1 h2).1.2.2.1 286 j (by show frR 4 286 j; unfold frR; omega)).trans (h1.2.1 286 j (Or.inl (by decide)))) hB
  · exact GSx_fr hC (fun x j q => ((JW_1 h2).1.2.2.1 x j (GCl_R q)).trans (h1.2.1 x j (GCl_C q))) hG
theorem two_143 {a b : Int} {n : Nat} {m : Mem} (h : JJ (n + 1) m) : Cl 230 143 [1, a, b] (fun v u => ∃ m1, u = S9 0 m1 ∧ Cl 230 269 [249, a, b] (fun w u' => ∃ m2, u' = S9 0 m2 ∧ JJ n m2) (S9 0 m1)) (S9 0 m) := by
  obtain ⟨tc, pl, hC, hR, hX, hB, hG⟩ := h
  have hs := JC_s (BC_g 0 hC)
  have hr := JR_s (BR_g 0 hR)
  have hm : m 249 62 = m 211 4 := hX.2.2
  have h8 : m 249 3 = m 8 0 := hX.2.1.1
  have hb := hC.2 211 4
  simp [BdC] at hb
  have c0 : ∀ m9 : Mem, ∀ x j, x ≠ 249 → upm m9 249 0 0 x j = m9 x j := fun m9 x j q => upm_a _ _ _ _ _ _ q
  refine p_143x (d := 227) (by omega) (by omega) (fun v ok hv => ⟨_, rfl, ?_⟩) (fun no => ⟨m, rfl, ?_⟩)
  · have r1 : ∀ x j, 249 ≤ x → upm (upm (upm m 212 (m 211 4) a) 213 (m 211 4) b) 211 4 v x j = m x j := fun x j q => by rw [upm_a _ _ _ _ _ _ (by omega), upm_a _ _ _ _ _ _ (by omega), upm_a _ _ _ _ _ _ (by omega)]
    refine p_269x (d := 227) (by rw [r1 _ _ (by decide)]; omega) (by rw [r1 _ _ (by decide)]; omega) (fun w ok2 hw => ?_) (fun no => absurd ?_ no)
    · rw [r1 _ _ (by decide)] at hw ⊢
      rw [r1 _ _ (by decide)] at ok2
      refine ⟨_, rfl, ⟨tc, pl, ?_, ?_, ⟨RT_fr (m := m) (fun x j q => ?_) hX.1, ?_, ?_⟩, RB_fr (Nat.le_succ n) ?_ ?_ (fun j => ?_) (fun j => ?_) hB, GSx_fr hC (fun x j q => by have z := GCl_n q; (repeat rw [upm_app, if_neg (by omega)])) hG⟩⟩
      · refine BC_hi (BC_hi (BC_hi (BC_hi (BC_up (BC_up (BC_up hC (by decide) ?_) (by decide) ?_) (by decide) ?_) (by decide)) (by decide)) (by decide)) (by decide)
        · simp [BdC]; omega
        · simp [BdC, hnd]
        · simp [BdC]; omega
      · refine BR_up (BR_up (BR_up (BR_0 (BR_lo (BR_lo (BR_lo hR (by decide)) (by decide)) (by decide))) (by decide) ?_ ?_) (by decide) ?_ ?_) (by decide) ?_ ?_
        · first | decide | simp [frc]
        · simp [BdR]
        · first | decide | simp [frc]
        · simp [BdR]
        · first | decide | simp [frc]
        · simp [BdR]; omega
      · rcases q with rfl | rfl <;> simp only [upm_f, Int.reduceEq, Int.reduceNe, ne_eq, not_false_eq_true]
      · obtain ⟨k1, k2, k3, k4, k5⟩ := hX.2.1
        refine ⟨?_, ?_, ?_, ?_, fun j h0 h1 => ?_⟩
        · simp only [upm_f, upm_app, Int.reduceEq, Int.reduceNe, ne_eq, not_false_eq_true, and_false, if_false]; exact k1
        · simp only [upm_f, upm_app, Int.reduceEq, Int.reduceNe, ne_eq, not_false_eq_true, and_false, if_false]; exact k2
        · simp only [upm_f, upm_app, Int.reduceEq, Int.reduceNe, ne_eq, not_false_eq_true, and_false, if_false]; exact k3
        · simp only [upm_f, upm_app, Int.reduceEq, Int.reduceNe, ne_eq, not_false_eq_true, and_false, if_false]; exact k4
        · simp only [upm_f, Int.reduceEq, Int.reduceNe, ne_eq, not_false_eq_true] at h1 ⊢; exact k5 j h0 h1
      · show upm _ 249 62 w 249 62 = _
        rw [upm_v]
        simp only [upm_f, upm_app, Int.reduceEq, Int.reduceNe, ne_eq, not_false_eq_true, and_self, and_true, and_false, false_and, true_and, if_true, if_false]
        omega
      · simp only [upm_f, upm_app, Int.reduceEq, Int.reduceNe, ne_eq, not_false_eq_true, and_false, false_and, if_false]
      · simp only [upm_f, upm_app, Int.reduceEq, Int.reduceNe, ne_eq, not_false_eq_true, and_false, false_and, if_false]
      · simp only [upm_f, upm_app, Int.reduceEq, Int.reduceNe, ne_eq, not_false_eq_true, and_false, false_and, if_false]
      · simp only [upm_f, upm_app, Int.reduceEq, Int.reduceNe, ne_eq, not_false_eq_true, and_false, false_and, if_false]
    · rw [r1 _ _ (by decide), r1 _ _ (by decide)]; omega
  · refine p_269x (d := 227) (by omega) (by omega) (fun w ok2 hw => absurd ?_ no) (fun no2 => ?_)
    · omega
    · exact ⟨_, rfl, ⟨tc, pl, BC_hi hC (by decide), BR_0 hR, ⟨RT_fr (fun x j q => c0 _ _ _ (by omega)) hX.1, RKM_fr (fun x j q => by unfold upm; rw [if_neg (by omega)]) hX.2⟩, RB_fr (Nat.le_succ n) (c0 _ _ _ (by omega)) (upm_k (by decide)) (fun j => c0 _ _ _ (by omega)) (fun j => c0 _ _ _ (by omega)) hB, GSx_fr hC (fun x j q => by have z := GCl_n q; rw [upm_app, if_neg (by omega)]) hG⟩⟩
theorem two_145 {n : Nat} {m : Mem} (h : JJ (n + 1) m) : Cl 230 145 [1] (fun v u => ∃ m1, u = S9 0 m1 ∧ Cl 230 270 [249] (fun w u' => ∃ m2, u' = S9 0 m2 ∧ JJ n m2) (S9 0 m1)) (S9 0 m) := by
  obtain ⟨tc, pl, hC, hR, hX, hB, hG⟩ := h
  have hs := JC_s (BC_g 0 hC)
  have hr := JR_s (BR_g 0 hR)
  have hm : m 249 62 = m 211 4 := hX.2.2
  refine p_145x (d := 229) ⟨_, rfl, p_270x (d := 229) ?_⟩
  refine ⟨_, rfl, ⟨tc, pl, BC_hi (BC_hi (BC_up hC (by decide) (by simp [BdC])) (by decide)) (by decide), BR_up (BR_0 (BR_lo hR (by decide))) (by decide) (by first | decide | simp [frc]) (by simp [BdR]), ⟨RT_fr (m := m) (fun x j q => ?_) hX.1, ?_, ?_⟩, RB_fr (Nat.le_succ n) ?_ ?_ (fun j => ?_) (fun j => ?_) hB, GSx_fr hC (fun x j q => by have z := GCl_n q; (repeat rw [upm_app, if_neg (by omega)])) hG⟩⟩
  · rcases q with rfl | rfl <;> simp only [upm_f, Int.reduceEq, Int.reduceNe, ne_eq, not_false_eq_true]
  · obtain ⟨k1, k2, k3, k4, k5⟩ := hX.2.1
    refine ⟨?_, ?_, ?_, ?_, fun j h0 h1 => ?_⟩
    · simp only [upm_f, upm_app, Int.reduceEq, Int.reduceNe, ne_eq, not_false_eq_true, and_false, if_false]; exact k1
    · simp only [upm_f, upm_app, Int.reduceEq, Int.reduceNe, ne_eq, not_false_eq_true, and_false, if_false]; exact k2
    · simp only [upm_f, upm_app, Int.reduceEq, Int.reduceNe, ne_eq, not_false_eq_true, and_false, if_false]; exact k3
    · simp only [upm_f, upm_app, Int.reduceEq, Int.reduceNe, ne_eq, not_false_eq_true, and_false, if_false]; exact k4
    · simp only [upm_f, Int.reduceEq, Int.reduceNe, ne_eq, not_false_eq_true] at h1 ⊢; exact k5 j h0 h1
  · show upm _ 249 62 0 249 62 = _
    rw [upm_v]
    simp only [upm_f, upm_app, Int.reduceEq, Int.reduceNe, ne_eq, not_false_eq_true, and_self, and_true, and_false, false_and, true_and, if_true, if_false]
  · simp only [upm_f, upm_app, Int.reduceEq, Int.reduceNe, ne_eq, not_false_eq_true, and_false, false_and, if_false]
  · simp only [upm_f, upm_app, Int.reduceEq, Int.reduceNe, ne_eq, not_false_eq_true, and_false, false_and, if_false]
  · simp only [upm_f, upm_app, Int.reduceEq, Int.reduceNe, ne_eq, not_false_eq_true, and_false, false_and, if_false]
  · simp only [upm_f, upm_app, Int.reduceEq, Int.reduceNe, ne_eq, not_false_eq_true, and_false, false_and, if_false]
end
section
/-! the acts on both sides -/
theorem x0C_o (m : Mem) : x0C m 10 0 = m 15 10 := by
  unfold x0C; rw [asU_f _ _ _ _ (by decide), asU_f _ _ _ _ (by decide), asU_f _ _ _ _ (by decide), c_op]
theorem two_57 {n : Nat} {a b : Int} {m : Mem} (h : JJ (n + 1) m) : Cl 230 57 [1, a, b] (fun v u => ∃ m1, u = S9 0 m1 ∧ Cl 230 214 [249, a, b] (fun w u' => ∃ m2, u' = S9 0 m2 ∧ JJ n m2) (S9 0 m1)) (S9 0 m) := by
  obtain ⟨tc, pl, hC, hR, hX, hB, R, hG⟩ := h
  have hs := JC_s (BC_g 0 hC)
  have hr := JR_s (BR_g 0 hR)
  obtain ⟨⟨kv1, kv2, kv3⟩, ⟨hI, hD, hS, hO, hN⟩, ⟨⟨u1, u2, u3, u4, u5⟩, -⟩, -, hRc, hRr⟩ := id hG
  obtain ⟨k3, k4, k5, k6, k7⟩ := hX.2.1
  refine f_57 (d := 226) (g := gC 3 m) (L := m 8 0) (BC_g 3 hC) hI hD ⟨u1, u2⟩ ⟨u3, u4⟩ (fun v m1 h1 a1 e1 hD1 => ⟨m1, rfl, ?_⟩)
  have c1 := FC_of h1
  have ch : ∀ x j, 249 ≤ x → m1 x j = m x j := fun x j q => c1 x j (Or.inl q)
  have e58 : asR m1 258 0 = asR m 258 0 := asR_fr (fun y _ _ => ch 258 y (by decide)) (fun y _ _ => ch 249 y (by decide))
  have q4 : m1 249 4 = m 8 1 := (ch 249 4 (by decide)).trans k4
  have q5 : m1 249 5 = m 8 2 := (ch 249 5 (by decide)).trans k5
  have q6 : m1 249 6 = m 8 3 := (ch 249 6 (by decide)).trans k6
  have hIS : IV (m 8 0) (m 8 2) (m 8 3) (asR m 258 0) := IV_SE hI hS
  have hIR : IV (m 8 0) (m1 249 5) (m1 249 6) (asR m1 258 0) := by rw [q5, q6, e58]; exact hIS
  have hIx : IV (m 8 0) (m 8 2) (m 8 3) (x0C m) := IV_SE hI (SE_sy (x0_SE m))
  have hSx : SE (m 8 2) (m 8 3) (x0C m) (asR m 258 0) := SE_tr (x0_SE m) hS
  have hOx : DB (m 8 1) (x0C m 10 0) := by rw [x0C_o]; exact hO
  have hNx : BN (m 8 2) (m 8 3) (x0C m) := BN_SE hN (SE_sy (x0_SE m))
  have hRm : BR tc pl m1 := BR_tr hR (fun x j q _ => ch x j q)
  refine f_214 (d := 225) (g := gR 3 m1) (pl := pl) (L := m 8 0) (BR_g 3 hRm) hIR (fun w m2 h2 a2 e2 => ?_)
  rw [q5, q6, e58] at e2
  have hE : AF (m 8 2) (m 8 3) (aTake (m 8 2) (m 8 3) (x0C m) a b) (aTake (m 8 2) (m 8 3) (asR m 258 0) a b) := take_f hIx hSx
  have hw : w = v := by
    have z := hE.1
    rw [← e1, ← e2] at z
    exact z.symm
  subst hw
  refine ⟨m2, rfl, ⟨tc, pl, ?_, ?_, ?_, ?_, R, ?_⟩⟩
  · exact BC_tr (BC_of h1) (fun x j q => FR_of h2 x j (Or.inl q))
  · exact BR_of h2
  · exact RX_fr (Int.le_refl _) (fun x j q => FC_of h1 x j (frC_le (by decide) q)) (fun x j q => FR_of h2 x j (frR_le (by decide) q)) hX
  · exact RB_fr (Nat.le_succ n) ((FR_of h2 1 12 (Or.inl (by decide))).trans (FC_of h1 1 12 (by unfold frC; omega))) ((FR_of h2 249 7 (by unfold frR; omega)).trans (FC_of h1 249 7 (Or.inl (by decide)))) (fun j => (FR_of h2 285 j (by unfold frR; omega)).trans (FC_of h1 285 j (Or.inl (by decide)))) (fun j => (FR_of h2 286 j (by unfold frR; omega)).trans (FC_of h1 286 j (Or.inl (by decide)))) hB
  · exact GS_two (by omega) (by omega) hG a1 a2 (congrArg Prod.snd e1) (congrArg Prod.snd e2) (take_i hIx) (by have z := hD1; rw [show asC m1 15 = _ from congrArg Prod.snd e1] at z; exact z) hE.2 (by rw [take_o]; exact hOx) (take_b hNx)

theorem two_65 {n : Nat} {a : Int} {m : Mem} (h : JJ (n + 1) m) : Cl 230 65 [1, a] (fun v u => ∃ m1, u = S9 0 m1 ∧ Cl 230 219 [249, a] (fun w u' => ∃ m2, u' = S9 0 m2 ∧ JJ n m2) (S9 0 m1)) (S9 0 m) := by
  obtain ⟨tc, pl, hC, hR, hX, hB, R, hG⟩ := h
  have hs := JC_s (BC_g 0 hC)
  have hr := JR_s (BR_g 0 hR)
  obtain ⟨⟨kv1, kv2, kv3⟩, ⟨hI, hD, hS, hO, hN⟩, ⟨⟨u1, u2, u3, u4, u5⟩, -⟩, -, hRc, hRr⟩ := id hG
  obtain ⟨k3, k4, k5, k6, k7⟩ := hX.2.1
  refine f_65 (d := 226) (g := gC 3 m) (L := m 8 0) (BC_g 3 hC) hI hD ⟨u1, u2⟩ ⟨u3, u4⟩ (Int.le_refl _) (fun v m1 h1 a1 e1 hD1 => ⟨m1, rfl, ?_⟩)
  have c1 := FC_of h1
  have ch : ∀ x j, 249 ≤ x → m1 x j = m x j := fun x j q => c1 x j (Or.inl q)
  have e58 : asR m1 258 0 = asR m 258 0 := asR_fr (fun y _ _ => ch 258 y (by decide)) (fun y _ _ => ch 249 y (by decide))
  have q4 : m1 249 4 = m 8 1 := (ch 249 4 (by decide)).trans k4
  have q5 : m1 249 5 = m 8 2 := (ch 249 5 (by decide)).trans k5
  have q6 : m1 249 6 = m 8 3 := (ch 249 6 (by decide)).trans k6
  have hIS : IV (m 8 0) (m 8 2) (m 8 3) (asR m 258 0) := IV_SE hI hS
  have hIR : IV (m 8 0) (m1 249 5) (m1 249 6) (asR m1 258 0) := by rw [q5, q6, e58]; exact hIS
  have hIx : IV (m 8 0) (m 8 2) (m 8 3) (x0C m) := IV_SE hI (SE_sy (x0_SE m))
  have hSx : SE (m 8 2) (m 8 3) (x0C m) (asR m 258 0) := SE_tr (x0_SE m) hS
  have hOx : DB (m 8 1) (x0C m 10 0) := by rw [x0C_o]; exact hO
  have hNx : BN (m 8 2) (m 8 3) (x0C m) := BN_SE hN (SE_sy (x0_SE m))
  have hRm : BR tc pl m1 := BR_tr hR (fun x j q _ => ch x j q)
  have hk1 : ∀ p, 0 ≤ p → p < m 8 0 → m 9 p = m1 251 p := fun p p0 p1 => ((ch 251 p (by decide)).trans (k7 p p0 p1)).symm
  refine f_219 (d := 225) (g := gR 3 m1) (pl := pl) (L := m 8 0) (BR_g 3 hRm) hIR (fun w m2 h2 a2 e2 => ?_)
  rw [q6, e58] at e2
  have hE : AF (m 8 2) (m 8 3) (aDown (m 8 3) (m 9) (x0C m) a) (aDown (m 8 3) (m1 251) (asR m 258 0) a) := down_f hIx hSx hk1
  have hw : w = v := by
    have z := hE.1
    rw [← e1, ← e2] at z
    exact z.symm
  subst hw
  refine ⟨m2, rfl, ⟨tc, pl, ?_, ?_, ?_, ?_, R, ?_⟩⟩
  · exact BC_tr (BC_of h1) (fun x j q => FR_of h2 x j (Or.inl q))
  · exact BR_of h2
  · exact RX_fr (Int.le_refl _) (fun x j q => FC_of h1 x j (frC_le (by decide) q)) (fun x j q => FR_of h2 x j (frR_le (by decide) q)) hX
  · exact RB_fr (Nat.le_succ n) ((FR_of h2 1 12 (Or.inl (by decide))).trans (FC_of h1 1 12 (by unfold frC; omega))) ((FR_of h2 249 7 (by unfold frR; omega)).trans (FC_of h1 249 7 (Or.inl (by decide)))) (fun j => (FR_of h2 285 j (by unfold frR; omega)).trans (FC_of h1 285 j (Or.inl (by decide)))) (fun j => (FR_of h2 286 j (by unfold frR; omega)).trans (FC_of h1 286 j (Or.inl (by decide)))) hB
  · exact GS_two (by omega) (by omega) hG a1 a2 (congrArg Prod.snd e1) (congrArg Prod.snd e2) (down_i hIx) (by have z := hD1; rw [show asC m1 15 = _ from congrArg Prod.snd e1] at z; exact z) hE.2 (by rw [down_o]; exact hOx) (down_b hNx)

theorem two_87 {n : Nat} {a : Int} {m : Mem} (h : JJ (n + 1) m) : Cl 230 87 [1, a] (fun v u => ∃ m1, u = S9 0 m1 ∧ Cl 230 228 [249, a] (fun w u' => ∃ m2, u' = S9 0 m2 ∧ JJ n m2) (S9 0 m1)) (S9 0 m) := by
  obtain ⟨tc, pl, hC, hR, hX, hB, R, hG⟩ := h
  have hs := JC_s (BC_g 0 hC)
  have hr := JR_s (BR_g 0 hR)
  obtain ⟨⟨kv1, kv2, kv3⟩, ⟨hI, hD, hS, hO, hN⟩, ⟨⟨u1, u2, u3, u4, u5⟩, -⟩, -, hRc, hRr⟩ := id hG
  obtain ⟨k3, k4, k5, k6, k7⟩ := hX.2.1
  refine f_87 (d := 226) (g := gC 3 m) (L := m 8 0) (BC_g 3 hC) hI hD ⟨u1, u2⟩ ⟨u3, u4⟩ (fun v m1 h1 a1 e1 hD1 => ⟨m1, rfl, ?_⟩)
  have c1 := FC_of h1
  have ch : ∀ x j, 249 ≤ x → m1 x j = m x j := fun x j q => c1 x j (Or.inl q)
  have e58 : asR m1 258 0 = asR m 258 0 := asR_fr (fun y _ _ => ch 258 y (by decide)) (fun y _ _ => ch 249 y (by decide))
  have q4 : m1 249 4 = m 8 1 := (ch 249 4 (by decide)).trans k4
  have q5 : m1 249 5 = m 8 2 := (ch 249 5 (by decide)).trans k5
  have q6 : m1 249 6 = m 8 3 := (ch 249 6 (by decide)).trans k6
  have hIS : IV (m 8 0) (m 8 2) (m 8 3) (asR m 258 0) := IV_SE hI hS
  have hIR : IV (m 8 0) (m1 249 5) (m1 249 6) (asR m1 258 0) := by rw [q5, q6, e58]; exact hIS
  have hIx : IV (m 8 0) (m 8 2) (m 8 3) (x0C m) := IV_SE hI (SE_sy (x0_SE m))
  have hSx : SE (m 8 2) (m 8 3) (x0C m) (asR m 258 0) := SE_tr (x0_SE m) hS
  have hOx : DB (m 8 1) (x0C m 10 0) := by rw [x0C_o]; exact hO
  have hNx : BN (m 8 2) (m 8 3) (x0C m) := BN_SE hN (SE_sy (x0_SE m))
  have hRm : BR tc pl m1 := BR_tr hR (fun x j q _ => ch x j q)
  refine f_228 (d := 225) (g := gR 3 m1) (pl := pl) (L := m 8 0) (BR_g 3 hRm) hIR (fun w m2 h2 a2 e2 => ?_)
  rw [q6, e58] at e2
  have hE : AF (m 8 2) (m 8 3) (aChange (m 8 3) (x0C m) a) (aChange (m 8 3) (asR m 258 0) a) := change_f hSx
  have hw : w = v := by
    have z := hE.1
    rw [← e1, ← e2] at z
    exact z.symm
  subst hw
  refine ⟨m2, rfl, ⟨tc, pl, ?_, ?_, ?_, ?_, R, ?_⟩⟩
  · exact BC_tr (BC_of h1) (fun x j q => FR_of h2 x j (Or.inl q))
  · exact BR_of h2
  · exact RX_fr (Int.le_refl _) (fun x j q => FC_of h1 x j (frC_le (by decide) q)) (fun x j q => FR_of h2 x j (frR_le (by decide) q)) hX
  · exact RB_fr (Nat.le_succ n) ((FR_of h2 1 12 (Or.inl (by decide))).trans (FC_of h1 1 12 (by unfold frC; omega))) ((FR_of h2 249 7 (by unfold frR; omega)).trans (FC_of h1 249 7 (Or.inl (by decide)))) (fun j => (FR_of h2 285 j (by unfold frR; omega)).trans (FC_of h1 285 j (Or.inl (by decide)))) (fun j => (FR_of h2 286 j (by unfold frR; omega)).trans (FC_of h1 286 j (Or.inl (by decide)))) hB
  · exact GS_two (by omega) (by omega) hG a1 a2 (congrArg Prod.snd e1) (congrArg Prod.snd e2) (change_i hIx) (by have z := hD1; rw [show asC m1 15 = _ from congrArg Prod.snd e1] at z; exact z) hE.2 (by rw [change_o]; exact hOx) (change_b hNx)

theorem two_89 {n : Nat} {a b : Int} {m : Mem} (h : JJ (n + 1) m) : Cl 230 89 [1, a, b] (fun v u => ∃ m1, u = S9 0 m1 ∧ Cl 230 230 [249, a, b] (fun w u' => ∃ m2, u' = S9 0 m2 ∧ JJ n m2) (S9 0 m1)) (S9 0 m) := by
  obtain ⟨tc, pl, hC, hR, hX, hB, R, hG⟩ := h
  have hs := JC_s (BC_g 0 hC)
  have hr := JR_s (BR_g 0 hR)
  obtain ⟨⟨kv1, kv2, kv3⟩, ⟨hI, hD, hS, hO, hN⟩, ⟨⟨u1, u2, u3, u4, u5⟩, -⟩, -, hRc, hRr⟩ := id hG
  obtain ⟨k3, k4, k5, k6, k7⟩ := hX.2.1
  refine f_89 (d := 226) (g := gC 3 m) (L := m 8 0) (BC_g 3 hC) hI hD ⟨u1, u2⟩ ⟨u3, u4⟩ (fun v m1 h1 a1 e1 hD1 => ⟨m1, rfl, ?_⟩)
  have c1 := FC_of h1
  have ch : ∀ x j, 249 ≤ x → m1 x j = m x j := fun x j q => c1 x j (Or.inl q)
  have e58 : asR m1 258 0 = asR m 258 0 := asR_fr (fun y _ _ => ch 258 y (by decide)) (fun y _ _ => ch 249 y (by decide))
  have q4 : m1 249 4 = m 8 1 := (ch 249 4 (by decide)).trans k4
  have q5 : m1 249 5 = m 8 2 := (ch 249 5 (by decide)).trans k5
  have q6 : m1 249 6 = m 8 3 := (ch 249 6 (by decide)).trans k6
  have hIS : IV (m 8 0) (m 8 2) (m 8 3) (asR m 258 0) := IV_SE hI hS
  have hIR : IV (m 8 0) (m1 249 5) (m1 249 6) (asR m1 258 0) := by rw [q5, q6, e58]; exact hIS
  have hIx : IV (m 8 0) (m 8 2) (m 8 3) (x0C m) := IV_SE hI (SE_sy (x0_SE m))
  have hSx : SE (m 8 2) (m 8 3) (x0C m) (asR m 258 0) := SE_tr (x0_SE m) hS
  have hOx : DB (m 8 1) (x0C m 10 0) := by rw [x0C_o]; exact hO
  have hNx : BN (m 8 2) (m 8 3) (x0C m) := BN_SE hN (SE_sy (x0_SE m))
  have hRm : BR tc pl m1 := BR_tr hR (fun x j q _ => ch x j q)
  refine f_230 (d := 225) (g := gR 3 m1) (pl := pl) (L := m 8 0) (BR_g 3 hRm) hIR (fun w m2 h2 a2 e2 => ?_)
  rw [q6, e58] at e2
  have hE : AF (m 8 2) (m 8 3) (aGive (m 8 3) (x0C m) a b) (aGive (m 8 3) (asR m 258 0) a b) := give_f hSx
  have hw : w = v := by
    have z := hE.1
    rw [← e1, ← e2] at z
    exact z.symm
  subst hw
  refine ⟨m2, rfl, ⟨tc, pl, ?_, ?_, ?_, ?_, R, ?_⟩⟩
  · exact BC_tr (BC_of h1) (fun x j q => FR_of h2 x j (Or.inl q))
  · exact BR_of h2
  · exact RX_fr (Int.le_refl _) (fun x j q => FC_of h1 x j (frC_le (by decide) q)) (fun x j q => FR_of h2 x j (frR_le (by decide) q)) hX
  · exact RB_fr (Nat.le_succ n) ((FR_of h2 1 12 (Or.inl (by decide))).trans (FC_of h1 1 12 (by unfold frC; omega))) ((FR_of h2 249 7 (by unfold frR; omega)).trans (FC_of h1 249 7 (Or.inl (by decide)))) (fun j => (FR_of h2 285 j (by unfold frR; omega)).trans (FC_of h1 285 j (Or.inl (by decide)))) (fun j => (FR_of h2 286 j (by unfold frR; omega)).trans (FC_of h1 286 j (Or.inl (by decide)))) hB
  · exact GS_two (by omega) (by omega) hG a1 a2 (congrArg Prod.snd e1) (congrArg Prod.snd e2) (give_i hIx) (by have z := hD1; rw [show asC m1 15 = _ from congrArg Prod.snd e1] at z; exact z) hE.2 (by rw [give_o]; exact hOx) (give_b hNx)

theorem two_91 {n : Nat} {a b : Int} {m : Mem} (h : JJ (n + 1) m) : Cl 230 91 [1, a, b] (fun v u => ∃ m1, u = S9 0 m1 ∧ Cl 230 232 [249, a, b] (fun w u' => ∃ m2, u' = S9 0 m2 ∧ JJ n m2) (S9 0 m1)) (S9 0 m) := by
  obtain ⟨tc, pl, hC, hR, hX, hB, R, hG⟩ := h
  have hs := JC_s (BC_g 0 hC)
  have hr := JR_s (BR_g 0 hR)
  obtain ⟨⟨kv1, kv2, kv3⟩, ⟨hI, hD, hS, hO, hN⟩, ⟨⟨u1, u2, u3, u4, u5⟩, -⟩, -, hRc, hRr⟩ := id hG
  obtain ⟨k3, k4, k5, k6, k7⟩ := hX.2.1
  refine f_91 (d := 226) (g := gC 3 m) (L := m 8 0) (BC_g 3 hC) hI hD ⟨u1, u2⟩ ⟨u3, u4⟩ (fun v m1 h1 a1 e1 hD1 => ⟨m1, rfl, ?_⟩)
  have c1 := FC_of h1
  have ch : ∀ x j, 249 ≤ x → m1 x j = m x j := fun x j q => c1 x j (Or.inl q)
  have e58 : asR m1 258 0 = asR m 258 0 := asR_fr (fun y _ _ => ch 258 y (by decide)) (fun y _ _ => ch 249 y (by decide))
  have q4 : m1 249 4 = m 8 1 := (ch 249 4 (by decide)).trans k4
  have q5 : m1 249 5 = m 8 2 := (ch 249 5 (by decide)).trans k5
  have q6 : m1 249 6 = m 8 3 := (ch 249 6 (by decide)).trans k6
  have hIS : IV (m 8 0) (m 8 2) (m 8 3) (asR m 258 0) := IV_SE hI hS
  have hIR : IV (m 8 0) (m1 249 5) (m1 249 6) (asR m1 258 0) := by rw [q5, q6, e58]; exact hIS
  have hIx : IV (m 8 0) (m 8 2) (m 8 3) (x0C m) := IV_SE hI (SE_sy (x0_SE m))
  have hSx : SE (m 8 2) (m 8 3) (x0C m) (asR m 258 0) := SE_tr (x0_SE m) hS
  have hOx : DB (m 8 1) (x0C m 10 0) := by rw [x0C_o]; exact hO
  have hNx : BN (m 8 2) (m 8 3) (x0C m) := BN_SE hN (SE_sy (x0_SE m))
  have hRm : BR tc pl m1 := BR_tr hR (fun x j q _ => ch x j q)
  refine f_232 (d := 227) (g := gR 3 m1) (pl := pl) (L := m 8 0) (BR_g 3 hRm) hIR (fun w m2 h2 a2 e2 => ?_)
  rw [q6, e58] at e2
  have hE : AF (m 8 2) (m 8 3) (aFold (m 8 3) (x0C m) a b) (aFold (m 8 3) (asR m 258 0) a b) := fold_f hSx
  have hw : w = v := by
    have z := hE.1
    rw [← e1, ← e2] at z
    exact z.symm
  subst hw
  refine ⟨m2, rfl, ⟨tc, pl, ?_, ?_, ?_, ?_, R, ?_⟩⟩
  · exact BC_tr (BC_of h1) (fun x j q => FR_of h2 x j (Or.inl q))
  · exact BR_of h2
  · exact RX_fr (Int.le_refl _) (fun x j q => FC_of h1 x j (frC_le (by decide) q)) (fun x j q => FR_of h2 x j (frR_le (by decide) q)) hX
  · exact RB_fr (Nat.le_succ n) ((FR_of h2 1 12 (Or.inl (by decide))).trans (FC_of h1 1 12 (by unfold frC; omega))) ((FR_of h2 249 7 (by unfold frR; omega)).trans (FC_of h1 249 7 (Or.inl (by decide)))) (fun j => (FR_of h2 285 j (by unfold frR; omega)).trans (FC_of h1 285 j (Or.inl (by decide)))) (fun j => (FR_of h2 286 j (by unfold frR; omega)).trans (FC_of h1 286 j (Or.inl (by decide)))) hB
  · exact GS_two (by omega) (by omega) hG a1 a2 (congrArg Prod.snd e1) (congrArg Prod.snd e2) (fold_i hIx) (by have z := hD1; rw [show asC m1 15 = _ from congrArg Prod.snd e1] at z; exact z) hE.2 (by rw [fold_o]; exact hOx) (fold_b hNx)

theorem two_93 {n : Nat} {a b : Int} {m : Mem} (h : JJ (n + 1) m) : Cl 230 93 [1, a, b] (fun v u => ∃ m1, u = S9 0 m1 ∧ Cl 230 233 [249, a, b] (fun w u' => ∃ m2, u' = S9 0 m2 ∧ JJ n m2) (S9 0 m1)) (S9 0 m) := by
  obtain ⟨tc, pl, hC, hR, hX, hB, R, hG⟩ := h
  have hs := JC_s (BC_g 0 hC)
  have hr := JR_s (BR_g 0 hR)
  obtain ⟨⟨kv1, kv2, kv3⟩, ⟨hI, hD, hS, hO, hN⟩, ⟨⟨u1, u2, u3, u4, u5⟩, -⟩, -, hRc, hRr⟩ := id hG
  obtain ⟨k3, k4, k5, k6, k7⟩ := hX.2.1
  refine f_93 (d := 226) (g := gC 3 m) (L := m 8 0) (BC_g 3 hC) hI hD ⟨u1, u2⟩ ⟨u3, u4⟩ (fun v m1 h1 a1 e1 hD1 => ⟨m1, rfl, ?_⟩)
  have c1 := FC_of h1
  have ch : ∀ x j, 249 ≤ x → m1 x j = m x j := fun x j q => c1 x j (Or.inl q)
  have e58 : asR m1 258 0 = asR m 258 0 := asR_fr (fun y _ _ => ch 258 y (by decide)) (fun y _ _ => ch 249 y (by decide))
  have q4 : m1 249 4 = m 8 1 := (ch 249 4 (by decide)).trans k4
  have q5 : m1 249 5 = m 8 2 := (ch 249 5 (by decide)).trans k5
  have q6 : m1 249 6 = m 8 3 := (ch 249 6 (by decide)).trans k6
  have hIS : IV (m 8 0) (m 8 2) (m 8 3) (asR m 258 0) := IV_SE hI hS
  have hIR : IV (m 8 0) (m1 249 5) (m1 249 6) (asR m1 258 0) := by rw [q5, q6, e58]; exact hIS
  have hIx : IV (m 8 0) (m 8 2) (m 8 3) (x0C m) := IV_SE hI (SE_sy (x0_SE m))
  have hSx : SE (m 8 2) (m 8 3) (x0C m) (asR m 258 0) := SE_tr (x0_SE m) hS
  have hOx : DB (m 8 1) (x0C m 10 0) := by rw [x0C_o]; exact hO
  have hNx : BN (m 8 2) (m 8 3) (x0C m) := BN_SE hN (SE_sy (x0_SE m))
  have hRm : BR tc pl m1 := BR_tr hR (fun x j q _ => ch x j q)
  have hkd : ∀ p, 0 ≤ p → p < m 8 1 → (iand (ishr (m 8 8) p) 1 ≠ 0 ↔ m1 255 p ≠ 0) := fun p p0 p1 => by rw [ch 255 p (by decide), (kv1 p p0 p1).2.2.2.1]
  refine f_233 (d := 225) (g := gR 3 m1) (pl := pl) (L := m 8 0) (BR_g 3 hRm) hIR (fun w m2 h2 a2 e2 => ?_)
  rw [q4, e58] at e2
  have hE : AF (m 8 2) (m 8 3) (aDoor bcf (m 8 1) (fun w => iand (ishr (m 8 8) w) 1) (x0C m) a b) (aDoor bcf (m 8 1) (m1 255) (asR m 258 0) a b) := door_f hSx hkd
  have hw : w = v := by
    have z := hE.1
    rw [← e1, ← e2] at z
    exact z.symm
  subst hw
  refine ⟨m2, rfl, ⟨tc, pl, ?_, ?_, ?_, ?_, R, ?_⟩⟩
  · exact BC_tr (BC_of h1) (fun x j q => FR_of h2 x j (Or.inl q))
  · exact BR_of h2
  · exact RX_fr (Int.le_refl _) (fun x j q => FC_of h1 x j (frC_le (by decide) q)) (fun x j q => FR_of h2 x j (frR_le (by decide) q)) hX
  · exact RB_fr (Nat.le_succ n) ((FR_of h2 1 12 (Or.inl (by decide))).trans (FC_of h1 1 12 (by unfold frC; omega))) ((FR_of h2 249 7 (by unfold frR; omega)).trans (FC_of h1 249 7 (Or.inl (by decide)))) (fun j => (FR_of h2 285 j (by unfold frR; omega)).trans (FC_of h1 285 j (Or.inl (by decide)))) (fun j => (FR_of h2 286 j (by unfold frR; omega)).trans (FC_of h1 286 j (Or.inl (by decide)))) hB
  · exact GS_two (by omega) (by omega) hG a1 a2 (congrArg Prod.snd e1) (congrArg Prod.snd e2) (door_i hIx) (by have z := hD1; rw [show asC m1 15 = _ from congrArg Prod.snd e1] at z; exact z) hE.2 (door_o (by omega) hOx) (door_b hNx)

theorem two_51 {n : Nat} {a b : Int} {m : Mem} (h : JJ (n + 1) m) : Cl 230 51 [1, a, b] (fun v u => ∃ m1, u = S9 0 m1 ∧ Cl 230 210 [249, a, b] (fun w u' => ∃ m2, u' = S9 0 m2 ∧ JJ n m2) (S9 0 m1)) (S9 0 m) := by
  obtain ⟨tc, pl, hC, hR, hX, hB, R, hG⟩ := h
  have hs := JC_s (BC_g 0 hC)
  have hr := JR_s (BR_g 0 hR)
  obtain ⟨⟨kv1, kv2, kv3⟩, ⟨hI, hD, hS, hO, hN⟩, ⟨⟨u1, u2, u3, u4, u5⟩, -⟩, -, hRc, hRr⟩ := id hG
  obtain ⟨k3, k4, k5, k6, k7⟩ := hX.2.1
  refine f_51 (d := 228) (g := gC 3 m) (L := m 8 0) (BC_g 3 hC) hI hD (fun v m1 h1 fC hD1 e1 => ⟨m1, rfl, ?_⟩)
  have c1 := FC_of h1
  have ch : ∀ x j, 249 ≤ x → m1 x j = m x j := fun x j q => c1 x j (Or.inl q)
  have e58 : asR m1 258 0 = asR m 258 0 := asR_fr (fun y _ _ => ch 258 y (by decide)) (fun y _ _ => ch 249 y (by decide))
  have q4 : m1 249 4 = m 8 1 := (ch 249 4 (by decide)).trans k4
  have q5 : m1 249 5 = m 8 2 := (ch 249 5 (by decide)).trans k5
  have q6 : m1 249 6 = m 8 3 := (ch 249 6 (by decide)).trans k6
  have hIS : IV (m 8 0) (m 8 2) (m 8 3) (asR m 258 0) := IV_SE hI hS
  have hIR : IV (m 8 0) (m1 249 5) (m1 249 6) (asR m1 258 0) := by rw [q5, q6, e58]; exact hIS
  have hIx : IV (m 8 0) (m 8 2) (m 8 3) (x0C m) := IV_SE hI (SE_sy (x0_SE m))
  have hSx : SE (m 8 2) (m 8 3) (x0C m) (asR m 258 0) := SE_tr (x0_SE m) hS
  have hOx : DB (m 8 1) (x0C m 10 0) := by rw [x0C_o]; exact hO
  have hNx : BN (m 8 2) (m 8 3) (x0C m) := BN_SE hN (SE_sy (x0_SE m))
  have hRm : BR tc pl m1 := BR_tr hR (fun x j q _ => ch x j q)
  refine f_210 (d := 226) (g := gR 3 m1) (pl := pl) (L := m 8 0) (BR_g 3 hRm) hIR (fun w m2 h2 fR e2 => ?_)
  rw [q5, e58] at e2
  have hE : AF (m 8 2) (m 8 3) (aHeat (m 8 2) (asC m 15) a b) (aHeat (m 8 2) (asR m 258 0) a b) := heat_f hS
  have hw : w = v := by
    have z := hE.1
    rw [← e1, ← e2] at z
    exact z.symm
  subst hw
  refine ⟨m2, rfl, ⟨tc, pl, ?_, ?_, ?_, ?_, R, ?_⟩⟩
  · exact BC_tr (BC_of h1) (fun x j q => FR_of h2 x j (Or.inl q))
  · exact BR_of h2
  · exact RX_fr (Int.le_refl _) (fun x j q => FC_of h1 x j (frC_le (by decide) q)) (fun x j q => FR_of h2 x j (frR_le (by decide) q)) hX
  · exact RB_fr (Nat.le_succ n) ((FR_of h2 1 12 (Or.inl (by decide))).trans (FC_of h1 1 12 (by unfold frC; omega))) ((FR_of h2 249 7 (by unfold frR; omega)).trans (FC_of h1 249 7 (Or.inl (by decide)))) (fun j => (FR_of h2 285 j (by unfold frR; omega)).trans (FC_of h1 285 j (Or.inl (by decide)))) (fun j => (FR_of h2 286 j (by unfold frR; omega)).trans (FC_of h1 286 j (Or.inl (by decide)))) hB
  · exact GS_two0 (by omega) (by omega) hG (fun x j q => fC x j (q)) (fun x j q => fR x j (by omega)) (congrArg Prod.snd e1) (congrArg Prod.snd e2) (heat_i hI) (by have z := hD1; rw [show asC m1 15 = _ from congrArg Prod.snd e1] at z; exact z) hE.2 (by rw [heat_o, c_op]; exact hO) (heat_b hN)

theorem sheet_8 {P : Nat} {kd n f st : Int} {x : AS} (j : Int) : (aSheet P x kd n f st).2 8 j = x 8 j := by
  unfold aSheet
  split
  · rfl
  · split
    · rfl
    · exact shS_f (by decide) P
theorem two_54 {n : Nat} {a b c f : Int} {m : Mem} (hy : inI c) (h : JJ (n + 1) m) : Cl 230 54 [1, a, b, c, f] (fun v u => ∃ m1, u = S9 0 m1 ∧ Cl 230 212 [249, a, b, c, f] (fun w u' => ∃ m2, u' = S9 0 m2 ∧ JJ n m2) (S9 0 m1)) (S9 0 m) := by
  obtain ⟨tc, pl, hC, hR, hX, hB, R, hG⟩ := h
  have hs := JC_s (BC_g 0 hC)
  have hr := JR_s (BR_g 0 hR)
  obtain ⟨⟨kv1, kv2, kv3⟩, ⟨hI, hD, hS, hO, hN⟩, ⟨⟨u1, u2, u3, u4, u5⟩, -⟩, -, hRc, hRr⟩ := id hG
  obtain ⟨k3, k4, k5, k6, k7⟩ := hX.2.1
  refine f_54 (d := 226) (g := gC 3 m) (BC_g 3 hC) (fun v m1 h1 fC e1 => ⟨m1, rfl, ?_⟩)
  have c1 := FC_of h1
  have ch : ∀ x j, 249 ≤ x → m1 x j = m x j := fun x j q => c1 x j (Or.inl q)
  have e58 : asR m1 258 0 = asR m 258 0 := asR_fr (fun y _ _ => ch 258 y (by decide)) (fun y _ _ => ch 249 y (by decide))
  have q4 : m1 249 4 = m 8 1 := (ch 249 4 (by decide)).trans k4
  have q5 : m1 249 5 = m 8 2 := (ch 249 5 (by decide)).trans k5
  have q6 : m1 249 6 = m 8 3 := (ch 249 6 (by decide)).trans k6
  have hIS : IV (m 8 0) (m 8 2) (m 8 3) (asR m 258 0) := IV_SE hI hS
  have hIR : IV (m 8 0) (m1 249 5) (m1 249 6) (asR m1 258 0) := by rw [q5, q6, e58]; exact hIS
  have hIx : IV (m 8 0) (m 8 2) (m 8 3) (x0C m) := IV_SE hI (SE_sy (x0_SE m))
  have hSx : SE (m 8 2) (m 8 3) (x0C m) (asR m 258 0) := SE_tr (x0_SE m) hS
  have hOx : DB (m 8 1) (x0C m 10 0) := by rw [x0C_o]; exact hO
  have hNx : BN (m 8 2) (m 8 3) (x0C m) := BN_SE hN (SE_sy (x0_SE m))
  have hRm : BR tc pl m1 := BR_tr hR (fun x j q _ => ch x j q)
  refine f_212 (d := 225) (g := gR 3 m1) (pl := pl) (BR_g 3 hRm) hy (fun w m2 h2 fR e2 => ?_)
  rw [q5, e58] at e2
  have hE : AF (m 8 2) (m 8 3) (aSheet (m 8 2).toNat (asC m 15) a b c f) (aSheet (m 8 2).toNat (asR m 258 0) a b c f) := by have z := sheet_f (P := (m 8 2).toNat) (H := m 8 3) (kd := a) (n := b) (f := c) (st := f) (x := asC m 15) (y := asR m 258 0) (by rw [show ((m 8 2).toNat : Int) = m 8 2 by omega]; exact hS); rw [show ((m 8 2).toNat : Int) = m 8 2 by omega] at z; exact z
  have hw : w = v := by
    have z := hE.1
    rw [← e1, ← e2] at z
    exact z.symm
  subst hw
  have hD1 : HD (m 8 2) (m 8 3) (asC m1 15) (m1 18) := by
    have z : ∀ j, asC m1 15 8 j = asC m 15 8 j := fun j => by rw [show asC m1 15 = _ from congrArg Prod.snd e1]; exact sheet_8 j
    exact HD_e2 hD (fun j _ _ => z j) (fun j _ _ => fC 18 j (by decide))
  refine ⟨m2, rfl, ⟨tc, pl, ?_, ?_, ?_, ?_, R, ?_⟩⟩
  · exact BC_tr (BC_of h1) (fun x j q => FR_of h2 x j (Or.inl q))
  · exact BR_of h2
  · exact RX_fr (Int.le_refl _) (fun x j q => FC_of h1 x j (frC_le (by decide) q)) (fun x j q => FR_of h2 x j (frR_le (by decide) q)) hX
  · exact RB_fr (Nat.le_succ n) ((FR_of h2 1 12 (Or.inl (by decide))).trans (FC_of h1 1 12 (by unfold frC; omega))) ((FR_of h2 249 7 (by unfold frR; omega)).trans (FC_of h1 249 7 (Or.inl (by decide)))) (fun j => (FR_of h2 285 j (by unfold frR; omega)).trans (FC_of h1 285 j (Or.inl (by decide)))) (fun j => (FR_of h2 286 j (by unfold frR; omega)).trans (FC_of h1 286 j (Or.inl (by decide)))) hB
  · exact GS_two0 (by omega) (by omega) hG (fun x j q => fC x j (by omega)) (fun x j q => fR x j (by omega) (by omega)) (congrArg Prod.snd e1) (congrArg Prod.snd e2) ((by have z := sheet_i (P := (m 8 2).toNat) (L := m 8 0) (H := m 8 3) (kd := a) (n := b) (f := c) (st := f) (x := asC m 15) (by rw [show ((m 8 2).toNat : Int) = m 8 2 by omega]; exact hI); rw [show ((m 8 2).toNat : Int) = m 8 2 by omega] at z; exact z)) (by have z := hD1; rw [show asC m1 15 = _ from congrArg Prod.snd e1] at z; exact z) hE.2 (by rw [sheet_o, c_op]; exact hO) (sheet_b hN)

theorem two_67 {n : Nat} {a b : Int} {m : Mem} (h : JJ (n + 1) m) : Cl 230 67 [1, a, b] (fun v u => ∃ m1, u = S9 0 m1 ∧ Cl 230 221 [249, a, b] (fun w u' => ∃ m2, u' = S9 0 m2 ∧ JJ n m2) (S9 0 m1)) (S9 0 m) := by
  obtain ⟨tc, pl, hC, hR, hX, hB, R, hG⟩ := h
  have hs := JC_s (BC_g 0 hC)
  have hr := JR_s (BR_g 0 hR)
  obtain ⟨⟨kv1, kv2, kv3⟩, ⟨hI, hD, hS, hO, hN⟩, ⟨⟨u1, u2, u3, u4, u5⟩, -⟩, -, hRc, hRr⟩ := id hG
  obtain ⟨k3, k4, k5, k6, k7⟩ := hX.2.1
  have eP : ((m 8 2).toNat : Int) = m 8 2 := by omega
  have eH : ((m 8 3).toNat : Int) = m 8 3 := by omega
  have hKB : KB m := ⟨fun p p0 p1 => by have z := kv3 p p0 p1; unfold inI; omega, fun q q0 q1 => (kv2 q q0 q1).2⟩
  refine f_67 (d := 222) (g := gC 3 m) (R := R) (L := m 8 0) (BC_g 3 hC) hI hD hKB hRc ⟨u1, u2⟩ ⟨u3, u4⟩ (fun v m1 h1 a1 e1 hD1 => ⟨m1, rfl, ?_⟩)
  have c1 := FC_of h1
  have ch : ∀ x j, 249 ≤ x → m1 x j = m x j := fun x j q => c1 x j (Or.inl q)
  have e58 : asR m1 258 0 = asR m 258 0 := asR_fr (fun y _ _ => ch 258 y (by decide)) (fun y _ _ => ch 249 y (by decide))
  have q4 : m1 249 4 = m 8 1 := (ch 249 4 (by decide)).trans k4
  have q5 : m1 249 5 = m 8 2 := (ch 249 5 (by decide)).trans k5
  have q6 : m1 249 6 = m 8 3 := (ch 249 6 (by decide)).trans k6
  have hIS : IV (m 8 0) (m 8 2) (m 8 3) (asR m 258 0) := IV_SE hI hS
  have hIR : IV (m 8 0) (m1 249 5) (m1 249 6) (asR m1 258 0) := by rw [q5, q6, e58]; exact hIS
  have hIx : IV (m 8 0) (m 8 2) (m 8 3) (x0C m) := IV_SE hI (SE_sy (x0_SE m))
  have hSx : SE (m 8 2) (m 8 3) (x0C m) (asR m 258 0) := SE_tr (x0_SE m) hS
  have hOx : DB (m 8 1) (x0C m 10 0) := by rw [x0C_o]; exact hO
  have hNx : BN (m 8 2) (m 8 3) (x0C m) := BN_SE hN (SE_sy (x0_SE m))
  have hRm : BR tc pl m1 := BR_tr hR (fun x j q _ => ch x j q)
  have hK2 : KR2 m1 := ⟨fun p p0 p1 => by rw [q6] at p1; rw [ch 257 p (by decide), (kv3 p p0 p1).1]; exact hKB.1 p p0 p1, fun q q0 q1 => by rw [q5] at q1; rw [ch 256 q (by decide), (kv2 q q0 q1).1]; exact hKB.2 q q0 q1⟩
  have hR2 : RuR m1 R := RuR_fr hRr (ch 249 32 (by decide)) (fun j => ch 265 j (by decide))
  have hx1 : x0R m1 = x0R m := by unfold x0R; rw [e58]
  have hSR : SE (m 8 2) (m 8 3) (x0C m) (x0R m) := SE_tr hSx (SE_sy (x0R_SE m))
  have hbe : ∀ p : Int, 0 ≤ p → p < (m 8 3).toNat → m 14 p = m1 257 p := fun p p0 p1 => ((ch 257 p (by decide)).trans (kv3 p p0 (by omega)).1).symm
  have hce : ∀ q : Int, 0 ≤ q → q < (m 8 2).toNat → m 13 q = m1 256 q := fun q q0 q1 => ((ch 256 q (by decide)).trans (kv2 q q0 (by omega)).1).symm
  have hck : ∀ q : Int, 0 ≤ q → q < (m 8 2).toNat → 0 ≤ m 13 q ∧ m 13 q ≤ 9 := fun q q0 q1 => hKB.2 q q0 (by omega)
  have hIn : IV (m 8 0) (m 8 2).toNat (m 8 3).toNat (x0C m) := by rw [eP, eH]; exact hIx
  have hSn : SE (m 8 2).toNat (m 8 3).toNat (x0C m) (x0R m) := by rw [eP, eH]; exact hSR
  have hNn : BN (m 8 2).toNat (m 8 3).toNat (x0C m) := by rw [eP, eH]; exact hNx
  have hwe : ∀ w, 0 ≤ w → w < m 8 1 → m 10 w = m1 252 w ∧ m 11 w = m1 253 w ∧ m 12 w = m1 254 w ∧ (iand (ishr (m 8 8) w) 1 = 0 ↔ m1 255 w = 0) := fun w w0 w1 => by
    obtain ⟨z1, z2, z3, z4, -⟩ := kv1 w w0 w1
    rw [ch 252 w (by decide), ch 253 w (by decide), ch 254 w (by decide), ch 255 w (by decide)]
    refine ⟨z1.symm, z2.symm, z3.symm, ?_⟩
    rw [z4]
  have hwl : ∀ w, 0 ≤ w → w < m 8 1 → (0 ≤ m 10 w ∧ m 10 w < m 8 0) ∧ (0 ≤ m 11 w ∧ m 11 w < m 8 0) := fun w w0 w1 => ⟨(kv1 w w0 w1).2.2.2.2.1, (kv1 w w0 w1).2.2.2.2.2.1⟩
  refine f_221 (d := 222) (g := gR 3 m1) (pl := pl) (R := R) (L := m 8 0) (BR_g 3 hRm) hIR hK2 hR2 (fun w m2 h2 a2 e2 => ?_)
  rw [q4, q5, q6, hx1] at e2
  have hE : AE (m 8 2).toNat (m 8 3).toNat (aWalk R (m 14) (m 13) (m 8 2).toNat (m 8 3).toNat (m 8 1) (m 10) (m 11) (m 12) (fun w => iand (ishr (m 8 8) w) 1) (x0C m) a b) (aWalk R (m1 257) (m1 256) (m 8 2).toNat (m 8 3).toNat (m 8 1) (m1 252) (m1 253) (m1 254) (m1 255) (x0R m) a b) := walk_e hIn hSn x0_SN hbe hce hck hwe
  have hw : w = v := by
    have z := hE.1
    rw [← e1, ← e2] at z
    exact z.symm
  subst hw
  have hE2 := hE.2.1
  rw [eP, eH] at hE2
  refine ⟨m2, rfl, ⟨tc, pl, ?_, ?_, ?_, ?_, R, ?_⟩⟩
  · exact BC_tr (BC_of h1) (fun x j q => FR_of h2 x j (Or.inl q))
  · exact BR_of h2
  · exact RX_fr (Int.le_refl _) (fun x j q => FC_of h1 x j (frC_le (by decide) q)) (fun x j q => FR_of h2 x j (frR_le (by decide) q)) hX
  · exact RB_fr (Nat.le_succ n) ((FR_of h2 1 12 (Or.inl (by decide))).trans (FC_of h1 1 12 (by unfold frC; omega))) ((FR_of h2 249 7 (by unfold frR; omega)).trans (FC_of h1 249 7 (Or.inl (by decide)))) (fun j => (FR_of h2 285 j (by unfold frR; omega)).trans (FC_of h1 285 j (Or.inl (by decide)))) (fun j => (FR_of h2 286 j (by unfold frR; omega)).trans (FC_of h1 286 j (Or.inl (by decide)))) hB
  · exact GS_two (by omega) (by omega) hG a1 a2 (congrArg Prod.snd e1) (congrArg Prod.snd e2) (by rw [← eP, ← eH]; exact walk_i hIn hck hwl) (by have z := hD1; rw [show asC m1 15 = _ from congrArg Prod.snd e1] at z; exact z) hE2 (by rw [walk_o hIn hck]; exact hOx) (by rw [← eP, ← eH]; exact walk_b hIn hNn (by omega) hck)

theorem two_85 {n : Nat} {a : Int} {m : Mem} (h : JJ (n + 1) m) : Cl 230 85 [1, a] (fun v u => ∃ m1, u = S9 0 m1 ∧ Cl 230 226 [249, a] (fun w u' => ∃ m2, u' = S9 0 m2 ∧ JJ n m2) (S9 0 m1)) (S9 0 m) := by
  obtain ⟨tc, pl, hC, hR, hX, hB, R, hG⟩ := h
  have hs := JC_s (BC_g 0 hC)
  have hr := JR_s (BR_g 0 hR)
  obtain ⟨⟨kv1, kv2, kv3⟩, ⟨hI, hD, hS, hO, hN⟩, ⟨⟨u1, u2, u3, u4, u5⟩, -⟩, -, hRc, hRr⟩ := id hG
  obtain ⟨k3, k4, k5, k6, k7⟩ := hX.2.1
  have eP : ((m 8 2).toNat : Int) = m 8 2 := by omega
  have eH : ((m 8 3).toNat : Int) = m 8 3 := by omega
  have hKB : KB m := ⟨fun p p0 p1 => by have z := kv3 p p0 p1; unfold inI; omega, fun q q0 q1 => (kv2 q q0 q1).2⟩
  refine f_85 (d := 222) (g := gC 3 m) (R := R) (L := m 8 0) (BC_g 3 hC) hI hD hKB hRc ⟨u1, u2⟩ ⟨u3, u4⟩ (fun v m1 h1 a1 e1 hD1 => ⟨m1, rfl, ?_⟩)
  have c1 := FC_of h1
  have ch : ∀ x j, 249 ≤ x → m1 x j = m x j := fun x j q => c1 x j (Or.inl q)
  have e58 : asR m1 258 0 = asR m 258 0 := asR_fr (fun y _ _ => ch 258 y (by decide)) (fun y _ _ => ch 249 y (by decide))
  have q4 : m1 249 4 = m 8 1 := (ch 249 4 (by decide)).trans k4
  have q5 : m1 249 5 = m 8 2 := (ch 249 5 (by decide)).trans k5
  have q6 : m1 249 6 = m 8 3 := (ch 249 6 (by decide)).trans k6
  have hIS : IV (m 8 0) (m 8 2) (m 8 3) (asR m 258 0) := IV_SE hI hS
  have hIR : IV (m 8 0) (m1 249 5) (m1 249 6) (asR m1 258 0) := by rw [q5, q6, e58]; exact hIS
  have hIx : IV (m 8 0) (m 8 2) (m 8 3) (x0C m) := IV_SE hI (SE_sy (x0_SE m))
  have hSx : SE (m 8 2) (m 8 3) (x0C m) (asR m 258 0) := SE_tr (x0_SE m) hS
  have hOx : DB (m 8 1) (x0C m 10 0) := by rw [x0C_o]; exact hO
  have hNx : BN (m 8 2) (m 8 3) (x0C m) := BN_SE hN (SE_sy (x0_SE m))
  have hRm : BR tc pl m1 := BR_tr hR (fun x j q _ => ch x j q)
  have hK2 : KR2 m1 := ⟨fun p p0 p1 => by rw [q6] at p1; rw [ch 257 p (by decide), (kv3 p p0 p1).1]; exact hKB.1 p p0 p1, fun q q0 q1 => by rw [q5] at q1; rw [ch 256 q (by decide), (kv2 q q0 q1).1]; exact hKB.2 q q0 q1⟩
  have hR2 : RuR m1 R := RuR_fr hRr (ch 249 32 (by decide)) (fun j => ch 265 j (by decide))
  have hx1 : x0R m1 = x0R m := by unfold x0R; rw [e58]
  have hSR : SE (m 8 2) (m 8 3) (x0C m) (x0R m) := SE_tr hSx (SE_sy (x0R_SE m))
  have hbe : ∀ p : Int, 0 ≤ p → p < (m 8 3).toNat → m 14 p = m1 257 p := fun p p0 p1 => ((ch 257 p (by decide)).trans (kv3 p p0 (by omega)).1).symm
  have hce : ∀ q : Int, 0 ≤ q → q < (m 8 2).toNat → m 13 q = m1 256 q := fun q q0 q1 => ((ch 256 q (by decide)).trans (kv2 q q0 (by omega)).1).symm
  have hck : ∀ q : Int, 0 ≤ q → q < (m 8 2).toNat → 0 ≤ m 13 q ∧ m 13 q ≤ 9 := fun q q0 q1 => hKB.2 q q0 (by omega)
  have hIn : IV (m 8 0) (m 8 2).toNat (m 8 3).toNat (x0C m) := by rw [eP, eH]; exact hIx
  have hSn : SE (m 8 2).toNat (m 8 3).toNat (x0C m) (x0R m) := by rw [eP, eH]; exact hSR
  have hNn : BN (m 8 2).toNat (m 8 3).toNat (x0C m) := by rw [eP, eH]; exact hNx
  have hwe : ∀ w, 0 ≤ w → w < m 8 1 → m 10 w = m1 252 w ∧ m 11 w = m1 253 w ∧ m 12 w = m1 254 w ∧ (iand (ishr (m 8 8) w) 1 = 0 ↔ m1 255 w = 0) := fun w w0 w1 => by
    obtain ⟨z1, z2, z3, z4, -⟩ := kv1 w w0 w1
    rw [ch 252 w (by decide), ch 253 w (by decide), ch 254 w (by decide), ch 255 w (by decide)]
    refine ⟨z1.symm, z2.symm, z3.symm, ?_⟩
    rw [z4]
  have hwl : ∀ w, 0 ≤ w → w < m 8 1 → (0 ≤ m 10 w ∧ m 10 w < m 8 0) ∧ (0 ≤ m 11 w ∧ m 11 w < m 8 0) := fun w w0 w1 => ⟨(kv1 w w0 w1).2.2.2.2.1, (kv1 w w0 w1).2.2.2.2.2.1⟩
  refine f_226 (d := 222) (g := gR 3 m1) (pl := pl) (R := R) (L := m 8 0) (BR_g 3 hRm) hIR hK2 hR2 (fun w m2 h2 a2 e2 => ?_)
  rw [q5, q6, hx1] at e2
  have hE : AE (m 8 2).toNat (m 8 3).toNat (aPass R (m 14) (m 13) (m 8 2).toNat (m 8 3).toNat (x0C m) a) (aPass R (m1 257) (m1 256) (m 8 2).toNat (m 8 3).toNat (x0R m) a) := pass_e hIn hSn x0_SN hbe hce hck
  have hw : w = v := by
    have z := hE.1
    rw [← e1, ← e2] at z
    exact z.symm
  subst hw
  have hE2 := hE.2.1
  rw [eP, eH] at hE2
  refine ⟨m2, rfl, ⟨tc, pl, ?_, ?_, ?_, ?_, R, ?_⟩⟩
  · exact BC_tr (BC_of h1) (fun x j q => FR_of h2 x j (Or.inl q))
  · exact BR_of h2
  · exact RX_fr (Int.le_refl _) (fun x j q => FC_of h1 x j (frC_le (by decide) q)) (fun x j q => FR_of h2 x j (frR_le (by decide) q)) hX
  · exact RB_fr (Nat.le_succ n) ((FR_of h2 1 12 (Or.inl (by decide))).trans (FC_of h1 1 12 (by unfold frC; omega))) ((FR_of h2 249 7 (by unfold frR; omega)).trans (FC_of h1 249 7 (Or.inl (by decide)))) (fun j => (FR_of h2 285 j (by unfold frR; omega)).trans (FC_of h1 285 j (Or.inl (by decide)))) (fun j => (FR_of h2 286 j (by unfold frR; omega)).trans (FC_of h1 286 j (Or.inl (by decide)))) hB
  · exact GS_two (by omega) (by omega) hG a1 a2 (congrArg Prod.snd e1) (congrArg Prod.snd e2) (by rw [← eP, ← eH]; exact pass_i hIn hck) (by have z := hD1; rw [show asC m1 15 = _ from congrArg Prod.snd e1] at z; exact z) hE2 (by rw [pass_o hIn hck]; exact hOx) (by rw [← eP, ← eH]; exact pass_b hIn hNn (by omega) hck)

theorem two_96 {n : Nat} {m : Mem} (h : JJ (n + 1) m) : Cl 230 96 [1] (fun v u => ∃ m1, u = S9 0 m1 ∧ Cl 230 235 [249] (fun w u' => ∃ m2, u' = S9 0 m2 ∧ JJ n m2 ∧ w = v) (S9 0 m1)) (S9 0 m) := by
  obtain ⟨tc, pl, hC, hR, hX, hB, R, hG⟩ := h
  have hs := JC_s (BC_g 0 hC)
  have hr := JR_s (BR_g 0 hR)
  obtain ⟨⟨kv1, kv2, kv3⟩, ⟨hI, hD, hS, hO, hN⟩, ⟨⟨u1, u2, u3, u4, u5⟩, -⟩, -, hRc, hRr⟩ := id hG
  obtain ⟨k3, k4, k5, k6, k7⟩ := hX.2.1
  have eP : ((m 8 2).toNat : Int) = m 8 2 := by omega
  have eH : ((m 8 3).toNat : Int) = m 8 3 := by omega
  have hKB : KB m := ⟨fun p p0 p1 => by have z := kv3 p p0 p1; unfold inI; omega, fun q q0 q1 => (kv2 q q0 q1).2⟩
  have hWB : WB (m 8 0) m := fun w w0 w1 => ⟨(kv1 w w0 w1).2.2.2.2.1, (kv1 w w0 w1).2.2.2.2.2.1⟩
  have hDF : DF (m 260) tc = DF (m 3) tc := DF_e hX.1.1
  have hDN : DN (m 260) tc = DN (m 3) tc := DN_e hX.1.1
  refine f_96 (d := 220) (g := gC 3 m) (R := R) (L := m 8 0) hX.1.2.1 (BC_g 3 hC) hI hD hKB hRc hWB (Int.le_refl _) ⟨u1, u2⟩ ⟨u3, u4⟩ (fun hf m1 h1 f1 => ⟨m1, rfl, ?_⟩) (fun hf v m1 h1 hv a1 e1 hD1 => ⟨m1, rfl, ?_⟩)
  all_goals
    have c1 := FC_of h1
    have ch : ∀ x j, 249 ≤ x → m1 x j = m x j := fun x j q => c1 x j (Or.inl q)
    have e60 : m1 260 = m 260 := by funext j; exact ch 260 j (by decide)
  · have hRm : BR tc pl m1 := BR_tr hR (fun x j q _ => ch x j q)
    have e58 : asR m1 258 0 = asR m 258 0 := asR_fr (fun y _ _ => ch 258 y (by decide)) (fun y _ _ => ch 249 y (by decide))
    have q4 : m1 249 4 = m 8 1 := (ch 249 4 (by decide)).trans k4
    have q5 : m1 249 5 = m 8 2 := (ch 249 5 (by decide)).trans k5
    have q6 : m1 249 6 = m 8 3 := (ch 249 6 (by decide)).trans k6
    have hIR : IV (m 8 0) (m1 249 5) (m1 249 6) (asR m1 258 0) := by rw [q5, q6, e58]; exact IV_SE hI hS
    have hK2 : KR2 m1 := ⟨fun p p0 p1 => by rw [q6] at p1; rw [ch 257 p (by decide), (kv3 p p0 p1).1]; exact hKB.1 p p0 p1, fun q q0 q1 => by rw [q5] at q1; rw [ch 256 q (by decide), (kv2 q q0 q1).1]; exact hKB.2 q q0 q1⟩
    have hR2 : RuR m1 R := RuR_fr hRr (ch 249 32 (by decide)) (fun j => ch 265 j (by decide))
    have hW2 : WBR (m 8 0) m1 := fun w w0 w1 => by rw [q4] at w1; rw [ch 252 w (by decide), ch 253 w (by decide), (kv1 w w0 w1).1, (kv1 w w0 w1).2.1]; exact hWB w w0 w1
    refine f_235 (d := 220) (g := gR 3 m1) (pl := pl) (R := R) (L := m 8 0) (BR_g 3 hRm) hIR hK2 hR2 hW2 (fun hf2 m2 h2 f2 => ?_) (fun hf2 => absurd hf2 (by rw [e60, hDF]; omega))
    refine ⟨m2, rfl, ⟨0, pl, ?_, ?_, ?_, ?_, R, ?_⟩, by rw [e60, hDF]⟩
    · exact BC_tr (BC_of h1) (fun x j q => FR_of h2 x j (Or.inl q))
    · exact BR_of h2
    · exact RX_fr hC.1.1 (fun x j q => FC_of h1 x j (frC_le (by decide) q)) (fun x j q => FR_of h2 x j (frR_le (by decide) q)) hX
    · exact RB_fr (Nat.le_succ n) ((FR_of h2 1 12 (Or.inl (by decide))).trans (FC_of h1 1 12 (by unfold frC; omega))) ((FR_of h2 249 7 (by unfold frR; omega)).trans (FC_of h1 249 7 (Or.inl (by decide)))) (fun j => (FR_of h2 285 j (by unfold frR; omega)).trans (FC_of h1 285 j (Or.inl (by decide)))) (fun j => (FR_of h2 286 j (by unfold frR; omega)).trans (FC_of h1 286 j (Or.inl (by decide)))) hB
    · exact GS_fr (by omega) (by omega) (fun x j q => (f2 x j (by unfold GCl at q; omega) (by unfold GCl at q; omega)).trans (f1 x j (by unfold GCl at q; omega) (by unfold GCl at q; omega))) hG
  · have e58 : asR m1 258 0 = asR m 258 0 := asR_fr (fun y _ _ => ch 258 y (by decide)) (fun y _ _ => ch 249 y (by decide))
    have q4 : m1 249 4 = m 8 1 := (ch 249 4 (by decide)).trans k4
    have q5 : m1 249 5 = m 8 2 := (ch 249 5 (by decide)).trans k5
    have q6 : m1 249 6 = m 8 3 := (ch 249 6 (by decide)).trans k6
    have hIS : IV (m 8 0) (m 8 2) (m 8 3) (asR m 258 0) := IV_SE hI hS
    have hIR : IV (m 8 0) (m1 249 5) (m1 249 6) (asR m1 258 0) := by rw [q5, q6, e58]; exact hIS
    have hIx : IV (m 8 0) (m 8 2) (m 8 3) (x0C m) := IV_SE hI (SE_sy (x0_SE m))
    have hSx : SE (m 8 2) (m 8 3) (x0C m) (asR m 258 0) := SE_tr (x0_SE m) hS
    have hOx : DB (m 8 1) (x0C m 10 0) := by rw [x0C_o]; exact hO
    have hNx : BN (m 8 2) (m 8 3) (x0C m) := BN_SE hN (SE_sy (x0_SE m))
    have hRm : BR tc pl m1 := BR_tr hR (fun x j q _ => ch x j q)
    have hK2 : KR2 m1 := ⟨fun p p0 p1 => by rw [q6] at p1; rw [ch 257 p (by decide), (kv3 p p0 p1).1]; exact hKB.1 p p0 p1, fun q q0 q1 => by rw [q5] at q1; rw [ch 256 q (by decide), (kv2 q q0 q1).1]; exact hKB.2 q q0 q1⟩
    have hR2 : RuR m1 R := RuR_fr hRr (ch 249 32 (by decide)) (fun j => ch 265 j (by decide))
    have hx1 : x0R m1 = x0R m := by unfold x0R; rw [e58]
    have hSR : SE (m 8 2) (m 8 3) (x0C m) (x0R m) := SE_tr hSx (SE_sy (x0R_SE m))
    have hbe : ∀ p : Int, 0 ≤ p → p < (m 8 3).toNat → m 14 p = m1 257 p := fun p p0 p1 => ((ch 257 p (by decide)).trans (kv3 p p0 (by omega)).1).symm
    have hce : ∀ q : Int, 0 ≤ q → q < (m 8 2).toNat → m 13 q = m1 256 q := fun q q0 q1 => ((ch 256 q (by decide)).trans (kv2 q q0 (by omega)).1).symm
    have hck : ∀ q : Int, 0 ≤ q → q < (m 8 2).toNat → 0 ≤ m 13 q ∧ m 13 q ≤ 9 := fun q q0 q1 => hKB.2 q q0 (by omega)
    have hIn : IV (m 8 0) (m 8 2).toNat (m 8 3).toNat (x0C m) := by rw [eP, eH]; exact hIx
    have hSn : SE (m 8 2).toNat (m 8 3).toNat (x0C m) (x0R m) := by rw [eP, eH]; exact hSR
    have hNn : BN (m 8 2).toNat (m 8 3).toNat (x0C m) := by rw [eP, eH]; exact hNx
    have hwe : ∀ w, 0 ≤ w → w < m 8 1 → m 10 w = m1 252 w ∧ m 11 w = m1 253 w ∧ m 12 w = m1 254 w ∧ (iand (ishr (m 8 8) w) 1 = 0 ↔ m1 255 w = 0) := fun w w0 w1 => by
      obtain ⟨z1, z2, z3, z4, -⟩ := kv1 w w0 w1
      rw [ch 252 w (by decide), ch 253 w (by decide), ch 254 w (by decide), ch 255 w (by decide)]
      refine ⟨z1.symm, z2.symm, z3.symm, ?_⟩
      rw [z4]
    have hwl : ∀ w, 0 ≤ w → w < m 8 1 → (0 ≤ m 10 w ∧ m 10 w < m 8 0) ∧ (0 ≤ m 11 w ∧ m 11 w < m 8 0) := fun w w0 w1 => ⟨(kv1 w w0 w1).2.2.2.2.1, (kv1 w w0 w1).2.2.2.2.2.1⟩
    have hW2 : WBR (m 8 0) m1 := fun w w0 w1 => by rw [q4] at w1; rw [ch 252 w (by decide), ch 253 w (by decide), (kv1 w w0 w1).1, (kv1 w w0 w1).2.1]; exact hWB w w0 w1
    have hk1 : ∀ p, 0 ≤ p → p < m 8 0 → m 9 p = m1 251 p := fun p p0 p1 => ((ch 251 p (by decide)).trans (k7 p p0 p1)).symm
    have hce' : ∀ q : Int, 0 ≤ q → q < (m 8 2).toNat → 0 ≤ m1 256 q ∧ m1 256 q ≤ 9 := fun q q0 q1 => by rw [← hce q q0 q1]; exact hck q q0 q1
    refine f_235 (d := 220) (g := gR 3 m1) (pl := pl) (R := R) (L := m 8 0) (BR_g 3 hRm) hIR hK2 hR2 hW2 (fun hf2 => absurd hf2 (by rw [e60, hDF]; omega)) (fun hf2 w m2 h2 hw2 a2 e2 => ?_)
    rw [e60, hDN, hx1] at hw2 e2
    have hdo : doR m1 R = doA R (m1 257) (m1 256) (m 8 2).toNat (m 8 3).toNat (m 8 1) (m1 252) (m1 253) (m1 254) (m1 255) (m1 251) := by unfold doR; rw [q4, q5, q6]
    rw [hdo] at hw2 e2
    have hE := runs_e (f := doC m R) (f' := doA R (m1 257) (m1 256) (m 8 2).toNat (m 8 3).toNat (m 8 1) (m1 252) (m1 253) (m1 254) (m1 255) (m1 251)) (L := m 8 0) (P := (m 8 2).toNat) (H := (m 8 3).toNat) (fun ac x y hi he hn => doA_e hi he hn hbe hce hck hwe hk1) (fun ac x hi => doA_i hi hck hwl) (DN (m 3) tc).2.2 (x0C m) (x0R m) hIn hSn x0_SN
    have hw : w = v := by rw [hw2, hv]; exact hE.1.symm
    subst hw
    have hE2 := hE.2.1
    rw [eP, eH] at hE2
    have hir := runs_i (f := doC m R) (L := m 8 0) (P := (m 8 2).toNat) (H := (m 8 3).toNat) (fun ac x hi => doA_i hi hck hwl) (DN (m 3) tc).2.2 (x0C m) hIn
    rw [eP, eH] at hir
    have hbr := runs_b (f := doC m R) (L := m 8 0) (P := (m 8 2).toNat) (H := (m 8 3).toNat) (fun ac x hi => doA_i hi hck hwl) (fun ac x hi hb => doA_b hi hb (by omega) hck) (DN (m 3) tc).2.2 (x0C m) hIn hNn
    rw [eP, eH] at hbr
    refine ⟨m2, rfl, ⟨0, pl, ?_, ?_, ?_, ?_, R, ?_⟩, rfl⟩
    · exact BC_tr (BC_of h1) (fun x j q => FR_of h2 x j (Or.inl q))
    · exact BR_of h2
    · exact RX_fr hC.1.1 (fun x j q => FC_of h1 x j (frC_le (by decide) q)) (fun x j q => FR_of h2 x j (frR_le (by decide) q)) hX
    · exact RB_fr (Nat.le_succ n) ((FR_of h2 1 12 (Or.inl (by decide))).trans (FC_of h1 1 12 (by unfold frC; omega))) ((FR_of h2 249 7 (by unfold frR; omega)).trans (FC_of h1 249 7 (Or.inl (by decide)))) (fun j => (FR_of h2 285 j (by unfold frR; omega)).trans (FC_of h1 285 j (Or.inl (by decide)))) (fun j => (FR_of h2 286 j (by unfold frR; omega)).trans (FC_of h1 286 j (Or.inl (by decide)))) hB
    · exact GS_two (by omega) (by omega) hG a1 a2 e1 e2 hir (by rw [← e1]; exact hD1) hE2 (runs_o (fun ac x hi => doA_i hi hck hwl) (fun ac x hi hd => doA_o (by omega) hi hck hd) _ _ hIn hOx) hbr

theorem JR_bk {g : Fg} {tc pl i u : Int} {m : Mem} (hi : i = 269 ∨ i = 287) (h : JR 3 g tc pl m) : JR 3 g tc pl (cpf m i (52 * u) 258 0 52) := by
  refine ⟨⟨h.1.1, h.1.2.1, fun x j q => ?_, BdR_cpf h.1.2.2.2 (fun y y0 y1 => ?_)⟩, ?_⟩
  · have z := JR_l h _ _ q
    rw [cpf_n (by rintro rfl; unfold frR at z; omega)]
    exact h.1.2.2.1 x j q
  · rcases hi with rfl | rfl
    · exact BdR_n (by simp) (rb_eq (JB_n (JR_1 h) 269 _ (by simp)) (by omega))
    · exact BdR_n (by simp) (rb_eq (JB_n (JR_1 h) 287 _ (by simp)) (by omega))
  · have z := h.2
    unfold JS at z ⊢
    rw [cpf_n (by decide), cpf_n (by decide), cpf_n (by decide)]
    exact z
theorem JR_kp {l : Nat} {g : Fg} {tc pl u : Int} {m : Mem} (h : JR l g tc pl m) (hg : ∀ x j, g.1 x j → x ≠ 287) : JR l g tc pl (cpf m 258 0 287 (52 * u) 52) := by
  refine ⟨⟨h.1.1, h.1.2.1, fun x j q => ?_, BdR_cpf h.1.2.2.2 (fun y y0 y1 => ?_)⟩, ?_⟩
  · rw [cpf_n (hg x j q)]
    exact h.1.2.2.1 x j q
  · exact BdR_n (by simp) (rb_eq (JB_n h.1 258 _ (by simp)) (by omega))
  · have z := h.2
    unfold JS at z ⊢
    rw [cpf_n (by decide), cpf_n (by decide), cpf_n (by decide)]
    exact z
theorem cpf_at {m : Mem} {a i b j y : Int} (h0 : 0 ≤ y) (h1 : y < 52) : cpf m a i b j 52 b (j + y) = m a (i + y) := by
  unfold cpf
  rw [if_pos ⟨rfl, by omega, by omega⟩]
  congr 1; omega
theorem two_101 {n : Nat} {m : Mem} (h : JJ (n + 1) m) : Cl 230 101 [1] (fun v u => ∃ m1, u = S9 0 m1 ∧ Cl 230 213 [249] (fun w u' => ∃ m2, u' = S9 0 m2 ∧ JJ n m2) (S9 0 m1)) (S9 0 m) := by
  obtain ⟨tc, pl, hC, hR, hX, hB, R, hG⟩ := h
  have hs := JC_s (BC_g 0 hC)
  have hr := JR_s (BR_g 0 hR)
  obtain ⟨⟨kv1, kv2, kv3⟩, ⟨hI, hD, hS, hO, hN⟩, ⟨⟨u1, u2, u3, u4, u5⟩, -⟩, -, hRc, hRr⟩ := id hG
  obtain ⟨k3, k4, k5, k6, k7⟩ := hX.2.1
  refine f_101 (d := 226) (g := gC 3 m) (BC_g 3 hC) ⟨u1, u2⟩ ⟨u3, u4⟩ (fun z => ⟨m, rfl, ?_⟩) (fun m1 z h1 f1 => ⟨m1, rfl, ?_⟩)
  · refine p_213x (d := 229) (by omega) (fun z2 => ⟨_, rfl, ⟨tc, pl, BC_hi hC (by decide), BR_0 hR, ⟨RT_fr (fun x j q => upm_a _ _ _ _ _ _ (by omega)) hX.1, RKM_fr (fun x j q => by rw [upm_app, if_neg (by omega)]) hX.2⟩, RB_fr (Nat.le_succ n) (upm_a _ _ _ _ _ _ (by decide)) (upm_k (by decide)) (fun j => upm_a _ _ _ _ _ _ (by decide)) (fun j => upm_a _ _ _ _ _ _ (by decide)) hB, R, GS_fr (by omega) (by omega) (fun x j q => by rw [upm_app, if_neg (by unfold GCl at q; omega)]) hG⟩⟩) (fun z2 => absurd z2 (by omega))
  · have c1 := FC_of h1
    have ch : ∀ x j, 249 ≤ x → m1 x j = m x j := fun x j q => c1 x j (Or.inl q)
    have e0 : ∀ x j, (x < 15 ∨ 24 < x) → ¬ (x = 26 ∧ j = 9) → m1 x j = m x j := fun x j q q2 => by rw [f1.1 x j (by omega), upm_app, if_neg q2]
    have e9 : m1 26 9 = m 26 9 - 1 := by rw [f1.1 26 9 (by omega), upm_v]
    have e39 := ch 249 39 (by decide)
    have hRm : BR tc pl m1 := BR_tr hR (fun x j q _ => ch x j q)
    have hJR := BR_g 3 hRm
    have h2 : JR 3 (gR 3 m1) tc pl (cpf (upm (upm m1 249 0 0) 249 39 (m1 249 39 - 1)) 269 (52 * (m1 249 39 - 1)) 258 0 52) := JR_bk (Or.inl rfl) (JR_up (JR_up hJR (by unfold frR; omega) (by simp [frc]) (by simp [BdR])) (by unfold frR; omega) (by simp [frc]) (by simp [BdR]; omega))
    have r0 : ∀ x j, x ≠ 258 → ¬ (x = 249 ∧ (j = 0 ∨ j = 39)) → cpf (upm (upm m1 249 0 0) 249 39 (m1 249 39 - 1)) 269 (52 * (m1 249 39 - 1)) 258 0 52 x j = m1 x j := fun x j q q2 => by rw [cpf_n q, upm_app, if_neg (by omega), upm_app, if_neg (by omega)]
    refine p_213x (d := 229) (by rw [e39]; omega) (fun z2 => absurd z2 (by omega)) (fun z2 => ⟨_, rfl, ⟨tc, pl, ?_, ?_, ?_, ?_, R, ?_⟩⟩)
    · exact BC_tr (BC_of h1) (fun x j q => FR_of h2 x j (Or.inl q))
    · exact BR_of h2
    · exact RX_fr (Int.le_refl _) (fun x j q => FC_of h1 x j (frC_le (by decide) q)) (fun x j q => FR_of h2 x j (frR_le (by decide) q)) hX
    · exact RB_fr (Nat.le_succ n) ((FR_of h2 1 12 (Or.inl (by decide))).trans (FC_of h1 1 12 (by unfold frC; omega))) ((FR_of h2 249 7 (by unfold frR; omega)).trans (FC_of h1 249 7 (Or.inl (by decide)))) (fun j => (FR_of h2 285 j (by unfold frR; omega)).trans (FC_of h1 285 j (Or.inl (by decide)))) (fun j => (FR_of h2 286 j (by unfold frR; omega)).trans (FC_of h1 286 j (Or.inl (by decide)))) hB
    · refine GS_undo (by omega) (by omega) hG (fun x j q => ?_) z (fun x j q => ?_) ?_ ?_ ⟨?_, fun j j0 j1 => ?_⟩ (fun y y0 y1 => ?_)
      · unfold KCl at q; rw [r0 x j (by omega) (by omega)]; exact e0 x j (by omega) (by omega)
      · rw [r0 x j (by omega) (by omega)]; exact e0 x j (by omega) (by omega)
      · rw [r0 26 9 (by decide) (by decide)]; exact e9
      · rw [cpf_n (by decide), upm_v, e39]
      · have q := CPY_SE f1
        refine SE_tr (SE_st (m := m1) (fun x j x0 x1 => r0 x j (by omega) (by omega))) (SE_tr q (SE_st (fun x j x0 x1 => by rw [upm_app, if_neg (by omega)])))
      · have q := CPY_hold f1 j0 j1
        rw [r0 18 j (by decide) (by omega)]
        exact q.trans (by rw [upm_app, if_neg (by omega)])
      · have q := cpf_at (m := upm (upm m1 249 0 0) 249 39 (m1 249 39 - 1)) (a := 269) (i := 52 * (m1 249 39 - 1)) (b := 258) (j := 0) y0 y1
        rw [Int.zero_add] at q
        rw [q, upm_app, if_neg (by omega), upm_app, if_neg (by omega), e39]
        exact ch 269 _ (by decide)

theorem two_153 {n : Nat} {a : Int} {m : Mem} (h : JJ (n + 1) m) : Cl 230 153 [1, a] (fun v u => ∃ m1, u = S9 0 m1 ∧ Cl 230 277 [249, a] (fun w u' => ∃ m2, u' = S9 0 m2 ∧ JJ n m2) (S9 0 m1)) (S9 0 m) := by
  obtain ⟨tc, pl, hC, hR, hX, hB, R, hG⟩ := h
  have hs := JC_s (BC_g 0 hC)
  have hr := JR_s (BR_g 0 hR)
  obtain ⟨⟨kv1, kv2, kv3⟩, ⟨hI, hD, hS, hO, hN⟩, ⟨⟨u1, u2, u3, u4, u5⟩, -⟩, -, hRc, hRr⟩ := id hG
  obtain ⟨k3, k4, k5, k6, k7⟩ := hX.2.1
  have hka : 0 ≤ a → a < 3 → (iand (ishr (m 1 12) a) 1 ≠ 0 ↔ m 285 a ≠ 0 ∧ m 286 a = m 249 7) := fun a0 a1 => by
    obtain ⟨-, z1, z2⟩ := hB.2 a a0 a1
    exact ⟨z1, z2⟩
  refine f_153 (d := 227) (g := gC 3 m) (BC_g 3 hC) (fun z => ⟨m, rfl, ?_⟩) (fun z m1 h0 f1 h1 => ⟨_, rfl, ?_⟩)
  · refine p_277x (d := 228) (fun z2 => ⟨_, rfl, ⟨tc, pl, BC_hi hC (by decide), BR_0 hR, ⟨RT_fr (fun x j q => upm_a _ _ _ _ _ _ (by omega)) hX.1, RKM_fr (fun x j q => by rw [upm_app, if_neg (by omega)]) hX.2⟩, RB_fr (Nat.le_succ n) (upm_a _ _ _ _ _ _ (by decide)) (upm_k (by decide)) (fun j => upm_a _ _ _ _ _ _ (by decide)) (fun j => upm_a _ _ _ _ _ _ (by decide)) hB, R, GS_fr (by omega) (by omega) (fun x j q => by rw [upm_app, if_neg (by unfold GCl at q; omega)]) hG⟩⟩) (fun z2 => absurd ⟨z2.1, z2.2.1, (hka z2.1 z2.2.1).2 z2.2.2⟩ z)
  · have c1 := FC_of h1
    have ch : ∀ x j, 249 ≤ x → upm m1 26 9 0 x j = m x j := fun x j q => c1 x j (Or.inl q)
    have e0 : ∀ x j, (x < 15 ∨ 24 < x) → ¬ (x = 26 ∧ j = 9) → upm m1 26 9 0 x j = m x j := fun x j q q2 => by rw [upm_app, if_neg q2]; exact f1.1 x j (by omega)
    generalize hm1 : upm m1 26 9 0 = m9 at *
    have hRm : BR tc pl m9 := BR_tr hR (fun x j q _ => ch x j q)
    have hJR := BR_g 3 hRm
    have h2 : JR 3 (gR 3 m9) tc pl (upm (cpf (upm m9 249 0 0) 287 (52 * a) 258 0 52) 249 39 0) := JR_up (JR_bk (Or.inr rfl) (JR_up hJR (by unfold frR; omega) (by simp [frc]) (by simp [BdR]))) (by unfold frR; omega) (by simp [frc]) (by simp [BdR])
    have r0 : ∀ x j, x ≠ 258 → ¬ (x = 249 ∧ (j = 0 ∨ j = 39)) → upm (cpf (upm m9 249 0 0) 287 (52 * a) 258 0 52) 249 39 0 x j = m9 x j := fun x j q q2 => by rw [upm_app, if_neg (by omega), cpf_n q, upm_app, if_neg (by omega)]
    have zz : m9 285 a ≠ 0 ∧ m9 286 a = m9 249 7 := by rw [ch 285 a (by decide), ch 286 a (by decide), ch 249 7 (by decide)]; exact (hka z.1 z.2.1).1 z.2.2
    refine p_277x (d := 228) (fun z2 => absurd ⟨z.1, z.2.1, zz⟩ z2) (fun z2 => ⟨_, rfl, ⟨tc, pl, ?_, ?_, ?_, ?_, R, ?_⟩⟩)
    · exact BC_tr (BC_of h1) (fun x j q => FR_of h2 x j (Or.inl q))
    · exact BR_of h2
    · exact RX_fr (Int.le_refl _) (fun x j q => FC_of h1 x j (frC_le (by decide) q)) (fun x j q => FR_of h2 x j (frR_le (by decide) q)) hX
    · exact RB_fr (Nat.le_succ n) ((FR_of h2 1 12 (Or.inl (by decide))).trans (FC_of h1 1 12 (by unfold frC; omega))) ((FR_of h2 249 7 (by unfold frR; omega)).trans (FC_of h1 249 7 (Or.inl (by decide)))) (fun j => (FR_of h2 285 j (by unfold frR; omega)).trans (FC_of h1 285 j (Or.inl (by decide)))) (fun j => (FR_of h2 286 j (by unfold frR; omega)).trans (FC_of h1 286 j (Or.inl (by decide)))) hB
    · refine GS_again (a := a) (by omega) (by omega) hG (fun x j q => ?_) ⟨z.1, z.2.1⟩ z.2.2 ?_ ?_ ?_ ⟨?_, fun j j0 j1 => ?_⟩ (fun y y0 y1 => ?_)
      · unfold KCl at q; rw [r0 x j (by omega) (by omega)]; exact e0 x j (by omega) (by omega)
      · rw [r0 26 8 (by decide) (by decide)]; exact e0 26 8 (by decide) (by decide)
      · rw [r0 26 9 (by decide) (by decide), ← hm1, upm_v]
      · rw [upm_v]
      · refine SE_tr (SE_st (m := m1) (fun x j x0 x1 => ?_)) (CPY_SE f1)
        rw [r0 x j (by omega) (by omega), ← hm1, upm_app, if_neg (by omega)]
      · rw [r0 18 j (by decide) (by omega), ← hm1, upm_app, if_neg (by omega)]
        exact CPY_hold f1 j0 j1
      · have q := cpf_at (m := upm m9 249 0 0) (a := 287) (i := 52 * a) (b := 258) (j := 0) y0 y1
        rw [Int.zero_add] at q
        rw [upm_app, if_neg (by omega), q, upm_app, if_neg (by omega)]
        exact ch 287 _ (by decide)

theorem two_152 {n : Nat} {a : Int} {m : Mem} (h : JJ (n + 1) m) : Cl 230 152 [1, a] (fun v u => ∃ m1, u = S9 0 m1 ∧ Cl 230 276 [249, a] (fun w u' => ∃ m2, u' = S9 0 m2 ∧ JJ n m2) (S9 0 m1)) (S9 0 m) := by
  obtain ⟨tc, pl, hC, hR, hX, hB, R, hG⟩ := h
  have hs := JC_s (BC_g 0 hC)
  have hr := JR_s (BR_g 0 hR)
  obtain ⟨⟨kv1, kv2, kv3⟩, ⟨hI, hD, hS, hO, hN⟩, ⟨⟨u1, u2, u3, u4, u5⟩, -⟩, -, hRc, hRr⟩ := id hG
  obtain ⟨k3, k4, k5, k6, k7⟩ := hX.2.1
  refine f_152 (d := 227) (g := gC 2 m) (BC_g 2 hC) (fun z => ⟨m, rfl, ?_⟩) (fun z m1 h0 f1 h1 => ⟨_, rfl, ?_⟩)
  · refine p_276x (d := 228) (fun z2 => ⟨_, rfl, ⟨tc, pl, BC_hi hC (by decide), BR_0 hR, ⟨RT_fr (fun x j q => upm_a _ _ _ _ _ _ (by omega)) hX.1, RKM_fr (fun x j q => by rw [upm_app, if_neg (by omega)]) hX.2⟩, RB_fr (Nat.le_succ n) (upm_a _ _ _ _ _ _ (by decide)) (upm_k (by decide)) (fun j => upm_a _ _ _ _ _ _ (by decide)) (fun j => upm_a _ _ _ _ _ _ (by decide)) hB, R, GS_fr (by omega) (by omega) (fun x j q => by rw [upm_app, if_neg (by unfold GCl at q; omega)]) hG⟩⟩) (fun z2 => absurd z2 z)
  · have c1 := FC_of h1
    have ch : ∀ x j, 249 ≤ x → upm m1 1 12 (ior (m 1 12) (ishl 1 a)) x j = m x j := fun x j q => c1 x j (Or.inl q)
    have e0 : ∀ x j, (x < 219 + 10 * a ∨ 219 + 10 * a + 9 < x) → ¬ (x = 1 ∧ j = 12) → upm m1 1 12 (ior (m 1 12) (ishl 1 a)) x j = m x j := fun x j q q2 => by rw [upm_app, if_neg q2]; exact f1.1 x j q
    generalize hm1 : upm m1 1 12 (ior (m 1 12) (ishl 1 a)) = m9 at *
    have hRm : BR tc pl m9 := BR_tr hR (fun x j q _ => ch x j q)
    have hJR := BR_g 2 hRm
    have h2 : JR 2 (gR 2 m9) tc pl (cpf (upm (upm (upm m9 249 0 0) 285 a 1) 286 a (m9 249 7)) 258 0 287 (52 * a) 52) := JR_kp (JR_up (JR_up (JR_up hJR (by unfold frR; omega) (by simp [frc]) (by simp [BdR])) (by unfold frR; omega) (by simp [frc]) (by simp [BdR])) (by unfold frR; omega) (by simp [frc]) (by simp [BdR])) (fun x j q => by have q : frR 2 x j := q; unfold frR at q; omega)
    have r0 : ∀ x j, x ≠ 287 → x ≠ 285 → x ≠ 286 → ¬ (x = 249 ∧ j = 0) → cpf (upm (upm (upm m9 249 0 0) 285 a 1) 286 a (m9 249 7)) 258 0 287 (52 * a) 52 x j = m9 x j := fun x j q q1 q2 q3 => by rw [cpf_n q, upm_app, if_neg (by omega), upm_app, if_neg (by omega), upm_app, if_neg (by omega)]
    refine p_276x (d := 228) (fun z2 => absurd z z2) (fun z2 => ⟨_, rfl, ⟨tc, pl, ?_, ?_, ?_, ?_, R, ?_⟩⟩)
    · exact BC_tr (BC_of h1) (fun x j q => FR_of h2 x j (Or.inl q))
    · exact BR_of h2
    · exact RX_fr (Int.le_refl _) (fun x j q => FC_of h1 x j (frC_le (by decide) q)) (fun x j q => FR_of h2 x j (frR_le (by decide) q)) hX
    · refine RB_keep z ?_ ?_ (fun j => ?_) (fun j => ?_) hB
      · rw [r0 1 12 (by decide) (by decide) (by decide) (by decide), ← hm1, upm_v]
      · rw [r0 249 7 (by decide) (by decide) (by decide) (by decide)]; exact ch 249 7 (by decide)
      · rw [cpf_n (by decide), upm_f _ _ _ _ _ (by decide), upm_app, upm_f _ _ _ _ _ (by decide), ch 285 j (by decide)]; simp
      · rw [cpf_n (by decide), upm_app, upm_f _ _ _ _ _ (by decide), upm_f _ _ _ _ _ (by decide), ch 286 j (by decide), ch 249 7 (by decide)]; simp
    · refine GS_keep (a := a) (by omega) (by omega) hG (fun x j q q1 q2 q3 => ?_) z (fun i i0 i1 q => ?_) ⟨?_, fun j j0 j1 => ?_⟩ (fun i i0 i1 q x j x0 x1 => ?_) (fun y y0 y1 => ?_) (fun y q => ?_)
      · unfold GCl at q; rw [r0 x j (by omega) (by omega) (by omega) (by omega)]; exact e0 x j (by omega) (by omega)
      · rw [r0 1 12 (by decide) (by decide) (by decide) (by decide), ← hm1, upm_v, bit_or ⟨z.1, by omega⟩ ⟨i0, by omega⟩] at q
        by_cases y : i = a
        · exact Or.inl y
        · rw [if_neg y] at q; exact Or.inr q
      · refine SE_tr (SE_st (m := m1) (fun x j x0 x1 => ?_)) (CPY_SE f1)
        rw [r0 x j (by omega) (by omega) (by omega) (by omega), ← hm1, upm_app, if_neg (by omega)]
      · rw [r0 _ j (by omega) (by omega) (by omega) (by omega), ← hm1, upm_app, if_neg (by omega)]
        exact CPY_hold f1 j0 j1
      · rw [r0 x j (by omega) (by omega) (by omega) (by omega)]; exact e0 x j (by omega) (by omega)
      · have q := cpf_at (m := upm (upm (upm m9 249 0 0) 285 a 1) 286 a (m9 249 7)) (a := 258) (i := 0) (b := 287) (j := 52 * a) y0 y1
        rw [Int.zero_add] at q
        rw [q, upm_app, if_neg (by omega), upm_app, if_neg (by omega), upm_app, if_neg (by omega)]
        exact ch 258 _ (by decide)
      · rw [cpf_hi (by omega), upm_app, if_neg (by omega), upm_app, if_neg (by omega), upm_app, if_neg (by omega)]
        exact ch 287 _ (by decide)

/-- what THE RULE's text leaves alone on both sides -/
theorem e41 {m m1 m2 : Mem} (c : ∀ x j, frC 3 x j → m1 x j = m x j) (p1 : ∀ x j, Kp4 x j → m1 x j = m x j) (r : ∀ x j, frR 3 x j → m2 x j = m1 x j) (p2 : ∀ x j, Kp4R x j → m2 x j = m1 x j) {x j : Int} (h : GCl x j) (hn : ¬ (x = 5 ∨ (x = 4 ∧ j = 1) ∨ x = 265 ∨ (x = 249 ∧ j = 32))) : m2 x j = m x j := by
  unfold GCl at h
  have lo : x < 249 → m2 x j = m1 x j := fun q => r x j (Or.inl q)
  have hi : 249 ≤ x → m1 x j = m x j := fun q => c x j (Or.inl q)
  rcases h with h | h | h | h | h | h | h | h | h | h | h | h | h
  · exact (lo (by omega)).trans (c x j (Or.inr (Or.inr (Or.inl ⟨by decide, h⟩))))
  · exact (lo (by omega)).trans (p1 x j (Or.inl h))
  · exact (lo (by omega)).trans (p1 x j (Or.inr (Or.inl ⟨h.1, by omega⟩)))
  · exact (lo (by omega)).trans (p1 x j (Or.inr (Or.inr (Or.inl h))))
  · exact (lo (by omega)).trans (p1 x j (Or.inr (Or.inr (Or.inr ⟨by omega, by omega, by omega⟩))))
  · exact (lo (by omega)).trans (c x j (Or.inr (Or.inr (Or.inr (Or.inl ⟨by decide, h⟩)))))
  · exact absurd (Or.inl h) hn
  · exact absurd (Or.inr (Or.inl h)) hn
  · obtain ⟨h1, h2 | h2⟩ := h
    · exact absurd (Or.inr (Or.inr (Or.inr ⟨h1, h2⟩))) hn
    · exact (p2 x j (Or.inr (Or.inr (Or.inr ⟨h1, h2⟩)))).trans (hi (by omega))
  · by_cases z : x = 258
    · exact (p2 x j (Or.inl z)).trans (hi (by omega))
    · exact (r x j (Or.inr (Or.inr (Or.inr (Or.inl ⟨by decide, Or.inl ⟨by omega, by omega⟩⟩))))).trans (hi (by omega))
  · exact absurd (Or.inr (Or.inr (Or.inl h))) hn
  · exact (p2 x j (Or.inr (Or.inl h))).trans (hi (by omega))
  · exact (p2 x j (Or.inr (Or.inr (Or.inl h)))).trans (hi (by omega))
theorem Co_pos {st : ENV → Int → List Int → List Int} {A : Int → Int} {j : Int} {f : DEN} (h : Co st A 0 j f) : 0 < j := by
  by_cases z : 0 < j
  · exact z
  · have q := h.2 (fun _ => 0) (fun _ => inI_0) []
    rw [rn_z (by omega)] at q
    exact absurd q (by simp)
set_option maxHeartbeats 8000000 in
theorem two_41 {n : Nat} {m : Mem} (h : JJ (n + 1) m) : Cl 230 41 [1] (fun v u => ∃ m1, u = S9 0 m1 ∧ Cl 230 189 [249] (fun w u' => ∃ m2, u' = S9 0 m2 ∧ JJ n m2) (S9 0 m1)) (S9 0 m) := by
  obtain ⟨tc, pl, hC, hR, hX, hB, R, hG⟩ := h
  have hs := JC_s (BC_g 0 hC)
  have hr := JR_s (BR_g 0 hR)
  obtain ⟨⟨kv1, kv2, kv3⟩, ⟨hI, hD, hS, hO, hN⟩, ⟨⟨u1, u2, u3, u4, u5⟩, -⟩, -, hRc, hRr⟩ := id hG
  obtain ⟨k3, k4, k5, k6, k7⟩ := hX.2.1
  refine f_41 (d := 200) (g := gC 3 m) hX.1.2.1 (BC_g 3 hC) (fun v m1 h1 p1 => ⟨m1, rfl, ?_⟩)
  have e60 : m1 260 = m 260 := by funext j; exact FC_of h1 260 j (Or.inl (by decide))
  refine f_189 (d := 15) (g := gR 3 m1) (by rw [e60]; exact hX.1.2.2) (BR_g 3 (BR_tr hR (fun x j q _ => FC_of h1 x j (Or.inl q)))) (fun w m2 h2 p2 => ⟨m2, rfl, ⟨0, pl, ?_, ?_, ?_, ?_, ?_⟩⟩)
  · exact BC_tr (BC_of h1) (fun x j q => FR_of h2 x j (Or.inl q))
  · exact BR_of h2
  · exact RX_fr hC.1.1 (fun x j q => FC_of h1 x j (frC_le (by decide) q)) (fun x j q => FR_of h2 x j (frR_le (by decide) q)) hX
  · exact RB_fr (Nat.le_succ n) ((FR_of h2 1 12 (Or.inl (by decide))).trans (FC_of h1 1 12 (by unfold frC; omega))) ((FR_of h2 249 7 (by unfold frR; omega)).trans (FC_of h1 249 7 (Or.inl (by decide)))) (fun j => (FR_of h2 285 j (by unfold frR; omega)).trans (FC_of h1 285 j (Or.inl (by decide)))) (fun j => (FR_of h2 286 j (by unfold frR; omega)).trans (FC_of h1 286 j (Or.inl (by decide)))) hB
  · obtain ⟨p1v, p1c, p1f⟩ := p1
    obtain ⟨p2v, p2c, p2f⟩ := p2
    have hv : v = w := by rw [p1v, p2v, e60]; exact (RV_e hX.1.1).symm
    subst hv
    have ch : ∀ x j, 249 ≤ x → m1 x j = m x j := fun x j q => FC_of h1 x j (Or.inl q)
    have lo : ∀ x j, x < 249 → m2 x j = m1 x j := fun x j q => FR_of h2 x j (Or.inl q)
    have eG : ∀ x j, GCl x j → ¬ (x = 5 ∨ (x = 4 ∧ j = 1) ∨ x = 265 ∨ (x = 249 ∧ j = 32)) → m2 x j = m x j := fun x j q q2 => e41 (FC_of h1) p1f (FR_of h2) p2f q q2
    have hnew : ∀ R', RuC m2 R' → RuR m2 R' → GS R' m2 := fun R' hc hr => by
      have hGm : GS R (fun x j => if x = 5 ∨ (x = 4 ∧ j = 1) ∨ x = 265 ∨ (x = 249 ∧ j = 32) then m x j else m2 x j) := GS_fr (by omega) (by omega) (fun x j q => by
        by_cases z : x = 5 ∨ (x = 4 ∧ j = 1) ∨ x = 265 ∨ (x = 249 ∧ j = 32)
        · exact if_pos z
        · show (if _ then _ else _) = _
          rw [if_neg z]; exact eG x j q z) hG
      obtain ⟨g1, ⟨g21, g22, g23, g24, g25⟩, ⟨g3, g4⟩, g5, -, -⟩ := hGm
      have c : ∀ x j, ¬ (x = 5 ∨ (x = 4 ∧ j = 1) ∨ x = 265 ∨ (x = 249 ∧ j = 32)) → (fun x j => if x = 5 ∨ (x = 4 ∧ j = 1) ∨ x = 265 ∨ (x = 249 ∧ j = 32) then m x j else m2 x j) x j = m2 x j := fun x j z => if_neg z
      have e8 : ∀ j, m2 8 j = m 8 j := fun j => eG 8 j (by unfold GCl; omega) (by omega)
      have tr : ∀ s i b, (s = 15 ∨ 31 ≤ s) → s ≤ 239 → (i = 258 ∨ i = 269 ∨ i = 287) → OKS (m2 8 0) (m2 8 1) (m2 8 2) (m2 8 3) (fun x j => if x = 5 ∨ (x = 4 ∧ j = 1) ∨ x = 265 ∨ (x = 249 ∧ j = 32) then m x j else m2 x j) s i b → OKS (m2 8 0) (m2 8 1) (m2 8 2) (m2 8 3) m2 s i b := fun s i b q q2 q3 ho =>
        OKS_tr (by rw [e8]; omega) (by rw [e8]; omega) ho (SE_st (fun x j x0 x1 => (c x j (by omega)).symm)) (fun j _ _ => (c _ j (by omega)).symm) (SE_rw (fun y _ _ => (c i _ (by omega)).symm))
      exact ⟨g1, tr 15 258 0 (Or.inl rfl) (by decide) (Or.inl rfl) ⟨g21, g22, g23, g24, g25⟩, ⟨g3, fun i i0 i1 => tr _ _ _ (by omega) (by omega) (by omega) (g4 i i0 i1)⟩, fun i i0 i1 hb => tr _ _ _ (by omega) (by omega) (by omega) (g5 i i0 i1 hb), hc, hr⟩
    have l5 : m2 5 = m1 5 := by funext j; exact lo 5 j (by decide)
    have l41 : m2 4 1 = m1 4 1 := lo 4 1 (by decide)
    rcases p1c with ⟨b1, b2, b3⟩ | ⟨b1, b2, b3⟩ | ⟨b1, b2, b3⟩
    · rcases p2c with ⟨d1, d2, d3⟩ | ⟨d1, -⟩ | ⟨d1, -⟩
      · exact ⟨R, hnew R (RuC_fr hRc (l41.trans b3) (fun j => by rw [l5, b2])) (RuR_fr hRr (d3.trans (ch 249 32 (by decide))) (fun j => by rw [d2]; exact ch 265 j (by decide)))⟩
      · exact absurd d1 b1
      · exact absurd d1 b1
    · rcases p2c with ⟨d1, -⟩ | ⟨d1, d2, d3⟩ | ⟨d1, d2, d3⟩
      · exact absurd b1 d1
      · exact ⟨rl0, hnew rl0 (Or.inl ⟨l41.trans b3, rfl⟩) (Or.inl ⟨d3, rfl⟩)⟩
      · omega
    · rcases p2c with ⟨d1, -⟩ | ⟨d1, d2, d3⟩ | ⟨d1, d2, d3⟩
      · exact absurd b1 d1
      · omega
      · have hX9 : EXp (m1 260) (min tc 40) 4 0 = EXp (m 3) (min tc 40) 4 0 := by rw [e60]; exact EX_e (fun j j0 j1 => hX.1.1 j j0 (by omega)) 4 0 (by decide)
        rw [hX9] at d3
        exact ⟨rlD (EXp (m 3) (min tc 40) 4 0).2.2, hnew _ (Or.inr ⟨by rw [l41]; exact Co_pos b3, _, by rw [l5, l41]; exact b3, rfl⟩) (Or.inr ⟨Co_pos d3, _, d3, rfl⟩)⟩
end
section
/-! THE KITCHEN's text on both sides keeps the relation (pure) -/
theorem VI_k100 {a b c d j : Int} (h0 : 0 ≤ j) (h1 : j < b) : VI a b c d (100 + j) := Or.inr (Or.inl ⟨by omega, by omega⟩)
theorem VI_k120 {a b c d j : Int} (h0 : 0 ≤ j) (h1 : j < b) : VI a b c d (120 + j) := Or.inr (Or.inr (Or.inl ⟨by omega, by omega⟩))
theorem VI_k140 {a b c d j : Int} (h0 : 0 ≤ j) (h1 : j < b) : VI a b c d (140 + j) := Or.inr (Or.inr (Or.inr (Or.inl ⟨by omega, by omega⟩)))
theorem VI_k160 {a b c d j : Int} (h0 : 0 ≤ j) (h1 : j < b) : VI a b c d (160 + j) := Or.inr (Or.inr (Or.inr (Or.inr (Or.inl ⟨by omega, by omega⟩))))
theorem VI_k200 {a b c d j : Int} (h0 : 0 ≤ j) (h1 : j < c) : VI a b c d (200 + j) := Or.inr (Or.inr (Or.inr (Or.inr (Or.inr (Or.inl ⟨by omega, by omega⟩)))))
theorem VI_k210 {a b c d j : Int} (h0 : 0 ≤ j) (h1 : j < c) : VI a b c d (210 + j) := Or.inr (Or.inr (Or.inr (Or.inr (Or.inr (Or.inr (Or.inl ⟨by omega, by omega⟩))))))
theorem VI_k220 {a b c d j : Int} (h0 : 0 ≤ j) (h1 : j < c) : VI a b c d (220 + j) := Or.inr (Or.inr (Or.inr (Or.inr (Or.inr (Or.inr (Or.inr (Or.inl ⟨by omega, by omega⟩)))))))
theorem VI_k230 {a b c d j : Int} (h0 : 0 ≤ j) (h1 : j < c) : VI a b c d (230 + j) := Or.inr (Or.inr (Or.inr (Or.inr (Or.inr (Or.inr (Or.inr (Or.inr (Or.inl ⟨by omega, by omega⟩))))))))
theorem VI_k300 {a b c d j : Int} (h0 : 0 ≤ j) (h1 : j < d) : VI a b c d (300 + j) := Or.inr (Or.inr (Or.inr (Or.inr (Or.inr (Or.inr (Or.inr (Or.inr (Or.inr (Or.inl ⟨by omega, by omega⟩)))))))))
theorem VI_k310 {a b c d j : Int} (h0 : 0 ≤ j) (h1 : j < d) : VI a b c d (310 + j) := Or.inr (Or.inr (Or.inr (Or.inr (Or.inr (Or.inr (Or.inr (Or.inr (Or.inr (Or.inr (Or.inl ⟨by omega, by omega⟩))))))))))
theorem VI_k320 {a b c d j : Int} (h0 : 0 ≤ j) (h1 : j < d) : VI a b c d (320 + j) := Or.inr (Or.inr (Or.inr (Or.inr (Or.inr (Or.inr (Or.inr (Or.inr (Or.inr (Or.inr (Or.inr (Or.inl ⟨by omega, by omega⟩)))))))))))
theorem VI_k330 {a b c d j : Int} (h0 : 0 ≤ j) (h1 : j < d) : VI a b c d (330 + j) := Or.inr (Or.inr (Or.inr (Or.inr (Or.inr (Or.inr (Or.inr (Or.inr (Or.inr (Or.inr (Or.inr (Or.inr (Or.inl ⟨by omega, by omega⟩))))))))))))
theorem VI_k340 {a b c d j : Int} (h0 : 0 ≤ j) (h1 : j < d) : VI a b c d (340 + j) := Or.inr (Or.inr (Or.inr (Or.inr (Or.inr (Or.inr (Or.inr (Or.inr (Or.inr (Or.inr (Or.inr (Or.inr (Or.inr (Or.inl ⟨by omega, by omega⟩)))))))))))))
theorem VI_k350 {a b c d j : Int} (h0 : 0 ≤ j) (h1 : j < d) : VI a b c d (350 + j) := Or.inr (Or.inr (Or.inr (Or.inr (Or.inr (Or.inr (Or.inr (Or.inr (Or.inr (Or.inr (Or.inr (Or.inr (Or.inr (Or.inr (Or.inl ⟨by omega, by omega⟩))))))))))))))
theorem VI_k360 {a b c d j : Int} (h0 : 0 ≤ j) (h1 : j < d) : VI a b c d (360 + j) := Or.inr (Or.inr (Or.inr (Or.inr (Or.inr (Or.inr (Or.inr (Or.inr (Or.inr (Or.inr (Or.inr (Or.inr (Or.inr (Or.inr (Or.inr (Or.inl ⟨by omega, by omega⟩)))))))))))))))
theorem VI_k370 {a b c d j : Int} (h0 : 0 ≤ j) (h1 : j < d) : VI a b c d (370 + j) := Or.inr (Or.inr (Or.inr (Or.inr (Or.inr (Or.inr (Or.inr (Or.inr (Or.inr (Or.inr (Or.inr (Or.inr (Or.inr (Or.inr (Or.inr (Or.inr (⟨by omega, by omega⟩))))))))))))))))
theorem kC_100 {m : Mem} {j : Int} (hj : 0 ≤ j ∧ j < 20) : kvC m (100 + j) = m 10 j := by
  unfold kvC
  (repeat rw [if_neg (by omega)])
  rw [if_pos (by omega)]
  congr 1; omega
theorem kC_120 {m : Mem} {j : Int} (hj : 0 ≤ j ∧ j < 20) : kvC m (120 + j) = m 11 j := by
  unfold kvC
  (repeat rw [if_neg (by omega)])
  rw [if_pos (by omega)]
  congr 1; omega
theorem kC_140 {m : Mem} {j : Int} (hj : 0 ≤ j ∧ j < 20) : kvC m (140 + j) = m 12 j := by
  unfold kvC
  (repeat rw [if_neg (by omega)])
  rw [if_pos (by omega)]
  congr 1; omega
theorem kC_160 {m : Mem} {j : Int} (hj : 0 ≤ j ∧ j < 14) : kvC m (160 + j) = iand (ishr (m 8 8) j) 1 := by
  unfold kvC
  (repeat rw [if_neg (by omega)])
  rw [if_pos (by omega)]
  rw [if_pos (by omega), show 160 + j - 160 = j by omega]
theorem kC_200 {m : Mem} {j : Int} (hj : 0 ≤ j ∧ j < 5) : kvC m (200 + j) = m 16 j := by
  unfold kvC
  (repeat rw [if_neg (by omega)])
  rw [if_pos (by omega)]
  congr 1; omega
theorem kC_210 {m : Mem} {j : Int} (hj : 0 ≤ j ∧ j < 5) : kvC m (210 + j) = m 17 j := by
  unfold kvC
  (repeat rw [if_neg (by omega)])
  rw [if_pos (by omega)]
  congr 1; omega
theorem kC_220 {m : Mem} {j : Int} (hj : 0 ≤ j ∧ j < 5) : kvC m (220 + j) = iand (ishr (m 15 3) j) 1 := by
  unfold kvC
  (repeat rw [if_neg (by omega)])
  rw [if_pos (by omega)]
  rw [if_pos (by omega), show 220 + j - 220 = j by omega]
theorem kC_230 {m : Mem} {j : Int} (hj : 0 ≤ j ∧ j < 5) : kvC m (230 + j) = m 13 j := by
  unfold kvC
  (repeat rw [if_neg (by omega)])
  rw [if_pos (by omega)]
  congr 1; omega
theorem kC_300 {m : Mem} {j : Int} (hj : 0 ≤ j ∧ j < 5) : kvC m (300 + j) = m 14 j := by
  unfold kvC
  (repeat rw [if_neg (by omega)])
  rw [if_pos (by omega)]
  congr 1; omega
theorem kC_310 {m : Mem} {j : Int} (hj : 0 ≤ j ∧ j < 5) : kvC m (310 + j) = m 19 j := by
  unfold kvC
  (repeat rw [if_neg (by omega)])
  rw [if_pos (by omega)]
  congr 1; omega
theorem kC_320 {m : Mem} {j : Int} (hj : 0 ≤ j ∧ j < 5) : kvC m (320 + j) = m 20 (2 * j) := by
  unfold kvC
  (repeat rw [if_neg (by omega)])
  rw [if_pos (by omega)]
  congr 1; omega
theorem kC_330 {m : Mem} {j : Int} (hj : 0 ≤ j ∧ j < 5) : kvC m (330 + j) = m 20 (2 * j + 1) := by
  unfold kvC
  (repeat rw [if_neg (by omega)])
  rw [if_pos (by omega)]
  congr 1; omega
theorem kC_340 {m : Mem} {j : Int} (hj : 0 ≤ j ∧ j < 5) : kvC m (340 + j) = m 21 j := by
  unfold kvC
  (repeat rw [if_neg (by omega)])
  rw [if_pos (by omega)]
  congr 1; omega
theorem kC_350 {m : Mem} {j : Int} (hj : 0 ≤ j ∧ j < 5) : kvC m (350 + j) = m 22 j := by
  unfold kvC
  (repeat rw [if_neg (by omega)])
  rw [if_pos (by omega)]
  congr 1; omega
theorem kC_360 {m : Mem} {j : Int} (hj : 0 ≤ j ∧ j < 5) : kvC m (360 + j) = m 23 j := by
  unfold kvC
  (repeat rw [if_neg (by omega)])
  rw [if_pos (by omega)]
  congr 1; omega
theorem kC_370 {m : Mem} {j : Int} (hj : 0 ≤ j ∧ j < 5) : kvC m (370 + j) = m 24 j := by
  unfold kvC
  (repeat rw [if_neg (by omega)])
  congr 1; omega
theorem kM_100 {m : Mem} {j : Int} (hj : 0 ≤ j ∧ j < 20) : kvM m (100 + j) = m 252 j := by
  unfold kvM
  (repeat rw [if_neg (by omega)])
  rw [if_pos (by omega)]
  congr 1; omega
theorem kM_120 {m : Mem} {j : Int} (hj : 0 ≤ j ∧ j < 20) : kvM m (120 + j) = m 253 j := by
  unfold kvM
  (repeat rw [if_neg (by omega)])
  rw [if_pos (by omega)]
  congr 1; omega
theorem kM_140 {m : Mem} {j : Int} (hj : 0 ≤ j ∧ j < 20) : kvM m (140 + j) = m 254 j := by
  unfold kvM
  (repeat rw [if_neg (by omega)])
  rw [if_pos (by omega)]
  congr 1; omega
theorem kM_160 {m : Mem} {j : Int} (hj : 0 ≤ j ∧ j < 20) : kvM m (160 + j) = m 255 j := by
  unfold kvM
  (repeat rw [if_neg (by omega)])
  rw [if_pos (by omega)]
  congr 1; omega
theorem kM_200 {m : Mem} {j : Int} (hj : 0 ≤ j ∧ j < 5) : kvM m (200 + j) = m 258 (3 * j) := by
  unfold kvM
  (repeat rw [if_neg (by omega)])
  rw [if_pos (by omega)]
  congr 1; omega
theorem kM_210 {m : Mem} {j : Int} (hj : 0 ≤ j ∧ j < 5) : kvM m (210 + j) = m 258 (3 * j + 1) := by
  unfold kvM
  (repeat rw [if_neg (by omega)])
  rw [if_pos (by omega)]
  congr 1; omega
theorem kM_220 {m : Mem} {j : Int} (hj : 0 ≤ j ∧ j < 5) : kvM m (220 + j) = m 258 (3 * j + 2) := by
  unfold kvM
  (repeat rw [if_neg (by omega)])
  rw [if_pos (by omega)]
  congr 1; omega
theorem kM_230 {m : Mem} {j : Int} (hj : 0 ≤ j ∧ j < 5) : kvM m (230 + j) = m 256 j := by
  unfold kvM
  (repeat rw [if_neg (by omega)])
  rw [if_pos (by omega)]
  congr 1; omega
theorem kM_300 {m : Mem} {j : Int} (hj : 0 ≤ j ∧ j < 5) : kvM m (300 + j) = m 257 j := by
  unfold kvM
  (repeat rw [if_neg (by omega)])
  rw [if_pos (by omega)]
  congr 1; omega
theorem kM_310 {m : Mem} {j : Int} (hj : 0 ≤ j ∧ j < 5) : kvM m (310 + j) = m 258 (15 + 7 * j) := by
  unfold kvM
  (repeat rw [if_neg (by omega)])
  rw [if_pos (by omega)]
  congr 1; omega
theorem kM_320 {m : Mem} {j : Int} (hj : 0 ≤ j ∧ j < 5) : kvM m (320 + j) = m 258 (16 + 7 * j) := by
  unfold kvM
  (repeat rw [if_neg (by omega)])
  rw [if_pos (by omega)]
  congr 1; omega
theorem kM_330 {m : Mem} {j : Int} (hj : 0 ≤ j ∧ j < 5) : kvM m (330 + j) = m 258 (17 + 7 * j) := by
  unfold kvM
  (repeat rw [if_neg (by omega)])
  rw [if_pos (by omega)]
  congr 1; omega
theorem kM_340 {m : Mem} {j : Int} (hj : 0 ≤ j ∧ j < 5) : kvM m (340 + j) = m 258 (18 + 7 * j) := by
  unfold kvM
  (repeat rw [if_neg (by omega)])
  rw [if_pos (by omega)]
  congr 1; omega
theorem kM_350 {m : Mem} {j : Int} (hj : 0 ≤ j ∧ j < 5) : kvM m (350 + j) = m 258 (19 + 7 * j) := by
  unfold kvM
  (repeat rw [if_neg (by omega)])
  rw [if_pos (by omega)]
  congr 1; omega
theorem kM_360 {m : Mem} {j : Int} (hj : 0 ≤ j ∧ j < 5) : kvM m (360 + j) = m 258 (20 + 7 * j) := by
  unfold kvM
  (repeat rw [if_neg (by omega)])
  rw [if_pos (by omega)]
  congr 1; omega
theorem kM_370 {m : Mem} {j : Int} (hj : 0 ≤ j ∧ j < 5) : kvM m (370 + j) = m 258 (21 + 7 * j) := by
  unfold kvM
  (repeat rw [if_neg (by omega)])
  congr 1; omega
theorem SE_C {m : Mem} {P H : Int} (hP : P ≤ 5) (hH : H ≤ 5) : SE P H (asC m 15) (asK (kvC m) (m 15 10) (m 15 11)) := by
  refine ⟨fun f j f0 f1 j0 j1 => ?_, fun f j f0 f1 j0 j1 => ?_, by rw [c_op, ak_o], by rw [c_no, ak_n]⟩
  · rcases f02 f0 f1 with rfl | rfl | rfl
    · rw [ak_0, kC_200 ⟨j0, by omega⟩, c_0 m ⟨j0, by omega⟩]
    · rw [ak_1, kC_210 ⟨j0, by omega⟩, c_1 m ⟨j0, by omega⟩]
    · rw [ak_2, kC_220 ⟨j0, by omega⟩, c_2 m ⟨j0, by omega⟩]
  · rcases f39 f0 f1 with rfl | rfl | rfl | rfl | rfl | rfl | rfl
    · rw [ak_3, kC_310 ⟨j0, by omega⟩, c_3 m ⟨j0, by omega⟩]
    · rw [ak_4, kC_320 ⟨j0, by omega⟩, c_4 m ⟨j0, by omega⟩]
    · rw [ak_5, kC_330 ⟨j0, by omega⟩, c_5 m ⟨j0, by omega⟩]
    · rw [ak_6, kC_340 ⟨j0, by omega⟩, c_6 m ⟨j0, by omega⟩]
    · rw [ak_7, kC_350 ⟨j0, by omega⟩, c_7 m ⟨j0, by omega⟩]
    · rw [ak_8, kC_360 ⟨j0, by omega⟩, c_8 m ⟨j0, by omega⟩]
    · rw [ak_9, kC_370 ⟨j0, by omega⟩, c_9 m ⟨j0, by omega⟩]
theorem SE_M {m : Mem} {P H : Int} (hP : P ≤ 5) (hH : H ≤ 5) : SE P H (asR m 258 0) (asK (kvM m) (m 258 50) (m 258 51)) := by
  refine ⟨fun f j f0 f1 j0 j1 => ?_, fun f j f0 f1 j0 j1 => ?_, by rw [r_op, ak_o], by rw [r_no, ak_n]⟩
  · rcases f02 f0 f1 with rfl | rfl | rfl
    · rw [ak_0, kM_200 ⟨j0, by omega⟩, r_0 m ⟨j0, by omega⟩]
    · rw [ak_1, kM_210 ⟨j0, by omega⟩, r_1 m ⟨j0, by omega⟩]
    · rw [ak_2, kM_220 ⟨j0, by omega⟩, r_2 m ⟨j0, by omega⟩]
  · rcases f39 f0 f1 with rfl | rfl | rfl | rfl | rfl | rfl | rfl
    · rw [ak_3, kM_310 ⟨j0, by omega⟩, r_3 m ⟨j0, by omega⟩]
    · rw [ak_4, kM_320 ⟨j0, by omega⟩, r_4 m ⟨j0, by omega⟩]
    · rw [ak_5, kM_330 ⟨j0, by omega⟩, r_5 m ⟨j0, by omega⟩]
    · rw [ak_6, kM_340 ⟨j0, by omega⟩, r_6 m ⟨j0, by omega⟩]
    · rw [ak_7, kM_350 ⟨j0, by omega⟩, r_7 m ⟨j0, by omega⟩]
    · rw [ak_8, kM_360 ⟨j0, by omega⟩, r_8 m ⟨j0, by omega⟩]
    · rw [ak_9, kM_370 ⟨j0, by omega⟩, r_9 m ⟨j0, by omega⟩]
/-- values alike: states alike -/
theorem SE_K {a b P H : Int} {f f' : Int → Int} {o nw : Int} (h : KVL a b P H f' f) : SE P H (asK f o nw) (asK f' o nw) := by
  refine ⟨fun g j f0 f1 j0 j1 => ?_, fun g j f0 f1 j0 j1 => ?_, by rw [ak_o, ak_o], by rw [ak_n, ak_n]⟩
  · rcases f02 f0 f1 with rfl | rfl | rfl
    · rw [ak_0, ak_0]; exact (h _ (VI_k200 j0 j1)).symm
    · rw [ak_1, ak_1]; exact (h _ (VI_k210 j0 j1)).symm
    · rw [ak_2, ak_2]; exact (h _ (VI_k220 j0 j1)).symm
  · rcases f39 f0 f1 with rfl | rfl | rfl | rfl | rfl | rfl | rfl
    · rw [ak_3, ak_3]; exact (h _ (VI_k310 j0 j1)).symm
    · rw [ak_4, ak_4]; exact (h _ (VI_k320 j0 j1)).symm
    · rw [ak_5, ak_5]; exact (h _ (VI_k330 j0 j1)).symm
    · rw [ak_6, ak_6]; exact (h _ (VI_k340 j0 j1)).symm
    · rw [ak_7, ak_7]; exact (h _ (VI_k350 j0 j1)).symm
    · rw [ak_8, ak_8]; exact (h _ (VI_k360 j0 j1)).symm
    · rw [ak_9, ak_9]; exact (h _ (VI_k370 j0 j1)).symm
theorem KE_sy {s s' : KS} (h : KE s s') : KE s' s := ⟨h.1.symm, h.2.1.symm, h.2.2.1.symm, h.2.2.2.1.symm, fun j hj => (h.2.2.2.2 j (by rw [← h.1, ← h.2.1, ← h.2.2.1, ← h.2.2.2.1]; exact hj)).symm⟩
theorem KIV_E {H0 : Int} {s s' : KS} {o nw : Int} (h : KIV H0 s o nw) (e : KE s s') : KIV H0 s' o nw := by
  obtain ⟨⟨b1, b2, b3, b4⟩, i, w, q, p, l, bn⟩ := h
  obtain ⟨e1, e2, e3, e4, e5⟩ := e
  unfold KIV
  rw [e1, e2, e3, e4]
  refine ⟨⟨b1, b2, b3, b4⟩, IV_SE i (SE_K e5), fun j j0 j1 => ?_, fun j j0 j1 => ?_, fun j j0 j1 => ?_, fun j jh j0 j1 => ?_, BN_SE bn (SE_K e5)⟩
  · rw [e5 _ (VI_k100 j0 j1), e5 _ (VI_k120 j0 j1)]; exact w j j0 j1
  · rw [e5 _ (VI_k230 j0 j1)]; exact q j j0 j1
  · rw [e5 _ (VI_k300 j0 j1)]; exact p j j0 j1
  · rw [e5 _ (VI_k360 j0 j1)]; exact l j jh j0 j1
/-- the values of both sides, before -/
theorem KE_GS {m : Mem} (hb : (0 ≤ m 8 0 ∧ m 8 0 ≤ 10) ∧ (0 ≤ m 8 1 ∧ m 8 1 ≤ 14) ∧ (0 ≤ m 8 2 ∧ m 8 2 ≤ 5) ∧ (0 ≤ m 8 3 ∧ m 8 3 ≤ 5)) (hK : RK m) (hV : KVs m) (hS : SE (m 8 2) (m 8 3) (asC m 15) (asR m 258 0)) : KE (sC m) (sK m) := by
  obtain ⟨k3, k4, k5, k6, k7⟩ := hK
  obtain ⟨v1, v2, v3⟩ := hV
  refine ⟨k3, k4, k5, k6, fun j hj => ?_⟩
  have hj : VI (m 8 0) (m 8 1) (m 8 2) (m 8 3) j := hj
  show kvR m j = kvC m j
  rw [kvR_M (by omega) (by rw [k3, k4, k5, k6]; exact hj)]
  unfold VI at hj
  rcases hj with h | h | h | h | h | h | h | h | h | h | h | h | h | h | h | h | h
  · unfold kvM kvC
    rw [if_pos (by omega), if_pos (by omega), Int.sub_zero]; exact k7 j h.1 h.2
  · obtain ⟨i, rfl⟩ : ∃ i, j = 100 + i := ⟨j - 100, by omega⟩
    rw [kM_100 ⟨by omega, by omega⟩, kC_100 ⟨by omega, by omega⟩]
    exact (v1 i (by omega) (by omega)).1
  · obtain ⟨i, rfl⟩ : ∃ i, j = 120 + i := ⟨j - 120, by omega⟩
    rw [kM_120 ⟨by omega, by omega⟩, kC_120 ⟨by omega, by omega⟩]
    exact (v1 i (by omega) (by omega)).2.1
  · obtain ⟨i, rfl⟩ : ∃ i, j = 140 + i := ⟨j - 140, by omega⟩
    rw [kM_140 ⟨by omega, by omega⟩, kC_140 ⟨by omega, by omega⟩]
    exact (v1 i (by omega) (by omega)).2.2.1
  · obtain ⟨i, rfl⟩ : ∃ i, j = 160 + i := ⟨j - 160, by omega⟩
    rw [kM_160 ⟨by omega, by omega⟩, kC_160 ⟨by omega, by omega⟩]
    exact (v1 i (by omega) (by omega)).2.2.2.1
  · obtain ⟨i, rfl⟩ : ∃ i, j = 200 + i := ⟨j - 200, by omega⟩
    rw [kM_200 ⟨by omega, by omega⟩, kC_200 ⟨by omega, by omega⟩]
    have z := hS.1 0 i (by decide) (by decide) (by omega) (by omega)
    rw [c_0 m ⟨by omega, by omega⟩, r_0 m ⟨by omega, by omega⟩] at z; exact z.symm
  · obtain ⟨i, rfl⟩ : ∃ i, j = 210 + i := ⟨j - 210, by omega⟩
    rw [kM_210 ⟨by omega, by omega⟩, kC_210 ⟨by omega, by omega⟩]
    have z := hS.1 1 i (by decide) (by decide) (by omega) (by omega)
    rw [c_1 m ⟨by omega, by omega⟩, r_1 m ⟨by omega, by omega⟩] at z; exact z.symm
  · obtain ⟨i, rfl⟩ : ∃ i, j = 220 + i := ⟨j - 220, by omega⟩
    rw [kM_220 ⟨by omega, by omega⟩, kC_220 ⟨by omega, by omega⟩]
    have z := hS.1 2 i (by decide) (by decide) (by omega) (by omega)
    rw [c_2 m ⟨by omega, by omega⟩, r_2 m ⟨by omega, by omega⟩] at z; exact z.symm
  · obtain ⟨i, rfl⟩ : ∃ i, j = 230 + i := ⟨j - 230, by omega⟩
    rw [kM_230 ⟨by omega, by omega⟩, kC_230 ⟨by omega, by omega⟩]
    exact (v2 i (by omega) (by omega)).1
  · obtain ⟨i, rfl⟩ : ∃ i, j = 300 + i := ⟨j - 300, by omega⟩
    rw [kM_300 ⟨by omega, by omega⟩, kC_300 ⟨by omega, by omega⟩]
    exact (v3 i (by omega) (by omega)).1
  · obtain ⟨i, rfl⟩ : ∃ i, j = 310 + i := ⟨j - 310, by omega⟩
    rw [kM_310 ⟨by omega, by omega⟩, kC_310 ⟨by omega, by omega⟩]
    have z := hS.2.1 3 i (by decide) (by decide) (by omega) (by omega)
    rw [c_3 m ⟨by omega, by omega⟩, r_3 m ⟨by omega, by omega⟩] at z; exact z.symm
  · obtain ⟨i, rfl⟩ : ∃ i, j = 320 + i := ⟨j - 320, by omega⟩
    rw [kM_320 ⟨by omega, by omega⟩, kC_320 ⟨by omega, by omega⟩]
    have z := hS.2.1 4 i (by decide) (by decide) (by omega) (by omega)
    rw [c_4 m ⟨by omega, by omega⟩, r_4 m ⟨by omega, by omega⟩] at z; exact z.symm
  · obtain ⟨i, rfl⟩ : ∃ i, j = 330 + i := ⟨j - 330, by omega⟩
    rw [kM_330 ⟨by omega, by omega⟩, kC_330 ⟨by omega, by omega⟩]
    have z := hS.2.1 5 i (by decide) (by decide) (by omega) (by omega)
    rw [c_5 m ⟨by omega, by omega⟩, r_5 m ⟨by omega, by omega⟩] at z; exact z.symm
  · obtain ⟨i, rfl⟩ : ∃ i, j = 340 + i := ⟨j - 340, by omega⟩
    rw [kM_340 ⟨by omega, by omega⟩, kC_340 ⟨by omega, by omega⟩]
    have z := hS.2.1 6 i (by decide) (by decide) (by omega) (by omega)
    rw [c_6 m ⟨by omega, by omega⟩, r_6 m ⟨by omega, by omega⟩] at z; exact z.symm
  · obtain ⟨i, rfl⟩ : ∃ i, j = 350 + i := ⟨j - 350, by omega⟩
    rw [kM_350 ⟨by omega, by omega⟩, kC_350 ⟨by omega, by omega⟩]
    have z := hS.2.1 7 i (by decide) (by decide) (by omega) (by omega)
    rw [c_7 m ⟨by omega, by omega⟩, r_7 m ⟨by omega, by omega⟩] at z; exact z.symm
  · obtain ⟨i, rfl⟩ : ∃ i, j = 360 + i := ⟨j - 360, by omega⟩
    rw [kM_360 ⟨by omega, by omega⟩, kC_360 ⟨by omega, by omega⟩]
    have z := hS.2.1 8 i (by decide) (by decide) (by omega) (by omega)
    rw [c_8 m ⟨by omega, by omega⟩, r_8 m ⟨by omega, by omega⟩] at z; exact z.symm
  · obtain ⟨i, rfl⟩ : ∃ i, j = 370 + i := ⟨j - 370, by omega⟩
    rw [kM_370 ⟨by omega, by omega⟩, kC_370 ⟨by omega, by omega⟩]
    have z := hS.2.1 9 i (by decide) (by decide) (by omega) (by omega)
    rw [c_9 m ⟨by omega, by omega⟩, r_9 m ⟨by omega, by omega⟩] at z; exact z.symm
theorem KIV_GS {m : Mem} (hb : (0 ≤ m 8 0 ∧ m 8 0 ≤ 10) ∧ (0 ≤ m 8 1 ∧ m 8 1 ≤ 14) ∧ (0 ≤ m 8 2 ∧ m 8 2 ≤ 5) ∧ (0 ≤ m 8 3 ∧ m 8 3 ≤ 5)) (hV : KVs m) (hI : IV (m 8 0) (m 8 2) (m 8 3) (asC m 15)) (hN : BN (m 8 2) (m 8 3) (asC m 15)) : KIV (m 8 3) (sC m) (m 15 10) (m 15 11) := by
  obtain ⟨v1, v2, v3⟩ := hV
  refine ⟨hb, IV_SE hI (SE_C hb.2.2.1.2 hb.2.2.2.2), fun w w0 w1 => ?_, fun q q0 q1 => ?_, fun p p0 p1 => ?_, fun p ph p0 p1 => ?_, BN_SE hN (SE_C hb.2.2.1.2 hb.2.2.2.2)⟩
  · have w1 : w < m 8 1 := w1
    obtain ⟨-, -, -, -, a, b, c⟩ := v1 w w0 w1
    show (0 ≤ kvC m (100 + w) ∧ kvC m (100 + w) < m 8 0) ∧ (0 ≤ kvC m (120 + w) ∧ kvC m (120 + w) < m 8 0) ∧ kvC m (100 + w) ≠ kvC m (120 + w)
    rw [kC_100 ⟨w0, by omega⟩, kC_120 ⟨w0, by omega⟩]
    exact ⟨a, b, c⟩
  · have q1 : q < m 8 2 := q1
    show 0 ≤ kvC m (230 + q) ∧ kvC m (230 + q) ≤ 9
    rw [kC_230 ⟨q0, by omega⟩]; exact (v2 q q0 q1).2
  · have p1 : p < m 8 3 := p1
    show 0 ≤ kvC m (300 + p) ∧ kvC m (300 + p) ≤ 99
    rw [kC_300 ⟨p0, by omega⟩]; exact (v3 p p0 p1).2
  · have p1 : p < m 8 3 := p1
    omega
/-- and behind it -/
theorem KVs_KE {H0 o nw : Int} {m : Mem} (hb : (0 ≤ m 8 0 ∧ m 8 0 ≤ 10) ∧ (0 ≤ m 8 1 ∧ m 8 1 ≤ 14) ∧ (0 ≤ m 8 2 ∧ m 8 2 ≤ 5) ∧ (0 ≤ m 8 3 ∧ m 8 3 ≤ 5)) (h : KE (sC m) (sK m)) (i : KIV H0 (sC m) o nw) : KVs m := by
  obtain ⟨k3, k4, k5, k6, k7⟩ := h
  obtain ⟨-, -, w, q, p, -, -⟩ := i
  have k3 : m 249 3 = m 8 0 := k3
  have k4 : m 249 4 = m 8 1 := k4
  have k5 : m 249 5 = m 8 2 := k5
  have k6 : m 249 6 = m 8 3 := k6
  have kk : ∀ j, VI (m 8 0) (m 8 1) (m 8 2) (m 8 3) j → kvM m j = kvC m j := fun j hj => by
    rw [← kvR_M (by omega) (by rw [k3, k4, k5, k6]; exact hj)]; exact k7 j hj
  refine ⟨fun w0 a b => ?_, fun q0 a b => ?_, fun p0 a b => ?_⟩
  · have e1 := kk (100 + w0) (VI_k100 a b)
    have e2 := kk (120 + w0) (VI_k120 a b)
    have e3 := kk (140 + w0) (VI_k140 a b)
    have e4 := kk (160 + w0) (VI_k160 a b)
    rw [kM_100 ⟨a, by omega⟩, kC_100 ⟨a, by omega⟩] at e1
    rw [kM_120 ⟨a, by omega⟩, kC_120 ⟨a, by omega⟩] at e2
    rw [kM_140 ⟨a, by omega⟩, kC_140 ⟨a, by omega⟩] at e3
    rw [kM_160 ⟨a, by omega⟩, kC_160 ⟨a, by omega⟩] at e4
    have z := w w0 a b
    have z : (0 ≤ kvC m (100 + w0) ∧ kvC m (100 + w0) < m 8 0) ∧ (0 ≤ kvC m (120 + w0) ∧ kvC m (120 + w0) < m 8 0) ∧ kvC m (100 + w0) ≠ kvC m (120 + w0) := z
    rw [kC_100 ⟨a, by omega⟩, kC_120 ⟨a, by omega⟩] at z
    exact ⟨e1, e2, e3, e4, z.1, z.2.1, z.2.2⟩
  · have e1 := kk (230 + q0) (VI_k230 a b)
    rw [kM_230 ⟨a, by omega⟩, kC_230 ⟨a, by omega⟩] at e1
    have z : 0 ≤ kvC m (230 + q0) ∧ kvC m (230 + q0) ≤ 9 := q q0 a b
    rw [kC_230 ⟨a, by omega⟩] at z
    exact ⟨e1, z⟩
  · have e1 := kk (300 + p0) (VI_k300 a b)
    rw [kM_300 ⟨a, by omega⟩, kC_300 ⟨a, by omega⟩] at e1
    have z : 0 ≤ kvC m (300 + p0) ∧ kvC m (300 + p0) ≤ 99 := p p0 a b
    rw [kC_300 ⟨a, by omega⟩] at z
    exact ⟨e1, z⟩
theorem SE_KE {m : Mem} (hb : (0 ≤ m 8 0 ∧ m 8 0 ≤ 10) ∧ (0 ≤ m 8 1 ∧ m 8 1 ≤ 14) ∧ (0 ≤ m 8 2 ∧ m 8 2 ≤ 5) ∧ (0 ≤ m 8 3 ∧ m 8 3 ≤ 5)) (h : KE (sC m) (sK m)) (ho : m 15 10 = m 258 50) (hn : m 15 11 = m 258 51) : SE (m 8 2) (m 8 3) (asC m 15) (asR m 258 0) := by
  obtain ⟨k3, k4, k5, k6, k7⟩ := h
  have k3 : m 249 3 = m 8 0 := k3
  have k4 : m 249 4 = m 8 1 := k4
  have k5 : m 249 5 = m 8 2 := k5
  have k6 : m 249 6 = m 8 3 := k6
  have kk : KVL (m 8 0) (m 8 1) (m 8 2) (m 8 3) (kvM m) (kvC m) := fun j hj => by
    rw [← kvR_M (by omega) (by rw [k3, k4, k5, k6]; exact hj)]; exact k7 j hj
  have e := SE_M (m := m) (P := m 8 2) (H := m 8 3) hb.2.2.1.2 hb.2.2.2.2
  rw [← ho, ← hn] at e
  exact SE_tr (SE_C hb.2.2.1.2 hb.2.2.2.2) (SE_tr (SE_K kk) (SE_sy e))
/-- who holds a pot, with new pots and people -/
theorem HD_kit {P P' H H' : Int} {x x' : AS} {h h' : Int → Int} (h0 : 0 ≤ H) (hd : HD P H x h) (hP : P ≤ P') (hH : H ≤ H') (hl : ∀ p, 0 ≤ p → p < H → x' 8 p = x 8 p ∧ x 8 p < P) (hn : ∀ p, H ≤ p → 0 ≤ p → p < H' → x' 8 p = -1) (hh : ∀ q, (q < P → h' q = h q) ∧ (P ≤ q → q < P' → h' q = -1)) : HD P' H' x' h' := fun q q0 q1 => by
  by_cases z : q < P
  · obtain ⟨a, b⟩ := hd q q0 z
    rw [(hh q).1 z]
    refine ⟨by omega, fun p p0 p1 => ?_⟩
    by_cases w : p < H
    · rw [(hl p p0 w).1]; exact b p p0 w
    · rw [hn p (by omega) p0 p1]; omega
  · rw [(hh q).2 (by omega) q1]
    refine ⟨by omega, fun p p0 p1 => ?_⟩
    by_cases w : p < H
    · obtain ⟨c, d⟩ := hl p p0 w
      rw [c]; omega
    · rw [hn p (by omega) p0 p1]; omega
theorem sC_lo {m1 m2 : Mem} (e : ∀ x j, x < 249 → m2 x j = m1 x j) : sC m2 = sC m1 := by
  have f : ∀ x, x < 249 → m2 x = m1 x := fun x hx => by funext j; exact e x j hx
  unfold sC
  rw [f 8 (by decide), kvC_e (m := m1) (m' := m2) (by rw [f 8 (by decide)]) (by rw [f 15 (by decide)]) (fun x q => f x (by omega))]
theorem sK_hi {m m1 : Mem} (e : ∀ x j, 249 ≤ x → m1 x j = m x j) : sK m1 = sK m := by
  have f : ∀ x, 249 ≤ x → m1 x = m x := fun x hx => by funext j; exact e x j hx
  unfold sK
  rw [f 249 (by decide), kvR_e (m := m) (m' := m1) (fun x q => f x (by omega)) (fun j _ _ => by rw [f 249 (by decide)])]
/-- what the kitchen's text leaves on both sides -/
theorem GS_kit {R : ENV → Int} {tc : Int} {m m1 m2 : Mem} (hb : (0 ≤ m 8 0 ∧ m 8 0 ≤ 10) ∧ (0 ≤ m 8 1 ∧ m 8 1 ≤ 14) ∧ (0 ≤ m 8 2 ∧ m 8 2 ≤ 5) ∧ (0 ≤ m 8 3 ∧ m 8 3 ≤ 5)) (hb2 : (0 ≤ m2 8 0 ∧ m2 8 0 ≤ 10) ∧ (0 ≤ m2 8 1 ∧ m2 8 1 ≤ 14) ∧ (0 ≤ m2 8 2 ∧ m2 8 2 ≤ 5) ∧ (0 ≤ m2 8 3 ∧ m2 8 3 ≤ 5)) (hT : ∀ j, 0 ≤ j → j < tc → m 260 j = m 3 j) (hX : RK m) (h : GS R m) (h1 : K16 tc m m1) (h2 : K170 tc m1 m2) (hlo : ∀ x j, x < 249 → m2 x j = m1 x j) (hhi : ∀ x j, 249 ≤ x → m1 x j = m x j) : (RK m2 ∧ GS R m2) ∧ ((0 < tc ∧ m2 1 12 = 0 ∧ m2 249 7 = w32 (m 249 7 + 1)) ∨ (m2 1 12 = m 1 12 ∧ m2 249 7 = m 249 7)) := by
  obtain ⟨hV, ⟨hI, hD, hS, hO, hN⟩, ⟨⟨u1, u2, u3, u4, u5⟩, u6⟩, hk, r1, r2⟩ := h
  have hKE := KE_GS hb hX hV hS
  have hKI := KIV_GS hb hV hI hN
  have hit := kit_e (T := m 3) (T' := m 260) (tc := tc) hT hKE
  obtain ⟨c1, cK, cF⟩ := h1
  obtain ⟨c2, c85, c86, cX⟩ := h2
  have e60 : m1 260 = m 260 := by funext j; exact hhi 260 j (by decide)
  rw [e60, sK_hi hhi] at c2
  have e7 : m1 249 7 = m 249 7 := hhi 249 7 (by decide)
  have e39 : m1 249 39 = m 249 39 := hhi 249 39 (by decide)
  rw [e7, e39] at c2
  have eS := sC_lo hlo
  have l8 : ∀ j, m2 8 j = m1 8 j := fun j => hlo 8 j (by decide)
  obtain ⟨⟨n1, n2, n3⟩, cV, cH, cO, cN⟩ := cK
  -- values alike behind it; what was undone and kept
  have key : KE (sC m2) (sK m2) ∧ KIV (m 8 3) (sC m2) (m 15 10) (m 15 11) ∧ m 8 0 ≤ m2 8 0 ∧ ((0 < tc ∧ m2 1 12 = 0 ∧ m2 249 7 = w32 (m 249 7 + 1) ∧ m2 26 9 = 0 ∧ m2 249 39 = 0) ∨ (m2 1 12 = m 1 12 ∧ m2 249 7 = m 249 7 ∧ m2 26 9 = m 26 9 ∧ m2 249 39 = m 249 39 ∧ m2 8 0 = m 8 0 ∧ m2 8 1 = m 8 1 ∧ m2 8 2 = m 8 2 ∧ m2 8 3 = m 8 3)) := by
    rw [eS]
    rcases c1 with ⟨t0, q1, q2, q3, q4⟩ | ⟨q1, ⟨q2, q3, q4, q5⟩, q6, q7⟩
    · rcases hit with ⟨z, -⟩ | ⟨r, r', z1, z2, z3⟩
      · rw [q1] at z; exact absurd z (by simp)
      · rw [q1] at z1
        have er := Option.some.inj z1
        subst er
        rcases c2 with ⟨-, ⟨s, s1, s2⟩, s3, s4⟩ | ⟨s1, -⟩
        · rw [z2] at s1
          have es := Option.some.inj s1
          subst es
          exact ⟨KE_tr z3 s2, kit_I hKI q1, by rw [l8]; exact q4, Or.inl ⟨t0, (hlo 1 12 (by decide)).trans q2, s3, (hlo 26 9 (by decide)).trans q3, s4⟩⟩
        · rcases s1 with s1 | s1
          · omega
          · rw [z2] at s1; exact absurd s1 (by simp)
    · have hE1 : KE (sC m) (sC m1) := ⟨q2, q3, q4, q5, cV⟩
      rcases c2 with ⟨t0, ⟨s, s1, s2⟩, -⟩ | ⟨-, s2, s3, s4⟩
      · rcases q1 with q1 | q1
        · omega
        · rcases hit with ⟨-, z⟩ | ⟨r, r', z1, z2, z3⟩
          · rw [s1] at z; exact absurd z (by simp)
          · rw [q1] at z1; exact absurd z1 (by simp)
      · exact ⟨KE_tr (KE_sy hE1) (KE_tr hKE s2), KIV_E hKI hE1, by rw [l8, q2]; exact Int.le_refl _, Or.inr ⟨(hlo 1 12 (by decide)).trans q6, s3, (hlo 26 9 (by decide)).trans q7, s4, by rw [l8]; exact q2, by rw [l8]; exact q3, by rw [l8]; exact q4, by rw [l8]; exact q5⟩⟩
  obtain ⟨kE, kI, kL, kU⟩ := key
  have m10 : m2 15 10 = m 15 10 := (hlo 15 10 (by decide)).trans cO
  have m11 : m2 15 11 = m 15 11 := (hlo 15 11 (by decide)).trans cN
  have hop : m 15 10 = m 258 50 := by have z := hS.2.2.1; rw [c_op, r_op] at z; exact z
  have hno : m 15 11 = m 258 51 := by have z := hS.2.2.2; rw [c_no, r_no] at z; exact z
  have x50 : m2 258 50 = m 258 50 := (cX 258 50 (by unfold KFx; omega) (by decide)).trans (hhi 258 50 (by decide))
  have x51 : m2 258 51 = m 258 51 := (cX 258 51 (by unfold KFx; omega) (by decide)).trans (hhi 258 51 (by decide))
  have hS2 := SE_KE hb2 kE (by rw [m10, x50]; exact hop) (by rw [m11, x51]; exact hno)
  have hI2 : IV (m2 8 0) (m2 8 2) (m2 8 3) (asC m2 15) := by
    have z := SE_C (m := m2) (P := m2 8 2) (H := m2 8 3) hb2.2.2.1.2 hb2.2.2.2.2
    rw [m10, m11] at z
    exact IV_SE kI.2.1 (SE_sy z)
  have hN2 : BN (m2 8 2) (m2 8 3) (asC m2 15) := by
    have z := SE_C (m := m2) (P := m2 8 2) (H := m2 8 3) hb2.2.2.1.2 hb2.2.2.2.2
    rw [m10, m11] at z
    exact BN_SE kI.2.2.2.2.2.2 (SE_sy z)
  have ld : ∀ p, 0 ≤ p → p < m 8 3 → asC m2 15 8 p = asC m 15 8 p := fun p p0 p1 => by
    have z := cV (360 + p) (VI_k360 p0 p1)
    rw [kC_360 ⟨p0, by omega⟩, kC_360 ⟨p0, by omega⟩] at z
    rw [c_8 m2 ⟨p0, by omega⟩, c_8 m ⟨p0, by omega⟩, hlo 23 p (by decide)]; exact z
  have hD2 : HD (m2 8 2) (m2 8 3) (asC m2 15) (m2 18) := HD_kit (by omega) hD (by rw [l8]; exact n2) (by rw [l8]; exact n3) (fun p p0 p1 => ⟨ld p p0 p1, (hI.1 p p0 p1).1.2⟩) (fun p ph p0 p1 => by
    have z := kI.2.2.2.2.2.1 p ph p0 p1
    have z : kvC m2 (360 + p) = -1 := z
    rw [kC_360 ⟨p0, by omega⟩] at z
    rw [c_8 m2 ⟨p0, by omega⟩]; exact z) (fun q => ⟨fun z => (hlo 18 q (by decide)).trans ((cH q).1 z), fun z w => (hlo 18 q (by decide)).trans ((cH q).2 z (by rw [← l8]; exact w))⟩)
  have hO2 : DB (m2 8 1) (m2 15 10) := fun w w0 w1 => by rw [m10]; exact hO w (by rw [l8] at w0; omega) w1
  have kR : RK m2 := ⟨kE.1, kE.2.1, kE.2.2.1, kE.2.2.2.1, fun j j0 j1 => by
    have z := kE.2.2.2.2 j (Or.inl ⟨j0, j1⟩)
    have z : kvR m2 j = kvC m2 j := z
    rw [kvR_M (by have a := kE.1; have b := kE.2.1; have c := kE.2.2.1; have d := kE.2.2.2.1; have a : m2 249 3 = m2 8 0 := a; have b : m2 249 4 = m2 8 1 := b; have c : m2 249 5 = m2 8 2 := c; have d : m2 249 6 = m2 8 3 := d; omega) (Or.inl ⟨j0, by have a : m2 249 3 = m2 8 0 := kE.1; omega⟩)] at z
    unfold kvM kvC at z
    rw [if_pos (by omega), if_pos (by omega), Int.sub_zero] at z
    exact z⟩
  have g65 : ∀ j, m2 265 j = m 265 j := fun j => (cX 265 j (by unfold KFx; omega) (by omega)).trans (hhi 265 j (by decide))
  have g32 : m2 249 32 = m 249 32 := (cX 249 32 (by unfold KFx; omega) (by omega)).trans (hhi 249 32 (by decide))
  have cl : ∀ x j, (x < 8 ∨ 24 < x) → x < 249 → x ≠ 2 → ¬ (x = 1 ∧ j = 12) → ¬ (x = 26 ∧ j = 9) → m2 x j = m x j := fun x j q q1 q2 q3 q4 => (hlo x j q1).trans (cF x q2 q j q3 q4)
  refine ⟨⟨kR, KVs_KE hb2 kE kI, ⟨hI2, hD2, hS2, hO2, hN2⟩, ⟨?_, fun i i0 i1 => ?_⟩, fun i i0 i1 z => ?_, RuC_fr r1 (cl 4 1 (by omega) (by decide) (by decide) (by decide) (by decide)) (fun j => cl 5 j (by omega) (by decide) (by decide) (by omega) (by omega)), RuR_fr r2 g32 g65⟩, ?_⟩
  · have z8 := cl 26 8 (by omega) (by decide) (by decide) (by decide) (by decide)
    rw [z8]
    rcases kU with ⟨-, -, -, a, b⟩ | ⟨-, -, a, b, -⟩
    · rw [a, b]; omega
    · rw [a, b]; omega
  · have z8 := cl 26 8 (by omega) (by decide) (by decide) (by decide) (by decide)
    rcases kU with ⟨-, -, -, a, b⟩ | ⟨-, -, a, b, d0, d1, d2, d3⟩
    · rw [a] at i1; omega
    · rw [a] at i1
      rw [d0, d1, d2, d3, z8]
      exact OKS_tr hb.2.2.1.2 hb.2.2.2.2 (u6 i i0 i1) (SE_st (fun x j x0 x1 => cl x j (by omega) (by omega) (by omega) (by omega) (by omega))) (fun j _ _ => cl _ j (by omega) (by omega) (by omega) (by omega) (by omega)) (SE_rw (fun y _ _ => (cX 269 _ (by unfold KFx; omega) (by omega)).trans (hhi 269 _ (by decide))))
  · rcases kU with ⟨-, a, -⟩ | ⟨a, -, -, -, d0, d1, d2, d3⟩
    · rw [a] at z; exact absurd ((kbit0 i).resolve_right (by omega)) z
    · rw [a] at z
      rw [d0, d1, d2, d3]
      exact OKS_tr hb.2.2.1.2 hb.2.2.2.2 (hk i i0 i1 z) (SE_st (fun x j x0 x1 => cl x j (by omega) (by omega) (by omega) (by omega) (by omega))) (fun j _ _ => cl _ j (by omega) (by omega) (by omega) (by omega) (by omega)) (SE_rw (fun y _ _ => (cX 287 _ (by unfold KFx; omega) (by omega)).trans (hhi 287 _ (by decide))))
  · rcases kU with ⟨t0, a, b, -⟩ | ⟨a, b, -⟩
    · exact Or.inl ⟨t0, a, b⟩
    · exact Or.inr ⟨a, b⟩
end
section
/-! kitchen on both sides -/
theorem two_16 {n : Nat} {m : Mem} (h : JJ (n + 1) m) : Cl 230 16 [1] (fun v u => ∃ m1, u = S9 0 m1 ∧ Cl 230 170 [249] (fun w u' => ∃ m2, u' = S9 0 m2 ∧ JJ n m2) (S9 0 m1)) (S9 0 m) := by
  obtain ⟨tc, pl, hC, hR, hX, hB, R, hG⟩ := h
  have hs := JC_s (BC_g 0 hC)
  have hr := JR_s (BR_g 0 hR)
  have hOB : OB m := fun w w0 w1 => hG.2.1.2.2.2.1 w w0 w1
  refine f_16 (d := 223) (g := gC 1 m) hX.1.2.1 hOB (BC_g 1 hC) (fun v m1 h1 k1 => ⟨m1, rfl, ?_⟩)
  have c1 : ∀ x j, frC 1 x j → m1 x j = m x j := fun x j q => h1.2.1 x j q
  have hhi : ∀ x j, 249 ≤ x → m1 x j = m x j := fun x j q => c1 x j (Or.inl q)
  have e260 : m1 260 = m 260 := by funext j; exact hhi 260 j (by decide)
  refine f_170 (d := 219) (g := gR 1 m1) (by rw [e260]; exact hX.1.2.2) (BR_g 1 (BR_tr hR (fun x j q _ => hhi x j q))) (fun w m2 pl2 h2 k2 => ⟨m2, rfl, ?_⟩)
  have r2 : ∀ x j, frR 1 x j → m2 x j = m1 x j := fun x j q => h2.1.2.2.1 x j q
  have hlo : ∀ x j, x < 249 → m2 x j = m1 x j := fun x j q => r2 x j (Or.inl q)
  have hC2 : BC 0 m2 := BC_tr (BC_of h1) hlo
  have hs2 := JC_s (BC_g 0 hC2)
  obtain ⟨⟨kR, kG⟩, kB⟩ := GS_kit (by omega) (by omega) hX.1.1 hX.2.1 hG k1 k2 hlo hhi
  refine ⟨0, pl2, hC2, BR_of h2, ⟨⟨fun j h0 h1 => absurd h0 (by omega), fun j => ?_, fun j => ?_⟩, kR, ?_⟩, ?_, R, kG⟩
  · rw [hlo 3 j (by decide), c1 3 j (by unfold frC; omega)]; exact hX.1.2.1 j
  · rw [r2 260 j (by unfold frR; omega), e260]; exact hX.1.2.2 j
  · show m2 249 62 = m2 211 4
    rw [r2 249 62 (by unfold frR; omega), hlo 211 4 (by decide), hhi 249 62 (by decide), c1 211 4 (by unfold frC; omega)]
    exact hX.2.2
  · have b85 : ∀ j, m2 285 j = m 285 j := fun j => by rw [k2.2.1]; exact hhi 285 j (by decide)
    have b86 : ∀ j, m2 286 j = m 286 j := fun j => by rw [k2.2.2.1]; exact hhi 286 j (by decide)
    rcases kB with ⟨-, a, b⟩ | ⟨a, b⟩
    · exact RB_kit a b b85 b86 hB
    · exact RB_fr (Nat.le_succ n) a b b85 b86 hB
end
