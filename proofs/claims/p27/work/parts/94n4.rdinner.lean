section
def DnR (m m' : Mem) : Prop := ∀ x j, ¬ (x = 249 ∧ (j = 0 ∨ (18 ≤ j ∧ j ≤ 21) ∨ j = 44)) → ¬ (270 ≤ x ∧ x ≤ 272) → m' x j = m x j
theorem D235_fin {tc pl e i s : Int} {g : Fg} {m m1 m3 m4 m5 : Mem} {X : Int × AS} {Q : Int → Sto → Prop} (hu : 0 ≤ m1 249 39 ∧ m1 249 39 ≤ 15) (h3 : FB (NTR m1) m3) (hF : DnR m m1) (h1 : X.1 = i) (h2 : X.2 = asR m3 258 0) (hq : ∀ v m', JR 3 g tc pl m' → v = X.1 → ACR m m' (if v = 0 then -1 else v) → asR m' 258 0 = X.2 → Q v (S9 e m')) (hs : s = if i = 0 then -1 else i) (h4 : s < 0 ∧ m4 = m5 ∨ 0 ≤ s ∧ ADR m5 m4) (hJ : JR 3 g tc pl m4) (hr : RwR m3 m5) : Q i (S9 e m4) := by
  subst hs
  refine ACR_end (m := m1) (v := i) (X := (i, asR m3 258 0)) hu h3 rfl (fun m9 j a b => hq i m9 j h1.symm ?_ (by rw [h2]; exact congrArg Prod.snd b)) h4 hJ hr
  have e39 : m1 249 39 = m 249 39 := hF 249 39 (by omega) (by omega)
  have e58 : ∀ y, m1 258 y = m 258 y := fun y => hF 258 y (by omega) (by omega)
  have e69 : ∀ y, m1 269 y = m 269 y := fun y => hF 269 y (by omega) (by omega)
  obtain ⟨b1, b2⟩ := a
  simp only [e39, e58, e69] at b2
  exact ⟨fun x j q => (b1 x j q).trans (hF x j (by omega) (by omega)), b2⟩
set_option maxHeartbeats 1500000 in
theorem f_235 {d : Nat} {tc pl e : Int} {g : Fg} {m : Mem} {Q : Int → Sto → Prop} {R : ENV → Int} {L : Int} (hJ : JR 3 g tc pl m) (hI : IV L (m 249 5) (m 249 6) (asR m 258 0)) (hK : KR2 m) (hR : RuR m R) (hW : WBR L m) (h0 : DF (m 260) tc < 0 → ∀ m', JR 3 g 0 pl m' → DnR m m' → Q (DF (m 260) tc) (S9 e m')) (hq : DF (m 260) tc = 0 → ∀ v m', JR 3 g 0 pl m' → v = (runs (doR m R) (DN (m 260) tc).2.2 (x0R m)).1 → ACR m m' (if v = 0 then -1 else v) → asR m' 258 0 = (runs (doR m R) (DN (m 260) tc).2.2 (x0R m)).2 → Q v (S9 e m')) : Cl (d + 10) 235 [249] Q (S9 e m) := by
  have hL := JR_l hJ
  have hs := JR_s hJ
  have eH : ((m 249 6).toNat : Int) = m 249 6 := by omega
  have eP : ((m 249 5).toNat : Int) = m 249 5 := by omega
  simp only [cl_235, runB, B235, ma_235, rho_2, wf_13_304, wf_13_399, wpf_13_126, wpf_13_130, wpopadd_pf_13_130, wpf_13_399, wpopadd_pf_13_399, wc_171, wc_178, wc_181, wc_187, wc_215, wc_218, wc_222, wc_225, wc_236, wc_237, cl_222, B222, ma_222, wpf_13_304, wpopadd_pf_13_304, wpf_13_307, wpopor_pf_13_307, wpf_13_310, wpopor_pf_13_310, cl_225, B225, ma_225, rho_21, wf_13_130, wf_13_9, w_cst, w_ldi, w_ldj, w_lda, w_ljk, w_ldk, w_ldw, w_ldk2, w_ldt, w_ldtw, w_neg, w_cvb, w_cvs, w_cvc, w_cvj, w_add, w_sub, w_mul, w_ban, w_bor, w_bxo, w_shl, w_shr, w_ush, w_dvi, w_rmi, w_aldi, w_aldj, w_aldz, w_aldc, w_alda, w_ite, w_cmp, w_cmj, w_cz, w_cnot, w_cand, w_cor, w_nil, w_cons, w_cvi, w_csta, w_cvt, w_cvv, w_csv, w_cpy, w_seq, w_sbr, w_sbn, w_brk, w_ifs, w_ifx, w_ife, w_wk, w_rets, w_rtv, w_thr, w_asi, w_asj, w_asa, w_inc, w_exs, w_asti, w_astj, w_astz, w_astc, w_aopadd, w_aopsub, w_sw, if_true, if_false, ↓reduceIte, hdl_c, S9_1, S9_m, bud9, live9, inb9, wrn, wr9_14, wr9_15, wr9_16, wr9_17, tq9_14, tq9_15, tq9_16, tq9_17, tq_0, tq_1, tq_3, upr_rl, rl_0, rl_1, rl_2, rl_3, rl_4, rl_5, rl_6, rl_7, rl_8, rl_9, rl_10, rl_11, rl_12, rl_13, sp_0, sp_1, sp_2, sp_3, sp_4, sp_5, sp_6, sp_7, sp_8, sp_9, sp_10, sp_11, sp_12, sp_13, se_0, se_1, se_2, se_3, se_4, se_5, se_6, se_7, se_8, se_9, se_10, se_11, se_12, se_13, sem_0, sem_1, sem_2, sem_3, sem_4, sem_5, kc_249, kl9_249, sr_249_10, sr_249_11, sr_249_12, sr_249_13, sr_249_14, sr_249_15, sr_249_16, sr_249_17, sr_249_2, sr_249_22, sr_249_23, sr_249_24, sr_249_25, sr_249_30, sr_249_31, sr_249_34, sr_249_35, sr_249_40, sr_249_41, sr_249_42, sr_249_43, sr_249_50, sr_249_51, sr_249_52, sr_249_54, sr_249_55, sr_249_57, sr_249_58, sr_249_61, sr_249_63, sr_249_64, sr_249_67, sr_249_68, sr_249_69, sr_249_70, sr_249_71, sr_249_8, sr_249_9, kc_250, kl9_250, kc_258, kl9_258, kc_260, kl9_260, kc_269, kl9_269, kc_270, kl9_270, List.getD_cons_zero, List.getD_cons_succ, Bool.false_eq_true, wrn3, wrn1, cpmS, cpok9, upm_app, Int.reduceEq, and_self, and_true, true_and, and_false, false_and, if_true, if_false, ↓reduceIte, Int.reduceToNat, upm_f, Int.reduceEq, Int.reduceNe, ne_eq, not_false_eq_true, not_true_eq_false]
  repeat' (first
    | (with_reducible exact True.intro)
    | (with_reducible exact False.elim)
    | (with_reducible rfl)
    | (with_reducible refine And.intro ?_ ?_)
    | intro _
    | ((with_reducible refine p_171x ?_ ?_ (fun t9 ht9 => ?_)); (next => simp only [upm_app, Int.reduceEq, and_self, and_true, true_and, and_false, false_and, if_true, if_false, ↓reduceIte, Int.reduceToNat, upm_f, Int.reduceEq, Int.reduceNe, ne_eq, not_false_eq_true, not_true_eq_false]; omega); (next => decide); (simp only [upm_app, Int.reduceEq, and_self, and_true, true_and, and_false, false_and, if_true, if_false, ↓reduceIte, Int.reduceToNat, upm_f, Int.reduceEq, Int.reduceNe, ne_eq, not_false_eq_true, not_true_eq_false, hs.1] at ht9); simp only [hdl_c, S9_1, S9_m, bud9, live9, inb9, wrn, wr9_14, wr9_15, wr9_16, wr9_17, tq9_14, tq9_15, tq9_16, tq9_17, tq_0, tq_1, tq_3, upr_rl, rl_0, rl_1, rl_2, rl_3, rl_4, rl_5, rl_6, rl_7, rl_8, rl_9, rl_10, rl_11, rl_12, rl_13, sp_0, sp_1, sp_2, sp_3, sp_4, sp_5, sp_6, sp_7, sp_8, sp_9, sp_10, sp_11, sp_12, sp_13, se_0, se_1, se_2, se_3, se_4, se_5, se_6, se_7, se_8, se_9, se_10, se_11, se_12, se_13, sem_0, sem_1, sem_2, sem_3, sem_4, sem_5, List.getD_cons_zero, List.getD_cons_succ, Bool.false_eq_true, wrn3, wrn1, cpmS, cpok9, if_true, if_false, ↓reduceIte, wc_171, wc_178, wc_181, wc_187, wc_215, wc_218, wc_222, wc_225, wc_236, wc_237, cl_222, runB, B222, ma_222, rho_2, wpf_13_304, wpopadd_pf_13_304, wpf_13_307, wpopor_pf_13_307, wpf_13_310, wpopor_pf_13_310, cl_225, B225, ma_225, rho_21, wf_13_130, wf_13_9, wpf_13_130, wpopadd_pf_13_130, w_cst, w_ldi, w_ldj, w_lda, w_ljk, w_ldk, w_ldw, w_ldk2, w_ldt, w_ldtw, w_neg, w_cvb, w_cvs, w_cvc, w_cvj, w_add, w_sub, w_mul, w_ban, w_bor, w_bxo, w_shl, w_shr, w_ush, w_dvi, w_rmi, w_aldi, w_aldj, w_aldz, w_aldc, w_alda, w_ite, w_cmp, w_cmj, w_cz, w_cnot, w_cand, w_cor, w_nil, w_cons, w_cvi, w_csta, w_cvt, w_cvv, w_csv, w_cpy, w_seq, w_sbr, w_sbn, w_brk, w_ifs, w_ifx, w_ife, w_wk, w_rets, w_rtv, w_thr, w_asi, w_asj, w_asa, w_inc, w_exs, w_asti, w_astj, w_astz, w_astc, w_aopadd, w_aopsub, w_sw, if_true, if_false, ↓reduceIte, kc_249, kl9_249, sr_249_10, sr_249_11, sr_249_12, sr_249_13, sr_249_14, sr_249_15, sr_249_16, sr_249_17, sr_249_2, sr_249_22, sr_249_23, sr_249_24, sr_249_25, sr_249_30, sr_249_31, sr_249_34, sr_249_35, sr_249_40, sr_249_41, sr_249_42, sr_249_43, sr_249_50, sr_249_51, sr_249_52, sr_249_54, sr_249_55, sr_249_57, sr_249_58, sr_249_61, sr_249_63, sr_249_64, sr_249_67, sr_249_68, sr_249_69, sr_249_70, sr_249_71, sr_249_8, sr_249_9, kc_250, kl9_250, kc_258, kl9_258, kc_260, kl9_260, kc_269, kl9_269, kc_270, kl9_270, upm_app, Int.reduceEq, and_self, and_true, true_and, and_false, false_and, if_true, if_false, ↓reduceIte, Int.reduceToNat, upm_f, Int.reduceEq, Int.reduceNe, ne_eq, not_false_eq_true, not_true_eq_false, hs.1])
    | ((with_reducible refine p_187y ?_ ?_ (fun v9 h9 => ?_)); (next => omega); (next => decide); have hV : v9 = DF (m 260) tc := (by rcases hc1 with ⟨l, q1, q2, q3, q4, q5⟩ | ⟨q1, q2⟩; (next => by_cases hz : (DN (m 260) tc).2.1 = min tc 60; (next => by_cases hy : tc ≤ 60; (next => rw [DF_0 q4 hz hy]; omega); (next => rw [DF_o q4 hz hy]; omega)); (next => rw [DF_n (fun q => hz q.2)]; omega)); (next => rw [DF_n (fun q => q2 q.1)]; omega)); have hV0 : v9 ≤ 0 := (by omega); clear h9; (try simp only [hdl_c, S9_1, S9_m, bud9, live9, inb9, wrn, wr9_14, wr9_15, wr9_16, wr9_17, tq9_14, tq9_15, tq9_16, tq9_17, tq_0, tq_1, tq_3, upr_rl, rl_0, rl_1, rl_2, rl_3, rl_4, rl_5, rl_6, rl_7, rl_8, rl_9, rl_10, rl_11, rl_12, rl_13, sp_0, sp_1, sp_2, sp_3, sp_4, sp_5, sp_6, sp_7, sp_8, sp_9, sp_10, sp_11, sp_12, sp_13, se_0, se_1, se_2, se_3, se_4, se_5, se_6, se_7, se_8, se_9, se_10, se_11, se_12, se_13, sem_0, sem_1, sem_2, sem_3, sem_4, sem_5, List.getD_cons_zero, List.getD_cons_succ, Bool.false_eq_true, wrn3, wrn1, cpmS, cpok9, if_true, if_false, ↓reduceIte, wc_171, wc_178, wc_181, wc_187, wc_215, wc_218, wc_222, wc_225, wc_236, wc_237, cl_222, runB, B222, ma_222, rho_2, wpf_13_304, wpopadd_pf_13_304, wpf_13_307, wpopor_pf_13_307, wpf_13_310, wpopor_pf_13_310, cl_225, B225, ma_225, rho_21, wf_13_130, wf_13_9, wpf_13_130, wpopadd_pf_13_130, w_cst, w_ldi, w_ldj, w_lda, w_ljk, w_ldk, w_ldw, w_ldk2, w_ldt, w_ldtw, w_neg, w_cvb, w_cvs, w_cvc, w_cvj, w_add, w_sub, w_mul, w_ban, w_bor, w_bxo, w_shl, w_shr, w_ush, w_dvi, w_rmi, w_aldi, w_aldj, w_aldz, w_aldc, w_alda, w_ite, w_cmp, w_cmj, w_cz, w_cnot, w_cand, w_cor, w_nil, w_cons, w_cvi, w_csta, w_cvt, w_cvv, w_csv, w_cpy, w_seq, w_sbr, w_sbn, w_brk, w_ifs, w_ifx, w_ife, w_wk, w_rets, w_rtv, w_thr, w_asi, w_asj, w_asa, w_inc, w_exs, w_asti, w_astj, w_astz, w_astc, w_aopadd, w_aopsub, w_sw, if_true, if_false, ↓reduceIte, kc_249, kl9_249, sr_249_10, sr_249_11, sr_249_12, sr_249_13, sr_249_14, sr_249_15, sr_249_16, sr_249_17, sr_249_2, sr_249_22, sr_249_23, sr_249_24, sr_249_25, sr_249_30, sr_249_31, sr_249_34, sr_249_35, sr_249_40, sr_249_41, sr_249_42, sr_249_43, sr_249_50, sr_249_51, sr_249_52, sr_249_54, sr_249_55, sr_249_57, sr_249_58, sr_249_61, sr_249_63, sr_249_64, sr_249_67, sr_249_68, sr_249_69, sr_249_70, sr_249_71, sr_249_8, sr_249_9, kc_250, kl9_250, kc_258, kl9_258, kc_260, kl9_260, kc_269, kl9_269, kc_270, kl9_270, upm_app, Int.reduceEq, and_self, and_true, true_and, and_false, false_and, if_true, if_false, ↓reduceIte, Int.reduceToNat, upm_f, Int.reduceEq, Int.reduceNe, ne_eq, not_false_eq_true, not_true_eq_false]))
    | ((with_reducible refine p_215x ?_ (fun w9 => ?_)); (next => rw [hF2 249 39 (by omega) (by omega)]; omega); (try simp only [hdl_c, S9_1, S9_m, bud9, live9, inb9, wrn, wr9_14, wr9_15, wr9_16, wr9_17, tq9_14, tq9_15, tq9_16, tq9_17, tq_0, tq_1, tq_3, upr_rl, rl_0, rl_1, rl_2, rl_3, rl_4, rl_5, rl_6, rl_7, rl_8, rl_9, rl_10, rl_11, rl_12, rl_13, sp_0, sp_1, sp_2, sp_3, sp_4, sp_5, sp_6, sp_7, sp_8, sp_9, sp_10, sp_11, sp_12, sp_13, se_0, se_1, se_2, se_3, se_4, se_5, se_6, se_7, se_8, se_9, se_10, se_11, se_12, se_13, sem_0, sem_1, sem_2, sem_3, sem_4, sem_5, List.getD_cons_zero, List.getD_cons_succ, Bool.false_eq_true, wrn3, wrn1, cpmS, cpok9, if_true, if_false, ↓reduceIte, wc_171, wc_178, wc_181, wc_187, wc_215, wc_218, wc_222, wc_225, wc_236, wc_237, cl_222, runB, B222, ma_222, rho_2, wpf_13_304, wpopadd_pf_13_304, wpf_13_307, wpopor_pf_13_307, wpf_13_310, wpopor_pf_13_310, cl_225, B225, ma_225, rho_21, wf_13_130, wf_13_9, wpf_13_130, wpopadd_pf_13_130, w_cst, w_ldi, w_ldj, w_lda, w_ljk, w_ldk, w_ldw, w_ldk2, w_ldt, w_ldtw, w_neg, w_cvb, w_cvs, w_cvc, w_cvj, w_add, w_sub, w_mul, w_ban, w_bor, w_bxo, w_shl, w_shr, w_ush, w_dvi, w_rmi, w_aldi, w_aldj, w_aldz, w_aldc, w_alda, w_ite, w_cmp, w_cmj, w_cz, w_cnot, w_cand, w_cor, w_nil, w_cons, w_cvi, w_csta, w_cvt, w_cvv, w_csv, w_cpy, w_seq, w_sbr, w_sbn, w_brk, w_ifs, w_ifx, w_ife, w_wk, w_rets, w_rtv, w_thr, w_asi, w_asj, w_asa, w_inc, w_exs, w_asti, w_astj, w_astz, w_astc, w_aopadd, w_aopsub, w_sw, if_true, if_false, ↓reduceIte, kc_249, kl9_249, sr_249_10, sr_249_11, sr_249_12, sr_249_13, sr_249_14, sr_249_15, sr_249_16, sr_249_17, sr_249_2, sr_249_22, sr_249_23, sr_249_24, sr_249_25, sr_249_30, sr_249_31, sr_249_34, sr_249_35, sr_249_40, sr_249_41, sr_249_42, sr_249_43, sr_249_50, sr_249_51, sr_249_52, sr_249_54, sr_249_55, sr_249_57, sr_249_58, sr_249_61, sr_249_63, sr_249_64, sr_249_67, sr_249_68, sr_249_69, sr_249_70, sr_249_71, sr_249_8, sr_249_9, kc_250, kl9_250, kc_258, kl9_258, kc_260, kl9_260, kc_269, kl9_269, kc_270, kl9_270, upm_app, Int.reduceEq, and_self, and_true, true_and, and_false, false_and, if_true, if_false, ↓reduceIte, Int.reduceToNat, upm_f, Int.reduceEq, Int.reduceNe, ne_eq, not_false_eq_true, not_true_eq_false]))
    | (with_reducible refine p_178 (fun v9 h9 => ?_); simp only [hdl_c, S9_1, S9_m, bud9, live9, inb9, wrn, wr9_14, wr9_15, wr9_16, wr9_17, tq9_14, tq9_15, tq9_16, tq9_17, tq_0, tq_1, tq_3, upr_rl, rl_0, rl_1, rl_2, rl_3, rl_4, rl_5, rl_6, rl_7, rl_8, rl_9, rl_10, rl_11, rl_12, rl_13, sp_0, sp_1, sp_2, sp_3, sp_4, sp_5, sp_6, sp_7, sp_8, sp_9, sp_10, sp_11, sp_12, sp_13, se_0, se_1, se_2, se_3, se_4, se_5, se_6, se_7, se_8, se_9, se_10, se_11, se_12, se_13, sem_0, sem_1, sem_2, sem_3, sem_4, sem_5, List.getD_cons_zero, List.getD_cons_succ, Bool.false_eq_true, wrn3, wrn1, cpmS, cpok9, if_true, if_false, ↓reduceIte, wc_171, wc_178, wc_181, wc_187, wc_215, wc_218, wc_222, wc_225, wc_236, wc_237, cl_222, runB, B222, ma_222, rho_2, wpf_13_304, wpopadd_pf_13_304, wpf_13_307, wpopor_pf_13_307, wpf_13_310, wpopor_pf_13_310, cl_225, B225, ma_225, rho_21, wf_13_130, wf_13_9, wpf_13_130, wpopadd_pf_13_130, w_cst, w_ldi, w_ldj, w_lda, w_ljk, w_ldk, w_ldw, w_ldk2, w_ldt, w_ldtw, w_neg, w_cvb, w_cvs, w_cvc, w_cvj, w_add, w_sub, w_mul, w_ban, w_bor, w_bxo, w_shl, w_shr, w_ush, w_dvi, w_rmi, w_aldi, w_aldj, w_aldz, w_aldc, w_alda, w_ite, w_cmp, w_cmj, w_cz, w_cnot, w_cand, w_cor, w_nil, w_cons, w_cvi, w_csta, w_cvt, w_cvv, w_csv, w_cpy, w_seq, w_sbr, w_sbn, w_brk, w_ifs, w_ifx, w_ife, w_wk, w_rets, w_rtv, w_thr, w_asi, w_asj, w_asa, w_inc, w_exs, w_asti, w_astj, w_astz, w_astc, w_aopadd, w_aopsub, w_sw, if_true, if_false, ↓reduceIte, kc_249, kl9_249, sr_249_10, sr_249_11, sr_249_12, sr_249_13, sr_249_14, sr_249_15, sr_249_16, sr_249_17, sr_249_2, sr_249_22, sr_249_23, sr_249_24, sr_249_25, sr_249_30, sr_249_31, sr_249_34, sr_249_35, sr_249_40, sr_249_41, sr_249_42, sr_249_43, sr_249_50, sr_249_51, sr_249_52, sr_249_54, sr_249_55, sr_249_57, sr_249_58, sr_249_61, sr_249_63, sr_249_64, sr_249_67, sr_249_68, sr_249_69, sr_249_70, sr_249_71, sr_249_8, sr_249_9, kc_250, kl9_250, kc_258, kl9_258, kc_260, kl9_260, kc_269, kl9_269, kc_270, kl9_270, upm_app, Int.reduceEq, and_self, and_true, true_and, and_false, false_and, if_true, if_false, ↓reduceIte, Int.reduceToNat, upm_f, Int.reduceEq, Int.reduceNe, ne_eq, not_false_eq_true, not_true_eq_false]; (try simp (disch := omega) only [w15_0, w15_1, w15_3, w15_4, w15_5, w15_6, w3_0, w3_1, w3_2, upm_app, Int.reduceEq, and_self, and_true, true_and, and_false, false_and, if_true, if_false, ↓reduceIte]))
    | (with_reducible refine p_181x ?_ ?_ (fun v9 x9 h9 => ?_); (next => first | ((try simp only [upm_app, Int.reduceEq, and_self, and_true, true_and, and_false, false_and, if_true, if_false, ↓reduceIte]); first | omega | (unfold w32; omega) | (unfold w32 at *; omega)) | (refine stx_c ?_; decide) | omega | (with_reducible rfl) | decide | (unfold w32; omega) | (simp (disch := omega) only [w32_eq]; omega) | (simp [upm] <;> (first | omega | (unfold w32; omega)))); (next => first | ((try simp only [upm_app, Int.reduceEq, and_self, and_true, true_and, and_false, false_and, if_true, if_false, ↓reduceIte]); first | omega | (unfold w32; omega) | (unfold w32 at *; omega)) | (refine stx_c ?_; decide) | omega | (with_reducible rfl) | decide | (unfold w32; omega) | (simp (disch := omega) only [w32_eq]; omega) | (simp [upm] <;> (first | omega | (unfold w32; omega)))); (try simp only [upm_app, Int.reduceEq, and_self, and_true, true_and, and_false, false_and, if_true, if_false, ↓reduceIte] at h9); simp only [hdl_c, S9_1, S9_m, bud9, live9, inb9, wrn, wr9_14, wr9_15, wr9_16, wr9_17, tq9_14, tq9_15, tq9_16, tq9_17, tq_0, tq_1, tq_3, upr_rl, rl_0, rl_1, rl_2, rl_3, rl_4, rl_5, rl_6, rl_7, rl_8, rl_9, rl_10, rl_11, rl_12, rl_13, sp_0, sp_1, sp_2, sp_3, sp_4, sp_5, sp_6, sp_7, sp_8, sp_9, sp_10, sp_11, sp_12, sp_13, se_0, se_1, se_2, se_3, se_4, se_5, se_6, se_7, se_8, se_9, se_10, se_11, se_12, se_13, sem_0, sem_1, sem_2, sem_3, sem_4, sem_5, List.getD_cons_zero, List.getD_cons_succ, Bool.false_eq_true, wrn3, wrn1, cpmS, cpok9, if_true, if_false, ↓reduceIte, wc_171, wc_178, wc_181, wc_187, wc_215, wc_218, wc_222, wc_225, wc_236, wc_237, cl_222, runB, B222, ma_222, rho_2, wpf_13_304, wpopadd_pf_13_304, wpf_13_307, wpopor_pf_13_307, wpf_13_310, wpopor_pf_13_310, cl_225, B225, ma_225, rho_21, wf_13_130, wf_13_9, wpf_13_130, wpopadd_pf_13_130, w_cst, w_ldi, w_ldj, w_lda, w_ljk, w_ldk, w_ldw, w_ldk2, w_ldt, w_ldtw, w_neg, w_cvb, w_cvs, w_cvc, w_cvj, w_add, w_sub, w_mul, w_ban, w_bor, w_bxo, w_shl, w_shr, w_ush, w_dvi, w_rmi, w_aldi, w_aldj, w_aldz, w_aldc, w_alda, w_ite, w_cmp, w_cmj, w_cz, w_cnot, w_cand, w_cor, w_nil, w_cons, w_cvi, w_csta, w_cvt, w_cvv, w_csv, w_cpy, w_seq, w_sbr, w_sbn, w_brk, w_ifs, w_ifx, w_ife, w_wk, w_rets, w_rtv, w_thr, w_asi, w_asj, w_asa, w_inc, w_exs, w_asti, w_astj, w_astz, w_astc, w_aopadd, w_aopsub, w_sw, if_true, if_false, ↓reduceIte, kc_249, kl9_249, sr_249_10, sr_249_11, sr_249_12, sr_249_13, sr_249_14, sr_249_15, sr_249_16, sr_249_17, sr_249_2, sr_249_22, sr_249_23, sr_249_24, sr_249_25, sr_249_30, sr_249_31, sr_249_34, sr_249_35, sr_249_40, sr_249_41, sr_249_42, sr_249_43, sr_249_50, sr_249_51, sr_249_52, sr_249_54, sr_249_55, sr_249_57, sr_249_58, sr_249_61, sr_249_63, sr_249_64, sr_249_67, sr_249_68, sr_249_69, sr_249_70, sr_249_71, sr_249_8, sr_249_9, kc_250, kl9_250, kc_258, kl9_258, kc_260, kl9_260, kc_269, kl9_269, kc_270, kl9_270, upm_app, Int.reduceEq, and_self, and_true, true_and, and_false, false_and, if_true, if_false, ↓reduceIte, Int.reduceToNat, upm_f, Int.reduceEq, Int.reduceNe, ne_eq, not_false_eq_true, not_true_eq_false]; (try simp (disch := omega) only [w15_0, w15_1, w15_3, w15_4, w15_5, w15_6, w3_0, w3_1, w3_2, upm_app, Int.reduceEq, and_self, and_true, true_and, and_false, false_and, if_true, if_false, ↓reduceIte]))
    | ((with_reducible refine l235 (g := g) (tc := 0) (pl := pl) ⟨?_, ?_, ?_, ?_⟩ ?_ (fun c1 m1 hJ1 hF1 hi1 hA1 hr1 hc1 => ?_)); (next => simp only [upm_app, Int.reduceEq, and_self, and_true, true_and, and_false, false_and, if_true, if_false, ↓reduceIte, Int.reduceToNat, upm_f, Int.reduceEq, Int.reduceNe, ne_eq, not_false_eq_true, not_true_eq_false]); (next => simp only [upm_app, Int.reduceEq, and_self, and_true, true_and, and_false, false_and, if_true, if_false, ↓reduceIte, Int.reduceToNat, upm_f, Int.reduceEq, Int.reduceNe, ne_eq, not_false_eq_true, not_true_eq_false]); (next => simp only [upm_app, Int.reduceEq, and_self, and_true, true_and, and_false, false_and, if_true, if_false, ↓reduceIte, Int.reduceToNat, upm_f, Int.reduceEq, Int.reduceNe, ne_eq, not_false_eq_true, not_true_eq_false]; omega); (next => simp only [upm_app, Int.reduceEq, and_self, and_true, true_and, and_false, false_and, if_true, if_false, ↓reduceIte, Int.reduceToNat, upm_f, Int.reduceEq, Int.reduceNe, ne_eq, not_false_eq_true, not_true_eq_false]; omega); (next => repeat (first | assumption | (refine JR_len0 (tc := tc) ?_) | (refine JR_up ?_ (by first | decide | (unfold frR; omega)) (by first | decide | simp [frc]) (by first | (simp [BdR]; done) | (simp [BdR] <;> first | omega | (unfold w32; omega)))))); have hFM : DnR m (upm (upm (upm (upm (upm (upm m 249 0 0) 249 18 0) 249 19 0) 249 21 0) 249 20 t9) 249 44 0) := (fun x j z1 z2 => (by (repeat rw [upm_app, if_neg (by omega)]))); have hz0 : m1 249 0 = 0 := (by rw [hF1 249 0 (by omega) (by omega)]; simp only [upm_app, Int.reduceEq, and_self, and_true, true_and, and_false, false_and, if_true, if_false, ↓reduceIte, Int.reduceToNat, upm_f, Int.reduceEq, Int.reduceNe, ne_eq, not_false_eq_true, not_true_eq_false]); have hF2 : DnR m m1 := (fun x j z1 z2 => (hF1 x j (by omega) (by omega)).trans (hFM x j z1 z2)); have e20 : m1 249 20 = min tc 60 := (by rw [hF1 249 20 (by omega) (by omega)]; simp only [upm_app, Int.reduceEq, and_self, and_true, true_and, and_false, false_and, if_true, if_false, ↓reduceIte, Int.reduceToNat, upm_f, Int.reduceEq, Int.reduceNe, ne_eq, not_false_eq_true, not_true_eq_false]; exact ht9); (simp only [upm_app, Int.reduceEq, and_self, and_true, true_and, and_false, false_and, if_true, if_false, ↓reduceIte, Int.reduceToNat, upm_f, Int.reduceEq, Int.reduceNe, ne_eq, not_false_eq_true, not_true_eq_false, ht9] at hr1 hc1); have htc : tc ≠ 0 := (by omega); (rw [← DN_1 htc] at hr1 hc1); (try simp only [hdl_c, S9_1, S9_m, bud9, live9, inb9, wrn, wr9_14, wr9_15, wr9_16, wr9_17, tq9_14, tq9_15, tq9_16, tq9_17, tq_0, tq_1, tq_3, upr_rl, rl_0, rl_1, rl_2, rl_3, rl_4, rl_5, rl_6, rl_7, rl_8, rl_9, rl_10, rl_11, rl_12, rl_13, sp_0, sp_1, sp_2, sp_3, sp_4, sp_5, sp_6, sp_7, sp_8, sp_9, sp_10, sp_11, sp_12, sp_13, se_0, se_1, se_2, se_3, se_4, se_5, se_6, se_7, se_8, se_9, se_10, se_11, se_12, se_13, sem_0, sem_1, sem_2, sem_3, sem_4, sem_5, List.getD_cons_zero, List.getD_cons_succ, Bool.false_eq_true, wrn3, wrn1, cpmS, cpok9, if_true, if_false, ↓reduceIte, wc_171, wc_178, wc_181, wc_187, wc_215, wc_218, wc_222, wc_225, wc_236, wc_237, cl_222, runB, B222, ma_222, rho_2, wpf_13_304, wpopadd_pf_13_304, wpf_13_307, wpopor_pf_13_307, wpf_13_310, wpopor_pf_13_310, cl_225, B225, ma_225, rho_21, wf_13_130, wf_13_9, wpf_13_130, wpopadd_pf_13_130, w_cst, w_ldi, w_ldj, w_lda, w_ljk, w_ldk, w_ldw, w_ldk2, w_ldt, w_ldtw, w_neg, w_cvb, w_cvs, w_cvc, w_cvj, w_add, w_sub, w_mul, w_ban, w_bor, w_bxo, w_shl, w_shr, w_ush, w_dvi, w_rmi, w_aldi, w_aldj, w_aldz, w_aldc, w_alda, w_ite, w_cmp, w_cmj, w_cz, w_cnot, w_cand, w_cor, w_nil, w_cons, w_cvi, w_csta, w_cvt, w_cvv, w_csv, w_cpy, w_seq, w_sbr, w_sbn, w_brk, w_ifs, w_ifx, w_ife, w_wk, w_rets, w_rtv, w_thr, w_asi, w_asj, w_asa, w_inc, w_exs, w_asti, w_astj, w_astz, w_astc, w_aopadd, w_aopsub, w_sw, if_true, if_false, ↓reduceIte, kc_249, kl9_249, sr_249_10, sr_249_11, sr_249_12, sr_249_13, sr_249_14, sr_249_15, sr_249_16, sr_249_17, sr_249_2, sr_249_22, sr_249_23, sr_249_24, sr_249_25, sr_249_30, sr_249_31, sr_249_34, sr_249_35, sr_249_40, sr_249_41, sr_249_42, sr_249_43, sr_249_50, sr_249_51, sr_249_52, sr_249_54, sr_249_55, sr_249_57, sr_249_58, sr_249_61, sr_249_63, sr_249_64, sr_249_67, sr_249_68, sr_249_69, sr_249_70, sr_249_71, sr_249_8, sr_249_9, kc_250, kl9_250, kc_258, kl9_258, kc_260, kl9_260, kc_269, kl9_269, kc_270, kl9_270, upm_app, Int.reduceEq, and_self, and_true, true_and, and_false, false_and, if_true, if_false, ↓reduceIte, Int.reduceToNat, upm_f, Int.reduceEq, Int.reduceNe, ne_eq, not_false_eq_true, not_true_eq_false]))
    | ((with_reducible refine whl_i (fun k r u => r = rl [249, 0, 1, 0] ∧ u = S9 e (upm (upm (upm (upm (upm (upm m 249 0 0) 249 18 0) 249 19 0) 249 21 0) 249 20 t9) 249 44 0)) 0 ?_ ?_); (next => exact ⟨by rw [show tc = 0 by omega], rfl⟩); rintro k r u ⟨rfl, rfl⟩; have htc : tc = 0 := (by omega); have hJM : JR 3 g 0 pl (upm (upm (upm (upm (upm (upm m 249 0 0) 249 18 0) 249 19 0) 249 21 0) 249 20 t9) 249 44 0) := (by repeat (first | assumption | (refine JR_len0 (tc := tc) ?_) | (refine JR_up ?_ (by first | decide | (unfold frR; omega)) (by first | decide | simp [frc]) (by first | (simp [BdR]; done) | (simp [BdR] <;> first | omega | (unfold w32; omega)))))); have hFM : DnR m (upm (upm (upm (upm (upm (upm m 249 0 0) 249 18 0) 249 19 0) 249 21 0) 249 20 t9) 249 44 0) := (fun x j z1 z2 => (by (repeat rw [upm_app, if_neg (by omega)]))); have hz0 : (upm (upm (upm (upm (upm (upm m 249 0 0) 249 18 0) 249 19 0) 249 21 0) 249 20 t9) 249 44 0) 249 0 = 0 := (by simp only [upm_app, Int.reduceEq, and_self, and_true, true_and, and_false, false_and, if_true, if_false, ↓reduceIte, Int.reduceToNat, upm_f, Int.reduceEq, Int.reduceNe, ne_eq, not_false_eq_true, not_true_eq_false]); have e20 : (upm (upm (upm (upm (upm (upm m 249 0 0) 249 18 0) 249 19 0) 249 21 0) 249 20 t9) 249 44 0) 249 20 = min tc 60 := (by simp only [upm_app, Int.reduceEq, and_self, and_true, true_and, and_false, false_and, if_true, if_false, ↓reduceIte, Int.reduceToNat, upm_f, Int.reduceEq, Int.reduceNe, ne_eq, not_false_eq_true, not_true_eq_false]; exact ht9); have e19 : (upm (upm (upm (upm (upm (upm m 249 0 0) 249 18 0) 249 19 0) 249 21 0) 249 20 t9) 249 44 0) 249 19 = 0 := (by simp only [upm_app, Int.reduceEq, and_self, and_true, true_and, and_false, false_and, if_true, if_false, ↓reduceIte, Int.reduceToNat, upm_f, Int.reduceEq, Int.reduceNe, ne_eq, not_false_eq_true, not_true_eq_false]); have e44 : (upm (upm (upm (upm (upm (upm m 249 0 0) 249 18 0) 249 19 0) 249 21 0) 249 20 t9) 249 44 0) 249 44 = 0 := (by simp only [upm_app, Int.reduceEq, and_self, and_true, true_and, and_false, false_and, if_true, if_false, ↓reduceIte, Int.reduceToNat, upm_f, Int.reduceEq, Int.reduceNe, ne_eq, not_false_eq_true, not_true_eq_false]); generalize hm1 : (upm (upm (upm (upm (upm (upm m 249 0 0) 249 18 0) 249 19 0) 249 21 0) 249 20 t9) 249 44 0) = m1 at *; have hJ1 := hJM; have hF2 := hFM; obtain ⟨c1, hc0⟩ : ∃ c1 : Int, c1 = 1 := ⟨_, rfl⟩; have hA1 : 0 ≤ m1 249 19 ∧ m1 249 19 ≤ 60 := (by omega); have hi1 : 0 ≤ m1 249 44 ∧ m1 249 44 ≤ 31 := (by omega); have hr1 : (DN (m 260) tc).2.1 = m1 249 19 := (by rw [DN_0 htc, e19]); have hc1 : (∃ l : List ACT, m1 249 44 = l.length ∧ ALR m1 0 l ∧ c1 = 1 ∧ (DN (m 260) tc).1 = 1 ∧ (DN (m 260) tc).2.2 = l) ∨ c1 = 0 ∧ (DN (m 260) tc).1 ≠ 1 := (Or.inl ⟨[], e44, trivial, hc0, by rw [DN_0 htc], by rw [DN_0 htc]⟩); clear hm1; simp only [cl_235, runB, B235, ma_235, rho_2, wf_13_304, wf_13_399, wpf_13_126, wpf_13_130, wpopadd_pf_13_130, wpf_13_399, wpopadd_pf_13_399, wc_171, wc_178, wc_181, wc_187, wc_215, wc_218, wc_222, wc_225, wc_236, wc_237, cl_222, B222, ma_222, wpf_13_304, wpopadd_pf_13_304, wpf_13_307, wpopor_pf_13_307, wpf_13_310, wpopor_pf_13_310, cl_225, B225, ma_225, rho_21, wf_13_130, wf_13_9, w_cst, w_ldi, w_ldj, w_lda, w_ljk, w_ldk, w_ldw, w_ldk2, w_ldt, w_ldtw, w_neg, w_cvb, w_cvs, w_cvc, w_cvj, w_add, w_sub, w_mul, w_ban, w_bor, w_bxo, w_shl, w_shr, w_ush, w_dvi, w_rmi, w_aldi, w_aldj, w_aldz, w_aldc, w_alda, w_ite, w_cmp, w_cmj, w_cz, w_cnot, w_cand, w_cor, w_nil, w_cons, w_cvi, w_csta, w_cvt, w_cvv, w_csv, w_cpy, w_seq, w_sbr, w_sbn, w_brk, w_ifs, w_ifx, w_ife, w_wk, w_rets, w_rtv, w_thr, w_asi, w_asj, w_asa, w_inc, w_exs, w_asti, w_astj, w_astz, w_astc, w_aopadd, w_aopsub, w_sw, if_true, if_false, ↓reduceIte, hdl_c, S9_1, S9_m, bud9, live9, inb9, wrn, wr9_14, wr9_15, wr9_16, wr9_17, tq9_14, tq9_15, tq9_16, tq9_17, tq_0, tq_1, tq_3, upr_rl, rl_0, rl_1, rl_2, rl_3, rl_4, rl_5, rl_6, rl_7, rl_8, rl_9, rl_10, rl_11, rl_12, rl_13, sp_0, sp_1, sp_2, sp_3, sp_4, sp_5, sp_6, sp_7, sp_8, sp_9, sp_10, sp_11, sp_12, sp_13, se_0, se_1, se_2, se_3, se_4, se_5, se_6, se_7, se_8, se_9, se_10, se_11, se_12, se_13, sem_0, sem_1, sem_2, sem_3, sem_4, sem_5, kc_249, kl9_249, sr_249_10, sr_249_11, sr_249_12, sr_249_13, sr_249_14, sr_249_15, sr_249_16, sr_249_17, sr_249_2, sr_249_22, sr_249_23, sr_249_24, sr_249_25, sr_249_30, sr_249_31, sr_249_34, sr_249_35, sr_249_40, sr_249_41, sr_249_42, sr_249_43, sr_249_50, sr_249_51, sr_249_52, sr_249_54, sr_249_55, sr_249_57, sr_249_58, sr_249_61, sr_249_63, sr_249_64, sr_249_67, sr_249_68, sr_249_69, sr_249_70, sr_249_71, sr_249_8, sr_249_9, kc_250, kl9_250, kc_258, kl9_258, kc_260, kl9_260, kc_269, kl9_269, kc_270, kl9_270, List.getD_cons_zero, List.getD_cons_succ, Bool.false_eq_true, wrn3, wrn1, cpmS, cpok9, upm_app, Int.reduceEq, and_self, and_true, true_and, and_false, false_and, if_true, if_false, ↓reduceIte, Int.reduceToNat, upm_f, Int.reduceEq, Int.reduceNe, ne_eq, not_false_eq_true, not_true_eq_false])
    | (subst hV; exact h0 (by omega) _ hJ1 hF2)
    | omega
    | (with_reducible contradiction)
    | (exfalso; omega)
    | (unfold w32; omega)
    | (simp (disch := omega) only [w32_eq]; omega)
    | (with_reducible show (_ : Int) ≤ _; simp [upm] <;> (first | omega | (unfold w32; omega)))
    | (with_reducible show (_ : Int) < _; simp [upm] <;> (first | omega | (unfold w32; omega))))
  all_goals (
    (rcases hc1 with ⟨l, w1, w2, w3, w4, w5⟩ | ⟨w1, w2⟩; rotate_left 1; (next => exfalso; rw [DF_n (fun q => w2 q.1)] at hV; omega); have hw0 : DF (m 260) tc = 0 := (by omega); have eK : ∀ x, 251 ≤ x → x ≤ 257 → NT0 m1 x = m x := (fun x z0 z1 => (by funext j; rw [NT0_f m1 (by omega) (by omega)]; exact hF2 x j (by omega) (by omega))); have eN : ∀ j, 1 ≤ j → j ≤ 17 → NT0 m1 249 j = m 249 j := (fun j z0 z1 => (by rw [NT0_f m1 (by decide) (by omega)]; exact hF2 249 j (by omega) (by omega))); have n32 : NT0 m1 249 32 = m 249 32 := (by rw [NT0_f m1 (by decide) (by omega)]; exact hF2 249 32 (by omega) (by omega)); have n65 : ∀ j, NT0 m1 265 j = m 265 j := (fun j => by rw [NT0_f m1 (by decide) (by omega)]; exact hF2 265 j (by omega) (by omega)); have hx1 : x0R m1 = x0R m := (by unfold x0R; rw [show asR m1 258 0 = asR m 258 0 from asR_fr (fun y _ _ => hF2 258 _ (by omega) (by omega)) (fun y _ _ => hF2 249 y (by omega) (by omega))]); have hJ2 := NT0_J hJ1; have hup : upm m1 249 0 0 = m1 := (by funext x j; rw [upm_app]; split; (next h => rw [h.1, h.2, hz0]); (next => rfl)); have hN0 : upm (upm (upm (cpf m1 258 0 269 (52 * m1 249 39) 52) 249 36 0) 249 37 0) 249 38 0 = NT0 m1 := (by show _ = upm (upm (upm (cpf (upm m1 249 0 0) 258 0 269 (52 * m1 249 39) 52) 249 36 0) 249 37 0) 249 38 0; rw [hup]); have hu1 : 0 ≤ m1 249 39 ∧ m1 249 39 ≤ 15 := (by rw [hF2 249 39 (by omega) (by omega)]; omega); have hc44 : NT0 m1 249 44 = m1 249 44 := NT0_f m1 (by decide) (by omega); have hAN : ∀ x j, 270 ≤ x → x ≤ 272 → NT0 m1 x j = m1 x j := (fun x j _ _ => NT0_f m1 (by omega) (by omega)); have hxA : asR (NT0 m1) 258 0 = x0R m := (by rw [NT0_A, hx1]); have w5b := w5.symm; subst w5b; obtain ⟨zn, hzn⟩ : ∃ z : Int, z = tc := ⟨_, rfl⟩; obtain ⟨zc, hzc⟩ : ∃ z : Int, z = c1 := ⟨_, rfl⟩; obtain ⟨zm, hzm⟩ : ∃ z : Int, z = 0 := ⟨_, rfl⟩; obtain ⟨zf, hzf⟩ : ∃ z : Int, z = v9 := ⟨_, rfl⟩; (with_reducible refine whl_i (fun k r u => ∃ (i : Int) (m9 : Mem) (p t : List ACT), r = rl [249, zn, zc, zm, zf, i] ∧ u = S9 e m9 ∧ JR 3 g 0 pl m9 ∧ FB (NT0 m1) m9 ∧ IV L (m 249 5) (m 249 6) (asR m9 258 0) ∧ (i + k = m1 249 44 + 1) ∧ i = p.length ∧ (DN (m 260) tc).2.2 = p ++ t ∧ (runs (doR m R) (DN (m 260) tc).2.2 (x0R m)).1 = i + (runs (doR m R) t (asR m9 258 0)).1 ∧ (runs (doR m R) (DN (m 260) tc).2.2 (x0R m)).2 = (runs (doR m R) t (asR m9 258 0)).2 ∧ (0 ≤ asR m9 258 0 11 0 ∧ asR m9 258 0 11 0 ≤ 500 * i)) ((m1 249 44).toNat + 1) ?_ ?_); (next => exact ⟨0, NT0 m1, [], (DN (m 260) tc).2.2, (by rw [hzn, hzc, hzm, hzf]; first | done | rfl | (rw [htc, hc0])), (by rw [hN0]), hJ2, fun _ _ _ => rfl, (by rw [hxA]; exact IV_SE hI (SE_sy (x0R_SE m))), (by omega), rfl, rfl, (by rw [hxA]; omega), (by rw [hxA]), (by rw [hxA, x0R_110]; omega)⟩); clear hzn hzc hzm hzf; rintro k r u ⟨i, m9, p, t, rfl, rfl, hJ9, hF9, hI9, hk9, hi9, hl9, hr9, hs9, hc9⟩; have ew : w32 (i + 1) = i + 1 := (by unfold w32; omega); have hlen : m1 249 44 = i + t.length := (by rw [w1, hl9, List.length_append]; omega); have t0 : (0 : Int) ≤ t.length := (by omega); have i0 : 0 ≤ i := (by omega); have b44 : m9 249 44 = m1 249 44 := (by rw [hF9 249 44 (by omega), hc44]))
    rcases t with _ | ⟨ac, t⟩
    next =>
      have he : m1 249 44 = i := (by rw [hlen]; exact Int.add_zero i)
      have hR1 : (runs (doR m R) (DN (m 260) tc).2.2 (x0R m)).1 = i ∧ (runs (doR m R) (DN (m 260) tc).2.2 (x0R m)).2 = asR m9 258 0 := ⟨by rw [hr9]; show i + 0 = i; omega, by rw [hs9]; rfl⟩
      simp only [cl_235, runB, B235, ma_235, rho_2, wf_13_304, wf_13_399, wpf_13_126, wpf_13_130, wpopadd_pf_13_130, wpf_13_399, wpopadd_pf_13_399, wc_171, wc_178, wc_181, wc_187, wc_215, wc_218, wc_222, wc_225, wc_236, wc_237, cl_222, B222, ma_222, wpf_13_304, wpopadd_pf_13_304, wpf_13_307, wpopor_pf_13_307, wpf_13_310, wpopor_pf_13_310, cl_225, B225, ma_225, rho_21, wf_13_130, wf_13_9, w_cst, w_ldi, w_ldj, w_lda, w_ljk, w_ldk, w_ldw, w_ldk2, w_ldt, w_ldtw, w_neg, w_cvb, w_cvs, w_cvc, w_cvj, w_add, w_sub, w_mul, w_ban, w_bor, w_bxo, w_shl, w_shr, w_ush, w_dvi, w_rmi, w_aldi, w_aldj, w_aldz, w_aldc, w_alda, w_ite, w_cmp, w_cmj, w_cz, w_cnot, w_cand, w_cor, w_nil, w_cons, w_cvi, w_csta, w_cvt, w_cvv, w_csv, w_cpy, w_seq, w_sbr, w_sbn, w_brk, w_ifs, w_ifx, w_ife, w_wk, w_rets, w_rtv, w_thr, w_asi, w_asj, w_asa, w_inc, w_exs, w_asti, w_astj, w_astz, w_astc, w_aopadd, w_aopsub, w_sw, if_true, if_false, ↓reduceIte, hdl_c, S9_1, S9_m, bud9, live9, inb9, wrn, wr9_14, wr9_15, wr9_16, wr9_17, tq9_14, tq9_15, tq9_16, tq9_17, tq_0, tq_1, tq_3, upr_rl, rl_0, rl_1, rl_2, rl_3, rl_4, rl_5, rl_6, rl_7, rl_8, rl_9, rl_10, rl_11, rl_12, rl_13, sp_0, sp_1, sp_2, sp_3, sp_4, sp_5, sp_6, sp_7, sp_8, sp_9, sp_10, sp_11, sp_12, sp_13, se_0, se_1, se_2, se_3, se_4, se_5, se_6, se_7, se_8, se_9, se_10, se_11, se_12, se_13, sem_0, sem_1, sem_2, sem_3, sem_4, sem_5, kc_249, kl9_249, sr_249_10, sr_249_11, sr_249_12, sr_249_13, sr_249_14, sr_249_15, sr_249_16, sr_249_17, sr_249_2, sr_249_22, sr_249_23, sr_249_24, sr_249_25, sr_249_30, sr_249_31, sr_249_34, sr_249_35, sr_249_40, sr_249_41, sr_249_42, sr_249_43, sr_249_50, sr_249_51, sr_249_52, sr_249_54, sr_249_55, sr_249_57, sr_249_58, sr_249_61, sr_249_63, sr_249_64, sr_249_67, sr_249_68, sr_249_69, sr_249_70, sr_249_71, sr_249_8, sr_249_9, kc_250, kl9_250, kc_258, kl9_258, kc_260, kl9_260, kc_269, kl9_269, kc_270, kl9_270, List.getD_cons_zero, List.getD_cons_succ, Bool.false_eq_true, wrn3, wrn1, cpmS, cpok9, upm_app, Int.reduceEq, and_self, and_true, true_and, and_false, false_and, if_true, if_false, ↓reduceIte, Int.reduceToNat, upm_f, Int.reduceEq, Int.reduceNe, ne_eq, not_false_eq_true, not_true_eq_false, ew, b44]
      repeat' (first
        | (with_reducible exact True.intro)
        | (with_reducible exact False.elim)
        | (with_reducible rfl)
        | (with_reducible refine And.intro ?_ ?_)
        | intro _
        | ((with_reducible refine f_218 (g := g) (tc := 0) (pl := pl) ?_ (fun m4 hJ4 h4 => ?_)); (next => repeat (first | assumption | (refine JR_up ?_ (by first | decide | (unfold frR; omega)) (by first | decide | simp [frc]) (by first | (simp [BdR]; done) | (simp [BdR] <;> first | omega | (unfold w32; omega)))))); (try simp only [hdl_c, S9_1, S9_m, bud9, live9, inb9, wrn, wr9_14, wr9_15, wr9_16, wr9_17, tq9_14, tq9_15, tq9_16, tq9_17, tq_0, tq_1, tq_3, upr_rl, rl_0, rl_1, rl_2, rl_3, rl_4, rl_5, rl_6, rl_7, rl_8, rl_9, rl_10, rl_11, rl_12, rl_13, sp_0, sp_1, sp_2, sp_3, sp_4, sp_5, sp_6, sp_7, sp_8, sp_9, sp_10, sp_11, sp_12, sp_13, se_0, se_1, se_2, se_3, se_4, se_5, se_6, se_7, se_8, se_9, se_10, se_11, se_12, se_13, sem_0, sem_1, sem_2, sem_3, sem_4, sem_5, List.getD_cons_zero, List.getD_cons_succ, Bool.false_eq_true, wrn3, wrn1, cpmS, cpok9, if_true, if_false, ↓reduceIte, wc_171, wc_178, wc_181, wc_187, wc_215, wc_218, wc_222, wc_225, wc_236, wc_237, cl_222, runB, B222, ma_222, rho_2, wpf_13_304, wpopadd_pf_13_304, wpf_13_307, wpopor_pf_13_307, wpf_13_310, wpopor_pf_13_310, cl_225, B225, ma_225, rho_21, wf_13_130, wf_13_9, wpf_13_130, wpopadd_pf_13_130, w_cst, w_ldi, w_ldj, w_lda, w_ljk, w_ldk, w_ldw, w_ldk2, w_ldt, w_ldtw, w_neg, w_cvb, w_cvs, w_cvc, w_cvj, w_add, w_sub, w_mul, w_ban, w_bor, w_bxo, w_shl, w_shr, w_ush, w_dvi, w_rmi, w_aldi, w_aldj, w_aldz, w_aldc, w_alda, w_ite, w_cmp, w_cmj, w_cz, w_cnot, w_cand, w_cor, w_nil, w_cons, w_cvi, w_csta, w_cvt, w_cvv, w_csv, w_cpy, w_seq, w_sbr, w_sbn, w_brk, w_ifs, w_ifx, w_ife, w_wk, w_rets, w_rtv, w_thr, w_asi, w_asj, w_asa, w_inc, w_exs, w_asti, w_astj, w_astz, w_astc, w_aopadd, w_aopsub, w_sw, if_true, if_false, ↓reduceIte, kc_249, kl9_249, sr_249_10, sr_249_11, sr_249_12, sr_249_13, sr_249_14, sr_249_15, sr_249_16, sr_249_17, sr_249_2, sr_249_22, sr_249_23, sr_249_24, sr_249_25, sr_249_30, sr_249_31, sr_249_34, sr_249_35, sr_249_40, sr_249_41, sr_249_42, sr_249_43, sr_249_50, sr_249_51, sr_249_52, sr_249_54, sr_249_55, sr_249_57, sr_249_58, sr_249_61, sr_249_63, sr_249_64, sr_249_67, sr_249_68, sr_249_69, sr_249_70, sr_249_71, sr_249_8, sr_249_9, kc_250, kl9_250, kc_258, kl9_258, kc_260, kl9_260, kc_269, kl9_269, kc_270, kl9_270, upm_app, Int.reduceEq, and_self, and_true, true_and, and_false, false_and, if_true, if_false, ↓reduceIte, Int.reduceToNat, upm_f, Int.reduceEq, Int.reduceNe, ne_eq, not_false_eq_true, not_true_eq_false]))
        | (with_reducible refine p_178 (fun v9 h9 => ?_); simp only [hdl_c, S9_1, S9_m, bud9, live9, inb9, wrn, wr9_14, wr9_15, wr9_16, wr9_17, tq9_14, tq9_15, tq9_16, tq9_17, tq_0, tq_1, tq_3, upr_rl, rl_0, rl_1, rl_2, rl_3, rl_4, rl_5, rl_6, rl_7, rl_8, rl_9, rl_10, rl_11, rl_12, rl_13, sp_0, sp_1, sp_2, sp_3, sp_4, sp_5, sp_6, sp_7, sp_8, sp_9, sp_10, sp_11, sp_12, sp_13, se_0, se_1, se_2, se_3, se_4, se_5, se_6, se_7, se_8, se_9, se_10, se_11, se_12, se_13, sem_0, sem_1, sem_2, sem_3, sem_4, sem_5, List.getD_cons_zero, List.getD_cons_succ, Bool.false_eq_true, wrn3, wrn1, cpmS, cpok9, if_true, if_false, ↓reduceIte, wc_171, wc_178, wc_181, wc_187, wc_215, wc_218, wc_222, wc_225, wc_236, wc_237, cl_222, runB, B222, ma_222, rho_2, wpf_13_304, wpopadd_pf_13_304, wpf_13_307, wpopor_pf_13_307, wpf_13_310, wpopor_pf_13_310, cl_225, B225, ma_225, rho_21, wf_13_130, wf_13_9, wpf_13_130, wpopadd_pf_13_130, w_cst, w_ldi, w_ldj, w_lda, w_ljk, w_ldk, w_ldw, w_ldk2, w_ldt, w_ldtw, w_neg, w_cvb, w_cvs, w_cvc, w_cvj, w_add, w_sub, w_mul, w_ban, w_bor, w_bxo, w_shl, w_shr, w_ush, w_dvi, w_rmi, w_aldi, w_aldj, w_aldz, w_aldc, w_alda, w_ite, w_cmp, w_cmj, w_cz, w_cnot, w_cand, w_cor, w_nil, w_cons, w_cvi, w_csta, w_cvt, w_cvv, w_csv, w_cpy, w_seq, w_sbr, w_sbn, w_brk, w_ifs, w_ifx, w_ife, w_wk, w_rets, w_rtv, w_thr, w_asi, w_asj, w_asa, w_inc, w_exs, w_asti, w_astj, w_astz, w_astc, w_aopadd, w_aopsub, w_sw, if_true, if_false, ↓reduceIte, kc_249, kl9_249, sr_249_10, sr_249_11, sr_249_12, sr_249_13, sr_249_14, sr_249_15, sr_249_16, sr_249_17, sr_249_2, sr_249_22, sr_249_23, sr_249_24, sr_249_25, sr_249_30, sr_249_31, sr_249_34, sr_249_35, sr_249_40, sr_249_41, sr_249_42, sr_249_43, sr_249_50, sr_249_51, sr_249_52, sr_249_54, sr_249_55, sr_249_57, sr_249_58, sr_249_61, sr_249_63, sr_249_64, sr_249_67, sr_249_68, sr_249_69, sr_249_70, sr_249_71, sr_249_8, sr_249_9, kc_250, kl9_250, kc_258, kl9_258, kc_260, kl9_260, kc_269, kl9_269, kc_270, kl9_270, upm_app, Int.reduceEq, and_self, and_true, true_and, and_false, false_and, if_true, if_false, ↓reduceIte, Int.reduceToNat, upm_f, Int.reduceEq, Int.reduceNe, ne_eq, not_false_eq_true, not_true_eq_false]; (try simp (disch := omega) only [w15_0, w15_1, w15_3, w15_4, w15_5, w15_6, w3_0, w3_1, w3_2, upm_app, Int.reduceEq, and_self, and_true, true_and, and_false, false_and, if_true, if_false, ↓reduceIte]))
        | (with_reducible refine p_181x ?_ ?_ (fun v9 x9 h9 => ?_); (next => first | ((try simp only [upm_app, Int.reduceEq, and_self, and_true, true_and, and_false, false_and, if_true, if_false, ↓reduceIte]); first | omega | (unfold w32; omega) | (unfold w32 at *; omega)) | (refine stx_c ?_; decide) | omega | (with_reducible rfl) | decide | (unfold w32; omega) | (simp (disch := omega) only [w32_eq]; omega) | (simp [upm] <;> (first | omega | (unfold w32; omega)))); (next => first | ((try simp only [upm_app, Int.reduceEq, and_self, and_true, true_and, and_false, false_and, if_true, if_false, ↓reduceIte]); first | omega | (unfold w32; omega) | (unfold w32 at *; omega)) | (refine stx_c ?_; decide) | omega | (with_reducible rfl) | decide | (unfold w32; omega) | (simp (disch := omega) only [w32_eq]; omega) | (simp [upm] <;> (first | omega | (unfold w32; omega)))); (try simp only [upm_app, Int.reduceEq, and_self, and_true, true_and, and_false, false_and, if_true, if_false, ↓reduceIte] at h9); simp only [hdl_c, S9_1, S9_m, bud9, live9, inb9, wrn, wr9_14, wr9_15, wr9_16, wr9_17, tq9_14, tq9_15, tq9_16, tq9_17, tq_0, tq_1, tq_3, upr_rl, rl_0, rl_1, rl_2, rl_3, rl_4, rl_5, rl_6, rl_7, rl_8, rl_9, rl_10, rl_11, rl_12, rl_13, sp_0, sp_1, sp_2, sp_3, sp_4, sp_5, sp_6, sp_7, sp_8, sp_9, sp_10, sp_11, sp_12, sp_13, se_0, se_1, se_2, se_3, se_4, se_5, se_6, se_7, se_8, se_9, se_10, se_11, se_12, se_13, sem_0, sem_1, sem_2, sem_3, sem_4, sem_5, List.getD_cons_zero, List.getD_cons_succ, Bool.false_eq_true, wrn3, wrn1, cpmS, cpok9, if_true, if_false, ↓reduceIte, wc_171, wc_178, wc_181, wc_187, wc_215, wc_218, wc_222, wc_225, wc_236, wc_237, cl_222, runB, B222, ma_222, rho_2, wpf_13_304, wpopadd_pf_13_304, wpf_13_307, wpopor_pf_13_307, wpf_13_310, wpopor_pf_13_310, cl_225, B225, ma_225, rho_21, wf_13_130, wf_13_9, wpf_13_130, wpopadd_pf_13_130, w_cst, w_ldi, w_ldj, w_lda, w_ljk, w_ldk, w_ldw, w_ldk2, w_ldt, w_ldtw, w_neg, w_cvb, w_cvs, w_cvc, w_cvj, w_add, w_sub, w_mul, w_ban, w_bor, w_bxo, w_shl, w_shr, w_ush, w_dvi, w_rmi, w_aldi, w_aldj, w_aldz, w_aldc, w_alda, w_ite, w_cmp, w_cmj, w_cz, w_cnot, w_cand, w_cor, w_nil, w_cons, w_cvi, w_csta, w_cvt, w_cvv, w_csv, w_cpy, w_seq, w_sbr, w_sbn, w_brk, w_ifs, w_ifx, w_ife, w_wk, w_rets, w_rtv, w_thr, w_asi, w_asj, w_asa, w_inc, w_exs, w_asti, w_astj, w_astz, w_astc, w_aopadd, w_aopsub, w_sw, if_true, if_false, ↓reduceIte, kc_249, kl9_249, sr_249_10, sr_249_11, sr_249_12, sr_249_13, sr_249_14, sr_249_15, sr_249_16, sr_249_17, sr_249_2, sr_249_22, sr_249_23, sr_249_24, sr_249_25, sr_249_30, sr_249_31, sr_249_34, sr_249_35, sr_249_40, sr_249_41, sr_249_42, sr_249_43, sr_249_50, sr_249_51, sr_249_52, sr_249_54, sr_249_55, sr_249_57, sr_249_58, sr_249_61, sr_249_63, sr_249_64, sr_249_67, sr_249_68, sr_249_69, sr_249_70, sr_249_71, sr_249_8, sr_249_9, kc_250, kl9_250, kc_258, kl9_258, kc_260, kl9_260, kc_269, kl9_269, kc_270, kl9_270, upm_app, Int.reduceEq, and_self, and_true, true_and, and_false, false_and, if_true, if_false, ↓reduceIte, Int.reduceToNat, upm_f, Int.reduceEq, Int.reduceNe, ne_eq, not_false_eq_true, not_true_eq_false]; (try simp (disch := omega) only [w15_0, w15_1, w15_3, w15_4, w15_5, w15_6, w3_0, w3_1, w3_2, upm_app, Int.reduceEq, and_self, and_true, true_and, and_false, false_and, if_true, if_false, ↓reduceIte]))
        | ((with_reducible show Q 0 _); have hi0 : i = 0 := (by omega); subst hi0; (with_reducible refine D235_fin (i := 0) (s := (-1)) hu1 (FB_0 hF9) hF2 hR1.1 hR1.2 (hq hw0) ?_ (Or.inl ⟨by decide, rfl⟩) ?_ ?_); (next => first | (rw [if_pos (by omega)]) | (rw [if_neg (by omega)])); (next => repeat (first | assumption | (refine JR_up ?_ (by first | decide | (unfold frR; omega)) (by first | decide | simp [frc]) (by first | (simp [BdR]; done) | (simp [BdR] <;> first | omega | (unfold w32; omega)))))); (next => intro x j z1 z2; (try simp only [upm_app]); (repeat rw [if_neg (by omega)])))
        | ((with_reducible show Q i _); (with_reducible refine D235_fin (i := i) (s := i) hu1 (FB_0 hF9) hF2 hR1.1 hR1.2 (hq hw0) ?_ (Or.inr ⟨by omega, h4⟩) hJ4 ?_); (next => first | (rw [if_pos (by omega)]) | (rw [if_neg (by omega)])); (next => intro x j z1 z2; (try simp only [upm_app]); (repeat rw [if_neg (by omega)])))
        | omega
        | (with_reducible contradiction)
        | (exfalso; omega)
        | (unfold w32; omega)
        | (simp (disch := omega) only [w32_eq]; omega)
        | (with_reducible show (_ : Int) ≤ _; simp [upm] <;> (first | omega | (unfold w32; omega)))
        | (with_reducible show (_ : Int) < _; simp [upm] <;> (first | omega | (unfold w32; omega))))
    next =>
      (have bK : ∀ x, 251 ≤ x → x ≤ 257 → m9 x = m x := (fun x z0 z1 => (by funext j; rw [hF9 x j (by omega)]; exact congrFun (eK x z0 z1) j)); have b4 : m9 249 4 = m 249 4 := (by rw [hF9 249 4 (by omega)]; exact eN 4 (by decide) (by decide)); have b5 : m9 249 5 = m 249 5 := (by rw [hF9 249 5 (by omega)]; exact eN 5 (by decide) (by decide)); have b6 : m9 249 6 = m 249 6 := (by rw [hF9 249 6 (by omega)]; exact eN 6 (by decide) (by decide)); have hat := ALR_at (m := m9) (a := ac) (t := t) p 0 i (by omega) (by rw [← hl9]; exact ALR_fr _ 0 (fun x j z0 z1 _ _ => (hF9 x j (by omega)).trans (hAN x j z0 z1)) w2); have hdc : doR m9 R = doR m R := doR_fr bK b4 b5 b6)
      have hlt : i < m1 249 44 := (by rw [hlen, List.length_cons]; omega)
      simp only [cl_235, runB, B235, ma_235, rho_2, wf_13_304, wf_13_399, wpf_13_126, wpf_13_130, wpopadd_pf_13_130, wpf_13_399, wpopadd_pf_13_399, wc_171, wc_178, wc_181, wc_187, wc_215, wc_218, wc_222, wc_225, wc_236, wc_237, cl_222, B222, ma_222, wpf_13_304, wpopadd_pf_13_304, wpf_13_307, wpopor_pf_13_307, wpf_13_310, wpopor_pf_13_310, cl_225, B225, ma_225, rho_21, wf_13_130, wf_13_9, w_cst, w_ldi, w_ldj, w_lda, w_ljk, w_ldk, w_ldw, w_ldk2, w_ldt, w_ldtw, w_neg, w_cvb, w_cvs, w_cvc, w_cvj, w_add, w_sub, w_mul, w_ban, w_bor, w_bxo, w_shl, w_shr, w_ush, w_dvi, w_rmi, w_aldi, w_aldj, w_aldz, w_aldc, w_alda, w_ite, w_cmp, w_cmj, w_cz, w_cnot, w_cand, w_cor, w_nil, w_cons, w_cvi, w_csta, w_cvt, w_cvv, w_csv, w_cpy, w_seq, w_sbr, w_sbn, w_brk, w_ifs, w_ifx, w_ife, w_wk, w_rets, w_rtv, w_thr, w_asi, w_asj, w_asa, w_inc, w_exs, w_asti, w_astj, w_astz, w_astc, w_aopadd, w_aopsub, w_sw, if_true, if_false, ↓reduceIte, hdl_c, S9_1, S9_m, bud9, live9, inb9, wrn, wr9_14, wr9_15, wr9_16, wr9_17, tq9_14, tq9_15, tq9_16, tq9_17, tq_0, tq_1, tq_3, upr_rl, rl_0, rl_1, rl_2, rl_3, rl_4, rl_5, rl_6, rl_7, rl_8, rl_9, rl_10, rl_11, rl_12, rl_13, sp_0, sp_1, sp_2, sp_3, sp_4, sp_5, sp_6, sp_7, sp_8, sp_9, sp_10, sp_11, sp_12, sp_13, se_0, se_1, se_2, se_3, se_4, se_5, se_6, se_7, se_8, se_9, se_10, se_11, se_12, se_13, sem_0, sem_1, sem_2, sem_3, sem_4, sem_5, kc_249, kl9_249, sr_249_10, sr_249_11, sr_249_12, sr_249_13, sr_249_14, sr_249_15, sr_249_16, sr_249_17, sr_249_2, sr_249_22, sr_249_23, sr_249_24, sr_249_25, sr_249_30, sr_249_31, sr_249_34, sr_249_35, sr_249_40, sr_249_41, sr_249_42, sr_249_43, sr_249_50, sr_249_51, sr_249_52, sr_249_54, sr_249_55, sr_249_57, sr_249_58, sr_249_61, sr_249_63, sr_249_64, sr_249_67, sr_249_68, sr_249_69, sr_249_70, sr_249_71, sr_249_8, sr_249_9, kc_250, kl9_250, kc_258, kl9_258, kc_260, kl9_260, kc_269, kl9_269, kc_270, kl9_270, List.getD_cons_zero, List.getD_cons_succ, Bool.false_eq_true, wrn3, wrn1, cpmS, cpok9, upm_app, Int.reduceEq, and_self, and_true, true_and, and_false, false_and, if_true, if_false, ↓reduceIte, Int.reduceToNat, upm_f, Int.reduceEq, Int.reduceNe, ne_eq, not_false_eq_true, not_true_eq_false, ew, b44]
      repeat' (first
        | (with_reducible exact True.intro)
        | (with_reducible exact False.elim)
        | (with_reducible rfl)
        | (with_reducible refine And.intro ?_ ?_)
        | intro _
        | ((with_reducible show Cl _ 237 _ _ _); (with_reducible refine f_237 (g := g) (tc := 0) (pl := pl) (R := R) (L := L) (a := ac) hJ9 (by rw [b5, b6]; exact hI9) (KR2_fr hK b5 b6 (fun j => by rw [bK 256 (by decide) (by decide)]) (fun j => by rw [bK 257 (by decide) (by decide)])) (RuR_fr hR (by rw [hF9 249 32 (by omega)]; exact n32) (fun j => by rw [hF9 265 j (by omega)]; exact n65 j)) (WBR_fr hW bK b4) ⟨by omega, by omega⟩ hat ⟨hc9.1, by omega⟩ (fun v8 m8 hJ8 hF8 hv8 hA8 => ?_)); (rw [hdc] at hv8 hA8); have hI8 : IV L (m 249 5) (m 249 6) (asR m8 258 0) := (by rw [hA8, ← eP, ← eH]; exact doA_i (by rw [eP, eH]; exact hI9) (fun q q0 q1 => hK.2 q q0 (by omega)) hW); have hcc := doA_c (R := R) (BE := m 257) (CO := m 256) (P := (m 249 5).toNat) (H := (m 249 6).toNat) (W := m 249 4) (O := m 252) (T := m 253) (S := m 254) (D := m 255) (K1 := m 251) (a := ac) (x := asR m9 258 0) (L := L) (by rw [eP, eH]; exact hI9) (by omega) (fun q q0 q1 => hK.2 q q0 (by omega)) (fun w _ _ => JR_254 hJ w) ⟨hc9.1, by omega⟩; have hcd : asR m9 258 0 11 0 ≤ asR m8 258 0 11 0 ∧ asR m8 258 0 11 0 ≤ asR m9 258 0 11 0 + 500 := (by rw [hA8]; exact hcc); have d44 : m8 249 44 = m1 249 44 := (by rw [hF8 249 44 (by omega), b44]); simp only [hdl_c, S9_1, S9_m, bud9, live9, inb9, wrn, wr9_14, wr9_15, wr9_16, wr9_17, tq9_14, tq9_15, tq9_16, tq9_17, tq_0, tq_1, tq_3, upr_rl, rl_0, rl_1, rl_2, rl_3, rl_4, rl_5, rl_6, rl_7, rl_8, rl_9, rl_10, rl_11, rl_12, rl_13, sp_0, sp_1, sp_2, sp_3, sp_4, sp_5, sp_6, sp_7, sp_8, sp_9, sp_10, sp_11, sp_12, sp_13, se_0, se_1, se_2, se_3, se_4, se_5, se_6, se_7, se_8, se_9, se_10, se_11, se_12, se_13, sem_0, sem_1, sem_2, sem_3, sem_4, sem_5, List.getD_cons_zero, List.getD_cons_succ, Bool.false_eq_true, wrn3, wrn1, cpmS, cpok9, if_true, if_false, ↓reduceIte, wc_171, wc_178, wc_181, wc_187, wc_215, wc_218, wc_222, wc_225, wc_236, wc_237, cl_222, runB, B222, ma_222, rho_2, wpf_13_304, wpopadd_pf_13_304, wpf_13_307, wpopor_pf_13_307, wpf_13_310, wpopor_pf_13_310, cl_225, B225, ma_225, rho_21, wf_13_130, wf_13_9, wpf_13_130, wpopadd_pf_13_130, w_cst, w_ldi, w_ldj, w_lda, w_ljk, w_ldk, w_ldw, w_ldk2, w_ldt, w_ldtw, w_neg, w_cvb, w_cvs, w_cvc, w_cvj, w_add, w_sub, w_mul, w_ban, w_bor, w_bxo, w_shl, w_shr, w_ush, w_dvi, w_rmi, w_aldi, w_aldj, w_aldz, w_aldc, w_alda, w_ite, w_cmp, w_cmj, w_cz, w_cnot, w_cand, w_cor, w_nil, w_cons, w_cvi, w_csta, w_cvt, w_cvv, w_csv, w_cpy, w_seq, w_sbr, w_sbn, w_brk, w_ifs, w_ifx, w_ife, w_wk, w_rets, w_rtv, w_thr, w_asi, w_asj, w_asa, w_inc, w_exs, w_asti, w_astj, w_astz, w_astc, w_aopadd, w_aopsub, w_sw, if_true, if_false, ↓reduceIte, kc_249, kl9_249, sr_249_10, sr_249_11, sr_249_12, sr_249_13, sr_249_14, sr_249_15, sr_249_16, sr_249_17, sr_249_2, sr_249_22, sr_249_23, sr_249_24, sr_249_25, sr_249_30, sr_249_31, sr_249_34, sr_249_35, sr_249_40, sr_249_41, sr_249_42, sr_249_43, sr_249_50, sr_249_51, sr_249_52, sr_249_54, sr_249_55, sr_249_57, sr_249_58, sr_249_61, sr_249_63, sr_249_64, sr_249_67, sr_249_68, sr_249_69, sr_249_70, sr_249_71, sr_249_8, sr_249_9, kc_250, kl9_250, kc_258, kl9_258, kc_260, kl9_260, kc_269, kl9_269, kc_270, kl9_270, upm_app, Int.reduceEq, and_self, and_true, true_and, and_false, false_and, if_true, if_false, ↓reduceIte, Int.reduceToNat, upm_f, Int.reduceEq, Int.reduceNe, ne_eq, not_false_eq_true, not_true_eq_false, ew, d44])
        | ((with_reducible refine f_218 (g := g) (tc := 0) (pl := pl) ?_ (fun m4 hJ4 h4 => ?_)); (next => repeat (first | assumption | (refine JR_up ?_ (by first | decide | (unfold frR; omega)) (by first | decide | simp [frc]) (by first | (simp [BdR]; done) | (simp [BdR] <;> first | omega | (unfold w32; omega)))))); (try simp only [hdl_c, S9_1, S9_m, bud9, live9, inb9, wrn, wr9_14, wr9_15, wr9_16, wr9_17, tq9_14, tq9_15, tq9_16, tq9_17, tq_0, tq_1, tq_3, upr_rl, rl_0, rl_1, rl_2, rl_3, rl_4, rl_5, rl_6, rl_7, rl_8, rl_9, rl_10, rl_11, rl_12, rl_13, sp_0, sp_1, sp_2, sp_3, sp_4, sp_5, sp_6, sp_7, sp_8, sp_9, sp_10, sp_11, sp_12, sp_13, se_0, se_1, se_2, se_3, se_4, se_5, se_6, se_7, se_8, se_9, se_10, se_11, se_12, se_13, sem_0, sem_1, sem_2, sem_3, sem_4, sem_5, List.getD_cons_zero, List.getD_cons_succ, Bool.false_eq_true, wrn3, wrn1, cpmS, cpok9, if_true, if_false, ↓reduceIte, wc_171, wc_178, wc_181, wc_187, wc_215, wc_218, wc_222, wc_225, wc_236, wc_237, cl_222, runB, B222, ma_222, rho_2, wpf_13_304, wpopadd_pf_13_304, wpf_13_307, wpopor_pf_13_307, wpf_13_310, wpopor_pf_13_310, cl_225, B225, ma_225, rho_21, wf_13_130, wf_13_9, wpf_13_130, wpopadd_pf_13_130, w_cst, w_ldi, w_ldj, w_lda, w_ljk, w_ldk, w_ldw, w_ldk2, w_ldt, w_ldtw, w_neg, w_cvb, w_cvs, w_cvc, w_cvj, w_add, w_sub, w_mul, w_ban, w_bor, w_bxo, w_shl, w_shr, w_ush, w_dvi, w_rmi, w_aldi, w_aldj, w_aldz, w_aldc, w_alda, w_ite, w_cmp, w_cmj, w_cz, w_cnot, w_cand, w_cor, w_nil, w_cons, w_cvi, w_csta, w_cvt, w_cvv, w_csv, w_cpy, w_seq, w_sbr, w_sbn, w_brk, w_ifs, w_ifx, w_ife, w_wk, w_rets, w_rtv, w_thr, w_asi, w_asj, w_asa, w_inc, w_exs, w_asti, w_astj, w_astz, w_astc, w_aopadd, w_aopsub, w_sw, if_true, if_false, ↓reduceIte, kc_249, kl9_249, sr_249_10, sr_249_11, sr_249_12, sr_249_13, sr_249_14, sr_249_15, sr_249_16, sr_249_17, sr_249_2, sr_249_22, sr_249_23, sr_249_24, sr_249_25, sr_249_30, sr_249_31, sr_249_34, sr_249_35, sr_249_40, sr_249_41, sr_249_42, sr_249_43, sr_249_50, sr_249_51, sr_249_52, sr_249_54, sr_249_55, sr_249_57, sr_249_58, sr_249_61, sr_249_63, sr_249_64, sr_249_67, sr_249_68, sr_249_69, sr_249_70, sr_249_71, sr_249_8, sr_249_9, kc_250, kl9_250, kc_258, kl9_258, kc_260, kl9_260, kc_269, kl9_269, kc_270, kl9_270, upm_app, Int.reduceEq, and_self, and_true, true_and, and_false, false_and, if_true, if_false, ↓reduceIte, Int.reduceToNat, upm_f, Int.reduceEq, Int.reduceNe, ne_eq, not_false_eq_true, not_true_eq_false]))
        | (with_reducible refine p_178 (fun v9 h9 => ?_); simp only [hdl_c, S9_1, S9_m, bud9, live9, inb9, wrn, wr9_14, wr9_15, wr9_16, wr9_17, tq9_14, tq9_15, tq9_16, tq9_17, tq_0, tq_1, tq_3, upr_rl, rl_0, rl_1, rl_2, rl_3, rl_4, rl_5, rl_6, rl_7, rl_8, rl_9, rl_10, rl_11, rl_12, rl_13, sp_0, sp_1, sp_2, sp_3, sp_4, sp_5, sp_6, sp_7, sp_8, sp_9, sp_10, sp_11, sp_12, sp_13, se_0, se_1, se_2, se_3, se_4, se_5, se_6, se_7, se_8, se_9, se_10, se_11, se_12, se_13, sem_0, sem_1, sem_2, sem_3, sem_4, sem_5, List.getD_cons_zero, List.getD_cons_succ, Bool.false_eq_true, wrn3, wrn1, cpmS, cpok9, if_true, if_false, ↓reduceIte, wc_171, wc_178, wc_181, wc_187, wc_215, wc_218, wc_222, wc_225, wc_236, wc_237, cl_222, runB, B222, ma_222, rho_2, wpf_13_304, wpopadd_pf_13_304, wpf_13_307, wpopor_pf_13_307, wpf_13_310, wpopor_pf_13_310, cl_225, B225, ma_225, rho_21, wf_13_130, wf_13_9, wpf_13_130, wpopadd_pf_13_130, w_cst, w_ldi, w_ldj, w_lda, w_ljk, w_ldk, w_ldw, w_ldk2, w_ldt, w_ldtw, w_neg, w_cvb, w_cvs, w_cvc, w_cvj, w_add, w_sub, w_mul, w_ban, w_bor, w_bxo, w_shl, w_shr, w_ush, w_dvi, w_rmi, w_aldi, w_aldj, w_aldz, w_aldc, w_alda, w_ite, w_cmp, w_cmj, w_cz, w_cnot, w_cand, w_cor, w_nil, w_cons, w_cvi, w_csta, w_cvt, w_cvv, w_csv, w_cpy, w_seq, w_sbr, w_sbn, w_brk, w_ifs, w_ifx, w_ife, w_wk, w_rets, w_rtv, w_thr, w_asi, w_asj, w_asa, w_inc, w_exs, w_asti, w_astj, w_astz, w_astc, w_aopadd, w_aopsub, w_sw, if_true, if_false, ↓reduceIte, kc_249, kl9_249, sr_249_10, sr_249_11, sr_249_12, sr_249_13, sr_249_14, sr_249_15, sr_249_16, sr_249_17, sr_249_2, sr_249_22, sr_249_23, sr_249_24, sr_249_25, sr_249_30, sr_249_31, sr_249_34, sr_249_35, sr_249_40, sr_249_41, sr_249_42, sr_249_43, sr_249_50, sr_249_51, sr_249_52, sr_249_54, sr_249_55, sr_249_57, sr_249_58, sr_249_61, sr_249_63, sr_249_64, sr_249_67, sr_249_68, sr_249_69, sr_249_70, sr_249_71, sr_249_8, sr_249_9, kc_250, kl9_250, kc_258, kl9_258, kc_260, kl9_260, kc_269, kl9_269, kc_270, kl9_270, upm_app, Int.reduceEq, and_self, and_true, true_and, and_false, false_and, if_true, if_false, ↓reduceIte, Int.reduceToNat, upm_f, Int.reduceEq, Int.reduceNe, ne_eq, not_false_eq_true, not_true_eq_false]; (try simp (disch := omega) only [w15_0, w15_1, w15_3, w15_4, w15_5, w15_6, w3_0, w3_1, w3_2, upm_app, Int.reduceEq, and_self, and_true, true_and, and_false, false_and, if_true, if_false, ↓reduceIte]))
        | (with_reducible refine p_181x ?_ ?_ (fun v9 x9 h9 => ?_); (next => first | ((try simp only [upm_app, Int.reduceEq, and_self, and_true, true_and, and_false, false_and, if_true, if_false, ↓reduceIte]); first | omega | (unfold w32; omega) | (unfold w32 at *; omega)) | (refine stx_c ?_; decide) | omega | (with_reducible rfl) | decide | (unfold w32; omega) | (simp (disch := omega) only [w32_eq]; omega) | (simp [upm] <;> (first | omega | (unfold w32; omega)))); (next => first | ((try simp only [upm_app, Int.reduceEq, and_self, and_true, true_and, and_false, false_and, if_true, if_false, ↓reduceIte]); first | omega | (unfold w32; omega) | (unfold w32 at *; omega)) | (refine stx_c ?_; decide) | omega | (with_reducible rfl) | decide | (unfold w32; omega) | (simp (disch := omega) only [w32_eq]; omega) | (simp [upm] <;> (first | omega | (unfold w32; omega)))); (try simp only [upm_app, Int.reduceEq, and_self, and_true, true_and, and_false, false_and, if_true, if_false, ↓reduceIte] at h9); simp only [hdl_c, S9_1, S9_m, bud9, live9, inb9, wrn, wr9_14, wr9_15, wr9_16, wr9_17, tq9_14, tq9_15, tq9_16, tq9_17, tq_0, tq_1, tq_3, upr_rl, rl_0, rl_1, rl_2, rl_3, rl_4, rl_5, rl_6, rl_7, rl_8, rl_9, rl_10, rl_11, rl_12, rl_13, sp_0, sp_1, sp_2, sp_3, sp_4, sp_5, sp_6, sp_7, sp_8, sp_9, sp_10, sp_11, sp_12, sp_13, se_0, se_1, se_2, se_3, se_4, se_5, se_6, se_7, se_8, se_9, se_10, se_11, se_12, se_13, sem_0, sem_1, sem_2, sem_3, sem_4, sem_5, List.getD_cons_zero, List.getD_cons_succ, Bool.false_eq_true, wrn3, wrn1, cpmS, cpok9, if_true, if_false, ↓reduceIte, wc_171, wc_178, wc_181, wc_187, wc_215, wc_218, wc_222, wc_225, wc_236, wc_237, cl_222, runB, B222, ma_222, rho_2, wpf_13_304, wpopadd_pf_13_304, wpf_13_307, wpopor_pf_13_307, wpf_13_310, wpopor_pf_13_310, cl_225, B225, ma_225, rho_21, wf_13_130, wf_13_9, wpf_13_130, wpopadd_pf_13_130, w_cst, w_ldi, w_ldj, w_lda, w_ljk, w_ldk, w_ldw, w_ldk2, w_ldt, w_ldtw, w_neg, w_cvb, w_cvs, w_cvc, w_cvj, w_add, w_sub, w_mul, w_ban, w_bor, w_bxo, w_shl, w_shr, w_ush, w_dvi, w_rmi, w_aldi, w_aldj, w_aldz, w_aldc, w_alda, w_ite, w_cmp, w_cmj, w_cz, w_cnot, w_cand, w_cor, w_nil, w_cons, w_cvi, w_csta, w_cvt, w_cvv, w_csv, w_cpy, w_seq, w_sbr, w_sbn, w_brk, w_ifs, w_ifx, w_ife, w_wk, w_rets, w_rtv, w_thr, w_asi, w_asj, w_asa, w_inc, w_exs, w_asti, w_astj, w_astz, w_astc, w_aopadd, w_aopsub, w_sw, if_true, if_false, ↓reduceIte, kc_249, kl9_249, sr_249_10, sr_249_11, sr_249_12, sr_249_13, sr_249_14, sr_249_15, sr_249_16, sr_249_17, sr_249_2, sr_249_22, sr_249_23, sr_249_24, sr_249_25, sr_249_30, sr_249_31, sr_249_34, sr_249_35, sr_249_40, sr_249_41, sr_249_42, sr_249_43, sr_249_50, sr_249_51, sr_249_52, sr_249_54, sr_249_55, sr_249_57, sr_249_58, sr_249_61, sr_249_63, sr_249_64, sr_249_67, sr_249_68, sr_249_69, sr_249_70, sr_249_71, sr_249_8, sr_249_9, kc_250, kl9_250, kc_258, kl9_258, kc_260, kl9_260, kc_269, kl9_269, kc_270, kl9_270, upm_app, Int.reduceEq, and_self, and_true, true_and, and_false, false_and, if_true, if_false, ↓reduceIte, Int.reduceToNat, upm_f, Int.reduceEq, Int.reduceNe, ne_eq, not_false_eq_true, not_true_eq_false]; (try simp (disch := omega) only [w15_0, w15_1, w15_3, w15_4, w15_5, w15_6, w3_0, w3_1, w3_2, upm_app, Int.reduceEq, and_self, and_true, true_and, and_false, false_and, if_true, if_false, ↓reduceIte]))
        | ((with_reducible refine ⟨k - 1, ?_, i + 1, m8, p ++ [ac], t, rfl, rfl, hJ8, ?_, hI8, ?_, ?_, ?_, ?_, ?_, ?_⟩); (next => omega); (next => exact fun x j q => (hF8 x j q).trans (hF9 x j q)); (next => omega); (next => rw [List.length_append, List.length_singleton]; omega); (next => rw [hl9, List.append_assoc, List.singleton_append]); (next => rw [hr9, runs_y (hv8.1 (by assumption)), hA8]; omega); (next => rw [hs9, runs_y (hv8.1 (by assumption)), hA8]); (next => omega))
        | ((with_reducible show Q 0 _); have hng : ¬ 0 ≤ (doR m R ac (asR m9 258 0)).1 := (fun z => by have := hv8.2 z; omega); have hR1 : (runs (doR m R) (DN (m 260) tc).2.2 (x0R m)).1 = i ∧ (runs (doR m R) (DN (m 260) tc).2.2 (x0R m)).2 = asR m8 258 0 := ⟨by rw [hr9, runs_n hng]; omega, by rw [hs9, runs_n hng, hA8]⟩; have hi0 : i = 0 := (by omega); subst hi0; (with_reducible refine D235_fin (i := 0) (s := (-1)) hu1 (FB_0 (fun x j q => (hF8 x j q).trans (hF9 x j q))) hF2 hR1.1 hR1.2 (hq hw0) ?_ (Or.inl ⟨by decide, rfl⟩) ?_ ?_); (next => first | (rw [if_pos (by omega)]) | (rw [if_neg (by omega)])); (next => repeat (first | assumption | (refine JR_up ?_ (by first | decide | (unfold frR; omega)) (by first | decide | simp [frc]) (by first | (simp [BdR]; done) | (simp [BdR] <;> first | omega | (unfold w32; omega)))))); (next => intro x j z1 z2; (try simp only [upm_app]); (repeat rw [if_neg (by omega)])))
        | ((with_reducible show Q i _); have hng : ¬ 0 ≤ (doR m R ac (asR m9 258 0)).1 := (fun z => by have := hv8.2 z; omega); have hR1 : (runs (doR m R) (DN (m 260) tc).2.2 (x0R m)).1 = i ∧ (runs (doR m R) (DN (m 260) tc).2.2 (x0R m)).2 = asR m8 258 0 := ⟨by rw [hr9, runs_n hng]; omega, by rw [hs9, runs_n hng, hA8]⟩; (with_reducible refine D235_fin (i := i) (s := i) hu1 (FB_0 (fun x j q => (hF8 x j q).trans (hF9 x j q))) hF2 hR1.1 hR1.2 (hq hw0) ?_ (Or.inr ⟨by omega, h4⟩) hJ4 ?_); (next => first | (rw [if_pos (by omega)]) | (rw [if_neg (by omega)])); (next => intro x j z1 z2; (try simp only [upm_app]); (repeat rw [if_neg (by omega)])))
        | omega
        | (with_reducible contradiction)
        | (exfalso; omega)
        | (unfold w32; omega)
        | (simp (disch := omega) only [w32_eq]; omega)
        | (with_reducible show (_ : Int) ≤ _; simp [upm] <;> (first | omega | (unfold w32; omega)))
        | (with_reducible show (_ : Int) < _; simp [upm] <;> (first | omega | (unfold w32; omega)))))
end
section
/-! an act on both sides keeps the relation (pure) -/
theorem DB_door {W o a b : Int} (h : DB W o) (ha : 0 ≤ a ∧ a < W) (hb : 0 ≤ b ∧ b ≤ 1) (hW : W ≤ 14) : DB W (ior (iand o (ixor (ishl 1 a) (-1))) (ishl b a)) := fun w w0 w1 => by
  have hw := h w w0 w1
  obtain ⟨n, rfl⟩ : ∃ n : Nat, w = n := ⟨w.toNat, by omega⟩
  obtain ⟨k, rfl⟩ : ∃ n : Nat, a = n := ⟨a.toNat, by omega⟩
  have nk : n ≠ k := by omega
  refine tb_ext (iand_in _ _) (ior_in _ _) (fun i hi => ?_)
  have q := congrArg (fun z => tb z i) hw
  simp only [tb_and, tb_xor, tb_m1 hi, tb_or] at q ⊢
  have e1 : ∀ j : Nat, j < 32 → tb (ishl 1 (j : Int)) i = decide (i = j) := fun j hj => tb_bit hj hi
  rw [e1 n (by omega)] at q ⊢
  rw [e1 k (by omega)]
  have e2 : tb (ishl b (k : Int)) i = (if b = 1 then decide (i = k) else false) := by
    have : b = 0 ∨ b = 1 := by omega
    rcases this with rfl | rfl
    · rw [tb_shl (by omega) hi]; simp [tb_0]
    · rw [e1 k (by omega)]; simp
  rw [e2]
  by_cases z : i = n
  · subst z
    simp [nk] at q ⊢
    simp [q]
  · simp [z]
/-- an act that was noted, on both sides -/
theorem GS_two {R : ENV → Int} {m m1 m2 : Mem} {s : Int} {X Y : AS} (hP : m 8 2 ≤ 5) (hH : m 8 3 ≤ 5) (h : GS R m) (hC : ACC m m1 s) (hR : ACR m1 m2 s) (eX : asC m1 15 = X) (eY : asR m2 258 0 = Y) (hI : IV (m 8 0) (m 8 2) (m 8 3) X) (hD : HD (m 8 2) (m 8 3) X (m1 18)) (hS : SE (m 8 2) (m 8 3) X Y) (hB : DB (m 8 1) (X 10 0)) (hN : BN (m 8 2) (m 8 3) X) : GS R m2 := by
  obtain ⟨c1, ⟨c2, c3⟩, c4, c5⟩ := hC
  obtain ⟨r1, r2⟩ := hR
  have lo : ∀ x j, x < 249 → m2 x j = m1 x j := fun x j q => r1 x j (Or.inl q)
  have hi : ∀ x j, 249 ≤ x → m1 x j = m x j := fun x j q => c1 x j (Or.inr q)
  have eA : asC m2 15 = X := (asC_fr (fun x j x0 x1 => lo x j (by omega)) (fun j _ _ => lo 26 j (by decide))).trans eX
  refine GS_act (v := s) hP hH h (fun x j q => ?_) ⟨by rw [eA]; exact hI, ?_, by rw [eA, eY]; exact hS, ?_, by rw [eA]; exact hN⟩ ⟨?_, fun j j0 j1 => ?_⟩ (fun k k0 k1 kn x j x0 x1 => ?_) ?_ ?_
  · unfold KCl at q
    rw [r1 x j (by omega)]
    by_cases z : 249 ≤ x
    · exact hi x j z
    · exact c1 x j (Or.inl (by unfold KCl; omega))
  · rw [eA, show m2 (15 + 3) = m1 18 from by funext j; exact lo 18 j (by decide)]; exact hD
  · rw [← c_op m2, eA]; exact hB
  · exact SE_tr (SE_st (fun x j x0 x1 => lo x j (by omega))) c2
  · rw [lo _ j (by omega)]; exact c3 j j0 j1
  · rw [lo x j (by omega)]; exact c4 k k0 k1 kn x j x0 x1
  · rw [lo 26 8 (by decide), lo 26 9 (by decide)]; exact c5
  · have e39 := hi 249 39 (by decide)
    have e58 : ∀ y, m1 258 y = m 258 y := fun y => hi 258 y (by decide)
    have e69 : ∀ y, m1 269 y = m 269 y := fun y => hi 269 y (by decide)
    simp only [e39, e58, e69] at r2
    exact r2
/-- heat and sheet, on both sides -/
theorem GS_two0 {R : ENV → Int} {m m1 m2 : Mem} {X Y : AS} (hP : m 8 2 ≤ 5) (hH : m 8 3 ≤ 5) (h : GS R m) (hC : ∀ x j, ¬ ((15 ≤ x ∧ x ≤ 25) ∨ x = 7 ∨ (x = 26 ∧ 4 ≤ j ∧ j ≤ 6)) → m1 x j = m x j) (hR : ∀ x j, ¬ (x = 258 ∨ x = 267 ∨ x = 268 ∨ (x = 249 ∧ (j = 0 ∨ 36 ≤ j ∧ j ≤ 38))) → m2 x j = m1 x j) (eX : asC m1 15 = X) (eY : asR m2 258 0 = Y) (hI : IV (m 8 0) (m 8 2) (m 8 3) X) (hD : HD (m 8 2) (m 8 3) X (m1 18)) (hS : SE (m 8 2) (m 8 3) X Y) (hB : DB (m 8 1) (X 10 0)) (hN : BN (m 8 2) (m 8 3) X) : GS R m2 := by
  have lo : ∀ x j, x < 249 → m2 x j = m1 x j := fun x j q => hR x j (by omega)
  have eA : asC m2 15 = X := (asC_fr (fun x j x0 x1 => lo x j (by omega)) (fun j _ _ => lo 26 j (by decide))).trans eX
  refine GS_now hP hH h (fun x j q => ?_) ⟨by rw [eA]; exact hI, ?_, by rw [eA, eY]; exact hS, ?_, by rw [eA]; exact hN⟩ (fun x j q => ?_)
  · unfold KCl at q
    exact (hR x j (by omega)).trans (hC x j (by omega))
  · rw [eA, show m2 (15 + 3) = m1 18 from by funext j; exact lo 18 j (by decide)]; exact hD
  · rw [← c_op m2, eA]; exact hB
  · exact (hR x j (by omega)).trans (hC x j (by omega))
section
variable {P H L : Int} {x : AS} {a b : Int}
theorem take_o : (aTake P H x a b).2 10 0 = x 10 0 := by
  unfold aTake; (repeat' split) <;> (first | rfl | (rw [asU_f _ _ _ _ (by decide), asU_f _ _ _ _ (by decide)]))
theorem down_o {K1 : Int → Int} : (aDown H K1 x a).2 10 0 = x 10 0 := by
  unfold aDown; (repeat' split) <;> (first | rfl | (rw [asU_f _ _ _ _ (by decide), asU_f _ _ _ _ (by decide)]))
theorem change_o : (aChange H x a).2 10 0 = x 10 0 := by
  unfold aChange; (repeat' split) <;> (first | rfl | (rw [asU_f _ _ _ _ (by decide)]))
theorem give_o : (aGive H x a b).2 10 0 = x 10 0 := by
  unfold aGive; (repeat' split) <;> (first | rfl | (rw [asU_f _ _ _ _ (by decide), asU_f _ _ _ _ (by decide)]))
theorem fold_o : (aFold H x a b).2 10 0 = x 10 0 := by
  unfold aFold; (repeat' split) <;> (first | rfl | (rw [asU_f _ _ _ _ (by decide)]))
theorem heat_o : (aHeat P x a b).2 10 0 = x 10 0 := by
  unfold aHeat; (repeat' split) <;> (first | rfl | (rw [asU_f _ _ _ _ (by decide)]))
theorem take_b (h : BN P H x) : BN P H (aTake P H x a b).2 := by
  unfold aTake; (repeat' split) <;> (first | exact h | exact BN_U (by decide) (BN_U (by decide) h))
theorem down_b {K1 : Int → Int} (h : BN P H x) : BN P H (aDown H K1 x a).2 := by
  unfold aDown; (repeat' split) <;> (first | exact h | exact BN_U (by decide) (BN_U (by decide) h))
theorem change_b (h : BN P H x) : BN P H (aChange H x a).2 := by
  unfold aChange; (repeat' split) <;> (first | exact h | exact BN_U (by decide) h)
theorem give_b (h : BN P H x) : BN P H (aGive H x a b).2 := by
  unfold aGive; (repeat' split) <;> (first | exact h | exact BN_U (by decide) (BN_U (by decide) h))
theorem fold_b (h : BN P H x) : BN P H (aFold H x a b).2 := by
  unfold aFold; (repeat' split) <;> (first | exact h | exact BN_U (by decide) h)
theorem heat_b (h : BN P H x) : BN P H (aHeat P x a b).2 := by
  unfold aHeat; (repeat' split) <;> (first | exact h | exact BN_U (by decide) h)
theorem door_b {B : Int → Int} {W : Int} {D : Int → Int} (h : BN P H x) : BN P H (aDoor B W D x a b).2 := by
  unfold aDoor; (repeat' split) <;> (first | exact h | exact BN_U (by decide) h)
theorem door_o {B : Int → Int} {W : Int} {D : Int → Int} (hW : W ≤ 14) (h : DB W (x 10 0)) : DB W ((aDoor B W D x a b).2 10 0) := by
  unfold aDoor
  split
  · exact h
  · rename_i z
    obtain ⟨q1, -, q2, q3⟩ := Decidable.not_not.mp z
    show DB W (asU x 10 0 _ 10 0)
    rw [asU_v]
    exact DB_door h q1 ⟨q2, q3⟩ hW
end
section
variable {R : ENV → Int} {BE CO : Int → Int} {P H : Nat} {W L : Int} {O T S D K1 : Int → Int} {x : AS} {a b : Int}
theorem walk_o (h : IV L P H x) (hc : ∀ q : Int, 0 ≤ q → q < P → 0 ≤ CO q ∧ CO q ≤ 9) : (aWalk R BE CO P H W O T S D x a b).2 10 0 = x 10 0 := by
  unfold aWalk
  split
  · rfl
  · split
    · rfl
    · split
      · rfl
      · show asU (secs R BE CO P H (S b).toNat x) 3 a (if O b = x 3 a then T b else O b) 10 0 = _
        rw [asU_f _ _ _ _ (by decide), secs_3 (Or.inr (Or.inr ⟨rfl, rfl⟩)) hc _ _ h]
theorem pass_o (h : IV L P H x) (hc : ∀ q : Int, 0 ≤ q → q < P → 0 ≤ CO q ∧ CO q ≤ 9) : (aPass R BE CO P H x a).2 10 0 = x 10 0 := by
  unfold aPass
  split
  · rfl
  · exact secs_3 (Or.inr (Or.inr ⟨rfl, rfl⟩)) hc _ _ h
theorem pass_i (h : IV L P H x) (hc : ∀ q : Int, 0 ≤ q → q < P → 0 ≤ CO q ∧ CO q ≤ 9) : IV L P H (aPass R BE CO P H x a).2 := by
  unfold aPass
  split
  · exact h
  · exact IV_secs hc _ _ h
theorem pass_e {BE' CO' : Int → Int} {y : AS} (h : IV L P H x) (e : SE P H x y) (n : SN x y) (hb : ∀ p : Int, 0 ≤ p → p < H → BE p = BE' p) (hc : ∀ q : Int, 0 ≤ q → q < P → CO q = CO' q) (hk : ∀ q : Int, 0 ≤ q → q < P → 0 ≤ CO q ∧ CO q ≤ 9) : AE P H (aPass R BE CO P H x a) (aPass R BE' CO' P H y a) := by
  unfold aPass
  refine AE_if Iff.rfl (fun _ => ⟨rfl, e, n⟩) (fun _ => ?_)
  obtain ⟨s1, s2⟩ := SE_secs (R := R) hb hc hk a.toNat x y h e n
  exact ⟨s2 0 (by decide) (by decide), s1, s2⟩
theorem walk_b (h : IV L P H x) (hn : BN P H x) (hP : (P : Int) ≤ 5) (hc : ∀ q : Int, 0 ≤ q → q < P → 0 ≤ CO q ∧ CO q ≤ 9) : BN P H (aWalk R BE CO P H W O T S D x a b).2 := by
  unfold aWalk
  (repeat' split) <;> (first | exact hn | exact BN_U (by decide) (BN_secs hP hc _ _ h hn))
theorem pass_b (h : IV L P H x) (hn : BN P H x) (hP : (P : Int) ≤ 5) (hc : ∀ q : Int, 0 ≤ q → q < P → 0 ≤ CO q ∧ CO q ≤ 9) : BN P H (aPass R BE CO P H x a).2 := by
  unfold aPass
  (repeat' split) <;> (first | exact hn | exact BN_secs hP hc _ _ h hn)
theorem doA_b {ac : ACT} (h : IV L P H x) (hn : BN P H x) (hP : (P : Int) ≤ 5) (hc : ∀ q : Int, 0 ≤ q → q < P → 0 ≤ CO q ∧ CO q ≤ 9) : BN P H (doA R BE CO P H W O T S D K1 ac x).2 := by
  unfold doA
  split
  · exact take_b hn
  split
  · exact down_b hn
  split
  · exact walk_b h hn hP hc
  split
  · unfold dPass
    split
    · exact hn
    · exact BN_secs hP hc _ _ h hn
  split
  · exact change_b hn
  split
  · exact give_b hn
  · exact door_b hn
theorem doA_o {ac : ACT} (hW : W ≤ 14) (h : IV L P H x) (hc : ∀ q : Int, 0 ≤ q → q < P → 0 ≤ CO q ∧ CO q ≤ 9) (hd : DB W (x 10 0)) : DB W ((doA R BE CO P H W O T S D K1 ac x).2 10 0) := by
  unfold doA
  split
  · rw [take_o]; exact hd
  split
  · rw [down_o]; exact hd
  split
  · rw [walk_o h hc]; exact hd
  split
  · unfold dPass
    split
    · exact hd
    · show DB W (secs R BE CO P H _ x 10 0)
      rw [secs_3 (Or.inr (Or.inr ⟨rfl, rfl⟩)) hc _ _ h]; exact hd
  split
  · rw [change_o]; exact hd
  split
  · rw [give_o]; exact hd
  · exact door_o hW hd
end
theorem runs_o {f : ACT → AS → AR} {L P H W : Int} (hi : ∀ a x, IV L P H x → IV L P H (f a x).2) (ho : ∀ a x, IV L P H x → DB W (x 10 0) → DB W ((f a x).2 10 0)) : ∀ (l : List ACT) (x : AS), IV L P H x → DB W (x 10 0) → DB W ((runs f l x).2 10 0)
  | [], _, _, h => h
  | a :: t, x, h, hd => by
    by_cases z : 0 ≤ (f a x).1
    · rw [runs_y z]; exact runs_o hi ho t _ (hi a x h) (ho a x h hd)
    · rw [runs_n z]; exact ho a x h hd
theorem runs_b {f : ACT → AS → AR} {L P H : Int} (hi : ∀ a x, IV L P H x → IV L P H (f a x).2) (hb : ∀ a x, IV L P H x → BN P H x → BN P H (f a x).2) : ∀ (l : List ACT) (x : AS), IV L P H x → BN P H x → BN P H (runs f l x).2
  | [], _, _, h => h
  | a :: t, x, h, hd => by
    by_cases z : 0 ≤ (f a x).1
    · rw [runs_y z]; exact runs_b hi hb t _ (hi a x h) (hb a x h hd)
    · rw [runs_n z]; exact hb a x h hd
theorem sheet_b {P : Nat} {P' H kd n f st : Int} {x : AS} (h : BN P' H x) : BN P' H (aSheet P x kd n f st).2 := by
  unfold aSheet
  split
  · exact h
  · split
    · exact h
    · exact BN_fr h (fun _ _ _ => shS_f (by decide) P) (fun _ _ _ => shS_f (by decide) P)
theorem sheet_o {P : Nat} {kd n f st : Int} {x : AS} : (aSheet P x kd n f st).2 10 0 = x 10 0 := by
  unfold aSheet
  split
  · rfl
  · split
    · rfl
    · exact shS_f (by decide) P
end
section
/-! what THE KITCHEN's text keeps of its values and of the state -/
/-- the state, as the one function of THE KITCHEN's values tells it -/
def asK (f : Int → Int) (o nw : Int) : AS := fun a j => if a = 0 then f (200 + j) else if a = 1 then f (210 + j) else if a = 2 then f (220 + j) else if a = 3 then f (310 + j) else if a = 4 then f (320 + j) else if a = 5 then f (330 + j) else if a = 6 then f (340 + j) else if a = 7 then f (350 + j) else if a = 8 then f (360 + j) else if a = 9 then f (370 + j) else if a = 10 then (if j = 0 then o else nw) else 0
section
variable (f : Int → Int) (o nw j : Int)
theorem ak_0 : asK f o nw 0 j = f (200 + j) := by simp [asK]
theorem ak_1 : asK f o nw 1 j = f (210 + j) := by simp [asK]
theorem ak_2 : asK f o nw 2 j = f (220 + j) := by simp [asK]
theorem ak_3 : asK f o nw 3 j = f (310 + j) := by simp [asK]
theorem ak_4 : asK f o nw 4 j = f (320 + j) := by simp [asK]
theorem ak_5 : asK f o nw 5 j = f (330 + j) := by simp [asK]
theorem ak_6 : asK f o nw 6 j = f (340 + j) := by simp [asK]
theorem ak_7 : asK f o nw 7 j = f (350 + j) := by simp [asK]
theorem ak_8 : asK f o nw 8 j = f (360 + j) := by simp [asK]
theorem ak_9 : asK f o nw 9 j = f (370 + j) := by simp [asK]
theorem ak_o : asK f o nw 10 0 = o := by simp [asK]
theorem ak_n : asK f o nw 10 1 = nw := by simp [asK]
end
theorem vW_100 {f : Int → Int} {n a b s d j : Int} (hj : 0 ≤ j ∧ j < 20) (hn : 0 ≤ n ∧ n < 14) : vW f n a b s d (100 + j) = (if j = n then a else f (100 + j)) := by
  unfold vW kup
  by_cases z : j = n
  · subst z
    rw [if_pos rfl]
    (repeat (first | rw [if_neg (by omega)] | rw [if_pos (by omega)]))
  · rw [if_neg z]
    (repeat rw [if_neg (by omega)])
theorem vW_120 {f : Int → Int} {n a b s d j : Int} (hj : 0 ≤ j ∧ j < 20) (hn : 0 ≤ n ∧ n < 14) : vW f n a b s d (120 + j) = (if j = n then b else f (120 + j)) := by
  unfold vW kup
  by_cases z : j = n
  · subst z
    rw [if_pos rfl]
    (repeat (first | rw [if_neg (by omega)] | rw [if_pos (by omega)]))
  · rw [if_neg z]
    (repeat rw [if_neg (by omega)])
theorem vW_200 {f : Int → Int} {n a b s d j : Int} (hj : 0 ≤ j ∧ j < 10) (hn : 0 ≤ n ∧ n < 14) : vW f n a b s d (200 + j) = f (200 + j) := by
  unfold vW kup
  (repeat rw [if_neg (by omega)])
theorem vW_210 {f : Int → Int} {n a b s d j : Int} (hj : 0 ≤ j ∧ j < 10) (hn : 0 ≤ n ∧ n < 14) : vW f n a b s d (210 + j) = f (210 + j) := by
  unfold vW kup
  (repeat rw [if_neg (by omega)])
theorem vW_220 {f : Int → Int} {n a b s d j : Int} (hj : 0 ≤ j ∧ j < 10) (hn : 0 ≤ n ∧ n < 14) : vW f n a b s d (220 + j) = f (220 + j) := by
  unfold vW kup
  (repeat rw [if_neg (by omega)])
theorem vW_230 {f : Int → Int} {n a b s d j : Int} (hj : 0 ≤ j ∧ j < 10) (hn : 0 ≤ n ∧ n < 14) : vW f n a b s d (230 + j) = f (230 + j) := by
  unfold vW kup
  (repeat rw [if_neg (by omega)])
theorem vW_300 {f : Int → Int} {n a b s d j : Int} (hj : 0 ≤ j ∧ j < 10) (hn : 0 ≤ n ∧ n < 14) : vW f n a b s d (300 + j) = f (300 + j) := by
  unfold vW kup
  (repeat rw [if_neg (by omega)])
theorem vW_310 {f : Int → Int} {n a b s d j : Int} (hj : 0 ≤ j ∧ j < 10) (hn : 0 ≤ n ∧ n < 14) : vW f n a b s d (310 + j) = f (310 + j) := by
  unfold vW kup
  (repeat rw [if_neg (by omega)])
theorem vW_320 {f : Int → Int} {n a b s d j : Int} (hj : 0 ≤ j ∧ j < 10) (hn : 0 ≤ n ∧ n < 14) : vW f n a b s d (320 + j) = f (320 + j) := by
  unfold vW kup
  (repeat rw [if_neg (by omega)])
theorem vW_330 {f : Int → Int} {n a b s d j : Int} (hj : 0 ≤ j ∧ j < 10) (hn : 0 ≤ n ∧ n < 14) : vW f n a b s d (330 + j) = f (330 + j) := by
  unfold vW kup
  (repeat rw [if_neg (by omega)])
theorem vW_340 {f : Int → Int} {n a b s d j : Int} (hj : 0 ≤ j ∧ j < 10) (hn : 0 ≤ n ∧ n < 14) : vW f n a b s d (340 + j) = f (340 + j) := by
  unfold vW kup
  (repeat rw [if_neg (by omega)])
theorem vW_350 {f : Int → Int} {n a b s d j : Int} (hj : 0 ≤ j ∧ j < 10) (hn : 0 ≤ n ∧ n < 14) : vW f n a b s d (350 + j) = f (350 + j) := by
  unfold vW kup
  (repeat rw [if_neg (by omega)])
theorem vW_360 {f : Int → Int} {n a b s d j : Int} (hj : 0 ≤ j ∧ j < 10) (hn : 0 ≤ n ∧ n < 14) : vW f n a b s d (360 + j) = f (360 + j) := by
  unfold vW kup
  (repeat rw [if_neg (by omega)])
theorem vW_370 {f : Int → Int} {n a b s d j : Int} (hj : 0 ≤ j ∧ j < 10) (hn : 0 ≤ n ∧ n < 14) : vW f n a b s d (370 + j) = f (370 + j) := by
  unfold vW kup
  (repeat rw [if_neg (by omega)])
theorem vO_100 {f : Int → Int} {n a b s j : Int} (hj : 0 ≤ j ∧ j < 20) (hn : 0 ≤ n ∧ n < 14) : vO f n a b s (100 + j) = f (100 + j) := by
  unfold vO kup
  (repeat rw [if_neg (by omega)])
theorem vO_120 {f : Int → Int} {n a b s j : Int} (hj : 0 ≤ j ∧ j < 20) (hn : 0 ≤ n ∧ n < 14) : vO f n a b s (120 + j) = f (120 + j) := by
  unfold vO kup
  (repeat rw [if_neg (by omega)])
theorem vO_200 {f : Int → Int} {n a b s j : Int} (hj : 0 ≤ j ∧ j < 10) (hn : 0 ≤ n ∧ n < 10) : vO f n a b s (200 + j) = (if j = n then a else f (200 + j)) := by
  unfold vO kup
  by_cases z : j = n
  · subst z
    rw [if_pos rfl]
    (repeat (first | rw [if_neg (by omega)] | rw [if_pos (by omega)]))
  · rw [if_neg z]
    (repeat rw [if_neg (by omega)])
theorem vO_210 {f : Int → Int} {n a b s j : Int} (hj : 0 ≤ j ∧ j < 10) (hn : 0 ≤ n ∧ n < 10) : vO f n a b s (210 + j) = (if j = n then b else f (210 + j)) := by
  unfold vO kup
  by_cases z : j = n
  · subst z
    rw [if_pos rfl]
    (repeat (first | rw [if_neg (by omega)] | rw [if_pos (by omega)]))
  · rw [if_neg z]
    (repeat rw [if_neg (by omega)])
theorem vO_220 {f : Int → Int} {n a b s j : Int} (hj : 0 ≤ j ∧ j < 10) (hn : 0 ≤ n ∧ n < 10) : vO f n a b s (220 + j) = (if j = n then 0 else f (220 + j)) := by
  unfold vO kup
  by_cases z : j = n
  · subst z
    rw [if_pos rfl]
    (repeat (first | rw [if_neg (by omega)] | rw [if_pos (by omega)]))
  · rw [if_neg z]
    (repeat rw [if_neg (by omega)])
theorem vO_230 {f : Int → Int} {n a b s j : Int} (hj : 0 ≤ j ∧ j < 10) (hn : 0 ≤ n ∧ n < 10) : vO f n a b s (230 + j) = (if j = n then s else f (230 + j)) := by
  unfold vO kup
  by_cases z : j = n
  · subst z
    rw [if_pos rfl]
    (repeat (first | rw [if_neg (by omega)] | rw [if_pos (by omega)]))
  · rw [if_neg z]
    (repeat rw [if_neg (by omega)])
theorem vO_300 {f : Int → Int} {n a b s j : Int} (hj : 0 ≤ j ∧ j < 10) (hn : 0 ≤ n ∧ n < 10) : vO f n a b s (300 + j) = f (300 + j) := by
  unfold vO kup
  (repeat rw [if_neg (by omega)])
theorem vO_310 {f : Int → Int} {n a b s j : Int} (hj : 0 ≤ j ∧ j < 10) (hn : 0 ≤ n ∧ n < 10) : vO f n a b s (310 + j) = f (310 + j) := by
  unfold vO kup
  (repeat rw [if_neg (by omega)])
theorem vO_320 {f : Int → Int} {n a b s j : Int} (hj : 0 ≤ j ∧ j < 10) (hn : 0 ≤ n ∧ n < 10) : vO f n a b s (320 + j) = f (320 + j) := by
  unfold vO kup
  (repeat rw [if_neg (by omega)])
theorem vO_330 {f : Int → Int} {n a b s j : Int} (hj : 0 ≤ j ∧ j < 10) (hn : 0 ≤ n ∧ n < 10) : vO f n a b s (330 + j) = f (330 + j) := by
  unfold vO kup
  (repeat rw [if_neg (by omega)])
theorem vO_340 {f : Int → Int} {n a b s j : Int} (hj : 0 ≤ j ∧ j < 10) (hn : 0 ≤ n ∧ n < 10) : vO f n a b s (340 + j) = f (340 + j) := by
  unfold vO kup
  (repeat rw [if_neg (by omega)])
theorem vO_350 {f : Int → Int} {n a b s j : Int} (hj : 0 ≤ j ∧ j < 10) (hn : 0 ≤ n ∧ n < 10) : vO f n a b s (350 + j) = f (350 + j) := by
  unfold vO kup
  (repeat rw [if_neg (by omega)])
theorem vO_360 {f : Int → Int} {n a b s j : Int} (hj : 0 ≤ j ∧ j < 10) (hn : 0 ≤ n ∧ n < 10) : vO f n a b s (360 + j) = f (360 + j) := by
  unfold vO kup
  (repeat rw [if_neg (by omega)])
theorem vO_370 {f : Int → Int} {n a b s j : Int} (hj : 0 ≤ j ∧ j < 10) (hn : 0 ≤ n ∧ n < 10) : vO f n a b s (370 + j) = f (370 + j) := by
  unfold vO kup
  (repeat rw [if_neg (by omega)])
theorem vH_100 {f : Int → Int} {n a b j : Int} (hj : 0 ≤ j ∧ j < 20) (hn : 0 ≤ n ∧ n < 14) : vH f n a b (100 + j) = f (100 + j) := by
  unfold vH kup
  (repeat rw [if_neg (by omega)])
theorem vH_120 {f : Int → Int} {n a b j : Int} (hj : 0 ≤ j ∧ j < 20) (hn : 0 ≤ n ∧ n < 14) : vH f n a b (120 + j) = f (120 + j) := by
  unfold vH kup
  (repeat rw [if_neg (by omega)])
theorem vH_200 {f : Int → Int} {n a b j : Int} (hj : 0 ≤ j ∧ j < 10) (hn : 0 ≤ n ∧ n < 10) : vH f n a b (200 + j) = f (200 + j) := by
  unfold vH kup
  (repeat rw [if_neg (by omega)])
theorem vH_210 {f : Int → Int} {n a b j : Int} (hj : 0 ≤ j ∧ j < 10) (hn : 0 ≤ n ∧ n < 10) : vH f n a b (210 + j) = f (210 + j) := by
  unfold vH kup
  (repeat rw [if_neg (by omega)])
theorem vH_220 {f : Int → Int} {n a b j : Int} (hj : 0 ≤ j ∧ j < 10) (hn : 0 ≤ n ∧ n < 10) : vH f n a b (220 + j) = f (220 + j) := by
  unfold vH kup
  (repeat rw [if_neg (by omega)])
theorem vH_230 {f : Int → Int} {n a b j : Int} (hj : 0 ≤ j ∧ j < 10) (hn : 0 ≤ n ∧ n < 10) : vH f n a b (230 + j) = f (230 + j) := by
  unfold vH kup
  (repeat rw [if_neg (by omega)])
theorem vH_300 {f : Int → Int} {n a b j : Int} (hj : 0 ≤ j ∧ j < 10) (hn : 0 ≤ n ∧ n < 10) : vH f n a b (300 + j) = (if j = n then a else f (300 + j)) := by
  unfold vH kup
  by_cases z : j = n
  · subst z
    rw [if_pos rfl]
    (repeat (first | rw [if_neg (by omega)] | rw [if_pos (by omega)]))
  · rw [if_neg z]
    (repeat rw [if_neg (by omega)])
theorem vH_310 {f : Int → Int} {n a b j : Int} (hj : 0 ≤ j ∧ j < 10) (hn : 0 ≤ n ∧ n < 10) : vH f n a b (310 + j) = (if j = n then b else f (310 + j)) := by
  unfold vH kup
  by_cases z : j = n
  · subst z
    rw [if_pos rfl]
    (repeat (first | rw [if_neg (by omega)] | rw [if_pos (by omega)]))
  · rw [if_neg z]
    (repeat rw [if_neg (by omega)])
theorem vH_320 {f : Int → Int} {n a b j : Int} (hj : 0 ≤ j ∧ j < 10) (hn : 0 ≤ n ∧ n < 10) : vH f n a b (320 + j) = (if j = n then 0 else f (320 + j)) := by
  unfold vH kup
  by_cases z : j = n
  · subst z
    rw [if_pos rfl]
    (repeat (first | rw [if_neg (by omega)] | rw [if_pos (by omega)]))
  · rw [if_neg z]
    (repeat rw [if_neg (by omega)])
theorem vH_330 {f : Int → Int} {n a b j : Int} (hj : 0 ≤ j ∧ j < 10) (hn : 0 ≤ n ∧ n < 10) : vH f n a b (330 + j) = (if j = n then 0 else f (330 + j)) := by
  unfold vH kup
  by_cases z : j = n
  · subst z
    rw [if_pos rfl]
    (repeat (first | rw [if_neg (by omega)] | rw [if_pos (by omega)]))
  · rw [if_neg z]
    (repeat rw [if_neg (by omega)])
theorem vH_340 {f : Int → Int} {n a b j : Int} (hj : 0 ≤ j ∧ j < 10) (hn : 0 ≤ n ∧ n < 10) : vH f n a b (340 + j) = (if j = n then 0 else f (340 + j)) := by
  unfold vH kup
  by_cases z : j = n
  · subst z
    rw [if_pos rfl]
    (repeat (first | rw [if_neg (by omega)] | rw [if_pos (by omega)]))
  · rw [if_neg z]
    (repeat rw [if_neg (by omega)])
theorem vH_350 {f : Int → Int} {n a b j : Int} (hj : 0 ≤ j ∧ j < 10) (hn : 0 ≤ n ∧ n < 10) : vH f n a b (350 + j) = (if j = n then 0 else f (350 + j)) := by
  unfold vH kup
  by_cases z : j = n
  · subst z
    rw [if_pos rfl]
    (repeat (first | rw [if_neg (by omega)] | rw [if_pos (by omega)]))
  · rw [if_neg z]
    (repeat rw [if_neg (by omega)])
theorem vH_360 {f : Int → Int} {n a b j : Int} (hj : 0 ≤ j ∧ j < 10) (hn : 0 ≤ n ∧ n < 10) : vH f n a b (360 + j) = (if j = n then -1 else f (360 + j)) := by
  unfold vH kup
  by_cases z : j = n
  · subst z
    rw [if_pos rfl]
    (repeat (first | rw [if_neg (by omega)] | rw [if_pos (by omega)]))
  · rw [if_neg z]
    (repeat rw [if_neg (by omega)])
theorem vH_370 {f : Int → Int} {n a b j : Int} (hj : 0 ≤ j ∧ j < 10) (hn : 0 ≤ n ∧ n < 10) : vH f n a b (370 + j) = (if j = n then 0 else f (370 + j)) := by
  unfold vH kup
  by_cases z : j = n
  · subst z
    rw [if_pos rfl]
    (repeat (first | rw [if_neg (by omega)] | rw [if_pos (by omega)]))
  · rw [if_neg z]
    (repeat rw [if_neg (by omega)])
/-- what holds of a kitchen that was told -/
def KIV (H0 : Int) (s : KS) (o nw : Int) : Prop := ((0 ≤ s.1 ∧ s.1 ≤ 10) ∧ (0 ≤ s.2.1 ∧ s.2.1 ≤ 14) ∧ (0 ≤ s.2.2.1 ∧ s.2.2.1 ≤ 5) ∧ (0 ≤ s.2.2.2.1 ∧ s.2.2.2.1 ≤ 5)) ∧ IV s.1 s.2.2.1 s.2.2.2.1 (asK s.2.2.2.2 o nw) ∧ (∀ w, 0 ≤ w → w < s.2.1 → ((0 ≤ s.2.2.2.2 (100 + w) ∧ s.2.2.2.2 (100 + w) < s.1) ∧ (0 ≤ s.2.2.2.2 (120 + w) ∧ s.2.2.2.2 (120 + w) < s.1) ∧ s.2.2.2.2 (100 + w) ≠ s.2.2.2.2 (120 + w))) ∧ (∀ q, 0 ≤ q → q < s.2.2.1 → 0 ≤ s.2.2.2.2 (230 + q) ∧ s.2.2.2.2 (230 + q) ≤ 9) ∧ (∀ p, 0 ≤ p → p < s.2.2.2.1 → 0 ≤ s.2.2.2.2 (300 + p) ∧ s.2.2.2.2 (300 + p) ≤ 99) ∧ (∀ p, H0 ≤ p → 0 ≤ p → p < s.2.2.2.1 → s.2.2.2.2 (360 + p) = -1) ∧ BN s.2.2.1 s.2.2.2.1 (asK s.2.2.2.2 o nw)
theorem IV_L {L L' P H : Int} {x : AS} (h : IV L P H x) (hL : L ≤ L') : IV L' P H x := by
  obtain ⟨h1, h2, h3, h4⟩ := h
  refine ⟨fun p p0 p1 => ?_, h2, fun q q0 q1 => ?_, h4⟩
  · obtain ⟨a, b, c, d, e, f, g⟩ := h1 p p0 p1
    exact ⟨a, ⟨b.1, by omega⟩, c, d, e, f, g⟩
  · obtain ⟨a, b, c⟩ := h3 q q0 q1
    exact ⟨a, ⟨b.1, by omega⟩, c⟩
/-- a pot more -/
theorem IV_pot {L P H : Int} {x y : AS} (h : IV L P H x) (hP : 0 ≤ P) (ho : ∀ f j, 0 ≤ f → f ≤ 2 → 0 ≤ j → j < P → y f j = x f j) (hp : ∀ f j, 3 ≤ f → f ≤ 9 → 0 ≤ j → j < H → y f j = x f j) (hn : y 10 1 = x 10 1) (h0 : 0 ≤ y 0 P ∧ y 0 P ≤ 999) (h1 : 0 ≤ y 1 P ∧ y 1 P < L) (h2 : y 2 P = 0) : IV L (P + 1) H y := by
  obtain ⟨k1, k2, k3, k4⟩ := h
  refine ⟨fun p p0 p1 => ?_, fun p q p0 p1 q0 q1 => ?_, fun q q0 q1 => ?_, by rw [hn]; exact k4⟩
  · obtain ⟨a, b, c, d, e, f, g⟩ := k1 p p0 p1
    rw [hp 8 p (by decide) (by decide) p0 p1, hp 3 p (by decide) (by decide) p0 p1, hp 6 p (by decide) (by decide) p0 p1, hp 4 p (by decide) (by decide) p0 p1, hp 5 p (by decide) (by decide) p0 p1, hp 7 p (by decide) (by decide) p0 p1]
    refine ⟨by omega, b, c, fun z => ?_, e, f, g⟩
    rw [ho 1 _ (by decide) (by decide) z (by omega), ho 2 _ (by decide) (by decide) z (by omega)]
    exact d z
  · rw [hp 8 p (by decide) (by decide) p0 p1, hp 8 q (by decide) (by decide) q0 q1]; exact k2 p q p0 p1 q0 q1
  · by_cases z : q = P
    · subst z
      exact ⟨h0, by omega, Or.inl h2⟩
    · rw [ho 0 q (by decide) (by decide) q0 (by omega), ho 1 q (by decide) (by decide) q0 (by omega), ho 2 q (by decide) (by decide) q0 (by omega)]
      exact k3 q q0 (by omega)
theorem BN_pot {P H : Int} {x y : AS} (h : BN P H x) (hP : 0 ≤ P) (e2 : ∀ q, 0 ≤ q → q < P → y 2 q = x 2 q) (e9 : ∀ p, 0 ≤ p → p < H → y 9 p = x 9 p) (h2 : y 2 P = 0) : BN (P + 1) H y := by
  obtain ⟨a, b⟩ := BN_fr h e2 e9
  refine ⟨a, ?_⟩
  rw [show (P + 1).toNat = P.toNat + 1 by omega, b]
  show _ = sm (y 2) P.toNat + y 2 (P.toNat : Int)
  rw [show ((P.toNat : Nat) : Int) = P by omega, h2, Int.add_zero]
theorem BN_one {P H : Int} {x y : AS} (h : BN P H x) (hH : 0 ≤ H) (e2 : ∀ q, 0 ≤ q → q < P → y 2 q = x 2 q) (e9 : ∀ p, 0 ≤ p → p < H → y 9 p = x 9 p) (h9 : y 9 H = 0) : BN P (H + 1) y := by
  obtain ⟨a, b⟩ := BN_fr h e2 e9
  refine ⟨fun p p0 p1 => ?_, ?_⟩
  · by_cases z : p = H
    · rw [z, h9]; decide
    · exact a p p0 (by omega)
  · rw [show (H + 1).toNat = H.toNat + 1 by omega, ← b]
    show sm (y 9) H.toNat + y 9 (H.toNat : Int) = _
    rw [show ((H.toNat : Nat) : Int) = H by omega, h9, Int.add_zero]
/-- one of the people more -/
theorem IV_one {L P H : Int} {x y : AS} (h : IV L P H x) (hH : 0 ≤ H) (ho : ∀ f j, 0 ≤ f → f ≤ 2 → 0 ≤ j → j < P → y f j = x f j) (hp : ∀ f j, 3 ≤ f → f ≤ 9 → 0 ≤ j → j < H → y f j = x f j) (hn : y 10 1 = x 10 1) (hP : 0 ≤ P) (h3 : 0 ≤ y 3 H ∧ y 3 H < L) (h4 : y 4 H = 0) (h5 : y 5 H = 0) (h6 : y 6 H = 0) (h7 : y 7 H = 0) (h8 : y 8 H = -1) : IV L P (H + 1) y := by
  obtain ⟨k1, k2, k3, k4⟩ := h
  refine ⟨fun p p0 p1 => ?_, fun p q p0 p1 q0 q1 hq hn8 => ?_, fun q q0 q1 => ?_, by rw [hn]; exact k4⟩
  · by_cases z : p = H
    · subst z
      rw [h4, h5, h6, h7, h8]
      exact ⟨by omega, h3, by omega, fun y => absurd y (by decide), inI_0, inI_0, by omega⟩
    · obtain ⟨a, b, c, d, e, f, g⟩ := k1 p p0 (by omega)
      rw [hp 8 p (by decide) (by decide) p0 (by omega), hp 3 p (by decide) (by decide) p0 (by omega), hp 6 p (by decide) (by decide) p0 (by omega), hp 4 p (by decide) (by decide) p0 (by omega), hp 5 p (by decide) (by decide) p0 (by omega), hp 7 p (by decide) (by decide) p0 (by omega)]
      refine ⟨a, b, c, fun w => ?_, e, f, g⟩
      rw [ho 1 _ (by decide) (by decide) w a.2, ho 2 _ (by decide) (by decide) w a.2]
      exact d w
  · by_cases z : p = H
    · subst z; rw [h8] at hn8; exact absurd hn8 (by decide)
    · rw [hp 8 p (by decide) (by decide) p0 (by omega)] at hq hn8
      by_cases w : q = H
      · subst w; rw [h8] at hq; omega
      · rw [hp 8 q (by decide) (by decide) q0 (by omega)] at hq
        exact k2 p q p0 (by omega) q0 (by omega) hq hn8
  · rw [ho 0 q (by decide) (by decide) q0 q1, ho 1 q (by decide) (by decide) q0 q1, ho 2 q (by decide) (by decide) q0 q1]
    exact k3 q q0 q1
theorem nv_c {T : Int → Int} {L p : Int} : (nv T L 2 0 p).1 < 100 := by
  by_cases h1 : dgt T L p
  · rw [nv_y 1 h1]
    by_cases h2 : dgt T L (p + 1)
    · rw [nv_y 0 h2, nv_0]; unfold dgt at h1 h2; dsimp only; omega
    · rw [nv_n _ h2]; unfold dgt at h1; dsimp only; omega
  · rw [nv_n _ h1]; show (0 : Int) < 100; decide
theorem f02 {f : Int} (h0 : 0 ≤ f) (h1 : f ≤ 2) : f = 0 ∨ f = 1 ∨ f = 2 := by omega
theorem f39 {f : Int} (h0 : 3 ≤ f) (h1 : f ≤ 9) : f = 3 ∨ f = 4 ∨ f = 5 ∨ f = 6 ∨ f = 7 ∨ f = 8 ∨ f = 9 := by omega
theorem KIV_P {s : KS} {H0 o nw v : Int} (h : KIV H0 s o nw) (hr : s.1 < 10) : KIV H0 (s.1 + 1, s.2.1, s.2.2.1, s.2.2.2.1, kup s.2.2.2.2 s.1 v) o nw := by
  obtain ⟨⟨b1, b2, b3, b4⟩, i, w, q, p, l, bn⟩ := h
  have e : ∀ j, 10 ≤ j → kup s.2.2.2.2 s.1 v j = s.2.2.2.2 j := fun j hj => by unfold kup; rw [if_neg (by omega)]
  refine ⟨⟨by dsimp only; omega, b2, b3, b4⟩, ?_, fun j j0 j1 => ?_, fun j j0 j1 => ?_, fun j j0 j1 => ?_, fun j jh j0 j1 => ?_, ?_⟩
  · refine IV_L (IV_SE i ⟨fun f j f0 f1 j0 j1 => ?_, fun f j f0 f1 j0 j1 => ?_, ?_, ?_⟩) (by dsimp only; omega)
    · (try dsimp only at j1)
      rcases f02 f0 f1 with rfl | rfl | rfl <;> simp only [ak_0, ak_1, ak_2, ak_3, ak_4, ak_5, ak_6, ak_7, ak_8, ak_9, ak_n] <;> exact (e _ (by omega)).symm
    · (try dsimp only at j1)
      rcases f39 f0 f1 with rfl | rfl | rfl | rfl | rfl | rfl | rfl <;> simp only [ak_0, ak_1, ak_2, ak_3, ak_4, ak_5, ak_6, ak_7, ak_8, ak_9, ak_n] <;> exact (e _ (by omega)).symm
    · rw [ak_o, ak_o]
    · rw [ak_n, ak_n]
  · dsimp only
    rw [e _ (by omega), e _ (by omega)]
    have := w j j0 j1
    omega
  · dsimp only; rw [e _ (by omega)]; exact q j j0 j1
  · dsimp only; rw [e _ (by omega)]; exact p j j0 j1
  · dsimp only; rw [e _ (by omega)]; exact l j jh j0 j1
  · exact BN_fr bn (fun j j0 j1 => by (try dsimp only at j1); rw [ak_2, ak_2]; exact e _ (by omega)) (fun j j0 j1 => by (try dsimp only at j1); rw [ak_9, ak_9]; exact e _ (by omega))
theorem KIV_W {s : KS} {H0 o nw a b c d : Int} (h : KIV H0 s o nw) (hr : s.2.1 < 14) (ha : 0 ≤ a ∧ a < s.1) (hb : 0 ≤ b ∧ b < s.1) (hab : b ≠ a) : KIV H0 (s.1, s.2.1 + 1, s.2.2.1, s.2.2.2.1, vW s.2.2.2.2 s.2.1 a b c d) o nw := by
  obtain ⟨⟨b1, b2, b3, b4⟩, i, w, q, p, l, bn⟩ := h
  have hn : 0 ≤ s.2.1 ∧ s.2.1 < 14 := by omega
  refine ⟨⟨b1, by dsimp only; omega, b3, b4⟩, ?_, fun j j0 j1 => ?_, fun j j0 j1 => ?_, fun j j0 j1 => ?_, fun j jh j0 j1 => ?_, ?_⟩
  · refine IV_SE i ⟨fun f j f0 f1 j0 j1 => ?_, fun f j f0 f1 j0 j1 => ?_, ?_, ?_⟩
    · (try dsimp only at j1)
      rcases f02 f0 f1 with rfl | rfl | rfl <;> simp only [ak_0, ak_1, ak_2, ak_3, ak_4, ak_5, ak_6, ak_7, ak_8, ak_9, ak_n]
      · exact (vW_200 ⟨j0, by omega⟩ hn).symm
      · exact (vW_210 ⟨j0, by omega⟩ hn).symm
      · exact (vW_220 ⟨j0, by omega⟩ hn).symm
    · (try dsimp only at j1)
      rcases f39 f0 f1 with rfl | rfl | rfl | rfl | rfl | rfl | rfl <;> simp only [ak_0, ak_1, ak_2, ak_3, ak_4, ak_5, ak_6, ak_7, ak_8, ak_9, ak_n]
      · exact (vW_310 ⟨j0, by omega⟩ hn).symm
      · exact (vW_320 ⟨j0, by omega⟩ hn).symm
      · exact (vW_330 ⟨j0, by omega⟩ hn).symm
      · exact (vW_340 ⟨j0, by omega⟩ hn).symm
      · exact (vW_350 ⟨j0, by omega⟩ hn).symm
      · exact (vW_360 ⟨j0, by omega⟩ hn).symm
      · exact (vW_370 ⟨j0, by omega⟩ hn).symm
    · rw [ak_o, ak_o]
    · rw [ak_n, ak_n]
  · dsimp only at j1 ⊢
    rw [vW_100 ⟨j0, by omega⟩ hn, vW_120 ⟨j0, by omega⟩ hn]
    by_cases z : j = s.2.1
    · rw [if_pos z, if_pos z]; omega
    · rw [if_neg z, if_neg z]; exact w j j0 (by omega)
  · dsimp only at j1 ⊢; rw [vW_230 ⟨j0, by omega⟩ hn]; exact q j j0 j1
  · dsimp only at j1 ⊢; rw [vW_300 ⟨j0, by omega⟩ hn]; exact p j j0 j1
  · dsimp only at j1 ⊢; rw [vW_360 ⟨j0, by omega⟩ hn]; exact l j jh j0 j1
  · exact BN_fr bn (fun j j0 j1 => by (try dsimp only at j1); rw [ak_2, ak_2]; exact vW_220 ⟨j0, by omega⟩ hn) (fun j j0 j1 => by (try dsimp only at j1); rw [ak_9, ak_9]; exact vW_370 ⟨j0, by omega⟩ hn)
theorem KIV_O {s : KS} {H0 o nw a b c : Int} (h : KIV H0 s o nw) (hr : s.2.2.1 < 5) (ha : 0 ≤ a ∧ a ≤ 999) (hb : 0 ≤ b ∧ b < s.1) (hc : 0 ≤ c ∧ c ≤ 9) : KIV H0 (s.1, s.2.1, s.2.2.1 + 1, s.2.2.2.1, vO s.2.2.2.2 s.2.2.1 a b c) o nw := by
  obtain ⟨⟨b1, b2, b3, b4⟩, i, w, q, p, l, bn⟩ := h
  have hn : 0 ≤ s.2.2.1 ∧ s.2.2.1 < 10 := by omega
  have hn14 : 0 ≤ s.2.2.1 ∧ s.2.2.1 < 14 := by omega
  refine ⟨⟨b1, b2, by dsimp only; omega, b4⟩, ?_, fun j j0 j1 => ?_, fun j j0 j1 => ?_, fun j j0 j1 => ?_, fun j jh j0 j1 => ?_, ?_⟩
  · refine IV_pot i b3.1 (fun f j f0 f1 j0 j1 => ?_) (fun f j f0 f1 j0 j1 => ?_) ?_ ?_ ?_ ?_
    · (try dsimp only at j1)
      rcases f02 f0 f1 with rfl | rfl | rfl <;> simp only [ak_0, ak_1, ak_2, ak_3, ak_4, ak_5, ak_6, ak_7, ak_8, ak_9, ak_n]
      · rw [vO_200 ⟨j0, by omega⟩ hn, if_neg (by omega)]
      · rw [vO_210 ⟨j0, by omega⟩ hn, if_neg (by omega)]
      · rw [vO_220 ⟨j0, by omega⟩ hn, if_neg (by omega)]
    · (try dsimp only at j1)
      rcases f39 f0 f1 with rfl | rfl | rfl | rfl | rfl | rfl | rfl <;> simp only [ak_0, ak_1, ak_2, ak_3, ak_4, ak_5, ak_6, ak_7, ak_8, ak_9, ak_n]
      · exact vO_310 ⟨j0, by omega⟩ hn
      · exact vO_320 ⟨j0, by omega⟩ hn
      · exact vO_330 ⟨j0, by omega⟩ hn
      · exact vO_340 ⟨j0, by omega⟩ hn
      · exact vO_350 ⟨j0, by omega⟩ hn
      · exact vO_360 ⟨j0, by omega⟩ hn
      · exact vO_370 ⟨j0, by omega⟩ hn
    · rw [ak_n, ak_n]
    · rw [ak_0]; (try dsimp only); rw [vO_200 ⟨by omega, by omega⟩ hn, if_pos rfl]; exact ha
    · rw [ak_1]; (try dsimp only); rw [vO_210 ⟨by omega, by omega⟩ hn, if_pos rfl]; exact hb
    · rw [ak_2]; (try dsimp only); rw [vO_220 ⟨by omega, by omega⟩ hn, if_pos rfl]
  · dsimp only at j1 ⊢
    rw [vO_100 ⟨j0, by omega⟩ hn14, vO_120 ⟨j0, by omega⟩ hn14]; exact w j j0 j1
  · dsimp only at j1 ⊢; rw [vO_230 ⟨j0, by omega⟩ hn]
    by_cases z : j = s.2.2.1
    · rw [if_pos z]; exact hc
    · rw [if_neg z]; exact q j j0 (by omega)
  · dsimp only at j1 ⊢; rw [vO_300 ⟨j0, by omega⟩ hn]; exact p j j0 j1
  · dsimp only at j1 ⊢; rw [vO_360 ⟨j0, by omega⟩ hn]; exact l j jh j0 j1
  · exact BN_pot bn b3.1 (fun j j0 j1 => by (try dsimp only at j1); rw [ak_2, ak_2]; (try dsimp only); rw [vO_220 ⟨j0, by omega⟩ hn, if_neg (by omega)]) (fun j j0 j1 => by (try dsimp only at j1); rw [ak_9, ak_9]; exact vO_370 ⟨j0, by omega⟩ hn) (by rw [ak_2]; (try dsimp only); rw [vO_220 ⟨by omega, by omega⟩ hn, if_pos rfl])
theorem KIV_H {s : KS} {H0 o nw a b : Int} (h : KIV H0 s o nw) (hr : s.2.2.2.1 < 5) (ha : 0 ≤ a ∧ a ≤ 99) (hb : 0 ≤ b ∧ b < s.1) : KIV H0 (s.1, s.2.1, s.2.2.1, s.2.2.2.1 + 1, vH s.2.2.2.2 s.2.2.2.1 a b) o nw := by
  obtain ⟨⟨b1, b2, b3, b4⟩, i, w, q, p, l, bn⟩ := h
  have hn : 0 ≤ s.2.2.2.1 ∧ s.2.2.2.1 < 10 := by omega
  have hn14 : 0 ≤ s.2.2.2.1 ∧ s.2.2.2.1 < 14 := by omega
  refine ⟨⟨b1, b2, b3, by dsimp only; omega⟩, ?_, fun j j0 j1 => ?_, fun j j0 j1 => ?_, fun j j0 j1 => ?_, fun j jh j0 j1 => ?_, ?_⟩
  · refine IV_one i b4.1 (fun f j f0 f1 j0 j1 => ?_) (fun f j f0 f1 j0 j1 => ?_) ?_ b3.1 ?_ ?_ ?_ ?_ ?_ ?_
    · (try dsimp only at j1)
      rcases f02 f0 f1 with rfl | rfl | rfl <;> simp only [ak_0, ak_1, ak_2, ak_3, ak_4, ak_5, ak_6, ak_7, ak_8, ak_9, ak_n]
      · exact vH_200 ⟨j0, by omega⟩ hn
      · exact vH_210 ⟨j0, by omega⟩ hn
      · exact vH_220 ⟨j0, by omega⟩ hn
    · (try dsimp only at j1)
      rcases f39 f0 f1 with rfl | rfl | rfl | rfl | rfl | rfl | rfl <;> simp only [ak_0, ak_1, ak_2, ak_3, ak_4, ak_5, ak_6, ak_7, ak_8, ak_9, ak_n]
      · rw [vH_310 ⟨j0, by omega⟩ hn, if_neg (by omega)]
      · rw [vH_320 ⟨j0, by omega⟩ hn, if_neg (by omega)]
      · rw [vH_330 ⟨j0, by omega⟩ hn, if_neg (by omega)]
      · rw [vH_340 ⟨j0, by omega⟩ hn, if_neg (by omega)]
      · rw [vH_350 ⟨j0, by omega⟩ hn, if_neg (by omega)]
      · rw [vH_360 ⟨j0, by omega⟩ hn, if_neg (by omega)]
      · rw [vH_370 ⟨j0, by omega⟩ hn, if_neg (by omega)]
    · rw [ak_n, ak_n]
    · rw [ak_3]; (try dsimp only); rw [vH_310 ⟨by omega, by omega⟩ hn, if_pos rfl]; exact hb
    · rw [ak_4]; (try dsimp only); rw [vH_320 ⟨by omega, by omega⟩ hn, if_pos rfl]
    · rw [ak_5]; (try dsimp only); rw [vH_330 ⟨by omega, by omega⟩ hn, if_pos rfl]
    · rw [ak_6]; (try dsimp only); rw [vH_340 ⟨by omega, by omega⟩ hn, if_pos rfl]
    · rw [ak_7]; (try dsimp only); rw [vH_350 ⟨by omega, by omega⟩ hn, if_pos rfl]
    · rw [ak_8]; (try dsimp only); rw [vH_360 ⟨by omega, by omega⟩ hn, if_pos rfl]
  · dsimp only at j1 ⊢
    rw [vH_100 ⟨j0, by omega⟩ hn14, vH_120 ⟨j0, by omega⟩ hn14]; exact w j j0 j1
  · dsimp only at j1 ⊢; rw [vH_230 ⟨j0, by omega⟩ hn]; exact q j j0 j1
  · dsimp only at j1 ⊢; rw [vH_300 ⟨j0, by omega⟩ hn]
    by_cases z : j = s.2.2.2.1
    · rw [if_pos z]; exact ha
    · rw [if_neg z]; exact p j j0 (by omega)
  · dsimp only at j1 ⊢; rw [vH_360 ⟨j0, by omega⟩ hn]
    by_cases z : j = s.2.2.2.1
    · rw [if_pos z]
    · rw [if_neg z]; exact l j jh j0 (by omega)
  · exact BN_one bn b4.1 (fun j j0 j1 => by (try dsimp only at j1); rw [ak_2, ak_2]; exact vH_220 ⟨j0, by omega⟩ hn) (fun j j0 j1 => by (try dsimp only at j1); rw [ak_9, ak_9]; (try dsimp only); rw [vH_370 ⟨j0, by omega⟩ hn, if_neg (by omega)]) (by rw [ak_9]; (try dsimp only); rw [vH_370 ⟨by omega, by omega⟩ hn, if_pos rfl])
theorem some_s {α : Type} {a b : α} (h : some a = some b) : a = b := Option.some.inj h
theorem lk_I {T : Int → Int} {L p p' : Int} {s s' : KS} {H0 o nw : Int} (h : KIV H0 s o nw) (hl : lk T L s p = some (s', p')) : KIV H0 s' o nw := by
  unfold lk lkW lkO lkH at hl
  have n1 := nv_r (T := T) (L := L) 3 0 (p + 1) (by decide)
  have n2 := nv_r (T := T) (L := L) 2 0 (p + 1) (by decide)
  have n3 := nv_b (T := T) (L := L) (p := p + 1)
  have n4 := nv_c (T := T) (L := L) (p := p + 1)
  split at hl
  · split at hl
    · rename_i z
      rw [show s' = _ from (congrArg Prod.fst (some_s hl)).symm]; exact KIV_P h z
    · exact absurd hl (by simp)
  split at hl
  · split at hl
    · rename_i z
      obtain ⟨z1, z2, z3, z4, -⟩ := z
      unfold let1 at z2 z3
      rw [show s' = _ from (congrArg Prod.fst (some_s hl)).symm]; exact KIV_W h z1 (by omega) (by omega) (by omega)
    · exact absurd hl (by simp)
  split at hl
  · split at hl
    · rename_i z
      obtain ⟨z1, z2, z3, z4, z5, z6, z7, z8, -⟩ := z
      unfold let1 at z8
      unfold dgt at z5
      rw [show s' = _ from (congrArg Prod.fst (some_s hl)).symm]; exact KIV_O h z1 (by omega) (by omega) (by omega)
    · exact absurd hl (by simp)
  split at hl
  · split at hl
    · rename_i z
      obtain ⟨z1, z2, z3, z4, z5, z6⟩ := z
      unfold let1 at z6
      rw [show s' = _ from (congrArg Prod.fst (some_s hl)).symm]; exact KIV_H h z1 (by omega) (by omega)
    · exact absurd hl (by simp)
  · exact absurd hl (by simp)
theorem lks_I {T : Int → Int} {L : Int} {H0 o nw : Int} : ∀ (n : Nat) (s : KS) (p : Int) (s' : KS) (p' : Int), KIV H0 s o nw → lks T L n s p = some (s', p') → KIV H0 s' o nw
  | 0, _, _, _, _, _, h => absurd h (by simp [lks])
  | n + 1, s, p, s', p', h, hl => by
    generalize hA : lk T L s p = A
    rcases A with _ | ⟨s1, p1⟩
    · rw [lks_n n hA] at hl; exact absurd hl (by simp)
    · have h1 := lk_I h hA
      by_cases z : p1 < L ∧ T p1 = 59
      · rw [lks_y n hA z] at hl; exact lks_I n _ _ _ _ h1 hl
      · rw [lks_x n hA z] at hl
        rw [show s' = _ from (congrArg Prod.fst (some_s hl)).symm]; exact h1
theorem kit_I {T : Int → Int} {tc : Int} {s s' : KS} {H0 o nw : Int} (h : KIV H0 s o nw) (hl : kit T tc s = some s') : KIV H0 s' o nw := by
  generalize hA : lks T (min tc 76) 81 s 0 = A
  rcases A with _ | ⟨s1, p1⟩
  · rw [kit_n hA] at hl; exact absurd hl (by simp)
  · by_cases z : p1 = min tc 76 ∧ tc ≤ 76
    · rw [kit_y hA z] at hl
      rw [← some_s hl]; exact lks_I 81 _ _ _ _ h hA
    · rw [kit_x hA z] at hl; exact absurd hl (by simp)
end
