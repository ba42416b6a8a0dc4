/-! mark and wipe, to the letter -/
theorem p_143x {d : Nat} {e : Int} {m : Mem} {Q : Int → Sto → Prop} {a b : Int} (hs : 0 ≤ m 211 4 ∧ m 211 4 ≤ 8) (hp : 0 ≤ m 8 0 ∧ m 8 0 ≤ 10) (h1 : ∀ v, (0 ≤ a ∧ a < m 8 0 ∧ 0 ≤ b ∧ b ≤ 300 ∧ m 211 4 < 8) → v = m 211 4 + 1 → Q v (S9 e (upm (upm (upm m 212 (m 211 4) a) 213 (m 211 4) b) 211 4 v))) (hq : ¬ (0 ≤ a ∧ a < m 8 0 ∧ 0 ≤ b ∧ b ≤ 300 ∧ m 211 4 < 8) → Q (-1) (S9 e m)) : Cl (d + 3) 143 [1, a, b] Q (S9 e m) := by
  simp only [cl_143, runB, B143, ma_143, rho_200, wf_1_26, wf_1_92, wc_33, wc_144, cl_144, B144, ma_144, wf_12_15, wf_12_35, wf_12_9, wpf_12_35, wpopadd_pf_12_35, cl_33, B33, ma_33, rho_20, wf_4_30, w_cst, w_ldi, w_ldj, w_lda, w_ljk, w_ldk, w_ldw, w_ldk2, w_ldt, w_ldtw, w_neg, w_cvb, w_cvs, w_cvc, w_cvj, w_add, w_sub, w_mul, w_ban, w_bor, w_bxo, w_shl, w_shr, w_ush, w_dvi, w_rmi, w_aldi, w_aldj, w_aldz, w_aldc, w_alda, w_ite, w_cmp, w_cmj, w_cz, w_cnot, w_cand, w_cor, w_nil, w_cons, w_cvi, w_csta, w_cvt, w_cvv, w_csv, w_cpy, w_seq, w_sbr, w_sbn, w_brk, w_ifs, w_ifx, w_ife, w_wk, w_rets, w_rtv, w_thr, w_asi, w_asj, w_asa, w_inc, w_exs, w_asti, w_astj, w_astz, w_astc, w_aopadd, w_aopsub, w_sw, if_true, if_false, ↓reduceIte, hdl_c, S9_1, S9_m, bud9, live9, inb9, wrn, wr9_14, wr9_15, wr9_16, wr9_17, tq9_14, tq9_15, tq9_16, tq9_17, tq_0, tq_1, tq_3, upr_rl, rl_0, rl_1, rl_2, rl_3, rl_4, rl_5, rl_6, rl_7, rl_8, rl_9, rl_10, rl_11, rl_12, rl_13, sp_0, sp_1, sp_2, sp_3, sp_4, sp_5, sp_6, sp_7, sp_8, sp_9, sp_10, sp_11, sp_12, sp_13, se_0, se_1, se_2, se_3, se_4, se_5, se_6, se_7, se_8, se_9, se_10, se_11, se_12, se_13, sem_0, sem_1, sem_2, sem_3, sem_4, sem_5, kc_1, kl9_1, sr_1_0, sr_1_1, sr_1_10, sr_1_11, sr_1_13, sr_1_2, sr_1_3, sr_1_4, sr_1_5, sr_1_6, sr_1_7, sr_1_8, sr_1_9, kc_8, kl9_8, sr_8_10, sr_8_4, sr_8_5, sr_8_6, sr_8_7, sr_8_9, kc_211, kl9_211, sr_211_0, sr_211_1, sr_211_2, sr_211_3, sr_211_5, sr_211_6, sr_211_7, kc_212, kl9_212, kc_213, kl9_213, List.getD_cons_zero, List.getD_cons_succ, Bool.false_eq_true, wrn3, wrn1, cpmS, cpok9, upm_app, Int.reduceEq, and_self, and_true, true_and, and_false, false_and, if_true, if_false, ↓reduceIte]
  repeat' (first
    | (with_reducible exact True.intro)
    | omega
    | (with_reducible rfl)
    | (with_reducible contradiction)
    | (with_reducible refine And.intro ?_ ?_)
    | intro _
    | (with_reducible refine h1 _ ?_ ?_ <;> (first | omega | (unfold w32; omega)))
    | (with_reducible refine hq ?_ <;> (first | omega | (unfold w32; omega)))
    | (unfold w32; omega)
    | (simp (disch := omega) only [w32_eq]; omega)
    | (with_reducible show (_ : Int) ≤ _; simp [upm] <;> (first | omega | (unfold w32; omega)))
    | (with_reducible show (_ : Int) < _; simp [upm] <;> (first | omega | (unfold w32; omega))))

theorem p_145x {d : Nat} {e : Int} {m : Mem} {Q : Int → Sto → Prop}  (hq : Q (m 211 4) (S9 e (upm m 211 4 0))) : Cl (d + 1) 145 [1] Q (S9 e m) := by
  simp only [cl_145, runB, B145, ma_145, rho_2, wf_1_367, wf_1_92, wpf_1_367, w_cst, w_ldi, w_ldj, w_lda, w_ljk, w_ldk, w_ldw, w_ldk2, w_ldt, w_ldtw, w_neg, w_cvb, w_cvs, w_cvc, w_cvj, w_add, w_sub, w_mul, w_ban, w_bor, w_bxo, w_shl, w_shr, w_ush, w_dvi, w_rmi, w_aldi, w_aldj, w_aldz, w_aldc, w_alda, w_ite, w_cmp, w_cmj, w_cz, w_cnot, w_cand, w_cor, w_nil, w_cons, w_cvi, w_csta, w_cvt, w_cvv, w_csv, w_cpy, w_seq, w_sbr, w_sbn, w_brk, w_ifs, w_ifx, w_ife, w_wk, w_rets, w_rtv, w_thr, w_asi, w_asj, w_asa, w_inc, w_exs, w_asti, w_astj, w_astz, w_astc, w_aopadd, w_aopsub, w_sw, if_true, if_false, ↓reduceIte, hdl_c, S9_1, S9_m, bud9, live9, inb9, wrn, wr9_14, wr9_15, wr9_16, wr9_17, tq9_14, tq9_15, tq9_16, tq9_17, tq_0, tq_1, tq_3, upr_rl, rl_0, rl_1, rl_2, rl_3, rl_4, rl_5, rl_6, rl_7, rl_8, rl_9, rl_10, rl_11, rl_12, rl_13, sp_0, sp_1, sp_2, sp_3, sp_4, sp_5, sp_6, sp_7, sp_8, sp_9, sp_10, sp_11, sp_12, sp_13, se_0, se_1, se_2, se_3, se_4, se_5, se_6, se_7, se_8, se_9, se_10, se_11, se_12, se_13, sem_0, sem_1, sem_2, sem_3, sem_4, sem_5, kc_1, kl9_1, sr_1_0, sr_1_1, sr_1_10, sr_1_11, sr_1_13, sr_1_2, sr_1_3, sr_1_4, sr_1_5, sr_1_6, sr_1_7, sr_1_8, sr_1_9, kc_211, kl9_211, sr_211_0, sr_211_1, sr_211_2, sr_211_3, sr_211_5, sr_211_6, sr_211_7, List.getD_cons_zero, List.getD_cons_succ, Bool.false_eq_true, wrn3, wrn1, cpmS, cpok9]
  repeat' (first
    | (with_reducible exact True.intro)
    | omega
    | (with_reducible rfl)
    | (with_reducible contradiction)
    | (with_reducible refine And.intro ?_ ?_)
    | intro _
    | (with_reducible exact hq)
    | (unfold w32; omega)
    | (simp (disch := omega) only [w32_eq]; omega)
    | (with_reducible show (_ : Int) ≤ _; simp [upm] <;> (first | omega | (unfold w32; omega)))
    | (with_reducible show (_ : Int) < _; simp [upm] <;> (first | omega | (unfold w32; omega))))

theorem p_269x {d : Nat} {e : Int} {m : Mem} {Q : Int → Sto → Prop} {a b : Int} (hs : 0 ≤ m 249 62 ∧ m 249 62 ≤ 8) (hp : 0 ≤ m 249 3 ∧ m 249 3 ≤ 10) (h1 : ∀ v, (0 ≤ a ∧ a < m 249 3 ∧ 0 ≤ b ∧ b ≤ 300 ∧ m 249 62 < 8) → v = m 249 62 + 1 → Q v (S9 e (upm (upm (upm (upm m 249 0 0) 281 (m 249 62) a) 282 (m 249 62) b) 249 62 v))) (hq : ¬ (0 ≤ a ∧ a < m 249 3 ∧ 0 ≤ b ∧ b ≤ 300 ∧ m 249 62 < 8) → Q (-1) (S9 e (upm m 249 0 0))) : Cl (d + 3) 269 [249, a, b] Q (S9 e m) := by
  simp only [cl_269, runB, B269, ma_269, rho_200, wf_13_105, wf_13_108, wf_13_507, wpf_13_126, wpf_13_507, wpopadd_pf_13_507, wc_169, wc_194, w_cst, w_ldi, w_ldj, w_lda, w_ljk, w_ldk, w_ldw, w_ldk2, w_ldt, w_ldtw, w_neg, w_cvb, w_cvs, w_cvc, w_cvj, w_add, w_sub, w_mul, w_ban, w_bor, w_bxo, w_shl, w_shr, w_ush, w_dvi, w_rmi, w_aldi, w_aldj, w_aldz, w_aldc, w_alda, w_ite, w_cmp, w_cmj, w_cz, w_cnot, w_cand, w_cor, w_nil, w_cons, w_cvi, w_csta, w_cvt, w_cvv, w_csv, w_cpy, w_seq, w_sbr, w_sbn, w_brk, w_ifs, w_ifx, w_ife, w_wk, w_rets, w_rtv, w_thr, w_asi, w_asj, w_asa, w_inc, w_exs, w_asti, w_astj, w_astz, w_astc, w_aopadd, w_aopsub, w_sw, if_true, if_false, ↓reduceIte, hdl_c, S9_1, S9_m, bud9, live9, inb9, wrn, wr9_14, wr9_15, wr9_16, wr9_17, tq9_14, tq9_15, tq9_16, tq9_17, tq_0, tq_1, tq_3, upr_rl, rl_0, rl_1, rl_2, rl_3, rl_4, rl_5, rl_6, rl_7, rl_8, rl_9, rl_10, rl_11, rl_12, rl_13, sp_0, sp_1, sp_2, sp_3, sp_4, sp_5, sp_6, sp_7, sp_8, sp_9, sp_10, sp_11, sp_12, sp_13, se_0, se_1, se_2, se_3, se_4, se_5, se_6, se_7, se_8, se_9, se_10, se_11, se_12, se_13, sem_0, sem_1, sem_2, sem_3, sem_4, sem_5, kc_249, kl9_249, sr_249_10, sr_249_11, sr_249_12, sr_249_13, sr_249_14, sr_249_15, sr_249_16, sr_249_17, sr_249_2, sr_249_22, sr_249_23, sr_249_24, sr_249_25, sr_249_30, sr_249_31, sr_249_34, sr_249_35, sr_249_40, sr_249_41, sr_249_42, sr_249_43, sr_249_50, sr_249_51, sr_249_52, sr_249_54, sr_249_55, sr_249_57, sr_249_58, sr_249_61, sr_249_63, sr_249_64, sr_249_67, sr_249_68, sr_249_69, sr_249_70, sr_249_71, sr_249_8, sr_249_9, kc_281, kl9_281, kc_282, kl9_282, List.getD_cons_zero, List.getD_cons_succ, Bool.false_eq_true, wrn3, wrn1, cpmS, cpok9, upm_app, Int.reduceEq, and_self, and_true, true_and, and_false, false_and, if_true, if_false, ↓reduceIte]
  repeat' (first
    | (with_reducible exact True.intro)
    | omega
    | (with_reducible rfl)
    | (with_reducible contradiction)
    | (with_reducible refine And.intro ?_ ?_)
    | intro _
    | ((with_reducible refine p_194 ?_ (fun v9 h9 => ?_)); (next => (try simp only [upm_app, Int.reduceEq, and_self, and_true, true_and, and_false, false_and, if_true, if_false, ↓reduceIte]); omega); (try simp only [upm_app, Int.reduceEq, and_self, and_true, true_and, and_false, false_and, if_true, if_false, ↓reduceIte] at h9); simp only [hdl_c, S9_1, S9_m, bud9, live9, inb9, wrn, wr9_14, wr9_15, wr9_16, wr9_17, tq9_14, tq9_15, tq9_16, tq9_17, tq_0, tq_1, tq_3, upr_rl, rl_0, rl_1, rl_2, rl_3, rl_4, rl_5, rl_6, rl_7, rl_8, rl_9, rl_10, rl_11, rl_12, rl_13, sp_0, sp_1, sp_2, sp_3, sp_4, sp_5, sp_6, sp_7, sp_8, sp_9, sp_10, sp_11, sp_12, sp_13, se_0, se_1, se_2, se_3, se_4, se_5, se_6, se_7, se_8, se_9, se_10, se_11, se_12, se_13, sem_0, sem_1, sem_2, sem_3, sem_4, sem_5, List.getD_cons_zero, List.getD_cons_succ, Bool.false_eq_true, wrn3, wrn1, cpmS, cpok9, if_true, if_false, ↓reduceIte, wc_169, wc_194, kc_249, kl9_249, sr_249_10, sr_249_11, sr_249_12, sr_249_13, sr_249_14, sr_249_15, sr_249_16, sr_249_17, sr_249_2, sr_249_22, sr_249_23, sr_249_24, sr_249_25, sr_249_30, sr_249_31, sr_249_34, sr_249_35, sr_249_40, sr_249_41, sr_249_42, sr_249_43, sr_249_50, sr_249_51, sr_249_52, sr_249_54, sr_249_55, sr_249_57, sr_249_58, sr_249_61, sr_249_63, sr_249_64, sr_249_67, sr_249_68, sr_249_69, sr_249_70, sr_249_71, sr_249_8, sr_249_9, kc_281, kl9_281, kc_282, kl9_282, upm_app, Int.reduceEq, and_self, and_true, true_and, and_false, false_and, if_true, if_false, ↓reduceIte])
    | (with_reducible refine p_169 (fun v9 h9 => ?_); simp only [hdl_c, S9_1, S9_m, bud9, live9, inb9, wrn, wr9_14, wr9_15, wr9_16, wr9_17, tq9_14, tq9_15, tq9_16, tq9_17, tq_0, tq_1, tq_3, upr_rl, rl_0, rl_1, rl_2, rl_3, rl_4, rl_5, rl_6, rl_7, rl_8, rl_9, rl_10, rl_11, rl_12, rl_13, sp_0, sp_1, sp_2, sp_3, sp_4, sp_5, sp_6, sp_7, sp_8, sp_9, sp_10, sp_11, sp_12, sp_13, se_0, se_1, se_2, se_3, se_4, se_5, se_6, se_7, se_8, se_9, se_10, se_11, se_12, se_13, sem_0, sem_1, sem_2, sem_3, sem_4, sem_5, List.getD_cons_zero, List.getD_cons_succ, Bool.false_eq_true, wrn3, wrn1, cpmS, cpok9, if_true, if_false, ↓reduceIte, wc_169, wc_194, kc_249, kl9_249, sr_249_10, sr_249_11, sr_249_12, sr_249_13, sr_249_14, sr_249_15, sr_249_16, sr_249_17, sr_249_2, sr_249_22, sr_249_23, sr_249_24, sr_249_25, sr_249_30, sr_249_31, sr_249_34, sr_249_35, sr_249_40, sr_249_41, sr_249_42, sr_249_43, sr_249_50, sr_249_51, sr_249_52, sr_249_54, sr_249_55, sr_249_57, sr_249_58, sr_249_61, sr_249_63, sr_249_64, sr_249_67, sr_249_68, sr_249_69, sr_249_70, sr_249_71, sr_249_8, sr_249_9, kc_281, kl9_281, kc_282, kl9_282, upm_app, Int.reduceEq, and_self, and_true, true_and, and_false, false_and, if_true, if_false, ↓reduceIte]; (try simp (disch := omega) only [w15_0, w15_1, w15_3, w15_4, w15_5, w15_6, w3_0, w3_1, w3_2, upm_app, Int.reduceEq, and_self, and_true, true_and, and_false, false_and, if_true, if_false, ↓reduceIte]))
    | (with_reducible refine h1 _ ?_ ?_ <;> (first | omega | (unfold w32; omega)))
    | (with_reducible refine hq ?_ <;> (first | omega | (unfold w32; omega)))
    | (unfold w32; omega)
    | (simp (disch := omega) only [w32_eq]; omega)
    | (with_reducible show (_ : Int) ≤ _; simp [upm] <;> (first | omega | (unfold w32; omega)))
    | (with_reducible show (_ : Int) < _; simp [upm] <;> (first | omega | (unfold w32; omega))))

theorem p_270x {d : Nat} {e : Int} {m : Mem} {Q : Int → Sto → Prop}  (hq : Q (m 249 62) (S9 e (upm (upm m 249 0 0) 249 62 0))) : Cl (d + 1) 270 [249] Q (S9 e m) := by
  simp only [cl_270, runB, B270, ma_270, rho_2, wf_13_507, wpf_13_126, wpf_13_507, wpopadd_pf_13_507, w_cst, w_ldi, w_ldj, w_lda, w_ljk, w_ldk, w_ldw, w_ldk2, w_ldt, w_ldtw, w_neg, w_cvb, w_cvs, w_cvc, w_cvj, w_add, w_sub, w_mul, w_ban, w_bor, w_bxo, w_shl, w_shr, w_ush, w_dvi, w_rmi, w_aldi, w_aldj, w_aldz, w_aldc, w_alda, w_ite, w_cmp, w_cmj, w_cz, w_cnot, w_cand, w_cor, w_nil, w_cons, w_cvi, w_csta, w_cvt, w_cvv, w_csv, w_cpy, w_seq, w_sbr, w_sbn, w_brk, w_ifs, w_ifx, w_ife, w_wk, w_rets, w_rtv, w_thr, w_asi, w_asj, w_asa, w_inc, w_exs, w_asti, w_astj, w_astz, w_astc, w_aopadd, w_aopsub, w_sw, if_true, if_false, ↓reduceIte, hdl_c, S9_1, S9_m, bud9, live9, inb9, wrn, wr9_14, wr9_15, wr9_16, wr9_17, tq9_14, tq9_15, tq9_16, tq9_17, tq_0, tq_1, tq_3, upr_rl, rl_0, rl_1, rl_2, rl_3, rl_4, rl_5, rl_6, rl_7, rl_8, rl_9, rl_10, rl_11, rl_12, rl_13, sp_0, sp_1, sp_2, sp_3, sp_4, sp_5, sp_6, sp_7, sp_8, sp_9, sp_10, sp_11, sp_12, sp_13, se_0, se_1, se_2, se_3, se_4, se_5, se_6, se_7, se_8, se_9, se_10, se_11, se_12, se_13, sem_0, sem_1, sem_2, sem_3, sem_4, sem_5, kc_249, kl9_249, sr_249_10, sr_249_11, sr_249_12, sr_249_13, sr_249_14, sr_249_15, sr_249_16, sr_249_17, sr_249_2, sr_249_22, sr_249_23, sr_249_24, sr_249_25, sr_249_30, sr_249_31, sr_249_34, sr_249_35, sr_249_40, sr_249_41, sr_249_42, sr_249_43, sr_249_50, sr_249_51, sr_249_52, sr_249_54, sr_249_55, sr_249_57, sr_249_58, sr_249_61, sr_249_63, sr_249_64, sr_249_67, sr_249_68, sr_249_69, sr_249_70, sr_249_71, sr_249_8, sr_249_9, List.getD_cons_zero, List.getD_cons_succ, Bool.false_eq_true, wrn3, wrn1, cpmS, cpok9, upm_app, Int.reduceEq, and_self, and_true, true_and, and_false, false_and, if_true, if_false, ↓reduceIte]
  repeat' (first
    | (with_reducible exact True.intro)
    | omega
    | (with_reducible rfl)
    | (with_reducible contradiction)
    | (with_reducible refine And.intro ?_ ?_)
    | intro _
    | (with_reducible exact hq)
    | (unfold w32; omega)
    | (simp (disch := omega) only [w32_eq]; omega)
    | (with_reducible show (_ : Int) ≤ _; simp [upm] <;> (first | omega | (unfold w32; omega)))
    | (with_reducible show (_ : Int) < _; simp [upm] <;> (first | omega | (unfold w32; omega))))

