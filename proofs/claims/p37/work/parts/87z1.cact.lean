/-! the component's acts without loops, to the letter -/
theorem l_95 {d : Nat} {e : Int} {m : Mem} {Q : Int → Sto → Prop} {a : Int} (hq : Q (bcf a) (S9 e m)) : Cl (d + 1) 95 [a] Q (S9 e m) := by
  simp only [cl_95, runB, B95, ma_95, rho_0, w_cst, w_ldi, w_ldj, w_lda, w_ljk, w_ldk, w_ldw, w_ldk2, w_ldt, w_ldtw, w_neg, w_cvb, w_cvs, w_cvc, w_cvj, w_add, w_sub, w_mul, w_ban, w_bor, w_bxo, w_shl, w_shr, w_ush, w_dvi, w_rmi, w_aldi, w_aldj, w_aldz, w_aldc, w_alda, w_ite, w_cmp, w_cmj, w_cz, w_cnot, w_cand, w_cor, w_nil, w_cons, w_cvi, w_csta, w_cvt, w_cvv, w_csv, w_cpy, w_seq, w_sbr, w_sbn, w_brk, w_ifs, w_ifx, w_ife, w_wk, w_rets, w_rtv, w_thr, w_asi, w_asj, w_asa, w_inc, w_exs, w_asti, w_astj, w_astz, w_astc, w_aopadd, w_aopsub, w_sw, if_true, if_false, ↓reduceIte, hdl_c, S9_1, S9_m, bud9, live9, inb9, wrn, wr9_14, wr9_15, wr9_16, wr9_17, tq9_14, tq9_15, tq9_16, tq9_17, tq_0, tq_1, tq_3, upr_rl, rl_0, rl_1, rl_2, rl_3, rl_4, rl_5, rl_6, rl_7, rl_8, rl_9, rl_10, rl_11, rl_12, rl_13, sp_0, sp_1, sp_2, sp_3, sp_4, sp_5, sp_6, sp_7, sp_8, sp_9, sp_10, sp_11, sp_12, sp_13, se_0, se_1, se_2, se_3, se_4, se_5, se_6, se_7, se_8, se_9, se_10, se_11, se_12, se_13, sem_0, sem_1, sem_2, sem_3, sem_4, sem_5, List.getD_cons_zero, List.getD_cons_succ, Bool.false_eq_true, wrn3, wrn1, cpmS, cpok9, upm_app, Int.reduceEq, and_self, and_true, true_and, and_false, false_and, if_true, if_false, ↓reduceIte, Int.reduceNe, ne_eq, not_false_eq_true, not_true_eq_false]
  exact hq
set_option maxHeartbeats 4000000 in
theorem l_62 {d : Nat} {e : Int} {m : Mem} {Q : Int → Sto → Prop} {a b : Int} (hH : 0 ≤ m 8 3 ∧ m 8 3 ≤ 5) (hP : 0 ≤ m 8 2 ∧ m 8 2 ≤ 5) (c0 : ¬ (0 ≤ a ∧ a < m 8 3) → Q (-1) (S9 e m)) (c1 : (0 ≤ a ∧ a < m 8 3) → m 23 a ≠ -1 → Q (-2) (S9 e m)) (c2 : (0 ≤ a ∧ a < m 8 3) → m 23 a = -1 → ¬ (0 ≤ b ∧ b < m 8 2 ∧ m 17 b = m 19 a) → Q (-3) (S9 e m)) (c3 : (0 ≤ a ∧ a < m 8 3) → m 23 a = -1 → (0 ≤ b ∧ b < m 8 2 ∧ m 17 b = m 19 a) → Q (m 16 b) (S9 e (upm (upm (upm m 17 b (-1)) 18 b a) 23 a b))) : Cl (d + 2) 62 [26, a, b] Q (S9 e m) := by
  simp only [cl_62, runB, B62, ma_62, rho_200, wf_7_27, wf_7_31, wf_7_80, wf_7_86, wf_7_89, wf_7_92, wf_7_95, wc_52, wc_63, cl_63, B63, ma_63, rho_20, wf_4_40, cl_52, B52, ma_52, wf_4_37, w_cst, w_ldi, w_ldj, w_lda, w_ljk, w_ldk, w_ldw, w_ldk2, w_ldt, w_ldtw, w_neg, w_cvb, w_cvs, w_cvc, w_cvj, w_add, w_sub, w_mul, w_ban, w_bor, w_bxo, w_shl, w_shr, w_ush, w_dvi, w_rmi, w_aldi, w_aldj, w_aldz, w_aldc, w_alda, w_ite, w_cmp, w_cmj, w_cz, w_cnot, w_cand, w_cor, w_nil, w_cons, w_cvi, w_csta, w_cvt, w_cvv, w_csv, w_cpy, w_seq, w_sbr, w_sbn, w_brk, w_ifs, w_ifx, w_ife, w_wk, w_rets, w_rtv, w_thr, w_asi, w_asj, w_asa, w_inc, w_exs, w_asti, w_astj, w_astz, w_astc, w_aopadd, w_aopsub, w_sw, if_true, if_false, ↓reduceIte, hdl_c, S9_1, S9_m, bud9, live9, inb9, wrn, wr9_14, wr9_15, wr9_16, wr9_17, tq9_14, tq9_15, tq9_16, tq9_17, tq_0, tq_1, tq_3, upr_rl, rl_0, rl_1, rl_2, rl_3, rl_4, rl_5, rl_6, rl_7, rl_8, rl_9, rl_10, rl_11, rl_12, rl_13, sp_0, sp_1, sp_2, sp_3, sp_4, sp_5, sp_6, sp_7, sp_8, sp_9, sp_10, sp_11, sp_12, sp_13, se_0, se_1, se_2, se_3, se_4, se_5, se_6, se_7, se_8, se_9, se_10, se_11, se_12, se_13, sem_0, sem_1, sem_2, sem_3, sem_4, sem_5, kc_8, sr_8_4, sr_8_9, sr_8_7, sr_8_6, sr_8_10, kl9_8, sr_8_5, kl9_9, kc_9, sr_15_7, sr_15_9, kl9_15, sr_15_5, sr_15_2, sr_15_4, sr_15_1, sr_15_6, kc_15, sr_15_8, sr_15_0, kl9_16, kc_16, kl9_17, kc_17, kc_18, kl9_18, kc_19, kl9_19, kl9_20, kc_20, kc_21, kl9_21, kl9_22, kc_22, kc_23, kl9_23, kc_24, kl9_24, sr_26_12, kl9_26, sr_26_1, kc_26, sr_26_0, sr_26_10, sr_26_11, sr_26_7, sr_26_2, sr_26_3, List.getD_cons_zero, List.getD_cons_succ, Bool.false_eq_true, wrn3, wrn1, cpmS, cpok9, upm_app, Int.reduceEq, and_self, and_true, true_and, and_false, false_and, if_true, if_false, ↓reduceIte, Int.reduceNe, ne_eq, not_false_eq_true, not_true_eq_false]
  repeat' (first
    | (with_reducible exact True.intro)
    | omega
    | (with_reducible rfl)
    | (with_reducible contradiction)
    | (with_reducible refine And.intro ?_ ?_)
    | intro _
    | ((with_reducible refine c0 ?_) <;> (first | omega | assumption | (unfold w32; omega) | (unfold w32 at *; omega) | (simp only [not_and_or]; omega)))
    | ((with_reducible refine c1 ?_ ?_) <;> (first | omega | assumption | (unfold w32; omega) | (unfold w32 at *; omega) | (simp only [not_and_or]; omega)))
    | ((with_reducible refine c2 ?_ ?_ ?_) <;> (first | omega | assumption | (unfold w32; omega) | (unfold w32 at *; omega) | (simp only [not_and_or]; omega)))
    | ((with_reducible refine c3 ?_ ?_ ?_) <;> (first | omega | assumption | (unfold w32; omega) | (unfold w32 at *; omega) | (simp only [not_and_or]; omega)))
    | (unfold w32; omega)
    | (simp (disch := omega) only [w32_eq]; omega)
    | (with_reducible show (_ : Int) ≤ _; simp [upm] <;> (first | omega | (unfold w32; omega)))
    | (with_reducible show (_ : Int) < _; simp [upm] <;> (first | omega | (unfold w32; omega))))

set_option maxHeartbeats 4000000 in
theorem l_66 {d : Nat} {e : Int} {m : Mem} {Q : Int → Sto → Prop} {a : Int} (hH : 0 ≤ m 8 3 ∧ m 8 3 ≤ 5) (hP : 0 ≤ m 8 2 ∧ m 8 2 ≤ 5) (hL : 0 ≤ m 8 0 ∧ m 8 0 ≤ 10) (c0 : ¬ (0 ≤ a ∧ a < m 8 3) → Q (-1) (S9 e m)) (c1 : (0 ≤ a ∧ a < m 8 3) → ¬ (0 ≤ m 23 a ∧ m 23 a < m 8 2) → Q (-2) (S9 e m)) (c2 : (0 ≤ a ∧ a < m 8 3) → (0 ≤ m 23 a ∧ m 23 a < m 8 2) → ¬ (0 ≤ m 19 a ∧ m 19 a < m 8 0 ∧ m 9 (m 19 a) ≠ 0) → Q (-3) (S9 e m)) (c3 : (0 ≤ a ∧ a < m 8 3) → (0 ≤ m 23 a ∧ m 23 a < m 8 2) → (0 ≤ m 19 a ∧ m 19 a < m 8 0 ∧ m 9 (m 19 a) ≠ 0) → Q (m 23 a) (S9 e (upm (upm (upm m 23 a (-1)) 18 (m 23 a) (-1)) 17 (m 23 a) (m 19 a)))) : Cl (d + 2) 66 [26, a] Q (S9 e m) := by
  simp only [cl_66, runB, B66, ma_66, rho_20, wf_7_101, wf_7_27, wf_7_31, wf_7_80, wf_7_86, wf_7_89, wf_7_92, wc_33, wc_52, wc_63, cl_63, B63, ma_63, wf_4_40, cl_52, B52, ma_52, wf_4_37, cl_33, B33, ma_33, wf_4_30, w_cst, w_ldi, w_ldj, w_lda, w_ljk, w_ldk, w_ldw, w_ldk2, w_ldt, w_ldtw, w_neg, w_cvb, w_cvs, w_cvc, w_cvj, w_add, w_sub, w_mul, w_ban, w_bor, w_bxo, w_shl, w_shr, w_ush, w_dvi, w_rmi, w_aldi, w_aldj, w_aldz, w_aldc, w_alda, w_ite, w_cmp, w_cmj, w_cz, w_cnot, w_cand, w_cor, w_nil, w_cons, w_cvi, w_csta, w_cvt, w_cvv, w_csv, w_cpy, w_seq, w_sbr, w_sbn, w_brk, w_ifs, w_ifx, w_ife, w_wk, w_rets, w_rtv, w_thr, w_asi, w_asj, w_asa, w_inc, w_exs, w_asti, w_astj, w_astz, w_astc, w_aopadd, w_aopsub, w_sw, if_true, if_false, ↓reduceIte, hdl_c, S9_1, S9_m, bud9, live9, inb9, wrn, wr9_14, wr9_15, wr9_16, wr9_17, tq9_14, tq9_15, tq9_16, tq9_17, tq_0, tq_1, tq_3, upr_rl, rl_0, rl_1, rl_2, rl_3, rl_4, rl_5, rl_6, rl_7, rl_8, rl_9, rl_10, rl_11, rl_12, rl_13, sp_0, sp_1, sp_2, sp_3, sp_4, sp_5, sp_6, sp_7, sp_8, sp_9, sp_10, sp_11, sp_12, sp_13, se_0, se_1, se_2, se_3, se_4, se_5, se_6, se_7, se_8, se_9, se_10, se_11, se_12, se_13, sem_0, sem_1, sem_2, sem_3, sem_4, sem_5, kc_8, sr_8_4, sr_8_9, sr_8_7, sr_8_6, sr_8_10, kl9_8, sr_8_5, kl9_9, kc_9, sr_15_7, sr_15_9, kl9_15, sr_15_5, sr_15_2, sr_15_4, sr_15_1, sr_15_6, kc_15, sr_15_8, sr_15_0, kl9_16, kc_16, kl9_17, kc_17, kc_18, kl9_18, kc_19, kl9_19, kl9_20, kc_20, kc_21, kl9_21, kl9_22, kc_22, kc_23, kl9_23, kc_24, kl9_24, sr_26_12, kl9_26, sr_26_1, kc_26, sr_26_0, sr_26_10, sr_26_11, sr_26_7, sr_26_2, sr_26_3, List.getD_cons_zero, List.getD_cons_succ, Bool.false_eq_true, wrn3, wrn1, cpmS, cpok9, upm_app, Int.reduceEq, and_self, and_true, true_and, and_false, false_and, if_true, if_false, ↓reduceIte, Int.reduceNe, ne_eq, not_false_eq_true, not_true_eq_false]
  repeat' (first
    | (with_reducible exact True.intro)
    | omega
    | (with_reducible rfl)
    | (with_reducible contradiction)
    | (with_reducible refine And.intro ?_ ?_)
    | intro _
    | ((with_reducible refine c0 ?_) <;> (first | omega | assumption | (unfold w32; omega) | (unfold w32 at *; omega) | (simp only [not_and_or]; omega)))
    | ((with_reducible refine c1 ?_ ?_) <;> (first | omega | assumption | (unfold w32; omega) | (unfold w32 at *; omega) | (simp only [not_and_or]; omega)))
    | ((with_reducible refine c2 ?_ ?_ ?_) <;> (first | omega | assumption | (unfold w32; omega) | (unfold w32 at *; omega) | (simp only [not_and_or]; omega)))
    | ((with_reducible refine c3 ?_ ?_ ?_) <;> (first | omega | assumption | (unfold w32; omega) | (unfold w32 at *; omega) | (simp only [not_and_or]; omega)))
    | (unfold w32; omega)
    | (simp (disch := omega) only [w32_eq]; omega)
    | (with_reducible show (_ : Int) ≤ _; simp [upm] <;> (first | omega | (unfold w32; omega)))
    | (with_reducible show (_ : Int) < _; simp [upm] <;> (first | omega | (unfold w32; omega))))

set_option maxHeartbeats 4000000 in
theorem l_88 {d : Nat} {e : Int} {m : Mem} {Q : Int → Sto → Prop} {a : Int} (hH : 0 ≤ m 8 3 ∧ m 8 3 ≤ 5) (hP : 0 ≤ m 8 2 ∧ m 8 2 ≤ 5) (hh : ∀ j, 0 ≤ m 21 j ∧ m 21 j ≤ 1) (c0 : ¬ (0 ≤ a ∧ a < m 8 3) → Q (-1) (S9 e m)) (c1 : (0 ≤ a ∧ a < m 8 3) → Q (1 - m 21 a) (S9 e (upm m 21 a (1 - m 21 a)))) : Cl (d + 2) 88 [26, a] Q (S9 e m) := by
  have ew : w32 (1 - m 21 a) = 1 - m 21 a := by
    have := hh a
    unfold w32; omega
  simp only [cl_88, runB, B88, ma_88, rho_20, wf_7_127, wf_7_27, wf_7_31, wc_63, cl_63, B63, ma_63, wf_4_40, w_cst, w_ldi, w_ldj, w_lda, w_ljk, w_ldk, w_ldw, w_ldk2, w_ldt, w_ldtw, w_neg, w_cvb, w_cvs, w_cvc, w_cvj, w_add, w_sub, w_mul, w_ban, w_bor, w_bxo, w_shl, w_shr, w_ush, w_dvi, w_rmi, w_aldi, w_aldj, w_aldz, w_aldc, w_alda, w_ite, w_cmp, w_cmj, w_cz, w_cnot, w_cand, w_cor, w_nil, w_cons, w_cvi, w_csta, w_cvt, w_cvv, w_csv, w_cpy, w_seq, w_sbr, w_sbn, w_brk, w_ifs, w_ifx, w_ife, w_wk, w_rets, w_rtv, w_thr, w_asi, w_asj, w_asa, w_inc, w_exs, w_asti, w_astj, w_astz, w_astc, w_aopadd, w_aopsub, w_sw, if_true, if_false, ↓reduceIte, hdl_c, S9_1, S9_m, bud9, live9, inb9, wrn, wr9_14, wr9_15, wr9_16, wr9_17, tq9_14, tq9_15, tq9_16, tq9_17, tq_0, tq_1, tq_3, upr_rl, rl_0, rl_1, rl_2, rl_3, rl_4, rl_5, rl_6, rl_7, rl_8, rl_9, rl_10, rl_11, rl_12, rl_13, sp_0, sp_1, sp_2, sp_3, sp_4, sp_5, sp_6, sp_7, sp_8, sp_9, sp_10, sp_11, sp_12, sp_13, se_0, se_1, se_2, se_3, se_4, se_5, se_6, se_7, se_8, se_9, se_10, se_11, se_12, se_13, sem_0, sem_1, sem_2, sem_3, sem_4, sem_5, kc_8, sr_8_4, sr_8_9, sr_8_7, sr_8_6, sr_8_10, kl9_8, sr_8_5, kl9_9, kc_9, sr_15_7, sr_15_9, kl9_15, sr_15_5, sr_15_2, sr_15_4, sr_15_1, sr_15_6, kc_15, sr_15_8, sr_15_0, kl9_16, kc_16, kl9_17, kc_17, kc_18, kl9_18, kc_19, kl9_19, kl9_20, kc_20, kc_21, kl9_21, kl9_22, kc_22, kc_23, kl9_23, kc_24, kl9_24, sr_26_12, kl9_26, sr_26_1, kc_26, sr_26_0, sr_26_10, sr_26_11, sr_26_7, sr_26_2, sr_26_3, List.getD_cons_zero, List.getD_cons_succ, Bool.false_eq_true, wrn3, wrn1, cpmS, cpok9, upm_app, Int.reduceEq, and_self, and_true, true_and, and_false, false_and, if_true, if_false, ↓reduceIte, Int.reduceNe, ne_eq, not_false_eq_true, not_true_eq_false, ew]
  repeat' (first
    | (with_reducible exact True.intro)
    | omega
    | (with_reducible rfl)
    | (with_reducible contradiction)
    | (with_reducible refine And.intro ?_ ?_)
    | intro _
    | ((with_reducible refine c0 ?_) <;> (first | omega | assumption | (unfold w32; omega) | (unfold w32 at *; omega) | (simp only [not_and_or]; omega)))
    | ((with_reducible refine c1 ?_) <;> (first | omega | assumption | (unfold w32; omega) | (unfold w32 at *; omega) | (simp only [not_and_or]; omega)))
    | (unfold w32; omega)
    | (simp (disch := omega) only [w32_eq]; omega)
    | (with_reducible show (_ : Int) ≤ _; simp [upm] <;> (first | omega | (unfold w32; omega)))
    | (with_reducible show (_ : Int) < _; simp [upm] <;> (first | omega | (unfold w32; omega))))

set_option maxHeartbeats 4000000 in
theorem l_90 {d : Nat} {e : Int} {m : Mem} {Q : Int → Sto → Prop} {a b : Int} (hH : 0 ≤ m 8 3 ∧ m 8 3 ≤ 5) (hP : 0 ≤ m 8 2 ∧ m 8 2 ≤ 5) (c0 : ¬ ((0 ≤ a ∧ a < m 8 3) ∧ (0 ≤ b ∧ b < m 8 3) ∧ a ≠ b) → Q (-1) (S9 e m)) (c1 : ((0 ≤ a ∧ a < m 8 3) ∧ (0 ≤ b ∧ b < m 8 3) ∧ a ≠ b) → ¬ (0 ≤ m 23 a ∧ m 23 a < m 8 2 ∧ m 23 b = -1) → Q (-2) (S9 e m)) (c2 : ((0 ≤ a ∧ a < m 8 3) ∧ (0 ≤ b ∧ b < m 8 3) ∧ a ≠ b) → (0 ≤ m 23 a ∧ m 23 a < m 8 2 ∧ m 23 b = -1) → m 19 a ≠ m 19 b → Q (-3) (S9 e m)) (c3 : ((0 ≤ a ∧ a < m 8 3) ∧ (0 ≤ b ∧ b < m 8 3) ∧ a ≠ b) → (0 ≤ m 23 a ∧ m 23 a < m 8 2 ∧ m 23 b = -1) → m 19 a = m 19 b → Q (m 23 a) (S9 e (upm (upm (upm m 23 a (-1)) 23 b (m 23 a)) 18 (m 23 a) b))) : Cl (d + 2) 90 [26, a, b] Q (S9 e m) := by
  simp only [cl_90, runB, B90, ma_90, rho_200, wf_7_27, wf_7_31, wf_7_80, wf_7_89, wf_7_92, wc_52, wc_63, cl_63, B63, ma_63, rho_20, wf_4_40, cl_52, B52, ma_52, wf_4_37, w_cst, w_ldi, w_ldj, w_lda, w_ljk, w_ldk, w_ldw, w_ldk2, w_ldt, w_ldtw, w_neg, w_cvb, w_cvs, w_cvc, w_cvj, w_add, w_sub, w_mul, w_ban, w_bor, w_bxo, w_shl, w_shr, w_ush, w_dvi, w_rmi, w_aldi, w_aldj, w_aldz, w_aldc, w_alda, w_ite, w_cmp, w_cmj, w_cz, w_cnot, w_cand, w_cor, w_nil, w_cons, w_cvi, w_csta, w_cvt, w_cvv, w_csv, w_cpy, w_seq, w_sbr, w_sbn, w_brk, w_ifs, w_ifx, w_ife, w_wk, w_rets, w_rtv, w_thr, w_asi, w_asj, w_asa, w_inc, w_exs, w_asti, w_astj, w_astz, w_astc, w_aopadd, w_aopsub, w_sw, if_true, if_false, ↓reduceIte, hdl_c, S9_1, S9_m, bud9, live9, inb9, wrn, wr9_14, wr9_15, wr9_16, wr9_17, tq9_14, tq9_15, tq9_16, tq9_17, tq_0, tq_1, tq_3, upr_rl, rl_0, rl_1, rl_2, rl_3, rl_4, rl_5, rl_6, rl_7, rl_8, rl_9, rl_10, rl_11, rl_12, rl_13, sp_0, sp_1, sp_2, sp_3, sp_4, sp_5, sp_6, sp_7, sp_8, sp_9, sp_10, sp_11, sp_12, sp_13, se_0, se_1, se_2, se_3, se_4, se_5, se_6, se_7, se_8, se_9, se_10, se_11, se_12, se_13, sem_0, sem_1, sem_2, sem_3, sem_4, sem_5, kc_8, sr_8_4, sr_8_9, sr_8_7, sr_8_6, sr_8_10, kl9_8, sr_8_5, kl9_9, kc_9, sr_15_7, sr_15_9, kl9_15, sr_15_5, sr_15_2, sr_15_4, sr_15_1, sr_15_6, kc_15, sr_15_8, sr_15_0, kl9_16, kc_16, kl9_17, kc_17, kc_18, kl9_18, kc_19, kl9_19, kl9_20, kc_20, kc_21, kl9_21, kl9_22, kc_22, kc_23, kl9_23, kc_24, kl9_24, sr_26_12, kl9_26, sr_26_1, kc_26, sr_26_0, sr_26_10, sr_26_11, sr_26_7, sr_26_2, sr_26_3, List.getD_cons_zero, List.getD_cons_succ, Bool.false_eq_true, wrn3, wrn1, cpmS, cpok9, upm_app, Int.reduceEq, and_self, and_true, true_and, and_false, false_and, if_true, if_false, ↓reduceIte, Int.reduceNe, ne_eq, not_false_eq_true, not_true_eq_false]
  repeat' (first
    | (with_reducible exact True.intro)
    | omega
    | (with_reducible rfl)
    | (with_reducible contradiction)
    | (with_reducible refine And.intro ?_ ?_)
    | intro _
    | ((with_reducible refine c0 ?_) <;> (first | omega | assumption | (unfold w32; omega) | (unfold w32 at *; omega) | (simp only [not_and_or]; omega)))
    | ((with_reducible refine c1 ?_ ?_) <;> (first | omega | assumption | (unfold w32; omega) | (unfold w32 at *; omega) | (simp only [not_and_or]; omega)))
    | ((with_reducible refine c2 ?_ ?_ ?_) <;> (first | omega | assumption | (unfold w32; omega) | (unfold w32 at *; omega) | (simp only [not_and_or]; omega)))
    | ((with_reducible refine c3 ?_ ?_ ?_) <;> (first | omega | assumption | (unfold w32; omega) | (unfold w32 at *; omega) | (simp only [not_and_or]; omega)))
    | (unfold w32; omega)
    | (simp (disch := omega) only [w32_eq]; omega)
    | (with_reducible show (_ : Int) ≤ _; simp [upm] <;> (first | omega | (unfold w32; omega)))
    | (with_reducible show (_ : Int) < _; simp [upm] <;> (first | omega | (unfold w32; omega))))

set_option maxHeartbeats 4000000 in
theorem l_92 {d : Nat} {e : Int} {m : Mem} {Q : Int → Sto → Prop} {a b : Int} (hH : 0 ≤ m 8 3 ∧ m 8 3 ≤ 5) (hP : 0 ≤ m 8 2 ∧ m 8 2 ≤ 5) (c0 : ¬ ((0 ≤ a ∧ a < m 8 3) ∧ 0 ≤ b ∧ b ≤ 9) → Q (-1) (S9 e m)) (c1 : ((0 ≤ a ∧ a < m 8 3) ∧ 0 ≤ b ∧ b ≤ 9) → Q (m 22 a) (S9 e (upm m 22 a b))) : Cl (d + 2) 92 [26, a, b] Q (S9 e m) := by
  simp only [cl_92, runB, B92, ma_92, rho_200, wf_7_175, wf_7_27, wf_7_31, wc_63, cl_63, B63, ma_63, rho_20, wf_4_40, w_cst, w_ldi, w_ldj, w_lda, w_ljk, w_ldk, w_ldw, w_ldk2, w_ldt, w_ldtw, w_neg, w_cvb, w_cvs, w_cvc, w_cvj, w_add, w_sub, w_mul, w_ban, w_bor, w_bxo, w_shl, w_shr, w_ush, w_dvi, w_rmi, w_aldi, w_aldj, w_aldz, w_aldc, w_alda, w_ite, w_cmp, w_cmj, w_cz, w_cnot, w_cand, w_cor, w_nil, w_cons, w_cvi, w_csta, w_cvt, w_cvv, w_csv, w_cpy, w_seq, w_sbr, w_sbn, w_brk, w_ifs, w_ifx, w_ife, w_wk, w_rets, w_rtv, w_thr, w_asi, w_asj, w_asa, w_inc, w_exs, w_asti, w_astj, w_astz, w_astc, w_aopadd, w_aopsub, w_sw, if_true, if_false, ↓reduceIte, hdl_c, S9_1, S9_m, bud9, live9, inb9, wrn, wr9_14, wr9_15, wr9_16, wr9_17, tq9_14, tq9_15, tq9_16, tq9_17, tq_0, tq_1, tq_3, upr_rl, rl_0, rl_1, rl_2, rl_3, rl_4, rl_5, rl_6, rl_7, rl_8, rl_9, rl_10, rl_11, rl_12, rl_13, sp_0, sp_1, sp_2, sp_3, sp_4, sp_5, sp_6, sp_7, sp_8, sp_9, sp_10, sp_11, sp_12, sp_13, se_0, se_1, se_2, se_3, se_4, se_5, se_6, se_7, se_8, se_9, se_10, se_11, se_12, se_13, sem_0, sem_1, sem_2, sem_3, sem_4, sem_5, kc_8, sr_8_4, sr_8_9, sr_8_7, sr_8_6, sr_8_10, kl9_8, sr_8_5, kl9_9, kc_9, sr_15_7, sr_15_9, kl9_15, sr_15_5, sr_15_2, sr_15_4, sr_15_1, sr_15_6, kc_15, sr_15_8, sr_15_0, kl9_16, kc_16, kl9_17, kc_17, kc_18, kl9_18, kc_19, kl9_19, kl9_20, kc_20, kc_21, kl9_21, kl9_22, kc_22, kc_23, kl9_23, kc_24, kl9_24, sr_26_12, kl9_26, sr_26_1, kc_26, sr_26_0, sr_26_10, sr_26_11, sr_26_7, sr_26_2, sr_26_3, List.getD_cons_zero, List.getD_cons_succ, Bool.false_eq_true, wrn3, wrn1, cpmS, cpok9, upm_app, Int.reduceEq, and_self, and_true, true_and, and_false, false_and, if_true, if_false, ↓reduceIte, Int.reduceNe, ne_eq, not_false_eq_true, not_true_eq_false]
  repeat' (first
    | (with_reducible exact True.intro)
    | omega
    | (with_reducible rfl)
    | (with_reducible contradiction)
    | (with_reducible refine And.intro ?_ ?_)
    | intro _
    | ((with_reducible refine c0 ?_) <;> (first | omega | assumption | (unfold w32; omega) | (unfold w32 at *; omega) | (simp only [not_and_or]; omega)))
    | ((with_reducible refine c1 ?_) <;> (first | omega | assumption | (unfold w32; omega) | (unfold w32 at *; omega) | (simp only [not_and_or]; omega)))
    | (unfold w32; omega)
    | (simp (disch := omega) only [w32_eq]; omega)
    | (with_reducible show (_ : Int) ≤ _; simp [upm] <;> (first | omega | (unfold w32; omega)))
    | (with_reducible show (_ : Int) < _; simp [upm] <;> (first | omega | (unfold w32; omega))))

set_option maxHeartbeats 4000000 in
theorem l_94 {d : Nat} {e : Int} {m : Mem} {Q : Int → Sto → Prop} {a b : Int} (hw : 0 ≤ m 8 1 ∧ m 8 1 ≤ 14) (c0 : ¬ ((0 ≤ a ∧ a < m 8 1) ∧ iand (ishr (m 8 8) a) 1 ≠ 0 ∧ 0 ≤ b ∧ b ≤ 1) → Q (-1) (S9 e m)) (c1 : ((0 ≤ a ∧ a < m 8 1) ∧ iand (ishr (m 8 8) a) 1 ≠ 0 ∧ 0 ≤ b ∧ b ≤ 1) → Q (bcf (ior (iand (m 15 10) (ixor (ishl 1 a) (-1))) (ishl b a))) (S9 e (upm m 15 10 (ior (iand (m 15 10) (ixor (ishl 1 a) (-1))) (ishl b a))))) : Cl (d + 3) 94 [26, a, b] Q (S9 e m) := by
  simp only [cl_94, runB, B94, ma_94, rho_200, wf_7_107, wf_7_27, wf_7_31, wpf_7_107, wc_70, wc_72, wc_95, cl_70, B70, ma_70, rho_20, wf_4_34, cl_72, B72, ma_72, wf_4_43, w_cst, w_ldi, w_ldj, w_lda, w_ljk, w_ldk, w_ldw, w_ldk2, w_ldt, w_ldtw, w_neg, w_cvb, w_cvs, w_cvc, w_cvj, w_add, w_sub, w_mul, w_ban, w_bor, w_bxo, w_shl, w_shr, w_ush, w_dvi, w_rmi, w_aldi, w_aldj, w_aldz, w_aldc, w_alda, w_ite, w_cmp, w_cmj, w_cz, w_cnot, w_cand, w_cor, w_nil, w_cons, w_cvi, w_csta, w_cvt, w_cvv, w_csv, w_cpy, w_seq, w_sbr, w_sbn, w_brk, w_ifs, w_ifx, w_ife, w_wk, w_rets, w_rtv, w_thr, w_asi, w_asj, w_asa, w_inc, w_exs, w_asti, w_astj, w_astz, w_astc, w_aopadd, w_aopsub, w_sw, if_true, if_false, ↓reduceIte, hdl_c, S9_1, S9_m, bud9, live9, inb9, wrn, wr9_14, wr9_15, wr9_16, wr9_17, tq9_14, tq9_15, tq9_16, tq9_17, tq_0, tq_1, tq_3, upr_rl, rl_0, rl_1, rl_2, rl_3, rl_4, rl_5, rl_6, rl_7, rl_8, rl_9, rl_10, rl_11, rl_12, rl_13, sp_0, sp_1, sp_2, sp_3, sp_4, sp_5, sp_6, sp_7, sp_8, sp_9, sp_10, sp_11, sp_12, sp_13, se_0, se_1, se_2, se_3, se_4, se_5, se_6, se_7, se_8, se_9, se_10, se_11, se_12, se_13, sem_0, sem_1, sem_2, sem_3, sem_4, sem_5, kc_8, sr_8_4, sr_8_9, sr_8_7, sr_8_6, sr_8_10, kl9_8, sr_8_5, kl9_9, kc_9, sr_15_7, sr_15_9, kl9_15, sr_15_5, sr_15_2, sr_15_4, sr_15_1, sr_15_6, kc_15, sr_15_8, sr_15_0, kl9_16, kc_16, kl9_17, kc_17, kc_18, kl9_18, kc_19, kl9_19, kl9_20, kc_20, kc_21, kl9_21, kl9_22, kc_22, kc_23, kl9_23, kc_24, kl9_24, sr_26_12, kl9_26, sr_26_1, kc_26, sr_26_0, sr_26_10, sr_26_11, sr_26_7, sr_26_2, sr_26_3, List.getD_cons_zero, List.getD_cons_succ, Bool.false_eq_true, wrn3, wrn1, cpmS, cpok9, upm_app, Int.reduceEq, and_self, and_true, true_and, and_false, false_and, if_true, if_false, ↓reduceIte, Int.reduceNe, ne_eq, not_false_eq_true, not_true_eq_false]
  repeat' (first
    | (with_reducible exact True.intro)
    | omega
    | (with_reducible rfl)
    | (with_reducible contradiction)
    | (with_reducible refine And.intro ?_ ?_)
    | intro _
    | ((with_reducible refine l_95 ?_); simp only [hdl_c, S9_1, S9_m, bud9, live9, inb9, wrn, wr9_14, wr9_15, wr9_16, wr9_17, tq9_14, tq9_15, tq9_16, tq9_17, tq_0, tq_1, tq_3, upr_rl, rl_0, rl_1, rl_2, rl_3, rl_4, rl_5, rl_6, rl_7, rl_8, rl_9, rl_10, rl_11, rl_12, rl_13, sp_0, sp_1, sp_2, sp_3, sp_4, sp_5, sp_6, sp_7, sp_8, sp_9, sp_10, sp_11, sp_12, sp_13, se_0, se_1, se_2, se_3, se_4, se_5, se_6, se_7, se_8, se_9, se_10, se_11, se_12, se_13, sem_0, sem_1, sem_2, sem_3, sem_4, sem_5, List.getD_cons_zero, List.getD_cons_succ, Bool.false_eq_true, wrn3, wrn1, cpmS, cpok9, if_true, if_false, ↓reduceIte, wc_70, wc_72, wc_95, cl_70, runB, B70, ma_70, rho_20, wf_4_34, cl_72, B72, ma_72, wf_4_43, w_cst, w_ldi, w_ldj, w_lda, w_ljk, w_ldk, w_ldw, w_ldk2, w_ldt, w_ldtw, w_neg, w_cvb, w_cvs, w_cvc, w_cvj, w_add, w_sub, w_mul, w_ban, w_bor, w_bxo, w_shl, w_shr, w_ush, w_dvi, w_rmi, w_aldi, w_aldj, w_aldz, w_aldc, w_alda, w_ite, w_cmp, w_cmj, w_cz, w_cnot, w_cand, w_cor, w_nil, w_cons, w_cvi, w_csta, w_cvt, w_cvv, w_csv, w_cpy, w_seq, w_sbr, w_sbn, w_brk, w_ifs, w_ifx, w_ife, w_wk, w_rets, w_rtv, w_thr, w_asi, w_asj, w_asa, w_inc, w_exs, w_asti, w_astj, w_astz, w_astc, w_aopadd, w_aopsub, w_sw, if_true, if_false, ↓reduceIte, kc_8, sr_8_4, sr_8_9, sr_8_7, sr_8_6, sr_8_10, kl9_8, sr_8_5, kl9_9, kc_9, sr_15_7, sr_15_9, kl9_15, sr_15_5, sr_15_2, sr_15_4, sr_15_1, sr_15_6, kc_15, sr_15_8, sr_15_0, kl9_16, kc_16, kl9_17, kc_17, kc_18, kl9_18, kc_19, kl9_19, kl9_20, kc_20, kc_21, kl9_21, kl9_22, kc_22, kc_23, kl9_23, kc_24, kl9_24, sr_26_12, kl9_26, sr_26_1, kc_26, sr_26_0, sr_26_10, sr_26_11, sr_26_7, sr_26_2, sr_26_3, upm_app, Int.reduceEq, and_self, and_true, true_and, and_false, false_and, if_true, if_false, ↓reduceIte, Int.reduceNe, ne_eq, not_false_eq_true, not_true_eq_false])
    | ((with_reducible refine c0 ?_) <;> (first | omega | assumption | (unfold w32; omega) | (unfold w32 at *; omega) | (simp only [not_and_or]; omega)))
    | ((with_reducible refine c1 ?_) <;> (first | omega | assumption | (unfold w32; omega) | (unfold w32 at *; omega) | (simp only [not_and_or]; omega)))
    | (unfold w32; omega)
    | (simp (disch := omega) only [w32_eq]; omega)
    | (with_reducible show (_ : Int) ≤ _; simp [upm] <;> (first | omega | (unfold w32; omega)))
    | (with_reducible show (_ : Int) < _; simp [upm] <;> (first | omega | (unfold w32; omega))))

set_option maxHeartbeats 4000000 in
theorem l_51 {d : Nat} {e : Int} {m : Mem} {Q : Int → Sto → Prop} {a b : Int} (hP : 0 ≤ m 8 2 ∧ m 8 2 ≤ 5) (c0 : ¬ ((0 ≤ a ∧ a < m 8 2) ∧ iand (ishr (m 15 3) a) 1 = 0 ∧ 0 ≤ b ∧ b ≤ 999) → Q (-1) (S9 e m)) (c1 : ((0 ≤ a ∧ a < m 8 2) ∧ iand (ishr (m 15 3) a) 1 = 0 ∧ 0 ≤ b ∧ b ≤ 999) → Q (m 16 a) (S9 e (upm m 16 a b))) : Cl (d + 2) 51 [1, a, b] Q (S9 e m) := by
  simp only [cl_51, runB, B51, ma_51, rho_200, wf_1_176, wf_1_26, wf_1_33, wc_52, wc_53, cl_52, B52, ma_52, rho_20, wf_4_37, cl_53, B53, ma_53, wf_5_45, w_cst, w_ldi, w_ldj, w_lda, w_ljk, w_ldk, w_ldw, w_ldk2, w_ldt, w_ldtw, w_neg, w_cvb, w_cvs, w_cvc, w_cvj, w_add, w_sub, w_mul, w_ban, w_bor, w_bxo, w_shl, w_shr, w_ush, w_dvi, w_rmi, w_aldi, w_aldj, w_aldz, w_aldc, w_alda, w_ite, w_cmp, w_cmj, w_cz, w_cnot, w_cand, w_cor, w_nil, w_cons, w_cvi, w_csta, w_cvt, w_cvv, w_csv, w_cpy, w_seq, w_sbr, w_sbn, w_brk, w_ifs, w_ifx, w_ife, w_wk, w_rets, w_rtv, w_thr, w_asi, w_asj, w_asa, w_inc, w_exs, w_asti, w_astj, w_astz, w_astc, w_aopadd, w_aopsub, w_sw, if_true, if_false, ↓reduceIte, hdl_c, S9_1, S9_m, bud9, live9, inb9, wrn, wr9_14, wr9_15, wr9_16, wr9_17, tq9_14, tq9_15, tq9_16, tq9_17, tq_0, tq_1, tq_3, upr_rl, rl_0, rl_1, rl_2, rl_3, rl_4, rl_5, rl_6, rl_7, rl_8, rl_9, rl_10, rl_11, rl_12, rl_13, sp_0, sp_1, sp_2, sp_3, sp_4, sp_5, sp_6, sp_7, sp_8, sp_9, sp_10, sp_11, sp_12, sp_13, se_0, se_1, se_2, se_3, se_4, se_5, se_6, se_7, se_8, se_9, se_10, se_11, se_12, se_13, sem_0, sem_1, sem_2, sem_3, sem_4, sem_5, kl9_1, sr_1_7, sr_1_9, sr_1_0, sr_1_1, sr_1_8, sr_1_10, sr_1_11, sr_1_5, sr_1_2, sr_1_4, kc_1, sr_1_6, sr_1_3, sr_1_13, kc_8, sr_8_4, sr_8_9, sr_8_7, sr_8_6, sr_8_10, kl9_8, sr_8_5, kl9_9, kc_9, sr_15_7, sr_15_9, kl9_15, sr_15_5, sr_15_2, sr_15_4, sr_15_1, sr_15_6, kc_15, sr_15_8, sr_15_0, kl9_16, kc_16, kl9_17, kc_17, kc_18, kl9_18, kc_19, kl9_19, kl9_20, kc_20, kc_21, kl9_21, kl9_22, kc_22, kc_23, kl9_23, kc_24, kl9_24, sr_26_12, kl9_26, sr_26_1, kc_26, sr_26_0, sr_26_10, sr_26_11, sr_26_7, sr_26_2, sr_26_3, List.getD_cons_zero, List.getD_cons_succ, Bool.false_eq_true, wrn3, wrn1, cpmS, cpok9, upm_app, Int.reduceEq, and_self, and_true, true_and, and_false, false_and, if_true, if_false, ↓reduceIte, Int.reduceNe, ne_eq, not_false_eq_true, not_true_eq_false]
  repeat' (first
    | (with_reducible exact True.intro)
    | omega
    | (with_reducible rfl)
    | (with_reducible contradiction)
    | (with_reducible refine And.intro ?_ ?_)
    | intro _
    | ((with_reducible refine c0 ?_) <;> (first | omega | assumption | (unfold w32; omega) | (unfold w32 at *; omega) | (simp only [not_and_or]; omega)))
    | ((with_reducible refine c1 ?_) <;> (first | omega | assumption | (unfold w32; omega) | (unfold w32 at *; omega) | (simp only [not_and_or]; omega)))
    | (unfold w32; omega)
    | (simp (disch := omega) only [w32_eq]; omega)
    | (with_reducible show (_ : Int) ≤ _; simp [upm] <;> (first | omega | (unfold w32; omega)))
    | (with_reducible show (_ : Int) < _; simp [upm] <;> (first | omega | (unfold w32; omega))))

theorem FA_rf (m : Mem) : FA m m := fun _ _ _ => rfl
theorem FA_up {m m' : Mem} {a j v : Int} (h : FA m m') (ha : (15 ≤ a ∧ a ≤ 25) ∨ a = 7 ∨ (a = 26 ∧ 4 ≤ j ∧ j ≤ 6)) : FA m (upm m' a j v) := fun x y q => by
  rw [upm_app, if_neg (by omega)]; exact h x y q
theorem HD_take {L P H : Int} {x : AS} {h : Int → Int} {a b : Int} (hd : HD P H x h) (iv : IV L P H x) (ha : per H a) (hb : per P b) (h8 : x 8 a = -1) (h1 : x 1 b = x 3 a) {x' : AS} {h' : Int → Int} (hx : ∀ j, x' 8 j = if j = a then b else x 8 j) (hh : ∀ j, h' j = if j = b then a else h j) : HD P H x' h' := fun q q0 q1 => by
  obtain ⟨c, d⟩ := hd q q0 q1
  have i3 := (iv.1 a ha.1 ha.2).2.1
  rw [hh]
  by_cases z : q = b
  · rw [if_pos z]
    refine ⟨⟨by omega, ha.2⟩, fun p p0 p1 => ?_⟩
    rw [hx]
    by_cases y : p = a
    · rw [if_pos y]; omega
    · rw [if_neg y]
      constructor
      · intro w
        have := ((iv.1 p p0 p1).2.2.2.1 (by omega)).1
        rw [w, z, h1] at this; omega
      · intro w; omega
  · rw [if_neg z]
    refine ⟨c, fun p p0 p1 => ?_⟩
    rw [hx]
    by_cases y : p = a
    · subst y
      rw [if_pos rfl]
      have := d p p0 p1
      constructor
      · intro w; omega
      · intro w; have := this.2 w; omega
    · rw [if_neg y]; exact d p p0 p1
theorem HD_give {L P H : Int} {x : AS} {h : Int → Int} {a b : Int} (hd : HD P H x h) (iv : IV L P H x) (ha : per H a) (hb : per H b) (hab : a ≠ b) (h8 : 0 ≤ x 8 a) (hb8 : x 8 b = -1) {x' : AS} {h' : Int → Int} (hx : ∀ j, x' 8 j = if j = b then x 8 a else if j = a then -1 else x 8 j) (hh : ∀ j, h' j = if j = x 8 a then b else h j) : HD P H x' h' := fun q q0 q1 => by
  obtain ⟨c, d⟩ := hd q q0 q1
  rw [hh]
  by_cases z : q = x 8 a
  · rw [if_pos z]
    refine ⟨⟨by have := hb.1; omega, hb.2⟩, fun p p0 p1 => ?_⟩
    rw [hx]
    by_cases y : p = b
    · rw [if_pos y]; omega
    · rw [if_neg y]
      by_cases w : p = a
      · rw [if_pos w]; omega
      · rw [if_neg w]
        constructor
        · intro v; exact absurd (iv.2.1 p a p0 p1 ha.1 ha.2 (v.trans z) (by omega)) w
        · intro v; omega
  · rw [if_neg z]
    refine ⟨c, fun p p0 p1 => ?_⟩
    rw [hx]
    by_cases y : p = b
    · subst y
      rw [if_pos rfl]
      have := d p p0 p1
      constructor
      · intro w; omega
      · intro w; have := this.2 w; omega
    · rw [if_neg y]
      by_cases w : p = a
      · subst w
        rw [if_pos rfl]
        have := d p p0 p1
        constructor
        · intro v; omega
        · intro v; have := this.2 v; omega
      · rw [if_neg w]; exact d p p0 p1
theorem f_62 {d : Nat} {tc e : Int} {g : Fg} {m : Mem} {Q : Int → Sto → Prop} {L : Int} {a b : Int} (hJ : JC 3 g tc m) (hI : IV L (m 8 2) (m 8 3) (asC m 15)) (hD : HD (m 8 2) (m 8 3) (asC m 15) (m 18)) (hq : ∀ v m', JC 3 g tc m' → FA m m' → HD (m 8 2) (m 8 3) (asC m' 15) (m' 18) → (v, asC m' 15) = aTake (m 8 2) (m 8 3) (asC m 15) a b → Q v (S9 e m')) : Cl (d + 2) 62 [26, a, b] Q (S9 e m) := by
  have hs := JC_s hJ
  have hH : 0 ≤ m 8 3 ∧ m 8 3 ≤ 5 := by omega
  have hP : 0 ≤ m 8 2 ∧ m 8 2 ≤ 5 := by omega
  refine l_62 hH hP (fun z => hq _ _ hJ (FA_rf m) hD ?_) (fun z w => hq _ _ hJ (FA_rf m) hD ?_) (fun z w y => hq _ _ hJ (FA_rf m) hD ?_) (fun z w y => ?_)
  · unfold aTake; rw [if_pos z]
  · unfold aTake; rw [if_neg (not_not_intro z), if_pos (by rw [c_8 m (by omega)]; exact w)]
  · unfold aTake; rw [if_neg (not_not_intro z), if_neg (by rw [c_8 m (by omega)]; exact not_not_intro w)]
    rw [if_pos (fun q => y ⟨q.1.1, q.1.2, by obtain ⟨⟨q0, q1⟩, q2⟩ := q; rw [c_1 m (by omega), c_3 m (by omega)] at q2; exact q2⟩)]
  · have e1 : asC m 15 1 b = m 17 b := c_1 m (by omega)
    have e3 : asC m 15 3 a = m 19 a := c_3 m (by omega)
    have e8 : asC m 15 8 a = m 23 a := c_8 m (by omega)
    have ex : asC (upm (upm (upm m 17 b (-1)) 18 b a) 23 a b) 15 = asU (asU (asC m 15) 1 b (-1)) 8 a b := by
      rw [asC_8 _ _ (by omega), asC_x _ (Or.inr (Or.inr (Or.inl rfl))), asC_1 _ _ (by omega)]
    refine hq _ _ (by refine JC_of (JC_l hJ) ?_ (by decide); repeat (first | assumption | (refine JC_up ?_ (by first | decide | (unfold frC; omega)) (by first | (simp [BdC, hnd]; done) | (simp [BdC, hnd, upm, cpf] <;> first | omega | (unfold w32; omega)))))) (FA_up (FA_up (FA_up (FA_rf m) (by omega)) (by omega)) (by omega)) ?_ ?_
    · rw [ex]
      refine HD_take hD hI z ⟨y.1, y.2.1⟩ (by rw [e8]; exact w) (by rw [e1, e3]; exact y.2.2) (fun j => ?_) (fun j => ?_)
      · rw [asU_app, asU_f _ _ _ _ (by decide)]; simp
      · rw [upm_f _ _ _ _ _ (by decide), upm_app, upm_f _ _ _ _ _ (by decide)]; simp
    · rw [ex]
      unfold aTake
      rw [if_neg (not_not_intro z), if_neg (by rw [e8]; exact not_not_intro w), if_neg (not_not_intro ⟨⟨y.1, y.2.1⟩, by rw [e1, e3]; exact y.2.2⟩), c_0 m (by omega)]
theorem f_66 {d : Nat} {tc e : Int} {g : Fg} {m : Mem} {Q : Int → Sto → Prop} {L : Int} {a : Int} (hJ : JC 3 g tc m) (hI : IV L (m 8 2) (m 8 3) (asC m 15)) (hD : HD (m 8 2) (m 8 3) (asC m 15) (m 18)) (hLm : L ≤ m 8 0) (hq : ∀ v m', JC 3 g tc m' → FA m m' → HD (m 8 2) (m 8 3) (asC m' 15) (m' 18) → (v, asC m' 15) = aDown (m 8 3) (m 9) (asC m 15) a → Q v (S9 e m')) : Cl (d + 2) 66 [26, a] Q (S9 e m) := by
  have hs := JC_s hJ
  have hH : 0 ≤ m 8 3 ∧ m 8 3 ≤ 5 := by omega
  have hP : 0 ≤ m 8 2 ∧ m 8 2 ≤ 5 := by omega
  have hL0 : 0 ≤ m 8 0 ∧ m 8 0 ≤ 10 := by omega
  refine l_66 hH hP hL0 (fun z => hq _ _ hJ (FA_rf m) hD ?_) (fun z w => hq _ _ hJ (FA_rf m) hD ?_) (fun z w y => hq _ _ hJ (FA_rf m) hD ?_) (fun z w y => ?_)
  · unfold aDown; rw [if_pos z]
  · have i8 := (hI.1 a z.1 z.2).1
    rw [c_8 m (by omega)] at i8
    unfold aDown; rw [if_neg (not_not_intro z), if_pos (by rw [c_8 m (by omega)]; omega)]
  · have i3 := (hI.1 a z.1 z.2).2.1
    rw [c_3 m (by omega)] at i3
    unfold aDown; rw [if_neg (not_not_intro z), if_neg (by rw [c_8 m (by omega)]; omega), if_pos (by rw [c_3 m (by omega)]; exact Decidable.byContradiction (fun q => y ⟨i3.1, by omega, q⟩))]
  · have e3 : asC m 15 3 a = m 19 a := c_3 m (by omega)
    have e8 : asC m 15 8 a = m 23 a := c_8 m (by omega)
    have ex : asC (upm (upm (upm m 23 a (-1)) 18 (m 23 a) (-1)) 17 (m 23 a) (m 19 a)) 15 = asU (asU (asC m 15) 8 a (-1)) 1 (m 23 a) (m 19 a) := by
      rw [asC_1 _ _ (by omega), asC_x _ (Or.inr (Or.inr (Or.inl rfl))), asC_8 _ _ (by omega)]
    refine hq _ _ (by refine JC_of (JC_l hJ) ?_ (by decide); repeat (first | assumption | (refine JC_up ?_ (by first | decide | (unfold frC; omega)) (by first | (simp [BdC, hnd]; done) | (simp [BdC, hnd, upm, cpf] <;> first | omega | (unfold w32; omega)))))) (FA_up (FA_up (FA_up (FA_rf m) (by omega)) (by omega)) (by omega)) ?_ ?_
    · rw [ex]
      refine HD_burn hD hI z.1 z.2 (by rw [e8]; exact w.1) (fun j => ?_) (fun j => ?_)
      · rw [asU_f _ _ _ _ (by decide), asU_app]; simp
      · rw [upm_f _ _ _ _ _ (by decide), upm_app, upm_f _ _ _ _ _ (by decide), e8]; simp
    · rw [ex]
      unfold aDown
      rw [if_neg (not_not_intro z), if_neg (by rw [e8]; omega), if_neg (by rw [e3]; exact y.2.2), e8, e3]
theorem f_88 {d : Nat} {tc e : Int} {g : Fg} {m : Mem} {Q : Int → Sto → Prop} {L : Int} {a : Int} (hJ : JC 3 g tc m) (hI : IV L (m 8 2) (m 8 3) (asC m 15)) (hD : HD (m 8 2) (m 8 3) (asC m 15) (m 18)) (hq : ∀ v m', JC 3 g tc m' → FA m m' → HD (m 8 2) (m 8 3) (asC m' 15) (m' 18) → (v, asC m' 15) = aChange (m 8 3) (asC m 15) a → Q v (S9 e m')) : Cl (d + 2) 88 [26, a] Q (S9 e m) := by
  have hs := JC_s hJ
  have hH : 0 ≤ m 8 3 ∧ m 8 3 ≤ 5 := by omega
  have hP : 0 ≤ m 8 2 ∧ m 8 2 ≤ 5 := by omega
  refine l_88 hH hP (fun j => ⟨(JC_h hJ j).1, (JC_h hJ j).2⟩) (fun z => hq _ _ hJ (FA_rf m) hD ?_) (fun z => ?_)
  · unfold aChange; rw [if_pos z]
  · have ex : asC (upm m 21 a (1 - m 21 a)) 15 = asU (asC m 15) 6 a (1 - m 21 a) := asC_6 _ _ (by omega)
    have h1 := JC_h hJ a
    refine hq _ _ (by refine JC_of (JC_l hJ) ?_ (by decide); repeat (first | assumption | (refine JC_up ?_ (by first | decide | (unfold frC; omega)) (by first | (simp [BdC, hnd]; done) | (simp [BdC, hnd, upm, cpf] <;> first | omega | (unfold w32; omega)))))) (FA_up (FA_rf m) (by omega)) ?_ ?_
    · refine HD_e hD (fun j j0 j1 => ?_) (fun j => ?_)
      · rw [ex, asU_f _ _ _ _ (by decide)]
      · rw [upm_f _ _ _ _ _ (by decide)]
    · rw [ex]
      unfold aChange
      rw [if_neg (not_not_intro z), c_6 m (by omega)]
theorem f_90 {d : Nat} {tc e : Int} {g : Fg} {m : Mem} {Q : Int → Sto → Prop} {L : Int} {a b : Int} (hJ : JC 3 g tc m) (hI : IV L (m 8 2) (m 8 3) (asC m 15)) (hD : HD (m 8 2) (m 8 3) (asC m 15) (m 18)) (hq : ∀ v m', JC 3 g tc m' → FA m m' → HD (m 8 2) (m 8 3) (asC m' 15) (m' 18) → (v, asC m' 15) = aGive (m 8 3) (asC m 15) a b → Q v (S9 e m')) : Cl (d + 2) 90 [26, a, b] Q (S9 e m) := by
  have hs := JC_s hJ
  have hH : 0 ≤ m 8 3 ∧ m 8 3 ≤ 5 := by omega
  have hP : 0 ≤ m 8 2 ∧ m 8 2 ≤ 5 := by omega
  refine l_90 hH hP (fun z => hq _ _ hJ (FA_rf m) hD ?_) (fun z w => hq _ _ hJ (FA_rf m) hD ?_) (fun z w y => hq _ _ hJ (FA_rf m) hD ?_) (fun z w y => ?_)
  · unfold aGive; rw [if_pos z]
  · have i8 := (hI.1 a z.1.1 z.1.2).1
    rw [c_8 m (by omega)] at i8
    unfold aGive; rw [if_neg (not_not_intro z), if_pos (fun q => w (by rw [c_8 m (by omega), c_8 m (by omega)] at q; exact ⟨q.1, i8.2, q.2⟩))]
  · unfold aGive; rw [if_neg (not_not_intro z), if_neg (not_not_intro (by rw [c_8 m (by omega), c_8 m (by omega)]; exact ⟨w.1, w.2.2⟩)), if_pos (by rw [c_3 m (by omega), c_3 m (by omega)]; exact y)]
  · have ea : asC m 15 8 a = m 23 a := c_8 m (by omega)
    have eb : asC m 15 8 b = m 23 b := c_8 m (by omega)
    have ex : asC (upm (upm (upm m 23 a (-1)) 23 b (m 23 a)) 18 (m 23 a) b) 15 = asU (asU (asC m 15) 8 a (-1)) 8 b (m 23 a) := by
      rw [asC_x _ (Or.inr (Or.inr (Or.inl rfl))), asC_8 _ _ (by omega), asC_8 _ _ (by omega)]
    refine hq _ _ (by refine JC_of (JC_l hJ) ?_ (by decide); repeat (first | assumption | (refine JC_up ?_ (by first | decide | (unfold frC; omega)) (by first | (simp [BdC, hnd]; done) | (simp [BdC, hnd, upm, cpf] <;> first | omega | (unfold w32; omega)))))) (FA_up (FA_up (FA_up (FA_rf m) (by omega)) (by omega)) (by omega)) ?_ ?_
    · rw [ex]
      refine HD_give hD hI z.1 z.2.1 z.2.2 (by rw [ea]; exact w.1) (by rw [eb]; exact w.2.2) (fun j => ?_) (fun j => ?_)
      · rw [asU_app, asU_app, ea]; simp
      · rw [upm_app, upm_f _ _ _ _ _ (by decide), upm_f _ _ _ _ _ (by decide), ea]; simp
    · rw [ex]
      unfold aGive
      rw [if_neg (not_not_intro z), if_neg (not_not_intro (by rw [ea, eb]; exact ⟨w.1, w.2.2⟩)), if_neg (not_not_intro (by rw [c_3 m (by omega), c_3 m (by omega)]; exact y)), ea]
theorem f_92 {d : Nat} {tc e : Int} {g : Fg} {m : Mem} {Q : Int → Sto → Prop} {L : Int} {a b : Int} (hJ : JC 3 g tc m) (hI : IV L (m 8 2) (m 8 3) (asC m 15)) (hD : HD (m 8 2) (m 8 3) (asC m 15) (m 18)) (hq : ∀ v m', JC 3 g tc m' → FA m m' → HD (m 8 2) (m 8 3) (asC m' 15) (m' 18) → (v, asC m' 15) = aFold (m 8 3) (asC m 15) a b → Q v (S9 e m')) : Cl (d + 2) 92 [26, a, b] Q (S9 e m) := by
  have hs := JC_s hJ
  have hH : 0 ≤ m 8 3 ∧ m 8 3 ≤ 5 := by omega
  have hP : 0 ≤ m 8 2 ∧ m 8 2 ≤ 5 := by omega
  refine l_92 hH hP (fun z => hq _ _ hJ (FA_rf m) hD ?_) (fun z => ?_)
  · unfold aFold; rw [if_pos z]
  · have ex : asC (upm m 22 a b) 15 = asU (asC m 15) 7 a b := asC_7 _ _ (by omega)
    refine hq _ _ (by refine JC_of (JC_l hJ) ?_ (by decide); repeat (first | assumption | (refine JC_up ?_ (by first | decide | (unfold frC; omega)) (by first | (simp [BdC, hnd]; done) | (simp [BdC, hnd, upm, cpf] <;> first | omega | (unfold w32; omega)))))) (FA_up (FA_rf m) (by omega)) ?_ ?_
    · refine HD_e hD (fun j j0 j1 => ?_) (fun j => ?_)
      · rw [ex, asU_f _ _ _ _ (by decide)]
      · rw [upm_f _ _ _ _ _ (by decide)]
    · rw [ex]
      unfold aFold
      rw [if_neg (not_not_intro z), c_7 m (by omega)]
theorem f_94 {d : Nat} {tc e : Int} {g : Fg} {m : Mem} {Q : Int → Sto → Prop} {L : Int} {a b : Int} (hJ : JC 3 g tc m) (hI : IV L (m 8 2) (m 8 3) (asC m 15)) (hD : HD (m 8 2) (m 8 3) (asC m 15) (m 18)) (hq : ∀ v m', JC 3 g tc m' → FA m m' → HD (m 8 2) (m 8 3) (asC m' 15) (m' 18) → (v, asC m' 15) = aDoor bcf (m 8 1) (fun w => iand (ishr (m 8 8) w) 1) (asC m 15) a b → Q v (S9 e m')) : Cl (d + 3) 94 [26, a, b] Q (S9 e m) := by
  have hs := JC_s hJ
  have hH : 0 ≤ m 8 3 ∧ m 8 3 ≤ 5 := by omega
  have hP : 0 ≤ m 8 2 ∧ m 8 2 ≤ 5 := by omega
  have hw : 0 ≤ m 8 1 ∧ m 8 1 ≤ 14 := by omega
  refine l_94 hw (fun z => hq _ _ hJ (FA_rf m) hD ?_) (fun z => ?_)
  · unfold aDoor; rw [if_pos z]
  · have ex : ∀ v, asC (upm m 15 10 v) 15 = asU (asC m 15) 10 0 v := fun v => asC_10 _ _
    refine hq _ _ (by refine JC_of (JC_l hJ) ?_ (by decide); repeat (first | assumption | (refine JC_up ?_ (by first | decide | (unfold frC; omega)) (by first | (simp [BdC, hnd]; done) | (simp [BdC, hnd, upm, cpf] <;> first | omega | (unfold w32; omega)))))) (FA_up (FA_rf m) (by omega)) ?_ ?_
    · refine HD_e hD (fun j j0 j1 => ?_) (fun j => ?_)
      · rw [ex, asU_f _ _ _ _ (by decide)]
      · rw [upm_f _ _ _ _ _ (by decide)]
    · rw [ex]
      unfold aDoor
      rw [if_neg (not_not_intro z), c_op]
theorem f_51 {d : Nat} {tc e : Int} {g : Fg} {m : Mem} {Q : Int → Sto → Prop} {L : Int} {a b : Int} (hJ : JC 3 g tc m) (hI : IV L (m 8 2) (m 8 3) (asC m 15)) (hD : HD (m 8 2) (m 8 3) (asC m 15) (m 18)) (hq : ∀ v m', JC 3 g tc m' → FA m m' → HD (m 8 2) (m 8 3) (asC m' 15) (m' 18) → (v, asC m' 15) = aHeat (m 8 2) (asC m 15) a b → Q v (S9 e m')) : Cl (d + 2) 51 [1, a, b] Q (S9 e m) := by
  have hs := JC_s hJ
  have hH : 0 ≤ m 8 3 ∧ m 8 3 ≤ 5 := by omega
  have hP : 0 ≤ m 8 2 ∧ m 8 2 ≤ 5 := by omega
  refine l_51 hP (fun z => hq _ _ hJ (FA_rf m) hD ?_) (fun z => ?_)
  · unfold aHeat
    rw [if_pos (fun q => z ⟨q.1, by obtain ⟨⟨q0, q1⟩, q2, -⟩ := q; rw [c_2 m (by omega)] at q2; exact q2, q.2.2⟩)]
  · have ex : asC (upm m 16 a b) 15 = asU (asC m 15) 0 a b := asC_0 _ _ (by omega)
    refine hq _ _ (by refine JC_of (JC_l hJ) ?_ (by decide); repeat (first | assumption | (refine JC_up ?_ (by first | decide | (unfold frC; omega)) (by first | (simp [BdC, hnd]; done) | (simp [BdC, hnd, upm, cpf] <;> first | omega | (unfold w32; omega)))))) (FA_up (FA_rf m) (by omega)) ?_ ?_
    · refine HD_e hD (fun j j0 j1 => ?_) (fun j => ?_)
      · rw [ex, asU_f _ _ _ _ (by decide)]
      · rw [upm_f _ _ _ _ _ (by decide)]
    · rw [ex]
      unfold aHeat
      rw [if_neg (not_not_intro ⟨z.1, by rw [c_2 m (by omega)]; exact z.2.1, z.2.2⟩), c_0 m (by omega)]
