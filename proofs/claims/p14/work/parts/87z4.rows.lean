/-! the reference's rows copied, to the letter -/
theorem cpf_0 (m : Mem) (a i b j : Int) : cpf m a i b j 0 = m := by
  funext x y
  unfold cpf
  rw [if_neg (by omega)]
theorem cpf_s {m : Mem} {a i b j n p v n1 : Int} (hn : 0 ≤ n) (hp : p = j + n) (hv : v = m a (i + n)) (h1 : n1 = n + 1) : upm (cpf m a i b j n) b p v = cpf m a i b j n1 := by
  subst hp hv h1
  funext x y
  unfold upm cpf
  by_cases h : x = b ∧ y = j + n
  · obtain ⟨rfl, rfl⟩ := h
    rw [if_pos ⟨rfl, rfl⟩, if_pos ⟨rfl, by omega, by omega⟩]
    congr 1; omega
  · rw [if_neg h]
    by_cases h2 : x = b ∧ j ≤ y ∧ y < j + n
    · rw [if_pos h2, if_pos ⟨h2.1, h2.2.1, by omega⟩]
    · rw [if_neg h2, if_neg (by rintro ⟨q1, q2, q3⟩; by_cases z : y = j + n; exact h ⟨q1, z⟩; exact h2 ⟨q1, q2, by omega⟩)]
theorem cpf_n {m : Mem} {a i b j n x : Int} (h : x ≠ b) : cpf m a i b j n x = m x := by
  funext y
  unfold cpf
  rw [if_neg (fun q => h q.1)]
theorem cpf_hi {m : Mem} {a i b j n x y : Int} (h : x = b → y < j ∨ j + n ≤ y) : cpf m a i b j n x y = m x y := by
  unfold cpf
  rw [if_neg (fun q => by have := h q.1; omega)]
theorem BdR_cpf {tc pl a i b j n : Int} {m : Mem} (h : ∀ a j, BdR tc pl a j (m a j)) (hv : ∀ y, j ≤ y → y < j + n → BdR tc pl b y (m a (y - j + i))) (x y : Int) : BdR tc pl x y (cpf m a i b j n x y) := by
  unfold cpf
  by_cases q : x = b ∧ j ≤ y ∧ y < j + n
  · rw [if_pos q]; rw [q.1]; exact hv y q.2.1 q.2.2
  · rw [if_neg q]; exact h x y
theorem p_215x {d : Nat} {e : Int} {m : Mem} {Q : Int → Sto → Prop} (hu : 0 ≤ m 249 39 ∧ m 249 39 ≤ 15) (hq : ∀ v, Q v (S9 e (cpf m 258 0 269 (52 * m 249 39) 52))) : Cl (d + 1) 215 [249] Q (S9 e m) := by
  simp only [cl_215, runB, B215, ma_215, rho_2, wf_13_260, wf_13_36, wf_13_69, w_cst, w_ldi, w_ldj, w_lda, w_ljk, w_ldk, w_ldw, w_ldk2, w_ldt, w_ldtw, w_neg, w_cvb, w_cvs, w_cvc, w_cvj, w_add, w_sub, w_mul, w_ban, w_bor, w_bxo, w_shl, w_shr, w_ush, w_dvi, w_rmi, w_aldi, w_aldj, w_aldz, w_aldc, w_alda, w_ite, w_cmp, w_cmj, w_cz, w_cnot, w_cand, w_cor, w_nil, w_cons, w_cvi, w_csta, w_cvt, w_cvv, w_csv, w_cpy, w_seq, w_sbr, w_sbn, w_brk, w_ifs, w_ifx, w_ife, w_wk, w_rets, w_rtv, w_thr, w_asi, w_asj, w_asa, w_inc, w_exs, w_asti, w_astj, w_astz, w_astc, w_aopadd, w_aopsub, w_sw, if_true, if_false, ↓reduceIte, hdl_c, S9_1, S9_m, bud9, live9, inb9, wrn, wr9_14, wr9_15, wr9_16, wr9_17, tq9_14, tq9_15, tq9_16, tq9_17, tq_0, tq_1, tq_3, upr_rl, rl_0, rl_1, rl_2, rl_3, rl_4, rl_5, rl_6, rl_7, rl_8, rl_9, rl_10, rl_11, rl_12, rl_13, sp_0, sp_1, sp_2, sp_3, sp_4, sp_5, sp_6, sp_7, sp_8, sp_9, sp_10, sp_11, sp_12, sp_13, se_0, se_1, se_2, se_3, se_4, se_5, se_6, se_7, se_8, se_9, se_10, se_11, se_12, se_13, sem_0, sem_1, sem_2, sem_3, sem_4, sem_5, sr_249_14, sr_249_57, sr_249_51, sr_249_16, sr_249_34, sr_249_40, sr_249_55, sr_249_42, sr_249_71, sr_249_58, sr_249_70, sr_249_23, sr_249_9, sr_249_8, sr_249_25, sr_249_64, sr_249_2, sr_249_50, sr_249_63, sr_249_13, sr_249_15, sr_249_35, sr_249_22, sr_249_67, sr_249_54, sr_249_41, sr_249_10, sr_249_17, sr_249_12, sr_249_61, sr_249_31, sr_249_69, sr_249_30, sr_249_11, sr_249_24, kl9_249, kc_249, sr_249_68, sr_249_52, sr_249_43, kc_258, kl9_258, kl9_269, kc_269, List.getD_cons_zero, List.getD_cons_succ, Bool.false_eq_true, wrn3, wrn1, cpmS, cpok9, upm_app, Int.reduceEq, and_self, and_true, true_and, and_false, false_and, if_true, if_false, ↓reduceIte, Int.reduceNe, ne_eq, not_false_eq_true, cpf_n]
  repeat' (first
    | (with_reducible exact True.intro)
    | omega
    | (with_reducible rfl)
    | (with_reducible contradiction)
    | (with_reducible refine And.intro ?_ ?_)
    | intro _
    | ((with_reducible refine whl_i (fun k r u => ∃ (i : Int), r = rl [249, i] ∧ u = S9 e (cpf m 258 0 269 (52 * m 249 39) i) ∧ 0 ≤ i ∧ i + k = 52) 52 ?_ ?_); (next => exact ⟨0, rfl, by rw [cpf_0], by decide, by decide⟩); (rintro k r u ⟨i, rfl, rfl, h9a, h9b⟩); simp only [cl_215, runB, B215, ma_215, rho_2, wf_13_260, wf_13_36, wf_13_69, w_cst, w_ldi, w_ldj, w_lda, w_ljk, w_ldk, w_ldw, w_ldk2, w_ldt, w_ldtw, w_neg, w_cvb, w_cvs, w_cvc, w_cvj, w_add, w_sub, w_mul, w_ban, w_bor, w_bxo, w_shl, w_shr, w_ush, w_dvi, w_rmi, w_aldi, w_aldj, w_aldz, w_aldc, w_alda, w_ite, w_cmp, w_cmj, w_cz, w_cnot, w_cand, w_cor, w_nil, w_cons, w_cvi, w_csta, w_cvt, w_cvv, w_csv, w_cpy, w_seq, w_sbr, w_sbn, w_brk, w_ifs, w_ifx, w_ife, w_wk, w_rets, w_rtv, w_thr, w_asi, w_asj, w_asa, w_inc, w_exs, w_asti, w_astj, w_astz, w_astc, w_aopadd, w_aopsub, w_sw, if_true, if_false, ↓reduceIte, hdl_c, S9_1, S9_m, bud9, live9, inb9, wrn, wr9_14, wr9_15, wr9_16, wr9_17, tq9_14, tq9_15, tq9_16, tq9_17, tq_0, tq_1, tq_3, upr_rl, rl_0, rl_1, rl_2, rl_3, rl_4, rl_5, rl_6, rl_7, rl_8, rl_9, rl_10, rl_11, rl_12, rl_13, sp_0, sp_1, sp_2, sp_3, sp_4, sp_5, sp_6, sp_7, sp_8, sp_9, sp_10, sp_11, sp_12, sp_13, se_0, se_1, se_2, se_3, se_4, se_5, se_6, se_7, se_8, se_9, se_10, se_11, se_12, se_13, sem_0, sem_1, sem_2, sem_3, sem_4, sem_5, sr_249_14, sr_249_57, sr_249_51, sr_249_16, sr_249_34, sr_249_40, sr_249_55, sr_249_42, sr_249_71, sr_249_58, sr_249_70, sr_249_23, sr_249_9, sr_249_8, sr_249_25, sr_249_64, sr_249_2, sr_249_50, sr_249_63, sr_249_13, sr_249_15, sr_249_35, sr_249_22, sr_249_67, sr_249_54, sr_249_41, sr_249_10, sr_249_17, sr_249_12, sr_249_61, sr_249_31, sr_249_69, sr_249_30, sr_249_11, sr_249_24, kl9_249, kc_249, sr_249_68, sr_249_52, sr_249_43, kc_258, kl9_258, kl9_269, kc_269, List.getD_cons_zero, List.getD_cons_succ, Bool.false_eq_true, wrn3, wrn1, cpmS, cpok9, upm_app, Int.reduceEq, and_self, and_true, true_and, and_false, false_and, if_true, if_false, ↓reduceIte, Int.reduceNe, ne_eq, not_false_eq_true, cpf_n])
    | ((obtain rfl : i = 52 := (by omega)); exact hq _)
    | ((refine ⟨k - 1, ?_, w32 (i + 1), rfl, ?_, ?_, ?_⟩); (next => omega); (next => exact congrArg (S9 e) (cpf_s h9a (by unfold w32; omega) (by congr 1; omega) (by unfold w32; omega))); (next => unfold w32; omega); (next => unfold w32; omega))
    | (unfold w32; omega)
    | (simp (disch := omega) only [w32_eq]; omega)
    | (with_reducible show (_ : Int) ≤ _; simp [upm] <;> (first | omega | (unfold w32; omega)))
    | (with_reducible show (_ : Int) < _; simp [upm] <;> (first | omega | (unfold w32; omega))))

theorem p_213x {d : Nat} {e : Int} {m : Mem} {Q : Int → Sto → Prop} (hu : 0 ≤ m 249 39 ∧ m 249 39 ≤ 15) (h0 : m 249 39 = 0 → Q (-1) (S9 e (upm m 249 0 0))) (hq : 0 < m 249 39 → Q (m 249 39 - 1) (S9 e (cpf (upm (upm m 249 0 0) 249 39 (m 249 39 - 1)) 269 (52 * (m 249 39 - 1)) 258 0 52))) : Cl (d + 1) 213 [249] Q (S9 e m) := by
  have ew : w32 (m 249 39 - 1) = m 249 39 - 1 := by unfold w32; omega
  simp only [cl_213, runB, B213, ma_213, rho_2, wf_13_260, wf_13_36, wf_13_69, wpf_13_126, wpf_13_260, wpopadd_pf_13_260, wpopsub_pf_13_260, w_cst, w_ldi, w_ldj, w_lda, w_ljk, w_ldk, w_ldw, w_ldk2, w_ldt, w_ldtw, w_neg, w_cvb, w_cvs, w_cvc, w_cvj, w_add, w_sub, w_mul, w_ban, w_bor, w_bxo, w_shl, w_shr, w_ush, w_dvi, w_rmi, w_aldi, w_aldj, w_aldz, w_aldc, w_alda, w_ite, w_cmp, w_cmj, w_cz, w_cnot, w_cand, w_cor, w_nil, w_cons, w_cvi, w_csta, w_cvt, w_cvv, w_csv, w_cpy, w_seq, w_sbr, w_sbn, w_brk, w_ifs, w_ifx, w_ife, w_wk, w_rets, w_rtv, w_thr, w_asi, w_asj, w_asa, w_inc, w_exs, w_asti, w_astj, w_astz, w_astc, w_aopadd, w_aopsub, w_sw, if_true, if_false, ↓reduceIte, hdl_c, S9_1, S9_m, bud9, live9, inb9, wrn, wr9_14, wr9_15, wr9_16, wr9_17, tq9_14, tq9_15, tq9_16, tq9_17, tq_0, tq_1, tq_3, upr_rl, rl_0, rl_1, rl_2, rl_3, rl_4, rl_5, rl_6, rl_7, rl_8, rl_9, rl_10, rl_11, rl_12, rl_13, sp_0, sp_1, sp_2, sp_3, sp_4, sp_5, sp_6, sp_7, sp_8, sp_9, sp_10, sp_11, sp_12, sp_13, se_0, se_1, se_2, se_3, se_4, se_5, se_6, se_7, se_8, se_9, se_10, se_11, se_12, se_13, sem_0, sem_1, sem_2, sem_3, sem_4, sem_5, sr_249_14, sr_249_57, sr_249_51, sr_249_16, sr_249_34, sr_249_40, sr_249_55, sr_249_42, sr_249_71, sr_249_58, sr_249_70, sr_249_23, sr_249_9, sr_249_8, sr_249_25, sr_249_64, sr_249_2, sr_249_50, sr_249_63, sr_249_13, sr_249_15, sr_249_35, sr_249_22, sr_249_67, sr_249_54, sr_249_41, sr_249_10, sr_249_17, sr_249_12, sr_249_61, sr_249_31, sr_249_69, sr_249_30, sr_249_11, sr_249_24, kl9_249, kc_249, sr_249_68, sr_249_52, sr_249_43, kc_258, kl9_258, kl9_269, kc_269, List.getD_cons_zero, List.getD_cons_succ, Bool.false_eq_true, wrn3, wrn1, cpmS, cpok9, upm_app, Int.reduceEq, and_self, and_true, true_and, and_false, false_and, if_true, if_false, ↓reduceIte, Int.reduceNe, ne_eq, not_false_eq_true, cpf_n, ew]
  repeat' (first
    | (with_reducible exact True.intro)
    | omega
    | (with_reducible rfl)
    | (with_reducible contradiction)
    | (with_reducible refine And.intro ?_ ?_)
    | intro _
    | ((with_reducible refine whl_i (fun k r u => ∃ (i : Int), r = rl [249, i] ∧ u = S9 e (cpf (upm (upm m 249 0 0) 249 39 (m 249 39 - 1)) 269 (52 * (m 249 39 - 1)) 258 0 i) ∧ 0 ≤ i ∧ i + k = 52) 52 ?_ ?_); (next => exact ⟨0, rfl, by rw [cpf_0], by decide, by decide⟩); (rintro k r u ⟨i, rfl, rfl, h9a, h9b⟩); simp only [cl_213, runB, B213, ma_213, rho_2, wf_13_260, wf_13_36, wf_13_69, wpf_13_126, wpf_13_260, wpopadd_pf_13_260, wpopsub_pf_13_260, w_cst, w_ldi, w_ldj, w_lda, w_ljk, w_ldk, w_ldw, w_ldk2, w_ldt, w_ldtw, w_neg, w_cvb, w_cvs, w_cvc, w_cvj, w_add, w_sub, w_mul, w_ban, w_bor, w_bxo, w_shl, w_shr, w_ush, w_dvi, w_rmi, w_aldi, w_aldj, w_aldz, w_aldc, w_alda, w_ite, w_cmp, w_cmj, w_cz, w_cnot, w_cand, w_cor, w_nil, w_cons, w_cvi, w_csta, w_cvt, w_cvv, w_csv, w_cpy, w_seq, w_sbr, w_sbn, w_brk, w_ifs, w_ifx, w_ife, w_wk, w_rets, w_rtv, w_thr, w_asi, w_asj, w_asa, w_inc, w_exs, w_asti, w_astj, w_astz, w_astc, w_aopadd, w_aopsub, w_sw, if_true, if_false, ↓reduceIte, hdl_c, S9_1, S9_m, bud9, live9, inb9, wrn, wr9_14, wr9_15, wr9_16, wr9_17, tq9_14, tq9_15, tq9_16, tq9_17, tq_0, tq_1, tq_3, upr_rl, rl_0, rl_1, rl_2, rl_3, rl_4, rl_5, rl_6, rl_7, rl_8, rl_9, rl_10, rl_11, rl_12, rl_13, sp_0, sp_1, sp_2, sp_3, sp_4, sp_5, sp_6, sp_7, sp_8, sp_9, sp_10, sp_11, sp_12, sp_13, se_0, se_1, se_2, se_3, se_4, se_5, se_6, se_7, se_8, se_9, se_10, se_11, se_12, se_13, sem_0, sem_1, sem_2, sem_3, sem_4, sem_5, sr_249_14, sr_249_57, sr_249_51, sr_249_16, sr_249_34, sr_249_40, sr_249_55, sr_249_42, sr_249_71, sr_249_58, sr_249_70, sr_249_23, sr_249_9, sr_249_8, sr_249_25, sr_249_64, sr_249_2, sr_249_50, sr_249_63, sr_249_13, sr_249_15, sr_249_35, sr_249_22, sr_249_67, sr_249_54, sr_249_41, sr_249_10, sr_249_17, sr_249_12, sr_249_61, sr_249_31, sr_249_69, sr_249_30, sr_249_11, sr_249_24, kl9_249, kc_249, sr_249_68, sr_249_52, sr_249_43, kc_258, kl9_258, kl9_269, kc_269, List.getD_cons_zero, List.getD_cons_succ, Bool.false_eq_true, wrn3, wrn1, cpmS, cpok9, upm_app, Int.reduceEq, and_self, and_true, true_and, and_false, false_and, if_true, if_false, ↓reduceIte, Int.reduceNe, ne_eq, not_false_eq_true, cpf_n, ew])
    | ((with_reducible refine h0 ?_); omega)
    | ((obtain rfl : i = 52 := (by omega)); exact hq (by omega))
    | ((refine ⟨k - 1, ?_, w32 (i + 1), rfl, ?_, ?_, ?_⟩); (next => omega); (next => exact congrArg (S9 e) (cpf_s h9a (by omega) (by simp only [upm_app, Int.reduceEq, and_self, and_true, true_and, and_false, false_and, if_true, if_false, ↓reduceIte, Int.reduceNe, ne_eq, not_false_eq_true]; congr 1; unfold w32; omega) (by unfold w32; omega))); (next => unfold w32; omega); (next => unfold w32; omega))
    | (unfold w32; omega)
    | (simp (disch := omega) only [w32_eq]; omega)
    | (with_reducible show (_ : Int) ≤ _; simp [upm] <;> (first | omega | (unfold w32; omega)))
    | (with_reducible show (_ : Int) < _; simp [upm] <;> (first | omega | (unfold w32; omega))))
