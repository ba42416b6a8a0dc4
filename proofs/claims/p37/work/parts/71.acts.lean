/-! acts of the reference -/
set_option maxHeartbeats 8000000 in
theorem s_195 {d : Nat} {tc pl e W : Int} {g : Fg} {m : Mem} {Q : Int → Sto → Prop} {N : Int → Int} (hJ : JW 4 g tc pl N W m) (hq : ∀ v m', JW 4 g tc pl N W m' → Q v (S9 e m')) : Cl (d + 1) 195 [249] Q (S9 e m) := by
  have hL := JW_l hJ
  have hs := JW_s hJ
  have h58 := hJ.2.1
  simp only [cl_195, runB, B195, ma_195, rho_2, wpf_13_126, w_cst, w_ldi, w_ldj, w_lda, w_ljk, w_ldk, w_ldw, w_ldk2, w_ldt, w_ldtw, w_neg, w_cvb, w_cvs, w_cvc, w_cvj, w_add, w_sub, w_mul, w_ban, w_bor, w_bxo, w_shl, w_shr, w_ush, w_dvi, w_rmi, w_aldi, w_aldj, w_aldz, w_aldc, w_alda, w_ite, w_cmp, w_cmj, w_cz, w_cnot, w_cand, w_cor, w_nil, w_cons, w_cvi, w_csta, w_cvt, w_cvv, w_csv, w_cpy, w_seq, w_sbr, w_sbn, w_brk, w_ifs, w_ifx, w_ife, w_wk, w_rets, w_rtv, w_thr, w_asi, w_asj, w_asa, w_inc, w_exs, w_asti, w_astj, w_astz, w_astc, w_aopadd, w_aopsub, w_sw, if_true, if_false, ↓reduceIte, hdl_c, S9_1, S9_m, bud9, live9, inb9, wrn, wr9_14, wr9_15, wr9_16, wr9_17, tq9_14, tq9_15, tq9_16, tq9_17, tq_0, tq_1, tq_3, upr_rl, rl_0, rl_1, rl_2, rl_3, rl_4, rl_5, rl_6, rl_7, rl_8, rl_9, rl_10, rl_11, rl_12, rl_13, sp_0, sp_1, sp_2, sp_3, sp_4, sp_5, sp_6, sp_7, sp_8, sp_9, sp_10, sp_11, sp_12, sp_13, se_0, se_1, se_2, se_3, se_4, se_5, se_6, se_7, se_8, se_9, se_10, se_11, se_12, se_13, sem_0, sem_1, sem_2, sem_3, sem_4, sem_5, sr_249_11, sr_249_25, sr_249_17, sr_249_14, sr_249_71, sr_249_13, sr_249_64, sr_249_68, sr_249_15, sr_249_23, sr_249_67, sr_249_35, sr_249_43, sr_249_8, sr_249_41, sr_249_42, sr_249_30, sr_249_52, sr_249_58, sr_249_61, sr_249_55, sr_249_63, sr_249_54, sr_249_31, sr_249_40, sr_249_2, sr_249_22, sr_249_10, kl9_249, sr_249_50, sr_249_57, sr_249_34, sr_249_12, sr_249_16, sr_249_51, kc_249, sr_249_69, sr_249_24, sr_249_9, sr_249_70, List.getD_cons_zero, List.getD_cons_succ, Bool.false_eq_true, wrn3, wrn1, cpmS, cpok9, h58]
  (with_reducible refine And.intro ?_ ?_)
  omega
  iterate 2 ((with_reducible refine And.intro ?_ ?_))
  omega
  (with_reducible refine And.intro ?_ ?_)
  omega
  (with_reducible exact True.intro)
  (with_reducible refine And.intro ?_ ?_)
  (with_reducible exact True.intro)
  (with_reducible refine And.intro ?_ ?_)
  (with_reducible exact True.intro)
  focus (with_reducible refine hq _ _ ?_; (next => refine JW_of hL ?_ (by decide); repeat (first | assumption | (refine JW_up ?_ (by first | decide | (unfold frR; omega)) (by first | decide | simp [frc]) (by first | decide | simp [frw]) (by first | (simp [BdR]; done) | (refine BdR_n (by simp) ?_; (first | (refine rb_at ?_ ?_ <;> first | omega | (simp only [upm_app]; (repeat' split) <;> omega)) | (refine rb_us ?_ ?_ <;> first | omega | (simp only [upm_app]; (repeat' split) <;> omega)) | (refine rb_ho ?_ ?_ <;> first | omega | (simp only [upm_app]; (repeat' split) <;> omega)) | (refine rb_on ?_ ?_ <;> first | omega | (simp only [upm_app]; (repeat' split) <;> omega)) | ((try simp (disch := omega) only [w32_eq]); (refine (rb_i ?_ ?_).2 ?_ <;> omega)) | (refine rb_us ?_ ?_ <;> first | omega | (unfold w32; omega)))) | (simp [BdR] <;> first | omega | (unfold w32; omega)) | (simp [BdR, upm] <;> first | omega | (unfold w32; omega)))))))

set_option maxHeartbeats 8000000 in
theorem s_225 {d : Nat} {tc pl e W : Int} {g : Fg} {m : Mem} {Q : Int → Sto → Prop} {N : Int → Int} {a : Int} (h1 : m 249 1 ≤ 23) (hJ : JW 4 g tc pl N W m) (hq : ∀ v m', JW 4 g tc pl N W m' → m' 249 1 = m 249 1 + 1 → Q v (S9 e m')) : Cl (d + 1) 225 [249, a] Q (S9 e m) := by
  have hL := JW_l hJ
  have hs := JW_s hJ
  have h58 := hJ.2.1
  simp only [cl_225, runB, B225, ma_225, rho_21, wf_13_130, wf_13_9, wpf_13_130, wpopadd_pf_13_130, w_cst, w_ldi, w_ldj, w_lda, w_ljk, w_ldk, w_ldw, w_ldk2, w_ldt, w_ldtw, w_neg, w_cvb, w_cvs, w_cvc, w_cvj, w_add, w_sub, w_mul, w_ban, w_bor, w_bxo, w_shl, w_shr, w_ush, w_dvi, w_rmi, w_aldi, w_aldj, w_aldz, w_aldc, w_alda, w_ite, w_cmp, w_cmj, w_cz, w_cnot, w_cand, w_cor, w_nil, w_cons, w_cvi, w_csta, w_cvt, w_cvv, w_csv, w_cpy, w_seq, w_sbr, w_sbn, w_brk, w_ifs, w_ifx, w_ife, w_wk, w_rets, w_rtv, w_thr, w_asi, w_asj, w_asa, w_inc, w_exs, w_asti, w_astj, w_astz, w_astc, w_aopadd, w_aopsub, w_sw, if_true, if_false, ↓reduceIte, hdl_c, S9_1, S9_m, bud9, live9, inb9, wrn, wr9_14, wr9_15, wr9_16, wr9_17, tq9_14, tq9_15, tq9_16, tq9_17, tq_0, tq_1, tq_3, upr_rl, rl_0, rl_1, rl_2, rl_3, rl_4, rl_5, rl_6, rl_7, rl_8, rl_9, rl_10, rl_11, rl_12, rl_13, sp_0, sp_1, sp_2, sp_3, sp_4, sp_5, sp_6, sp_7, sp_8, sp_9, sp_10, sp_11, sp_12, sp_13, se_0, se_1, se_2, se_3, se_4, se_5, se_6, se_7, se_8, se_9, se_10, se_11, se_12, se_13, sem_0, sem_1, sem_2, sem_3, sem_4, sem_5, sr_249_11, sr_249_25, sr_249_17, sr_249_14, sr_249_71, sr_249_13, sr_249_64, sr_249_68, sr_249_15, sr_249_23, sr_249_67, sr_249_35, sr_249_43, sr_249_8, sr_249_41, sr_249_42, sr_249_30, sr_249_52, sr_249_58, sr_249_61, sr_249_55, sr_249_63, sr_249_54, sr_249_31, sr_249_40, sr_249_2, sr_249_22, sr_249_10, kl9_249, sr_249_50, sr_249_57, sr_249_34, sr_249_12, sr_249_16, sr_249_51, kc_249, sr_249_69, sr_249_24, sr_249_9, sr_249_70, kl9_250, kc_250, List.getD_cons_zero, List.getD_cons_succ, Bool.false_eq_true, wrn3, wrn1, cpmS, cpok9, h58]
  (with_reducible refine And.intro ?_ ?_)
  omega
  iterate 2 ((with_reducible refine And.intro ?_ ?_))
  omega
  (with_reducible refine And.intro ?_ ?_)
  omega
  (with_reducible exact True.intro)
  (with_reducible refine And.intro ?_ ?_)
  omega
  iterate 2 ((with_reducible refine And.intro ?_ ?_))
  omega
  (with_reducible refine And.intro ?_ ?_)
  omega
  (with_reducible exact True.intro)
  iterate 3 ((with_reducible refine And.intro ?_ ?_))
  omega
  (with_reducible refine And.intro ?_ ?_)
  omega
  (with_reducible exact True.intro)
  omega
  (with_reducible refine And.intro ?_ ?_)
  (with_reducible exact True.intro)
  (with_reducible refine And.intro ?_ ?_)
  omega
  iterate 2 ((with_reducible refine And.intro ?_ ?_))
  omega
  (with_reducible refine And.intro ?_ ?_)
  omega
  (with_reducible exact True.intro)
  iterate 2 ((with_reducible refine And.intro ?_ ?_))
  omega
  (with_reducible refine And.intro ?_ ?_)
  omega
  (with_reducible exact True.intro)
  focus (with_reducible refine hq _ _ ?_ ?_; (next => refine JW_of hL ?_ (by decide); repeat (first | assumption | (refine JW_up ?_ (by first | decide | (unfold frR; omega)) (by first | decide | simp [frc]) (by first | decide | simp [frw]) (by first | (simp [BdR]; done) | (refine BdR_n (by simp) ?_; (first | (refine rb_at ?_ ?_ <;> first | omega | (simp only [upm_app]; (repeat' split) <;> omega)) | (refine rb_us ?_ ?_ <;> first | omega | (simp only [upm_app]; (repeat' split) <;> omega)) | (refine rb_ho ?_ ?_ <;> first | omega | (simp only [upm_app]; (repeat' split) <;> omega)) | (refine rb_on ?_ ?_ <;> first | omega | (simp only [upm_app]; (repeat' split) <;> omega)) | ((try simp (disch := omega) only [w32_eq]); (refine (rb_i ?_ ?_).2 ?_ <;> omega)) | (refine rb_us ?_ ?_ <;> first | omega | (unfold w32; omega)))) | (simp [BdR] <;> first | omega | (unfold w32; omega)) | (simp [BdR, upm] <;> first | omega | (unfold w32; omega)))))); (next => first | (with_reducible exact True.intro) | assumption | omega | (with_reducible rfl) | (simp (disch := omega) only [w32_eq]; omega) | (simp [upm]; done) | (simp [upm] <;> first | omega | (unfold w32; omega))))

theorem p_202 {d : Nat} {e : Int} {m : Mem} {Q : Int → Sto → Prop} {a : Int} (h0 : 0 ≤ m 249 6 ∧ m 249 6 ≤ 5) (hq : ∀ v, True → Q v (S9 e m)) : Cl (d + 3) 202 [249, a] Q (S9 e m) := by
  simp only [cl_202, runB, B202, ma_202, rho_20, wf_13_143, wc_203, w_cst, w_ldi, w_ldj, w_lda, w_ljk, w_ldk, w_ldw, w_ldk2, w_ldt, w_ldtw, w_neg, w_cvb, w_cvs, w_cvc, w_cvj, w_add, w_sub, w_mul, w_ban, w_bor, w_bxo, w_shl, w_shr, w_ush, w_dvi, w_rmi, w_aldi, w_aldj, w_aldz, w_aldc, w_alda, w_ite, w_cmp, w_cmj, w_cz, w_cnot, w_cand, w_cor, w_nil, w_cons, w_cvi, w_csta, w_cvt, w_cvv, w_csv, w_cpy, w_seq, w_sbr, w_sbn, w_brk, w_ifs, w_ifx, w_ife, w_wk, w_rets, w_rtv, w_thr, w_asi, w_asj, w_asa, w_inc, w_exs, w_asti, w_astj, w_astz, w_astc, w_aopadd, w_aopsub, w_sw, if_true, if_false, ↓reduceIte, hdl_c, S9_1, S9_m, bud9, live9, inb9, wrn, wr9_14, wr9_15, wr9_16, wr9_17, tq9_14, tq9_15, tq9_16, tq9_17, tq_0, tq_1, tq_3, upr_rl, rl_0, rl_1, rl_2, rl_3, rl_4, rl_5, rl_6, rl_7, rl_8, rl_9, rl_10, rl_11, rl_12, rl_13, sp_0, sp_1, sp_2, sp_3, sp_4, sp_5, sp_6, sp_7, sp_8, sp_9, sp_10, sp_11, sp_12, sp_13, se_0, se_1, se_2, se_3, se_4, se_5, se_6, se_7, se_8, se_9, se_10, se_11, se_12, se_13, sem_0, sem_1, sem_2, sem_3, sem_4, sem_5, sr_249_11, sr_249_25, sr_249_17, sr_249_14, sr_249_71, sr_249_13, sr_249_64, sr_249_68, sr_249_15, sr_249_23, sr_249_67, sr_249_35, sr_249_43, sr_249_8, sr_249_41, sr_249_42, sr_249_30, sr_249_52, sr_249_58, sr_249_61, sr_249_55, sr_249_63, sr_249_54, sr_249_31, sr_249_40, sr_249_2, sr_249_22, sr_249_10, kl9_249, sr_249_50, sr_249_57, sr_249_34, sr_249_12, sr_249_16, sr_249_51, kc_249, sr_249_69, sr_249_24, sr_249_9, sr_249_70, kl9_258, kc_258, List.getD_cons_zero, List.getD_cons_succ, Bool.false_eq_true, wrn3, wrn1, cpmS, cpok9]
  focus (with_reducible refine whl_i (fun k r u => ∃ (x i : Int), r = rl [249, a, x, i] ∧ u = S9 e m ∧ (0 ≤ i) ∧ (i + k = 6)) 6 ?_ ?_; (next => refine ⟨_, _, rfl, rfl, ?_, ?_⟩; (next => first | (with_reducible exact True.intro) | assumption | omega | (with_reducible rfl) | (unfold w32; omega) | (simp [upm]; done) | (simp [upm] <;> (first | omega | (unfold w32; omega)))); (next => first | (with_reducible exact True.intro) | assumption | omega | (with_reducible rfl) | (unfold w32; omega) | (simp [upm]; done) | (simp [upm] <;> (first | omega | (unfold w32; omega))))); rintro k r u ⟨x, i, rfl, rfl, h9a, h9b⟩; simp only [cl_202, runB, B202, ma_202, rho_20, wf_13_143, wc_203, w_cst, w_ldi, w_ldj, w_lda, w_ljk, w_ldk, w_ldw, w_ldk2, w_ldt, w_ldtw, w_neg, w_cvb, w_cvs, w_cvc, w_cvj, w_add, w_sub, w_mul, w_ban, w_bor, w_bxo, w_shl, w_shr, w_ush, w_dvi, w_rmi, w_aldi, w_aldj, w_aldz, w_aldc, w_alda, w_ite, w_cmp, w_cmj, w_cz, w_cnot, w_cand, w_cor, w_nil, w_cons, w_cvi, w_csta, w_cvt, w_cvv, w_csv, w_cpy, w_seq, w_sbr, w_sbn, w_brk, w_ifs, w_ifx, w_ife, w_wk, w_rets, w_rtv, w_thr, w_asi, w_asj, w_asa, w_inc, w_exs, w_asti, w_astj, w_astz, w_astc, w_aopadd, w_aopsub, w_sw, if_true, if_false, ↓reduceIte, hdl_c, S9_1, S9_m, bud9, live9, inb9, wrn, wr9_14, wr9_15, wr9_16, wr9_17, tq9_14, tq9_15, tq9_16, tq9_17, tq_0, tq_1, tq_3, upr_rl, rl_0, rl_1, rl_2, rl_3, rl_4, rl_5, rl_6, rl_7, rl_8, rl_9, rl_10, rl_11, rl_12, rl_13, sp_0, sp_1, sp_2, sp_3, sp_4, sp_5, sp_6, sp_7, sp_8, sp_9, sp_10, sp_11, sp_12, sp_13, se_0, se_1, se_2, se_3, se_4, se_5, se_6, se_7, se_8, se_9, se_10, se_11, se_12, se_13, sem_0, sem_1, sem_2, sem_3, sem_4, sem_5, sr_249_11, sr_249_25, sr_249_17, sr_249_14, sr_249_71, sr_249_13, sr_249_64, sr_249_68, sr_249_15, sr_249_23, sr_249_67, sr_249_35, sr_249_43, sr_249_8, sr_249_41, sr_249_42, sr_249_30, sr_249_52, sr_249_58, sr_249_61, sr_249_55, sr_249_63, sr_249_54, sr_249_31, sr_249_40, sr_249_2, sr_249_22, sr_249_10, kl9_249, sr_249_50, sr_249_57, sr_249_34, sr_249_12, sr_249_16, sr_249_51, kc_249, sr_249_69, sr_249_24, sr_249_9, sr_249_70, kl9_258, kc_258, List.getD_cons_zero, List.getD_cons_succ, Bool.false_eq_true, wrn3, wrn1, cpmS, cpok9])
  (with_reducible refine And.intro ?_ ?_)
  omega
  iterate 2 ((with_reducible refine And.intro ?_ ?_))
  omega
  (with_reducible refine And.intro ?_ ?_)
  omega
  (with_reducible exact True.intro)
  (with_reducible refine And.intro ?_ ?_)
  intro _
  (with_reducible refine And.intro ?_ ?_)
  omega
  iterate 2 ((with_reducible refine And.intro ?_ ?_))
  omega
  (with_reducible refine And.intro ?_ ?_)
  omega
  (with_reducible exact True.intro)
  focus (with_reducible refine p_203 ?_ ?_; (next => first | omega | (with_reducible rfl) | decide | (unfold w32; omega) | (simp (disch := omega) only [w32_eq]; omega) | (simp [upm] <;> (first | omega | (unfold w32; omega)))); simp only [hdl_c, S9_1, S9_m, bud9, live9, inb9, wrn, wr9_14, wr9_15, wr9_16, wr9_17, tq9_14, tq9_15, tq9_16, tq9_17, tq_0, tq_1, tq_3, upr_rl, rl_0, rl_1, rl_2, rl_3, rl_4, rl_5, rl_6, rl_7, rl_8, rl_9, rl_10, rl_11, rl_12, rl_13, sp_0, sp_1, sp_2, sp_3, sp_4, sp_5, sp_6, sp_7, sp_8, sp_9, sp_10, sp_11, sp_12, sp_13, se_0, se_1, se_2, se_3, se_4, se_5, se_6, se_7, se_8, se_9, se_10, se_11, se_12, se_13, sem_0, sem_1, sem_2, sem_3, sem_4, sem_5, List.getD_cons_zero, List.getD_cons_succ, Bool.false_eq_true, wrn3, wrn1, cpmS, cpok9, if_true, if_false, ↓reduceIte, wc_203, sr_249_11, sr_249_25, sr_249_17, sr_249_14, sr_249_71, sr_249_13, sr_249_64, sr_249_68, sr_249_15, sr_249_23, sr_249_67, sr_249_35, sr_249_43, sr_249_8, sr_249_41, sr_249_42, sr_249_30, sr_249_52, sr_249_58, sr_249_61, sr_249_55, sr_249_63, sr_249_54, sr_249_31, sr_249_40, sr_249_2, sr_249_22, sr_249_10, kl9_249, sr_249_50, sr_249_57, sr_249_34, sr_249_12, sr_249_16, sr_249_51, kc_249, sr_249_69, sr_249_24, sr_249_9, sr_249_70, kl9_258, kc_258]; (try simp (disch := omega) only [w15_0, w15_1, w15_3, w15_4, w15_5, w15_6, w3_0, w3_1, w3_2]))
  (with_reducible refine And.intro ?_ ?_)
  intro _
  focus (with_reducible refine ⟨k - 1, ?_, _, _, rfl, ?_, ?_, ?_⟩; (next => omega); (next => first | trivial | rfl); (next => first | (with_reducible exact True.intro) | assumption | omega | (with_reducible rfl) | (unfold w32; omega) | (simp [upm]; done) | (simp [upm] <;> (first | omega | (unfold w32; omega)))); (next => first | (with_reducible exact True.intro) | assumption | omega | (with_reducible rfl) | (unfold w32; omega) | (simp [upm]; done) | (simp [upm] <;> (first | omega | (unfold w32; omega)))))
  intro _
  focus (with_reducible refine ⟨k - 1, ?_, _, _, rfl, ?_, ?_, ?_⟩; (next => omega); (next => first | trivial | rfl); (next => first | (with_reducible exact True.intro) | assumption | omega | (with_reducible rfl) | (unfold w32; omega) | (simp [upm]; done) | (simp [upm] <;> (first | omega | (unfold w32; omega)))); (next => first | (with_reducible exact True.intro) | assumption | omega | (with_reducible rfl) | (unfold w32; omega) | (simp [upm]; done) | (simp [upm] <;> (first | omega | (unfold w32; omega)))))
  intro _
  (with_reducible refine And.intro ?_ ?_)
  (with_reducible exact True.intro)
  (with_reducible refine hq _ ?_)
  (with_reducible exact True.intro)

theorem hgt_le (c : Int → Int) : ∀ k : Nat, hgt c k ≤ k := by
  intro k
  induction k with
  | zero => simp [hgt]
  | succ k ih => unfold hgt; split <;> (try split) <;> omega
theorem hgt_nn {c : Int → Int} {n : Int} (h : COK c n) : ∀ k : Nat, (k : Int) ≤ n → 0 ≤ hgt c k := by
  intro k
  induction k with
  | zero => intro _; simp [hgt]
  | succ k ih =>
    intro hk
    have h1 := ih (by omega)
    have h2 := h k (by omega)
    unfold okc at h2
    unfold hgt
    split
    · omega
    · split <;> omega
theorem w10 (x : Int) : w32 (w32 (10 * x) + 1) = 0 → False := by unfold w32; omega
theorem hgt_s (c : Int → Int) (k : Nat) : hgt c (k + 1) = hgt c k + (if c k = 3000 then 0 else if 2000 ≤ c k then -1 else 1) := rfl
theorem rl4c {a b c d b' c' : Int} (h1 : b = b') (h2 : c = c') : rl [a, b, c, d] = rl [a, b', c', d] := by rw [h1, h2]
set_option maxHeartbeats 8000000 in
theorem s_208 {d : Nat} {tc pl e W : Int} {g : Fg} {m : Mem} {Q : Int → Sto → Prop} {N : Int → Int} (hJ : JW 4 g tc pl N W m) (hq : ∀ v m', JW 4 g tc pl N W m' → Q v (S9 e m')) : Cl (d + 3) 208 [249] Q (S9 e m) := by
  have hL := JW_l hJ
  have hs := JW_s hJ
  have h58 := hJ.2.1
  have hC := hJ.1.2.2.2
  have e0 : rl [249, 0, 0] = rl [249, hgt (m 265) 0, ((0 : Nat) : Int), 0] := rlp3
  simp only [cl_208, runB, B208, ma_208, rho_2, wf_13_287, wf_13_57, wf_13_63, wf_13_66, wc_19, wc_56, wc_209, cl_19, B19, ma_19, rho_00, cl_56, B56, ma_56, w_cst, w_ldi, w_ldj, w_lda, w_ljk, w_ldk, w_ldw, w_ldk2, w_ldt, w_ldtw, w_neg, w_cvb, w_cvs, w_cvc, w_cvj, w_add, w_sub, w_mul, w_ban, w_bor, w_bxo, w_shl, w_shr, w_ush, w_dvi, w_rmi, w_aldi, w_aldj, w_aldz, w_aldc, w_alda, w_ite, w_cmp, w_cmj, w_cz, w_cnot, w_cand, w_cor, w_nil, w_cons, w_cvi, w_csta, w_cvt, w_cvv, w_csv, w_cpy, w_seq, w_sbr, w_sbn, w_brk, w_ifs, w_ifx, w_ife, w_wk, w_rets, w_rtv, w_thr, w_asi, w_asj, w_asa, w_inc, w_exs, w_asti, w_astj, w_astz, w_astc, w_aopadd, w_aopsub, w_sw, if_true, if_false, ↓reduceIte, hdl_c, S9_1, S9_m, bud9, live9, inb9, wrn, wr9_14, wr9_15, wr9_16, wr9_17, tq9_14, tq9_15, tq9_16, tq9_17, tq_0, tq_1, tq_3, upr_rl, rl_0, rl_1, rl_2, rl_3, rl_4, rl_5, rl_6, rl_7, rl_8, rl_9, rl_10, rl_11, rl_12, rl_13, sp_0, sp_1, sp_2, sp_3, sp_4, sp_5, sp_6, sp_7, sp_8, sp_9, sp_10, sp_11, sp_12, sp_13, se_0, se_1, se_2, se_3, se_4, se_5, se_6, se_7, se_8, se_9, se_10, se_11, se_12, se_13, sem_0, sem_1, sem_2, sem_3, sem_4, sem_5, sr_249_11, sr_249_25, sr_249_17, sr_249_14, sr_249_71, sr_249_13, sr_249_64, sr_249_68, sr_249_15, sr_249_23, sr_249_67, sr_249_35, sr_249_43, sr_249_8, sr_249_41, sr_249_42, sr_249_30, sr_249_52, sr_249_58, sr_249_61, sr_249_55, sr_249_63, sr_249_54, sr_249_31, sr_249_40, sr_249_2, sr_249_22, sr_249_10, kl9_249, sr_249_50, sr_249_57, sr_249_34, sr_249_12, sr_249_16, sr_249_51, kc_249, sr_249_69, sr_249_24, sr_249_9, sr_249_70, kc_265, kl9_265, kc_267, kl9_267, kc_268, kl9_268, List.getD_cons_zero, List.getD_cons_succ, Bool.false_eq_true, wrn3, wrn1, cpmS, cpok9, h58]
  refine whl_i (fun k r u => ∃ (j : Nat) (z : Int) (m9 : Mem), r = rl [249, hgt (m 265) j, (j : Int), z] ∧ u = S9 e m9 ∧ JW 4 g tc pl N W m9 ∧ m9 265 = m 265 ∧ m9 249 32 = m 249 32 ∧ (j : Int) ≤ m 249 32 ∧ (j : Int) + k = 81) 81 ?_ ?_
  next => exact ⟨0, 0, _, e0, rfl, hJ, rfl, rfl, by omega, by omega⟩
  rintro k r u ⟨j, z, m9, rfl, rfl, hJ9, e265, e32, hj, hk⟩
  have hJ9 := JW_dn hL hJ9; have hs9 := JW_s hJ9
  have h58 := JW_2 hJ9
  have n1 := hgt_nn hC j hj
  have n2 := hgt_le (m 265) j
  have n3 := hC j
  have n4 := hgt_s (m 265) j
  unfold okc at n3
  simp only [cl_208, runB, B208, ma_208, rho_2, wf_13_287, wf_13_57, wf_13_63, wf_13_66, wc_19, wc_56, wc_209, cl_19, B19, ma_19, rho_00, cl_56, B56, ma_56, w_cst, w_ldi, w_ldj, w_lda, w_ljk, w_ldk, w_ldw, w_ldk2, w_ldt, w_ldtw, w_neg, w_cvb, w_cvs, w_cvc, w_cvj, w_add, w_sub, w_mul, w_ban, w_bor, w_bxo, w_shl, w_shr, w_ush, w_dvi, w_rmi, w_aldi, w_aldj, w_aldz, w_aldc, w_alda, w_ite, w_cmp, w_cmj, w_cz, w_cnot, w_cand, w_cor, w_nil, w_cons, w_cvi, w_csta, w_cvt, w_cvv, w_csv, w_cpy, w_seq, w_sbr, w_sbn, w_brk, w_ifs, w_ifx, w_ife, w_wk, w_rets, w_rtv, w_thr, w_asi, w_asj, w_asa, w_inc, w_exs, w_asti, w_astj, w_astz, w_astc, w_aopadd, w_aopsub, w_sw, if_true, if_false, ↓reduceIte, hdl_c, S9_1, S9_m, bud9, live9, inb9, wrn, wr9_14, wr9_15, wr9_16, wr9_17, tq9_14, tq9_15, tq9_16, tq9_17, tq_0, tq_1, tq_3, upr_rl, rl_0, rl_1, rl_2, rl_3, rl_4, rl_5, rl_6, rl_7, rl_8, rl_9, rl_10, rl_11, rl_12, rl_13, sp_0, sp_1, sp_2, sp_3, sp_4, sp_5, sp_6, sp_7, sp_8, sp_9, sp_10, sp_11, sp_12, sp_13, se_0, se_1, se_2, se_3, se_4, se_5, se_6, se_7, se_8, se_9, se_10, se_11, se_12, se_13, sem_0, sem_1, sem_2, sem_3, sem_4, sem_5, sr_249_11, sr_249_25, sr_249_17, sr_249_14, sr_249_71, sr_249_13, sr_249_64, sr_249_68, sr_249_15, sr_249_23, sr_249_67, sr_249_35, sr_249_43, sr_249_8, sr_249_41, sr_249_42, sr_249_30, sr_249_52, sr_249_58, sr_249_61, sr_249_55, sr_249_63, sr_249_54, sr_249_31, sr_249_40, sr_249_2, sr_249_22, sr_249_10, kl9_249, sr_249_50, sr_249_57, sr_249_34, sr_249_12, sr_249_16, sr_249_51, kc_249, sr_249_69, sr_249_24, sr_249_9, sr_249_70, kc_265, kl9_265, kc_267, kl9_267, kc_268, kl9_268, List.getD_cons_zero, List.getD_cons_succ, Bool.false_eq_true, wrn3, wrn1, cpmS, cpok9, h58, e265, e32]
  (with_reducible refine And.intro ?_ ?_)
  omega
  iterate 2 ((with_reducible refine And.intro ?_ ?_))
  omega
  (with_reducible refine And.intro ?_ ?_)
  omega
  (with_reducible exact True.intro)
  (with_reducible refine And.intro ?_ ?_)
  intro _
  (with_reducible refine And.intro ?_ ?_)
  omega
  iterate 2 ((with_reducible refine And.intro ?_ ?_))
  omega
  (with_reducible refine And.intro ?_ ?_)
  omega
  (with_reducible exact True.intro)
  iterate 3 ((with_reducible refine And.intro ?_ ?_))
  omega
  (with_reducible refine And.intro ?_ ?_)
  omega
  (with_reducible exact True.intro)
  omega
  (with_reducible refine And.intro ?_ ?_)
  intro _
  (with_reducible refine And.intro ?_ ?_)
  omega
  iterate 2 ((with_reducible refine And.intro ?_ ?_))
  omega
  (with_reducible refine And.intro ?_ ?_)
  omega
  (with_reducible exact True.intro)
  (with_reducible refine And.intro ?_ ?_)
  omega
  iterate 2 ((with_reducible refine And.intro ?_ ?_))
  omega
  (with_reducible refine And.intro ?_ ?_)
  omega
  (with_reducible exact True.intro)
  iterate 3 ((with_reducible refine And.intro ?_ ?_))
  omega
  (with_reducible refine And.intro ?_ ?_)
  omega
  (with_reducible exact True.intro)
  (with_reducible refine And.intro ?_ ?_)
  iterate 2 (focus (unfold w32; omega))
  iterate 3 ((with_reducible refine And.intro ?_ ?_))
  omega
  (with_reducible refine And.intro ?_ ?_)
  omega
  (with_reducible exact True.intro)
  (with_reducible refine And.intro ?_ ?_)
  iterate 2 (focus (unfold w32; omega))
  (with_reducible refine And.intro ?_ ?_)
  (with_reducible exact True.intro)
  focus (with_reducible refine ⟨k - 1, ?_, j + 1, m 265 j, _, ?_, rfl, ?_, ?_, ?_, ?_, ?_⟩; (next => omega); (next => refine rl4c ?_ ?_ <;> (try simp only [n4]) <;> (repeat' split) <;> (first | omega | (unfold w32; omega))); (next => refine JW_of hL ?_ (by decide); repeat (first | assumption | (refine JW_up ?_ (by first | decide | (unfold frR; omega)) (by first | decide | simp [frc]) (by first | decide | simp [frw]) (by first | (simp [BdR]; done) | (refine BdR_n (by simp) ?_; (first | (refine rb_at ?_ ?_ <;> first | omega | (simp only [upm_app]; (repeat' split) <;> omega)) | (refine rb_us ?_ ?_ <;> first | omega | (simp only [upm_app]; (repeat' split) <;> omega)) | (refine rb_ho ?_ ?_ <;> first | omega | (simp only [upm_app]; (repeat' split) <;> omega)) | (refine rb_on ?_ ?_ <;> first | omega | (simp only [upm_app]; (repeat' split) <;> omega)) | ((try simp (disch := omega) only [w32_eq]); (refine (rb_i ?_ ?_).2 ?_ <;> omega)) | (refine rb_us ?_ ?_ <;> first | omega | (unfold w32; omega)))) | (simp [BdR] <;> first | omega | (unfold w32; omega)) | (simp [BdR, upm] <;> first | omega | (unfold w32; omega)))))); (next => funext y; simp [upm, e265]); (next => simp [upm, e32]); (next => omega); (next => omega))
  intro _
  (with_reducible refine And.intro ?_ ?_)
  intro _
  (with_reducible refine And.intro ?_ ?_)
  omega
  iterate 2 ((with_reducible refine And.intro ?_ ?_))
  omega
  (with_reducible refine And.intro ?_ ?_)
  omega
  (with_reducible exact True.intro)
  (with_reducible refine And.intro ?_ ?_)
  omega
  iterate 2 ((with_reducible refine And.intro ?_ ?_))
  omega
  (with_reducible refine And.intro ?_ ?_)
  omega
  (with_reducible exact True.intro)
  iterate 3 ((with_reducible refine And.intro ?_ ?_))
  omega
  (with_reducible refine And.intro ?_ ?_)
  omega
  (with_reducible exact True.intro)
  (with_reducible refine And.intro ?_ ?_)
  iterate 2 (focus (unfold w32; omega))
  (with_reducible refine And.intro ?_ ?_)
  omega
  iterate 2 ((with_reducible refine And.intro ?_ ?_))
  omega
  (with_reducible refine And.intro ?_ ?_)
  omega
  (with_reducible exact True.intro)
  iterate 3 ((with_reducible refine And.intro ?_ ?_))
  omega
  (with_reducible refine And.intro ?_ ?_)
  omega
  (with_reducible exact True.intro)
  (with_reducible refine And.intro ?_ ?_)
  iterate 2 (focus (unfold w32; omega))
  focus (with_reducible refine p_209 (fun v9 h9 => ?_); simp only [hdl_c, S9_1, S9_m, bud9, live9, inb9, wrn, wr9_14, wr9_15, wr9_16, wr9_17, tq9_14, tq9_15, tq9_16, tq9_17, tq_0, tq_1, tq_3, upr_rl, rl_0, rl_1, rl_2, rl_3, rl_4, rl_5, rl_6, rl_7, rl_8, rl_9, rl_10, rl_11, rl_12, rl_13, sp_0, sp_1, sp_2, sp_3, sp_4, sp_5, sp_6, sp_7, sp_8, sp_9, sp_10, sp_11, sp_12, sp_13, se_0, se_1, se_2, se_3, se_4, se_5, se_6, se_7, se_8, se_9, se_10, se_11, se_12, se_13, sem_0, sem_1, sem_2, sem_3, sem_4, sem_5, List.getD_cons_zero, List.getD_cons_succ, Bool.false_eq_true, wrn3, wrn1, cpmS, cpok9, if_true, if_false, ↓reduceIte, wc_19, wc_56, wc_209, cl_19, runB, B19, ma_19, rho_00, cl_56, B56, ma_56, w_cst, w_ldi, w_ldj, w_lda, w_ljk, w_ldk, w_ldw, w_ldk2, w_ldt, w_ldtw, w_neg, w_cvb, w_cvs, w_cvc, w_cvj, w_add, w_sub, w_mul, w_ban, w_bor, w_bxo, w_shl, w_shr, w_ush, w_dvi, w_rmi, w_aldi, w_aldj, w_aldz, w_aldc, w_alda, w_ite, w_cmp, w_cmj, w_cz, w_cnot, w_cand, w_cor, w_nil, w_cons, w_cvi, w_csta, w_cvt, w_cvv, w_csv, w_cpy, w_seq, w_sbr, w_sbn, w_brk, w_ifs, w_ifx, w_ife, w_wk, w_rets, w_rtv, w_thr, w_asi, w_asj, w_asa, w_inc, w_exs, w_asti, w_astj, w_astz, w_astc, w_aopadd, w_aopsub, w_sw, if_true, if_false, ↓reduceIte, sr_249_11, sr_249_25, sr_249_17, sr_249_14, sr_249_71, sr_249_13, sr_249_64, sr_249_68, sr_249_15, sr_249_23, sr_249_67, sr_249_35, sr_249_43, sr_249_8, sr_249_41, sr_249_42, sr_249_30, sr_249_52, sr_249_58, sr_249_61, sr_249_55, sr_249_63, sr_249_54, sr_249_31, sr_249_40, sr_249_2, sr_249_22, sr_249_10, kl9_249, sr_249_50, sr_249_57, sr_249_34, sr_249_12, sr_249_16, sr_249_51, kc_249, sr_249_69, sr_249_24, sr_249_9, sr_249_70, kc_265, kl9_265, kc_267, kl9_267, kc_268, kl9_268, h58])
  iterate 3 ((with_reducible refine And.intro ?_ ?_))
  omega
  (with_reducible refine And.intro ?_ ?_)
  omega
  (with_reducible exact True.intro)
  (with_reducible refine And.intro ?_ ?_)
  iterate 2 (focus (unfold w32; omega))
  (with_reducible refine And.intro ?_ ?_)
  (with_reducible exact True.intro)
  focus (with_reducible refine ⟨k - 1, ?_, j + 1, m 265 j, _, ?_, rfl, ?_, ?_, ?_, ?_, ?_⟩; (next => omega); (next => refine rl4c ?_ ?_ <;> (try simp only [n4]) <;> (repeat' split) <;> (first | omega | (unfold w32; omega))); (next => refine JW_of hL ?_ (by decide); repeat (first | assumption | (refine JW_up ?_ (by first | decide | (unfold frR; omega)) (by first | decide | simp [frc]) (by first | decide | simp [frw]) (by first | (simp [BdR]; done) | (refine BdR_n (by simp) ?_; (first | (refine rb_at ?_ ?_ <;> first | omega | (simp only [upm_app]; (repeat' split) <;> omega)) | (refine rb_us ?_ ?_ <;> first | omega | (simp only [upm_app]; (repeat' split) <;> omega)) | (refine rb_ho ?_ ?_ <;> first | omega | (simp only [upm_app]; (repeat' split) <;> omega)) | (refine rb_on ?_ ?_ <;> first | omega | (simp only [upm_app]; (repeat' split) <;> omega)) | ((try simp (disch := omega) only [w32_eq]); (refine (rb_i ?_ ?_).2 ?_ <;> omega)) | (refine rb_us ?_ ?_ <;> first | omega | (unfold w32; omega)))) | (simp [BdR] <;> first | omega | (unfold w32; omega)) | (simp [BdR, upm] <;> first | omega | (unfold w32; omega)))))); (next => funext y; simp [upm, e265]); (next => simp [upm, e32]); (next => omega); (next => omega))
  intro _
  (with_reducible refine And.intro ?_ ?_)
  omega
  iterate 2 ((with_reducible refine And.intro ?_ ?_))
  omega
  (with_reducible refine And.intro ?_ ?_)
  omega
  (with_reducible exact True.intro)
  (with_reducible refine And.intro ?_ ?_)
  intro _
  (with_reducible refine And.intro ?_ ?_)
  omega
  iterate 2 ((with_reducible refine And.intro ?_ ?_))
  omega
  (with_reducible refine And.intro ?_ ?_)
  omega
  (with_reducible exact True.intro)
  iterate 3 ((with_reducible refine And.intro ?_ ?_))
  omega
  (with_reducible refine And.intro ?_ ?_)
  omega
  (with_reducible exact True.intro)
  (with_reducible refine And.intro ?_ ?_)
  iterate 2 (focus (unfold w32; omega))
  iterate 3 ((with_reducible refine And.intro ?_ ?_))
  omega
  (with_reducible refine And.intro ?_ ?_)
  omega
  (with_reducible exact True.intro)
  omega
  (with_reducible refine And.intro ?_ ?_)
  (with_reducible exact True.intro)
  focus (with_reducible refine ⟨k - 1, ?_, j + 1, m 265 j, _, ?_, rfl, ?_, ?_, ?_, ?_, ?_⟩; (next => omega); (next => refine rl4c ?_ ?_ <;> (try simp only [n4]) <;> (repeat' split) <;> (first | omega | (unfold w32; omega))); (next => refine JW_of hL ?_ (by decide); repeat (first | assumption | (refine JW_up ?_ (by first | decide | (unfold frR; omega)) (by first | decide | simp [frc]) (by first | decide | simp [frw]) (by first | (simp [BdR]; done) | (refine BdR_n (by simp) ?_; (first | (refine rb_at ?_ ?_ <;> first | omega | (simp only [upm_app]; (repeat' split) <;> omega)) | (refine rb_us ?_ ?_ <;> first | omega | (simp only [upm_app]; (repeat' split) <;> omega)) | (refine rb_ho ?_ ?_ <;> first | omega | (simp only [upm_app]; (repeat' split) <;> omega)) | (refine rb_on ?_ ?_ <;> first | omega | (simp only [upm_app]; (repeat' split) <;> omega)) | ((try simp (disch := omega) only [w32_eq]); (refine (rb_i ?_ ?_).2 ?_ <;> omega)) | (refine rb_us ?_ ?_ <;> first | omega | (unfold w32; omega)))) | (simp [BdR] <;> first | omega | (unfold w32; omega)) | (simp [BdR, upm] <;> first | omega | (unfold w32; omega)))))); (next => funext y; simp [upm, e265]); (next => simp [upm, e32]); (next => omega); (next => omega))
  intro _
  iterate 3 ((with_reducible refine And.intro ?_ ?_))
  omega
  (with_reducible refine And.intro ?_ ?_)
  omega
  (with_reducible exact True.intro)
  omega
  (with_reducible refine And.intro ?_ ?_)
  (with_reducible exact True.intro)
  focus (with_reducible refine ⟨k - 1, ?_, j + 1, m 265 j, _, ?_, rfl, ?_, ?_, ?_, ?_, ?_⟩; (next => omega); (next => refine rl4c ?_ ?_ <;> (try simp only [n4]) <;> (repeat' split) <;> (first | omega | (unfold w32; omega))); (next => refine JW_of hL ?_ (by decide); repeat (first | assumption | (refine JW_up ?_ (by first | decide | (unfold frR; omega)) (by first | decide | simp [frc]) (by first | decide | simp [frw]) (by first | (simp [BdR]; done) | (refine BdR_n (by simp) ?_; (first | (refine rb_at ?_ ?_ <;> first | omega | (simp only [upm_app]; (repeat' split) <;> omega)) | (refine rb_us ?_ ?_ <;> first | omega | (simp only [upm_app]; (repeat' split) <;> omega)) | (refine rb_ho ?_ ?_ <;> first | omega | (simp only [upm_app]; (repeat' split) <;> omega)) | (refine rb_on ?_ ?_ <;> first | omega | (simp only [upm_app]; (repeat' split) <;> omega)) | ((try simp (disch := omega) only [w32_eq]); (refine (rb_i ?_ ?_).2 ?_ <;> omega)) | (refine rb_us ?_ ?_ <;> first | omega | (unfold w32; omega)))) | (simp [BdR] <;> first | omega | (unfold w32; omega)) | (simp [BdR, upm] <;> first | omega | (unfold w32; omega)))))); (next => funext y; simp [upm, e265]); (next => simp [upm, e32]); (next => omega); (next => omega))
  intro _
  (with_reducible refine And.intro ?_ ?_)
  omega
  iterate 2 ((with_reducible refine And.intro ?_ ?_))
  omega
  (with_reducible refine And.intro ?_ ?_)
  omega
  (with_reducible exact True.intro)
  (with_reducible refine And.intro ?_ ?_)
  intro _
  (with_reducible refine And.intro ?_ ?_)
  omega
  iterate 2 ((with_reducible refine And.intro ?_ ?_))
  omega
  (with_reducible refine And.intro ?_ ?_)
  omega
  (with_reducible exact True.intro)
  iterate 3 ((with_reducible refine And.intro ?_ ?_))
  omega
  (with_reducible refine And.intro ?_ ?_)
  omega
  (with_reducible exact True.intro)
  omega
  (with_reducible refine And.intro ?_ ?_)
  omega
  iterate 2 ((with_reducible refine And.intro ?_ ?_))
  omega
  (with_reducible refine And.intro ?_ ?_)
  omega
  (with_reducible exact True.intro)
  iterate 3 ((with_reducible refine And.intro ?_ ?_))
  omega
  (with_reducible refine And.intro ?_ ?_)
  omega
  (with_reducible exact True.intro)
  omega
  (with_reducible refine And.intro ?_ ?_)
  intro _
  (exact w10 _ (by assumption))
  (with_reducible refine And.intro ?_ ?_)
  intro _
  (with_reducible refine And.intro ?_ ?_)
  (with_reducible exact True.intro)
  (with_reducible refine And.intro ?_ ?_)
  omega
  intro _
  (with_reducible refine And.intro ?_ ?_)
  (with_reducible exact True.intro)
  (with_reducible refine And.intro ?_ ?_)
  (with_reducible exact True.intro)
  focus (with_reducible refine hq _ _ ?_; (next => refine JW_of hL ?_ (by decide); repeat (first | assumption | (refine JW_up ?_ (by first | decide | (unfold frR; omega)) (by first | decide | simp [frc]) (by first | decide | simp [frw]) (by first | (simp [BdR]; done) | (refine BdR_n (by simp) ?_; (first | (refine rb_at ?_ ?_ <;> first | omega | (simp only [upm_app]; (repeat' split) <;> omega)) | (refine rb_us ?_ ?_ <;> first | omega | (simp only [upm_app]; (repeat' split) <;> omega)) | (refine rb_ho ?_ ?_ <;> first | omega | (simp only [upm_app]; (repeat' split) <;> omega)) | (refine rb_on ?_ ?_ <;> first | omega | (simp only [upm_app]; (repeat' split) <;> omega)) | ((try simp (disch := omega) only [w32_eq]); (refine (rb_i ?_ ?_).2 ?_ <;> omega)) | (refine rb_us ?_ ?_ <;> first | omega | (unfold w32; omega)))) | (simp [BdR] <;> first | omega | (unfold w32; omega)) | (simp [BdR, upm] <;> first | omega | (unfold w32; omega)))))))
  intro _
  (with_reducible refine And.intro ?_ ?_)
  (with_reducible exact True.intro)
  (with_reducible refine And.intro ?_ ?_)
  intro _
  (with_reducible refine And.intro ?_ ?_)
  (with_reducible exact True.intro)
  (with_reducible refine And.intro ?_ ?_)
  (with_reducible exact True.intro)
  focus (with_reducible refine hq _ _ ?_; (next => refine JW_of hL ?_ (by decide); repeat (first | assumption | (refine JW_up ?_ (by first | decide | (unfold frR; omega)) (by first | decide | simp [frc]) (by first | decide | simp [frw]) (by first | (simp [BdR]; done) | (refine BdR_n (by simp) ?_; (first | (refine rb_at ?_ ?_ <;> first | omega | (simp only [upm_app]; (repeat' split) <;> omega)) | (refine rb_us ?_ ?_ <;> first | omega | (simp only [upm_app]; (repeat' split) <;> omega)) | (refine rb_ho ?_ ?_ <;> first | omega | (simp only [upm_app]; (repeat' split) <;> omega)) | (refine rb_on ?_ ?_ <;> first | omega | (simp only [upm_app]; (repeat' split) <;> omega)) | ((try simp (disch := omega) only [w32_eq]); (refine (rb_i ?_ ?_).2 ?_ <;> omega)) | (refine rb_us ?_ ?_ <;> first | omega | (unfold w32; omega)))) | (simp [BdR] <;> first | omega | (unfold w32; omega)) | (simp [BdR, upm] <;> first | omega | (unfold w32; omega)))))))
  intro _
  (with_reducible refine And.intro ?_ ?_)
  (with_reducible exact True.intro)
  (with_reducible refine And.intro ?_ ?_)
  (with_reducible exact True.intro)
  focus (with_reducible refine hq _ _ ?_; (next => refine JW_of hL ?_ (by decide); repeat (first | assumption | (refine JW_up ?_ (by first | decide | (unfold frR; omega)) (by first | decide | simp [frc]) (by first | decide | simp [frw]) (by first | (simp [BdR]; done) | (refine BdR_n (by simp) ?_; (first | (refine rb_at ?_ ?_ <;> first | omega | (simp only [upm_app]; (repeat' split) <;> omega)) | (refine rb_us ?_ ?_ <;> first | omega | (simp only [upm_app]; (repeat' split) <;> omega)) | (refine rb_ho ?_ ?_ <;> first | omega | (simp only [upm_app]; (repeat' split) <;> omega)) | (refine rb_on ?_ ?_ <;> first | omega | (simp only [upm_app]; (repeat' split) <;> omega)) | ((try simp (disch := omega) only [w32_eq]); (refine (rb_i ?_ ?_).2 ?_ <;> omega)) | (refine rb_us ?_ ?_ <;> first | omega | (unfold w32; omega)))) | (simp [BdR] <;> first | omega | (unfold w32; omega)) | (simp [BdR, upm] <;> first | omega | (unfold w32; omega)))))))
  intro _
  (with_reducible refine And.intro ?_ ?_)
  omega
  iterate 2 ((with_reducible refine And.intro ?_ ?_))
  omega
  (with_reducible refine And.intro ?_ ?_)
  omega
  (with_reducible exact True.intro)
  iterate 3 ((with_reducible refine And.intro ?_ ?_))
  omega
  (with_reducible refine And.intro ?_ ?_)
  omega
  (with_reducible exact True.intro)
  omega
  (with_reducible refine And.intro ?_ ?_)
  intro _
  (with_reducible refine And.intro ?_ ?_)
  (with_reducible exact True.intro)
  (with_reducible refine And.intro ?_ ?_)
  omega
  intro _
  (with_reducible refine And.intro ?_ ?_)
  (with_reducible exact True.intro)
  (with_reducible refine And.intro ?_ ?_)
  (with_reducible exact True.intro)
  focus (with_reducible refine hq _ _ ?_; (next => refine JW_of hL ?_ (by decide); repeat (first | assumption | (refine JW_up ?_ (by first | decide | (unfold frR; omega)) (by first | decide | simp [frc]) (by first | decide | simp [frw]) (by first | (simp [BdR]; done) | (refine BdR_n (by simp) ?_; (first | (refine rb_at ?_ ?_ <;> first | omega | (simp only [upm_app]; (repeat' split) <;> omega)) | (refine rb_us ?_ ?_ <;> first | omega | (simp only [upm_app]; (repeat' split) <;> omega)) | (refine rb_ho ?_ ?_ <;> first | omega | (simp only [upm_app]; (repeat' split) <;> omega)) | (refine rb_on ?_ ?_ <;> first | omega | (simp only [upm_app]; (repeat' split) <;> omega)) | ((try simp (disch := omega) only [w32_eq]); (refine (rb_i ?_ ?_).2 ?_ <;> omega)) | (refine rb_us ?_ ?_ <;> first | omega | (unfold w32; omega)))) | (simp [BdR] <;> first | omega | (unfold w32; omega)) | (simp [BdR, upm] <;> first | omega | (unfold w32; omega)))))))
  intro _
  (with_reducible refine And.intro ?_ ?_)
  (with_reducible exact True.intro)
  (with_reducible refine And.intro ?_ ?_)
  intro _
  (with_reducible refine And.intro ?_ ?_)
  (with_reducible exact True.intro)
  (with_reducible refine And.intro ?_ ?_)
  (with_reducible exact True.intro)
  focus (with_reducible refine hq _ _ ?_; (next => refine JW_of hL ?_ (by decide); repeat (first | assumption | (refine JW_up ?_ (by first | decide | (unfold frR; omega)) (by first | decide | simp [frc]) (by first | decide | simp [frw]) (by first | (simp [BdR]; done) | (refine BdR_n (by simp) ?_; (first | (refine rb_at ?_ ?_ <;> first | omega | (simp only [upm_app]; (repeat' split) <;> omega)) | (refine rb_us ?_ ?_ <;> first | omega | (simp only [upm_app]; (repeat' split) <;> omega)) | (refine rb_ho ?_ ?_ <;> first | omega | (simp only [upm_app]; (repeat' split) <;> omega)) | (refine rb_on ?_ ?_ <;> first | omega | (simp only [upm_app]; (repeat' split) <;> omega)) | ((try simp (disch := omega) only [w32_eq]); (refine (rb_i ?_ ?_).2 ?_ <;> omega)) | (refine rb_us ?_ ?_ <;> first | omega | (unfold w32; omega)))) | (simp [BdR] <;> first | omega | (unfold w32; omega)) | (simp [BdR, upm] <;> first | omega | (unfold w32; omega)))))))
  intro _
  (with_reducible refine And.intro ?_ ?_)
  (with_reducible exact True.intro)
  (with_reducible refine And.intro ?_ ?_)
  (with_reducible exact True.intro)
  focus (with_reducible refine hq _ _ ?_; (next => refine JW_of hL ?_ (by decide); repeat (first | assumption | (refine JW_up ?_ (by first | decide | (unfold frR; omega)) (by first | decide | simp [frc]) (by first | decide | simp [frw]) (by first | (simp [BdR]; done) | (refine BdR_n (by simp) ?_; (first | (refine rb_at ?_ ?_ <;> first | omega | (simp only [upm_app]; (repeat' split) <;> omega)) | (refine rb_us ?_ ?_ <;> first | omega | (simp only [upm_app]; (repeat' split) <;> omega)) | (refine rb_ho ?_ ?_ <;> first | omega | (simp only [upm_app]; (repeat' split) <;> omega)) | (refine rb_on ?_ ?_ <;> first | omega | (simp only [upm_app]; (repeat' split) <;> omega)) | ((try simp (disch := omega) only [w32_eq]); (refine (rb_i ?_ ?_).2 ?_ <;> omega)) | (refine rb_us ?_ ?_ <;> first | omega | (unfold w32; omega)))) | (simp [BdR] <;> first | omega | (unfold w32; omega)) | (simp [BdR, upm] <;> first | omega | (unfold w32; omega)))))))

set_option maxHeartbeats 8000000 in
theorem s_207 {d : Nat} {tc pl e W : Int} {g : Fg} {m : Mem} {Q : Int → Sto → Prop} {N : Int → Int} {a b c f h i j : Int} (hh : 0 ≤ h ∧ h ≤ 4) (hJ : JW 4 g tc pl N W m) (hq : ∀ v m', JW 4 g tc pl N W m' → Q v (S9 e m')) : Cl (d + 4) 207 [249, a, b, c, f, h, i, j] Q (S9 e m) := by
  have hL := JW_l hJ
  have hs := JW_s hJ
  have h58 := hJ.2.1
  simp only [cl_207, runB, B207, ma_207, rho_20000000, wf_13_33, wf_13_66, wc_208, w_cst, w_ldi, w_ldj, w_lda, w_ljk, w_ldk, w_ldw, w_ldk2, w_ldt, w_ldtw, w_neg, w_cvb, w_cvs, w_cvc, w_cvj, w_add, w_sub, w_mul, w_ban, w_bor, w_bxo, w_shl, w_shr, w_ush, w_dvi, w_rmi, w_aldi, w_aldj, w_aldz, w_aldc, w_alda, w_ite, w_cmp, w_cmj, w_cz, w_cnot, w_cand, w_cor, w_nil, w_cons, w_cvi, w_csta, w_cvt, w_cvv, w_csv, w_cpy, w_seq, w_sbr, w_sbn, w_brk, w_ifs, w_ifx, w_ife, w_wk, w_rets, w_rtv, w_thr, w_asi, w_asj, w_asa, w_inc, w_exs, w_asti, w_astj, w_astz, w_astc, w_aopadd, w_aopsub, w_sw, if_true, if_false, ↓reduceIte, hdl_c, S9_1, S9_m, bud9, live9, inb9, wrn, wr9_14, wr9_15, wr9_16, wr9_17, tq9_14, tq9_15, tq9_16, tq9_17, tq_0, tq_1, tq_3, upr_rl, rl_0, rl_1, rl_2, rl_3, rl_4, rl_5, rl_6, rl_7, rl_8, rl_9, rl_10, rl_11, rl_12, rl_13, sp_0, sp_1, sp_2, sp_3, sp_4, sp_5, sp_6, sp_7, sp_8, sp_9, sp_10, sp_11, sp_12, sp_13, se_0, se_1, se_2, se_3, se_4, se_5, se_6, se_7, se_8, se_9, se_10, se_11, se_12, se_13, sem_0, sem_1, sem_2, sem_3, sem_4, sem_5, sr_249_11, sr_249_25, sr_249_17, sr_249_14, sr_249_71, sr_249_13, sr_249_64, sr_249_68, sr_249_15, sr_249_23, sr_249_67, sr_249_35, sr_249_43, sr_249_8, sr_249_41, sr_249_42, sr_249_30, sr_249_52, sr_249_58, sr_249_61, sr_249_55, sr_249_63, sr_249_54, sr_249_31, sr_249_40, sr_249_2, sr_249_22, sr_249_10, kl9_249, sr_249_50, sr_249_57, sr_249_34, sr_249_12, sr_249_16, sr_249_51, kc_249, sr_249_69, sr_249_24, sr_249_9, sr_249_70, kc_256, kl9_256, kc_257, kl9_257, kc_268, kl9_268, List.getD_cons_zero, List.getD_cons_succ, Bool.false_eq_true, wrn3, wrn1, cpmS, cpok9, h58]
  (with_reducible refine And.intro ?_ ?_)
  omega
  iterate 2 ((with_reducible refine And.intro ?_ ?_))
  omega
  (with_reducible refine And.intro ?_ ?_)
  omega
  (with_reducible exact True.intro)
  iterate 3 ((with_reducible refine And.intro ?_ ?_))
  omega
  (with_reducible refine And.intro ?_ ?_)
  omega
  (with_reducible exact True.intro)
  omega
  (with_reducible refine And.intro ?_ ?_)
  (with_reducible exact True.intro)
  (with_reducible refine And.intro ?_ ?_)
  omega
  iterate 2 ((with_reducible refine And.intro ?_ ?_))
  omega
  (with_reducible refine And.intro ?_ ?_)
  omega
  (with_reducible exact True.intro)
  iterate 3 ((with_reducible refine And.intro ?_ ?_))
  omega
  (with_reducible refine And.intro ?_ ?_)
  omega
  (with_reducible exact True.intro)
  omega
  (with_reducible refine And.intro ?_ ?_)
  (with_reducible exact True.intro)
  (with_reducible refine And.intro ?_ ?_)
  omega
  iterate 2 ((with_reducible refine And.intro ?_ ?_))
  omega
  (with_reducible refine And.intro ?_ ?_)
  omega
  (with_reducible exact True.intro)
  iterate 3 ((with_reducible refine And.intro ?_ ?_))
  omega
  (with_reducible refine And.intro ?_ ?_)
  omega
  (with_reducible exact True.intro)
  omega
  (with_reducible refine And.intro ?_ ?_)
  (with_reducible exact True.intro)
  (with_reducible refine And.intro ?_ ?_)
  omega
  iterate 2 ((with_reducible refine And.intro ?_ ?_))
  omega
  (with_reducible refine And.intro ?_ ?_)
  omega
  (with_reducible exact True.intro)
  (with_reducible refine And.intro ?_ ?_)
  omega
  iterate 2 ((with_reducible refine And.intro ?_ ?_))
  omega
  (with_reducible refine And.intro ?_ ?_)
  omega
  (with_reducible exact True.intro)
  iterate 3 ((with_reducible refine And.intro ?_ ?_))
  omega
  (with_reducible refine And.intro ?_ ?_)
  omega
  (with_reducible exact True.intro)
  omega
  iterate 3 ((with_reducible refine And.intro ?_ ?_))
  omega
  (with_reducible refine And.intro ?_ ?_)
  omega
  (with_reducible exact True.intro)
  omega
  (with_reducible refine And.intro ?_ ?_)
  (with_reducible exact True.intro)
  (with_reducible refine And.intro ?_ ?_)
  omega
  iterate 2 ((with_reducible refine And.intro ?_ ?_))
  omega
  (with_reducible refine And.intro ?_ ?_)
  omega
  (with_reducible exact True.intro)
  iterate 3 ((with_reducible refine And.intro ?_ ?_))
  omega
  (with_reducible refine And.intro ?_ ?_)
  omega
  (with_reducible exact True.intro)
  omega
  (with_reducible refine And.intro ?_ ?_)
  (with_reducible exact True.intro)
  (with_reducible refine And.intro ?_ ?_)
  omega
  iterate 2 ((with_reducible refine And.intro ?_ ?_))
  omega
  (with_reducible refine And.intro ?_ ?_)
  omega
  (with_reducible exact True.intro)
  iterate 3 ((with_reducible refine And.intro ?_ ?_))
  omega
  (with_reducible refine And.intro ?_ ?_)
  omega
  (with_reducible exact True.intro)
  omega
  (with_reducible refine And.intro ?_ ?_)
  (with_reducible exact True.intro)
  (with_reducible refine And.intro ?_ ?_)
  omega
  iterate 2 ((with_reducible refine And.intro ?_ ?_))
  omega
  (with_reducible refine And.intro ?_ ?_)
  omega
  (with_reducible exact True.intro)
  iterate 3 ((with_reducible refine And.intro ?_ ?_))
  omega
  (with_reducible refine And.intro ?_ ?_)
  omega
  (with_reducible exact True.intro)
  omega
  (with_reducible refine And.intro ?_ ?_)
  (with_reducible exact True.intro)
  (with_reducible refine And.intro ?_ ?_)
  omega
  iterate 2 ((with_reducible refine And.intro ?_ ?_))
  omega
  (with_reducible refine And.intro ?_ ?_)
  omega
  (with_reducible exact True.intro)
  iterate 3 ((with_reducible refine And.intro ?_ ?_))
  omega
  (with_reducible refine And.intro ?_ ?_)
  omega
  (with_reducible exact True.intro)
  omega
  (with_reducible refine And.intro ?_ ?_)
  (with_reducible exact True.intro)
  (with_reducible refine And.intro ?_ ?_)
  omega
  iterate 2 ((with_reducible refine And.intro ?_ ?_))
  omega
  (with_reducible refine And.intro ?_ ?_)
  omega
  (with_reducible exact True.intro)
  focus (with_reducible refine s_208 (g := g) (tc := tc) (pl := pl) (N := N) (W := W) ?_ (fun v9 m9 hJ9  => ?_); (next => refine JW_of hL ?_ (by decide); repeat (first | assumption | (refine JW_up ?_ (by first | decide | (unfold frR; omega)) (by first | decide | simp [frc]) (by first | decide | simp [frw]) (by first | (simp [BdR]; done) | (refine BdR_n (by simp) ?_; (first | (refine rb_at ?_ ?_ <;> first | omega | (simp only [upm_app]; (repeat' split) <;> omega)) | (refine rb_us ?_ ?_ <;> first | omega | (simp only [upm_app]; (repeat' split) <;> omega)) | (refine rb_ho ?_ ?_ <;> first | omega | (simp only [upm_app]; (repeat' split) <;> omega)) | (refine rb_on ?_ ?_ <;> first | omega | (simp only [upm_app]; (repeat' split) <;> omega)) | ((try simp (disch := omega) only [w32_eq]); (refine (rb_i ?_ ?_).2 ?_ <;> omega)) | (refine rb_us ?_ ?_ <;> first | omega | (unfold w32; omega)))) | (simp [BdR] <;> first | omega | (unfold w32; omega)) | (simp [BdR, upm] <;> first | omega | (unfold w32; omega)))))); (try clear hs9); have hJ9 := JW_dn hL hJ9; have hs9 := JW_s hJ9; (try clear h58); have h58 := JW_2 hJ9; simp only [hdl_c, S9_1, S9_m, bud9, live9, inb9, wrn, wr9_14, wr9_15, wr9_16, wr9_17, tq9_14, tq9_15, tq9_16, tq9_17, tq_0, tq_1, tq_3, upr_rl, rl_0, rl_1, rl_2, rl_3, rl_4, rl_5, rl_6, rl_7, rl_8, rl_9, rl_10, rl_11, rl_12, rl_13, sp_0, sp_1, sp_2, sp_3, sp_4, sp_5, sp_6, sp_7, sp_8, sp_9, sp_10, sp_11, sp_12, sp_13, se_0, se_1, se_2, se_3, se_4, se_5, se_6, se_7, se_8, se_9, se_10, se_11, se_12, se_13, sem_0, sem_1, sem_2, sem_3, sem_4, sem_5, List.getD_cons_zero, List.getD_cons_succ, Bool.false_eq_true, wrn3, wrn1, cpmS, cpok9, if_true, if_false, ↓reduceIte, wc_208, sr_249_11, sr_249_25, sr_249_17, sr_249_14, sr_249_71, sr_249_13, sr_249_64, sr_249_68, sr_249_15, sr_249_23, sr_249_67, sr_249_35, sr_249_43, sr_249_8, sr_249_41, sr_249_42, sr_249_30, sr_249_52, sr_249_58, sr_249_61, sr_249_55, sr_249_63, sr_249_54, sr_249_31, sr_249_40, sr_249_2, sr_249_22, sr_249_10, kl9_249, sr_249_50, sr_249_57, sr_249_34, sr_249_12, sr_249_16, sr_249_51, kc_249, sr_249_69, sr_249_24, sr_249_9, sr_249_70, kc_256, kl9_256, kc_257, kl9_257, kc_268, kl9_268, h58]; (try simp (disch := omega) only [w15_0, w15_1, w15_3, w15_4, w15_5, w15_6, w3_0, w3_1, w3_2]))
  (with_reducible refine And.intro ?_ ?_)
  (with_reducible exact True.intro)
  focus (with_reducible refine hq _ _ ?_; (next => refine JW_of hL ?_ (by decide); repeat (first | assumption | (refine JW_up ?_ (by first | decide | (unfold frR; omega)) (by first | decide | simp [frc]) (by first | decide | simp [frw]) (by first | (simp [BdR]; done) | (refine BdR_n (by simp) ?_; (first | (refine rb_at ?_ ?_ <;> first | omega | (simp only [upm_app]; (repeat' split) <;> omega)) | (refine rb_us ?_ ?_ <;> first | omega | (simp only [upm_app]; (repeat' split) <;> omega)) | (refine rb_ho ?_ ?_ <;> first | omega | (simp only [upm_app]; (repeat' split) <;> omega)) | (refine rb_on ?_ ?_ <;> first | omega | (simp only [upm_app]; (repeat' split) <;> omega)) | ((try simp (disch := omega) only [w32_eq]); (refine (rb_i ?_ ?_).2 ?_ <;> omega)) | (refine rb_us ?_ ?_ <;> first | omega | (unfold w32; omega)))) | (simp [BdR] <;> first | omega | (unfold w32; omega)) | (simp [BdR, upm] <;> first | omega | (unfold w32; omega)))))))

set_option maxHeartbeats 8000000 in
theorem s_206_n {d : Nat} {tc pl e W : Int} {g : Fg} {m : Mem} {Q : Int → Sto → Prop} {N : Int → Int} {a : Int} (ha : 0 ≤ a ∧ a ≤ 4) (hJ : JW 4 g tc pl N W m) (hq : ∀ v m', JW 4 g tc pl N W m' → Q v (S9 e m')) : Cl (d + 5) 206 [249, 258, a] Q (S9 e m) := by
  have hL := JW_l hJ
  have hs := JW_s hJ
  have h58 := hJ.2.1
  have hx0 := JW_p hJ a
  simp only [cl_206, runB, B206, ma_206, rho_220, wc_188, wc_207, w_cst, w_ldi, w_ldj, w_lda, w_ljk, w_ldk, w_ldw, w_ldk2, w_ldt, w_ldtw, w_neg, w_cvb, w_cvs, w_cvc, w_cvj, w_add, w_sub, w_mul, w_ban, w_bor, w_bxo, w_shl, w_shr, w_ush, w_dvi, w_rmi, w_aldi, w_aldj, w_aldz, w_aldc, w_alda, w_ite, w_cmp, w_cmj, w_cz, w_cnot, w_cand, w_cor, w_nil, w_cons, w_cvi, w_csta, w_cvt, w_cvv, w_csv, w_cpy, w_seq, w_sbr, w_sbn, w_brk, w_ifs, w_ifx, w_ife, w_wk, w_rets, w_rtv, w_thr, w_asi, w_asj, w_asa, w_inc, w_exs, w_asti, w_astj, w_astz, w_astc, w_aopadd, w_aopsub, w_sw, if_true, if_false, ↓reduceIte, hdl_c, S9_1, S9_m, bud9, live9, inb9, wrn, wr9_14, wr9_15, wr9_16, wr9_17, tq9_14, tq9_15, tq9_16, tq9_17, tq_0, tq_1, tq_3, upr_rl, rl_0, rl_1, rl_2, rl_3, rl_4, rl_5, rl_6, rl_7, rl_8, rl_9, rl_10, rl_11, rl_12, rl_13, sp_0, sp_1, sp_2, sp_3, sp_4, sp_5, sp_6, sp_7, sp_8, sp_9, sp_10, sp_11, sp_12, sp_13, se_0, se_1, se_2, se_3, se_4, se_5, se_6, se_7, se_8, se_9, se_10, se_11, se_12, se_13, sem_0, sem_1, sem_2, sem_3, sem_4, sem_5, sr_249_11, sr_249_25, sr_249_17, sr_249_14, sr_249_71, sr_249_13, sr_249_64, sr_249_68, sr_249_15, sr_249_23, sr_249_67, sr_249_35, sr_249_43, sr_249_8, sr_249_41, sr_249_42, sr_249_30, sr_249_52, sr_249_58, sr_249_61, sr_249_55, sr_249_63, sr_249_54, sr_249_31, sr_249_40, sr_249_2, sr_249_22, sr_249_10, kl9_249, sr_249_50, sr_249_57, sr_249_34, sr_249_12, sr_249_16, sr_249_51, kc_249, sr_249_69, sr_249_24, sr_249_9, sr_249_70, kl9_258, kc_258, List.getD_cons_zero, List.getD_cons_succ, Bool.false_eq_true, wrn3, wrn1, cpmS, cpok9, h58]
  focus (with_reducible refine p_188 ?_ ?_; (next => first | omega | (with_reducible rfl) | decide | (unfold w32; omega) | (simp (disch := omega) only [w32_eq]; omega) | (simp [upm] <;> (first | omega | (unfold w32; omega)))); simp only [hdl_c, S9_1, S9_m, bud9, live9, inb9, wrn, wr9_14, wr9_15, wr9_16, wr9_17, tq9_14, tq9_15, tq9_16, tq9_17, tq_0, tq_1, tq_3, upr_rl, rl_0, rl_1, rl_2, rl_3, rl_4, rl_5, rl_6, rl_7, rl_8, rl_9, rl_10, rl_11, rl_12, rl_13, sp_0, sp_1, sp_2, sp_3, sp_4, sp_5, sp_6, sp_7, sp_8, sp_9, sp_10, sp_11, sp_12, sp_13, se_0, se_1, se_2, se_3, se_4, se_5, se_6, se_7, se_8, se_9, se_10, se_11, se_12, se_13, sem_0, sem_1, sem_2, sem_3, sem_4, sem_5, List.getD_cons_zero, List.getD_cons_succ, Bool.false_eq_true, wrn3, wrn1, cpmS, cpok9, if_true, if_false, ↓reduceIte, wc_188, wc_207, sr_249_11, sr_249_25, sr_249_17, sr_249_14, sr_249_71, sr_249_13, sr_249_64, sr_249_68, sr_249_15, sr_249_23, sr_249_67, sr_249_35, sr_249_43, sr_249_8, sr_249_41, sr_249_42, sr_249_30, sr_249_52, sr_249_58, sr_249_61, sr_249_55, sr_249_63, sr_249_54, sr_249_31, sr_249_40, sr_249_2, sr_249_22, sr_249_10, kl9_249, sr_249_50, sr_249_57, sr_249_34, sr_249_12, sr_249_16, sr_249_51, kc_249, sr_249_69, sr_249_24, sr_249_9, sr_249_70, kl9_258, kc_258, h58]; (try simp (disch := omega) only [w15_0, w15_1, w15_3, w15_4, w15_5, w15_6, w3_0, w3_1, w3_2]))
  (with_reducible refine And.intro ?_ ?_)
  omega
  iterate 3 ((with_reducible refine And.intro ?_ ?_))
  omega
  (with_reducible refine And.intro ?_ ?_)
  omega
  (with_reducible exact True.intro)
  omega
  (with_reducible refine And.intro ?_ ?_)
  intro _
  (with_reducible refine And.intro ?_ ?_)
  (with_reducible exact True.intro)
  focus (with_reducible refine hq _ _ ?_; (next => refine JW_of hL ?_ (by decide); repeat (first | assumption | (refine JW_up ?_ (by first | decide | (unfold frR; omega)) (by first | decide | simp [frc]) (by first | decide | simp [frw]) (by first | (simp [BdR]; done) | (refine BdR_n (by simp) ?_; (first | (refine rb_at ?_ ?_ <;> first | omega | (simp only [upm_app]; (repeat' split) <;> omega)) | (refine rb_us ?_ ?_ <;> first | omega | (simp only [upm_app]; (repeat' split) <;> omega)) | (refine rb_ho ?_ ?_ <;> first | omega | (simp only [upm_app]; (repeat' split) <;> omega)) | (refine rb_on ?_ ?_ <;> first | omega | (simp only [upm_app]; (repeat' split) <;> omega)) | ((try simp (disch := omega) only [w32_eq]); (refine (rb_i ?_ ?_).2 ?_ <;> omega)) | (refine rb_us ?_ ?_ <;> first | omega | (unfold w32; omega)))) | (simp [BdR] <;> first | omega | (unfold w32; omega)) | (simp [BdR, upm] <;> first | omega | (unfold w32; omega)))))))
  intro _
  (with_reducible refine And.intro ?_ ?_)
  omega
  (with_reducible refine And.intro ?_ ?_)
  omega
  iterate 3 ((with_reducible refine And.intro ?_ ?_))
  omega
  (with_reducible refine And.intro ?_ ?_)
  omega
  (with_reducible exact True.intro)
  (with_reducible refine And.intro ?_ ?_)
  iterate 2 (focus (simp (disch := omega) only [w32_eq]; omega))
  (with_reducible refine And.intro ?_ ?_)
  omega
  iterate 3 ((with_reducible refine And.intro ?_ ?_))
  omega
  (with_reducible refine And.intro ?_ ?_)
  omega
  (with_reducible exact True.intro)
  omega
  (with_reducible refine And.intro ?_ ?_)
  omega
  (with_reducible refine And.intro ?_ ?_)
  omega
  iterate 3 ((with_reducible refine And.intro ?_ ?_))
  omega
  (with_reducible refine And.intro ?_ ?_)
  omega
  (with_reducible exact True.intro)
  omega
  iterate 3 ((with_reducible refine And.intro ?_ ?_))
  omega
  (with_reducible refine And.intro ?_ ?_)
  omega
  (with_reducible exact True.intro)
  (with_reducible refine And.intro ?_ ?_)
  iterate 2 (focus (simp (disch := omega) only [w32_eq]; omega))
  (with_reducible refine And.intro ?_ ?_)
  omega
  iterate 3 ((with_reducible refine And.intro ?_ ?_))
  omega
  (with_reducible refine And.intro ?_ ?_)
  omega
  (with_reducible exact True.intro)
  omega
  (with_reducible refine And.intro ?_ ?_)
  omega
  iterate 3 ((with_reducible refine And.intro ?_ ?_))
  omega
  (with_reducible refine And.intro ?_ ?_)
  omega
  (with_reducible exact True.intro)
  omega
  iterate 2 ((with_reducible refine And.intro ?_ ?_))
  omega
  (with_reducible refine And.intro ?_ ?_)
  omega
  (with_reducible exact True.intro)
  focus (with_reducible refine s_207 (g := g) (tc := tc) (pl := pl) (N := N) (W := W) ?_ ?_ (fun v9 m9 hJ9  => ?_); (next => first | omega | (with_reducible rfl) | decide | (unfold w32; omega) | (simp (disch := omega) only [w32_eq]; omega) | (simp [upm] <;> (first | omega | (unfold w32; omega)))); (next => refine JW_of hL ?_ (by decide); repeat (first | assumption | (refine JW_up ?_ (by first | decide | (unfold frR; omega)) (by first | decide | simp [frc]) (by first | decide | simp [frw]) (by first | (simp [BdR]; done) | (refine BdR_n (by simp) ?_; (first | (refine rb_at ?_ ?_ <;> first | omega | (simp only [upm_app]; (repeat' split) <;> omega)) | (refine rb_us ?_ ?_ <;> first | omega | (simp only [upm_app]; (repeat' split) <;> omega)) | (refine rb_ho ?_ ?_ <;> first | omega | (simp only [upm_app]; (repeat' split) <;> omega)) | (refine rb_on ?_ ?_ <;> first | omega | (simp only [upm_app]; (repeat' split) <;> omega)) | ((try simp (disch := omega) only [w32_eq]); (refine (rb_i ?_ ?_).2 ?_ <;> omega)) | (refine rb_us ?_ ?_ <;> first | omega | (unfold w32; omega)))) | (simp [BdR] <;> first | omega | (unfold w32; omega)) | (simp [BdR, upm] <;> first | omega | (unfold w32; omega)))))); (try clear hs9); have hJ9 := JW_dn hL hJ9; have hs9 := JW_s hJ9; (try clear h58); have h58 := JW_2 hJ9; simp only [hdl_c, S9_1, S9_m, bud9, live9, inb9, wrn, wr9_14, wr9_15, wr9_16, wr9_17, tq9_14, tq9_15, tq9_16, tq9_17, tq_0, tq_1, tq_3, upr_rl, rl_0, rl_1, rl_2, rl_3, rl_4, rl_5, rl_6, rl_7, rl_8, rl_9, rl_10, rl_11, rl_12, rl_13, sp_0, sp_1, sp_2, sp_3, sp_4, sp_5, sp_6, sp_7, sp_8, sp_9, sp_10, sp_11, sp_12, sp_13, se_0, se_1, se_2, se_3, se_4, se_5, se_6, se_7, se_8, se_9, se_10, se_11, se_12, se_13, sem_0, sem_1, sem_2, sem_3, sem_4, sem_5, List.getD_cons_zero, List.getD_cons_succ, Bool.false_eq_true, wrn3, wrn1, cpmS, cpok9, if_true, if_false, ↓reduceIte, wc_188, wc_207, sr_249_11, sr_249_25, sr_249_17, sr_249_14, sr_249_71, sr_249_13, sr_249_64, sr_249_68, sr_249_15, sr_249_23, sr_249_67, sr_249_35, sr_249_43, sr_249_8, sr_249_41, sr_249_42, sr_249_30, sr_249_52, sr_249_58, sr_249_61, sr_249_55, sr_249_63, sr_249_54, sr_249_31, sr_249_40, sr_249_2, sr_249_22, sr_249_10, kl9_249, sr_249_50, sr_249_57, sr_249_34, sr_249_12, sr_249_16, sr_249_51, kc_249, sr_249_69, sr_249_24, sr_249_9, sr_249_70, kl9_258, kc_258, h58]; (try simp (disch := omega) only [w15_0, w15_1, w15_3, w15_4, w15_5, w15_6, w3_0, w3_1, w3_2]))
  (with_reducible refine And.intro ?_ ?_)
  (with_reducible exact True.intro)
  focus (with_reducible refine hq _ _ ?_; (next => refine JW_of hL ?_ (by decide); repeat (first | assumption | (refine JW_up ?_ (by first | decide | (unfold frR; omega)) (by first | decide | simp [frc]) (by first | decide | simp [frw]) (by first | (simp [BdR]; done) | (refine BdR_n (by simp) ?_; (first | (refine rb_at ?_ ?_ <;> first | omega | (simp only [upm_app]; (repeat' split) <;> omega)) | (refine rb_us ?_ ?_ <;> first | omega | (simp only [upm_app]; (repeat' split) <;> omega)) | (refine rb_ho ?_ ?_ <;> first | omega | (simp only [upm_app]; (repeat' split) <;> omega)) | (refine rb_on ?_ ?_ <;> first | omega | (simp only [upm_app]; (repeat' split) <;> omega)) | ((try simp (disch := omega) only [w32_eq]); (refine (rb_i ?_ ?_).2 ?_ <;> omega)) | (refine rb_us ?_ ?_ <;> first | omega | (unfold w32; omega)))) | (simp [BdR] <;> first | omega | (unfold w32; omega)) | (simp [BdR, upm] <;> first | omega | (unfold w32; omega)))))))

set_option maxHeartbeats 8000000 in
theorem s_206_t {d : Nat} {tc pl e W : Int} {g : Fg} {m : Mem} {Q : Int → Sto → Prop} {N : Int → Int} {a : Int} (ha : 0 ≤ a ∧ a ≤ 4) (hJ : JW 4 g tc pl N W m) (hq : ∀ v m', JW 4 g tc pl N W m' → Q v (S9 e m')) : Cl (d + 5) 206 [249, 259, a] Q (S9 e m) := by
  have hL := JW_l hJ
  have hs := JW_s hJ
  have h58 := hJ.2.1
  have hx0 := JR_t (JW_1 hJ) a
  simp only [cl_206, runB, B206, ma_206, rho_220, wc_188, wc_207, w_cst, w_ldi, w_ldj, w_lda, w_ljk, w_ldk, w_ldw, w_ldk2, w_ldt, w_ldtw, w_neg, w_cvb, w_cvs, w_cvc, w_cvj, w_add, w_sub, w_mul, w_ban, w_bor, w_bxo, w_shl, w_shr, w_ush, w_dvi, w_rmi, w_aldi, w_aldj, w_aldz, w_aldc, w_alda, w_ite, w_cmp, w_cmj, w_cz, w_cnot, w_cand, w_cor, w_nil, w_cons, w_cvi, w_csta, w_cvt, w_cvv, w_csv, w_cpy, w_seq, w_sbr, w_sbn, w_brk, w_ifs, w_ifx, w_ife, w_wk, w_rets, w_rtv, w_thr, w_asi, w_asj, w_asa, w_inc, w_exs, w_asti, w_astj, w_astz, w_astc, w_aopadd, w_aopsub, w_sw, if_true, if_false, ↓reduceIte, hdl_c, S9_1, S9_m, bud9, live9, inb9, wrn, wr9_14, wr9_15, wr9_16, wr9_17, tq9_14, tq9_15, tq9_16, tq9_17, tq_0, tq_1, tq_3, upr_rl, rl_0, rl_1, rl_2, rl_3, rl_4, rl_5, rl_6, rl_7, rl_8, rl_9, rl_10, rl_11, rl_12, rl_13, sp_0, sp_1, sp_2, sp_3, sp_4, sp_5, sp_6, sp_7, sp_8, sp_9, sp_10, sp_11, sp_12, sp_13, se_0, se_1, se_2, se_3, se_4, se_5, se_6, se_7, se_8, se_9, se_10, se_11, se_12, se_13, sem_0, sem_1, sem_2, sem_3, sem_4, sem_5, sr_249_11, sr_249_25, sr_249_17, sr_249_14, sr_249_71, sr_249_13, sr_249_64, sr_249_68, sr_249_15, sr_249_23, sr_249_67, sr_249_35, sr_249_43, sr_249_8, sr_249_41, sr_249_42, sr_249_30, sr_249_52, sr_249_58, sr_249_61, sr_249_55, sr_249_63, sr_249_54, sr_249_31, sr_249_40, sr_249_2, sr_249_22, sr_249_10, kl9_249, sr_249_50, sr_249_57, sr_249_34, sr_249_12, sr_249_16, sr_249_51, kc_249, sr_249_69, sr_249_24, sr_249_9, sr_249_70, kl9_259, kc_259, List.getD_cons_zero, List.getD_cons_succ, Bool.false_eq_true, wrn3, wrn1, cpmS, cpok9, h58]
  focus (with_reducible refine p_188 ?_ ?_; (next => first | omega | (with_reducible rfl) | decide | (unfold w32; omega) | (simp (disch := omega) only [w32_eq]; omega) | (simp [upm] <;> (first | omega | (unfold w32; omega)))); simp only [hdl_c, S9_1, S9_m, bud9, live9, inb9, wrn, wr9_14, wr9_15, wr9_16, wr9_17, tq9_14, tq9_15, tq9_16, tq9_17, tq_0, tq_1, tq_3, upr_rl, rl_0, rl_1, rl_2, rl_3, rl_4, rl_5, rl_6, rl_7, rl_8, rl_9, rl_10, rl_11, rl_12, rl_13, sp_0, sp_1, sp_2, sp_3, sp_4, sp_5, sp_6, sp_7, sp_8, sp_9, sp_10, sp_11, sp_12, sp_13, se_0, se_1, se_2, se_3, se_4, se_5, se_6, se_7, se_8, se_9, se_10, se_11, se_12, se_13, sem_0, sem_1, sem_2, sem_3, sem_4, sem_5, List.getD_cons_zero, List.getD_cons_succ, Bool.false_eq_true, wrn3, wrn1, cpmS, cpok9, if_true, if_false, ↓reduceIte, wc_188, wc_207, sr_249_11, sr_249_25, sr_249_17, sr_249_14, sr_249_71, sr_249_13, sr_249_64, sr_249_68, sr_249_15, sr_249_23, sr_249_67, sr_249_35, sr_249_43, sr_249_8, sr_249_41, sr_249_42, sr_249_30, sr_249_52, sr_249_58, sr_249_61, sr_249_55, sr_249_63, sr_249_54, sr_249_31, sr_249_40, sr_249_2, sr_249_22, sr_249_10, kl9_249, sr_249_50, sr_249_57, sr_249_34, sr_249_12, sr_249_16, sr_249_51, kc_249, sr_249_69, sr_249_24, sr_249_9, sr_249_70, kl9_259, kc_259, h58]; (try simp (disch := omega) only [w15_0, w15_1, w15_3, w15_4, w15_5, w15_6, w3_0, w3_1, w3_2]))
  (with_reducible refine And.intro ?_ ?_)
  omega
  iterate 3 ((with_reducible refine And.intro ?_ ?_))
  omega
  (with_reducible refine And.intro ?_ ?_)
  omega
  (with_reducible exact True.intro)
  omega
  (with_reducible refine And.intro ?_ ?_)
  intro _
  (with_reducible refine And.intro ?_ ?_)
  (with_reducible exact True.intro)
  focus (with_reducible refine hq _ _ ?_; (next => refine JW_of hL ?_ (by decide); repeat (first | assumption | (refine JW_up ?_ (by first | decide | (unfold frR; omega)) (by first | decide | simp [frc]) (by first | decide | simp [frw]) (by first | (simp [BdR]; done) | (refine BdR_n (by simp) ?_; (first | (refine rb_at ?_ ?_ <;> first | omega | (simp only [upm_app]; (repeat' split) <;> omega)) | (refine rb_us ?_ ?_ <;> first | omega | (simp only [upm_app]; (repeat' split) <;> omega)) | (refine rb_ho ?_ ?_ <;> first | omega | (simp only [upm_app]; (repeat' split) <;> omega)) | (refine rb_on ?_ ?_ <;> first | omega | (simp only [upm_app]; (repeat' split) <;> omega)) | ((try simp (disch := omega) only [w32_eq]); (refine (rb_i ?_ ?_).2 ?_ <;> omega)) | (refine rb_us ?_ ?_ <;> first | omega | (unfold w32; omega)))) | (simp [BdR] <;> first | omega | (unfold w32; omega)) | (simp [BdR, upm] <;> first | omega | (unfold w32; omega)))))))
  intro _
  (with_reducible refine And.intro ?_ ?_)
  omega
  (with_reducible refine And.intro ?_ ?_)
  omega
  iterate 3 ((with_reducible refine And.intro ?_ ?_))
  omega
  (with_reducible refine And.intro ?_ ?_)
  omega
  (with_reducible exact True.intro)
  (with_reducible refine And.intro ?_ ?_)
  iterate 2 (focus (simp (disch := omega) only [w32_eq]; omega))
  (with_reducible refine And.intro ?_ ?_)
  omega
  iterate 3 ((with_reducible refine And.intro ?_ ?_))
  omega
  (with_reducible refine And.intro ?_ ?_)
  omega
  (with_reducible exact True.intro)
  omega
  (with_reducible refine And.intro ?_ ?_)
  omega
  (with_reducible refine And.intro ?_ ?_)
  omega
  iterate 3 ((with_reducible refine And.intro ?_ ?_))
  omega
  (with_reducible refine And.intro ?_ ?_)
  omega
  (with_reducible exact True.intro)
  omega
  iterate 3 ((with_reducible refine And.intro ?_ ?_))
  omega
  (with_reducible refine And.intro ?_ ?_)
  omega
  (with_reducible exact True.intro)
  (with_reducible refine And.intro ?_ ?_)
  iterate 2 (focus (simp (disch := omega) only [w32_eq]; omega))
  (with_reducible refine And.intro ?_ ?_)
  omega
  iterate 3 ((with_reducible refine And.intro ?_ ?_))
  omega
  (with_reducible refine And.intro ?_ ?_)
  omega
  (with_reducible exact True.intro)
  omega
  (with_reducible refine And.intro ?_ ?_)
  omega
  iterate 3 ((with_reducible refine And.intro ?_ ?_))
  omega
  (with_reducible refine And.intro ?_ ?_)
  omega
  (with_reducible exact True.intro)
  omega
  iterate 2 ((with_reducible refine And.intro ?_ ?_))
  omega
  (with_reducible refine And.intro ?_ ?_)
  omega
  (with_reducible exact True.intro)
  focus (with_reducible refine s_207 (g := g) (tc := tc) (pl := pl) (N := N) (W := W) ?_ ?_ (fun v9 m9 hJ9  => ?_); (next => first | omega | (with_reducible rfl) | decide | (unfold w32; omega) | (simp (disch := omega) only [w32_eq]; omega) | (simp [upm] <;> (first | omega | (unfold w32; omega)))); (next => refine JW_of hL ?_ (by decide); repeat (first | assumption | (refine JW_up ?_ (by first | decide | (unfold frR; omega)) (by first | decide | simp [frc]) (by first | decide | simp [frw]) (by first | (simp [BdR]; done) | (refine BdR_n (by simp) ?_; (first | (refine rb_at ?_ ?_ <;> first | omega | (simp only [upm_app]; (repeat' split) <;> omega)) | (refine rb_us ?_ ?_ <;> first | omega | (simp only [upm_app]; (repeat' split) <;> omega)) | (refine rb_ho ?_ ?_ <;> first | omega | (simp only [upm_app]; (repeat' split) <;> omega)) | (refine rb_on ?_ ?_ <;> first | omega | (simp only [upm_app]; (repeat' split) <;> omega)) | ((try simp (disch := omega) only [w32_eq]); (refine (rb_i ?_ ?_).2 ?_ <;> omega)) | (refine rb_us ?_ ?_ <;> first | omega | (unfold w32; omega)))) | (simp [BdR] <;> first | omega | (unfold w32; omega)) | (simp [BdR, upm] <;> first | omega | (unfold w32; omega)))))); (try clear hs9); have hJ9 := JW_dn hL hJ9; have hs9 := JW_s hJ9; (try clear h58); have h58 := JW_2 hJ9; simp only [hdl_c, S9_1, S9_m, bud9, live9, inb9, wrn, wr9_14, wr9_15, wr9_16, wr9_17, tq9_14, tq9_15, tq9_16, tq9_17, tq_0, tq_1, tq_3, upr_rl, rl_0, rl_1, rl_2, rl_3, rl_4, rl_5, rl_6, rl_7, rl_8, rl_9, rl_10, rl_11, rl_12, rl_13, sp_0, sp_1, sp_2, sp_3, sp_4, sp_5, sp_6, sp_7, sp_8, sp_9, sp_10, sp_11, sp_12, sp_13, se_0, se_1, se_2, se_3, se_4, se_5, se_6, se_7, se_8, se_9, se_10, se_11, se_12, se_13, sem_0, sem_1, sem_2, sem_3, sem_4, sem_5, List.getD_cons_zero, List.getD_cons_succ, Bool.false_eq_true, wrn3, wrn1, cpmS, cpok9, if_true, if_false, ↓reduceIte, wc_188, wc_207, sr_249_11, sr_249_25, sr_249_17, sr_249_14, sr_249_71, sr_249_13, sr_249_64, sr_249_68, sr_249_15, sr_249_23, sr_249_67, sr_249_35, sr_249_43, sr_249_8, sr_249_41, sr_249_42, sr_249_30, sr_249_52, sr_249_58, sr_249_61, sr_249_55, sr_249_63, sr_249_54, sr_249_31, sr_249_40, sr_249_2, sr_249_22, sr_249_10, kl9_249, sr_249_50, sr_249_57, sr_249_34, sr_249_12, sr_249_16, sr_249_51, kc_249, sr_249_69, sr_249_24, sr_249_9, sr_249_70, kl9_259, kc_259, h58]; (try simp (disch := omega) only [w15_0, w15_1, w15_3, w15_4, w15_5, w15_6, w3_0, w3_1, w3_2]))
  (with_reducible refine And.intro ?_ ?_)
  (with_reducible exact True.intro)
  focus (with_reducible refine hq _ _ ?_; (next => refine JW_of hL ?_ (by decide); repeat (first | assumption | (refine JW_up ?_ (by first | decide | (unfold frR; omega)) (by first | decide | simp [frc]) (by first | decide | simp [frw]) (by first | (simp [BdR]; done) | (refine BdR_n (by simp) ?_; (first | (refine rb_at ?_ ?_ <;> first | omega | (simp only [upm_app]; (repeat' split) <;> omega)) | (refine rb_us ?_ ?_ <;> first | omega | (simp only [upm_app]; (repeat' split) <;> omega)) | (refine rb_ho ?_ ?_ <;> first | omega | (simp only [upm_app]; (repeat' split) <;> omega)) | (refine rb_on ?_ ?_ <;> first | omega | (simp only [upm_app]; (repeat' split) <;> omega)) | ((try simp (disch := omega) only [w32_eq]); (refine (rb_i ?_ ?_).2 ?_ <;> omega)) | (refine rb_us ?_ ?_ <;> first | omega | (unfold w32; omega)))) | (simp [BdR] <;> first | omega | (unfold w32; omega)) | (simp [BdR, upm] <;> first | omega | (unfold w32; omega)))))))

set_option maxHeartbeats 8000000 in
theorem s_224_t {d : Nat} {tc pl e W : Int} {g : Fg} {m : Mem} {Q : Int → Sto → Prop} {N : Int → Int} (hJ : JW 4 g tc pl N W m) (hq : ∀ v m', JW 4 g tc pl N W m' → Q v (S9 e m')) : Cl (d + 6) 224 [249, 259] Q (S9 e m) := by
  have hL := JW_l hJ
  have hs := JW_s hJ
  have h58 := hJ.2.1
  simp only [cl_224, runB, B224, ma_224, rho_22, wf_13_140, wf_13_143, wf_13_30, wf_13_33, wpf_13_304, wpopadd_pf_13_304, wpf_13_307, wpopor_pf_13_307, wpf_13_310, wpopor_pf_13_310, wc_19, wc_56, wc_188, wc_206, cl_19, B19, ma_19, rho_00, cl_56, B56, ma_56, w_cst, w_ldi, w_ldj, w_lda, w_ljk, w_ldk, w_ldw, w_ldk2, w_ldt, w_ldtw, w_neg, w_cvb, w_cvs, w_cvc, w_cvj, w_add, w_sub, w_mul, w_ban, w_bor, w_bxo, w_shl, w_shr, w_ush, w_dvi, w_rmi, w_aldi, w_aldj, w_aldz, w_aldc, w_alda, w_ite, w_cmp, w_cmj, w_cz, w_cnot, w_cand, w_cor, w_nil, w_cons, w_cvi, w_csta, w_cvt, w_cvv, w_csv, w_cpy, w_seq, w_sbr, w_sbn, w_brk, w_ifs, w_ifx, w_ife, w_wk, w_rets, w_rtv, w_thr, w_asi, w_asj, w_asa, w_inc, w_exs, w_asti, w_astj, w_astz, w_astc, w_aopadd, w_aopsub, w_sw, if_true, if_false, ↓reduceIte, hdl_c, S9_1, S9_m, bud9, live9, inb9, wrn, wr9_14, wr9_15, wr9_16, wr9_17, tq9_14, tq9_15, tq9_16, tq9_17, tq_0, tq_1, tq_3, upr_rl, rl_0, rl_1, rl_2, rl_3, rl_4, rl_5, rl_6, rl_7, rl_8, rl_9, rl_10, rl_11, rl_12, rl_13, sp_0, sp_1, sp_2, sp_3, sp_4, sp_5, sp_6, sp_7, sp_8, sp_9, sp_10, sp_11, sp_12, sp_13, se_0, se_1, se_2, se_3, se_4, se_5, se_6, se_7, se_8, se_9, se_10, se_11, se_12, se_13, sem_0, sem_1, sem_2, sem_3, sem_4, sem_5, sr_249_11, sr_249_25, sr_249_17, sr_249_14, sr_249_71, sr_249_13, sr_249_64, sr_249_68, sr_249_15, sr_249_23, sr_249_67, sr_249_35, sr_249_43, sr_249_8, sr_249_41, sr_249_42, sr_249_30, sr_249_52, sr_249_58, sr_249_61, sr_249_55, sr_249_63, sr_249_54, sr_249_31, sr_249_40, sr_249_2, sr_249_22, sr_249_10, kl9_249, sr_249_50, sr_249_57, sr_249_34, sr_249_12, sr_249_16, sr_249_51, kc_249, sr_249_69, sr_249_24, sr_249_9, sr_249_70, kc_256, kl9_256, kc_257, kl9_257, kl9_259, kc_259, List.getD_cons_zero, List.getD_cons_succ, Bool.false_eq_true, wrn3, wrn1, cpmS, cpok9, h58]
  focus (with_reducible refine whl_i (fun k r u => ∃ (i x y z : Int) (m9 : Mem), r = rl [249, 259, i, x, y, z] ∧ u = S9 e m9 ∧ JW 4 g tc pl N W m9 ∧ (0 ≤ i) ∧ (i + k = 5)) 5 ?_ ?_; (next => refine ⟨_, _, _, _, _, rlp3_3, rfl, ?_, ?_, ?_⟩; (next => refine JW_of hL ?_ (by decide); repeat (first | assumption | (refine JW_up ?_ (by first | decide | (unfold frR; omega)) (by first | decide | simp [frc]) (by first | decide | simp [frw]) (by first | (simp [BdR]; done) | (refine BdR_n (by simp) ?_; (first | (refine rb_at ?_ ?_ <;> first | omega | (simp only [upm_app]; (repeat' split) <;> omega)) | (refine rb_us ?_ ?_ <;> first | omega | (simp only [upm_app]; (repeat' split) <;> omega)) | (refine rb_ho ?_ ?_ <;> first | omega | (simp only [upm_app]; (repeat' split) <;> omega)) | (refine rb_on ?_ ?_ <;> first | omega | (simp only [upm_app]; (repeat' split) <;> omega)) | ((try simp (disch := omega) only [w32_eq]); (refine (rb_i ?_ ?_).2 ?_ <;> omega)) | (refine rb_us ?_ ?_ <;> first | omega | (unfold w32; omega)))) | (simp [BdR] <;> first | omega | (unfold w32; omega)) | (simp [BdR, upm] <;> first | omega | (unfold w32; omega)))))); (next => first | (with_reducible exact True.intro) | assumption | omega | (with_reducible rfl) | (unfold w32; omega) | (simp [upm]; done) | (simp [upm] <;> (first | omega | (unfold w32; omega)))); (next => first | (with_reducible exact True.intro) | assumption | omega | (with_reducible rfl) | (unfold w32; omega) | (simp [upm]; done) | (simp [upm] <;> (first | omega | (unfold w32; omega))))); rintro k r u ⟨i, x, y, z, m9, rfl, rfl, hJ9, h9a, h9b⟩; (try clear hs9); have hJ9 := JW_dn hL hJ9; have hs9 := JW_s hJ9; (try clear h58); have h58 := JW_2 hJ9; have hl9 := JW_s hJ9; have hy0 := JR_t (JW_1 hJ9) i; simp only [cl_224, runB, B224, ma_224, rho_22, wf_13_140, wf_13_143, wf_13_30, wf_13_33, wpf_13_304, wpopadd_pf_13_304, wpf_13_307, wpopor_pf_13_307, wpf_13_310, wpopor_pf_13_310, wc_19, wc_56, wc_188, wc_206, cl_19, B19, ma_19, rho_00, cl_56, B56, ma_56, w_cst, w_ldi, w_ldj, w_lda, w_ljk, w_ldk, w_ldw, w_ldk2, w_ldt, w_ldtw, w_neg, w_cvb, w_cvs, w_cvc, w_cvj, w_add, w_sub, w_mul, w_ban, w_bor, w_bxo, w_shl, w_shr, w_ush, w_dvi, w_rmi, w_aldi, w_aldj, w_aldz, w_aldc, w_alda, w_ite, w_cmp, w_cmj, w_cz, w_cnot, w_cand, w_cor, w_nil, w_cons, w_cvi, w_csta, w_cvt, w_cvv, w_csv, w_cpy, w_seq, w_sbr, w_sbn, w_brk, w_ifs, w_ifx, w_ife, w_wk, w_rets, w_rtv, w_thr, w_asi, w_asj, w_asa, w_inc, w_exs, w_asti, w_astj, w_astz, w_astc, w_aopadd, w_aopsub, w_sw, if_true, if_false, ↓reduceIte, hdl_c, S9_1, S9_m, bud9, live9, inb9, wrn, wr9_14, wr9_15, wr9_16, wr9_17, tq9_14, tq9_15, tq9_16, tq9_17, tq_0, tq_1, tq_3, upr_rl, rl_0, rl_1, rl_2, rl_3, rl_4, rl_5, rl_6, rl_7, rl_8, rl_9, rl_10, rl_11, rl_12, rl_13, sp_0, sp_1, sp_2, sp_3, sp_4, sp_5, sp_6, sp_7, sp_8, sp_9, sp_10, sp_11, sp_12, sp_13, se_0, se_1, se_2, se_3, se_4, se_5, se_6, se_7, se_8, se_9, se_10, se_11, se_12, se_13, sem_0, sem_1, sem_2, sem_3, sem_4, sem_5, sr_249_11, sr_249_25, sr_249_17, sr_249_14, sr_249_71, sr_249_13, sr_249_64, sr_249_68, sr_249_15, sr_249_23, sr_249_67, sr_249_35, sr_249_43, sr_249_8, sr_249_41, sr_249_42, sr_249_30, sr_249_52, sr_249_58, sr_249_61, sr_249_55, sr_249_63, sr_249_54, sr_249_31, sr_249_40, sr_249_2, sr_249_22, sr_249_10, kl9_249, sr_249_50, sr_249_57, sr_249_34, sr_249_12, sr_249_16, sr_249_51, kc_249, sr_249_69, sr_249_24, sr_249_9, sr_249_70, kc_256, kl9_256, kc_257, kl9_257, kl9_259, kc_259, List.getD_cons_zero, List.getD_cons_succ, Bool.false_eq_true, wrn3, wrn1, cpmS, cpok9, h58]; (try simp (disch := omega) only [w15_0, w15_1, w15_3, w15_4, w15_5, w15_6, w3_0, w3_1, w3_2]))
  (with_reducible refine And.intro ?_ ?_)
  omega
  iterate 2 ((with_reducible refine And.intro ?_ ?_))
  omega
  (with_reducible refine And.intro ?_ ?_)
  omega
  (with_reducible exact True.intro)
  (with_reducible refine And.intro ?_ ?_)
  intro _
  focus (with_reducible refine p_188 ?_ ?_; (next => first | omega | (with_reducible rfl) | decide | (unfold w32; omega) | (simp (disch := omega) only [w32_eq]; omega) | (simp [upm] <;> (first | omega | (unfold w32; omega)))); simp only [hdl_c, S9_1, S9_m, bud9, live9, inb9, wrn, wr9_14, wr9_15, wr9_16, wr9_17, tq9_14, tq9_15, tq9_16, tq9_17, tq_0, tq_1, tq_3, upr_rl, rl_0, rl_1, rl_2, rl_3, rl_4, rl_5, rl_6, rl_7, rl_8, rl_9, rl_10, rl_11, rl_12, rl_13, sp_0, sp_1, sp_2, sp_3, sp_4, sp_5, sp_6, sp_7, sp_8, sp_9, sp_10, sp_11, sp_12, sp_13, se_0, se_1, se_2, se_3, se_4, se_5, se_6, se_7, se_8, se_9, se_10, se_11, se_12, se_13, sem_0, sem_1, sem_2, sem_3, sem_4, sem_5, List.getD_cons_zero, List.getD_cons_succ, Bool.false_eq_true, wrn3, wrn1, cpmS, cpok9, if_true, if_false, ↓reduceIte, wc_19, wc_56, wc_188, wc_206, cl_19, runB, B19, ma_19, rho_00, cl_56, B56, ma_56, w_cst, w_ldi, w_ldj, w_lda, w_ljk, w_ldk, w_ldw, w_ldk2, w_ldt, w_ldtw, w_neg, w_cvb, w_cvs, w_cvc, w_cvj, w_add, w_sub, w_mul, w_ban, w_bor, w_bxo, w_shl, w_shr, w_ush, w_dvi, w_rmi, w_aldi, w_aldj, w_aldz, w_aldc, w_alda, w_ite, w_cmp, w_cmj, w_cz, w_cnot, w_cand, w_cor, w_nil, w_cons, w_cvi, w_csta, w_cvt, w_cvv, w_csv, w_cpy, w_seq, w_sbr, w_sbn, w_brk, w_ifs, w_ifx, w_ife, w_wk, w_rets, w_rtv, w_thr, w_asi, w_asj, w_asa, w_inc, w_exs, w_asti, w_astj, w_astz, w_astc, w_aopadd, w_aopsub, w_sw, if_true, if_false, ↓reduceIte, sr_249_11, sr_249_25, sr_249_17, sr_249_14, sr_249_71, sr_249_13, sr_249_64, sr_249_68, sr_249_15, sr_249_23, sr_249_67, sr_249_35, sr_249_43, sr_249_8, sr_249_41, sr_249_42, sr_249_30, sr_249_52, sr_249_58, sr_249_61, sr_249_55, sr_249_63, sr_249_54, sr_249_31, sr_249_40, sr_249_2, sr_249_22, sr_249_10, kl9_249, sr_249_50, sr_249_57, sr_249_34, sr_249_12, sr_249_16, sr_249_51, kc_249, sr_249_69, sr_249_24, sr_249_9, sr_249_70, kc_256, kl9_256, kc_257, kl9_257, kl9_259, kc_259, h58]; (try simp (disch := omega) only [w15_0, w15_1, w15_3, w15_4, w15_5, w15_6, w3_0, w3_1, w3_2]))
  (with_reducible refine And.intro ?_ ?_)
  omega
  iterate 3 ((with_reducible refine And.intro ?_ ?_))
  omega
  (with_reducible refine And.intro ?_ ?_)
  omega
  (with_reducible exact True.intro)
  omega
  (with_reducible refine And.intro ?_ ?_)
  intro _
  (with_reducible refine And.intro ?_ ?_)
  omega
  iterate 3 ((with_reducible refine And.intro ?_ ?_))
  omega
  (with_reducible refine And.intro ?_ ?_)
  omega
  (with_reducible exact True.intro)
  omega
  (with_reducible refine And.intro ?_ ?_)
  omega
  (with_reducible refine And.intro ?_ ?_)
  omega
  iterate 3 ((with_reducible refine And.intro ?_ ?_))
  omega
  (with_reducible refine And.intro ?_ ?_)
  omega
  (with_reducible exact True.intro)
  (with_reducible refine And.intro ?_ ?_)
  iterate 2 (focus (simp (disch := omega) only [w32_eq]; omega))
  (with_reducible refine And.intro ?_ ?_)
  omega
  (with_reducible refine And.intro ?_ ?_)
  omega
  iterate 2 ((with_reducible refine And.intro ?_ ?_))
  omega
  (with_reducible refine And.intro ?_ ?_)
  omega
  (with_reducible exact True.intro)
  focus (with_reducible refine s_206_t (g := g) (tc := tc) (pl := pl) (N := N) (W := W) ?_ ?_ (fun v9 m9 hJ9  => ?_); (next => first | omega | (with_reducible rfl) | decide | (unfold w32; omega) | (simp (disch := omega) only [w32_eq]; omega) | (simp [upm] <;> (first | omega | (unfold w32; omega)))); (next => refine JW_of hL ?_ (by decide); repeat (first | assumption | (refine JW_up ?_ (by first | decide | (unfold frR; omega)) (by first | decide | simp [frc]) (by first | decide | simp [frw]) (by first | (simp [BdR]; done) | (refine BdR_n (by simp) ?_; (first | (refine rb_at ?_ ?_ <;> first | omega | (simp only [upm_app]; (repeat' split) <;> omega)) | (refine rb_us ?_ ?_ <;> first | omega | (simp only [upm_app]; (repeat' split) <;> omega)) | (refine rb_ho ?_ ?_ <;> first | omega | (simp only [upm_app]; (repeat' split) <;> omega)) | (refine rb_on ?_ ?_ <;> first | omega | (simp only [upm_app]; (repeat' split) <;> omega)) | ((try simp (disch := omega) only [w32_eq]); (refine (rb_i ?_ ?_).2 ?_ <;> omega)) | (refine rb_us ?_ ?_ <;> first | omega | (unfold w32; omega)))) | (simp [BdR] <;> first | omega | (unfold w32; omega)) | (simp [BdR, upm] <;> first | omega | (unfold w32; omega)))))); (try clear hs9); have hJ9 := JW_dn hL hJ9; have hs9 := JW_s hJ9; (try clear h58); have h58 := JW_2 hJ9; simp only [hdl_c, S9_1, S9_m, bud9, live9, inb9, wrn, wr9_14, wr9_15, wr9_16, wr9_17, tq9_14, tq9_15, tq9_16, tq9_17, tq_0, tq_1, tq_3, upr_rl, rl_0, rl_1, rl_2, rl_3, rl_4, rl_5, rl_6, rl_7, rl_8, rl_9, rl_10, rl_11, rl_12, rl_13, sp_0, sp_1, sp_2, sp_3, sp_4, sp_5, sp_6, sp_7, sp_8, sp_9, sp_10, sp_11, sp_12, sp_13, se_0, se_1, se_2, se_3, se_4, se_5, se_6, se_7, se_8, se_9, se_10, se_11, se_12, se_13, sem_0, sem_1, sem_2, sem_3, sem_4, sem_5, List.getD_cons_zero, List.getD_cons_succ, Bool.false_eq_true, wrn3, wrn1, cpmS, cpok9, if_true, if_false, ↓reduceIte, wc_19, wc_56, wc_188, wc_206, cl_19, runB, B19, ma_19, rho_00, cl_56, B56, ma_56, w_cst, w_ldi, w_ldj, w_lda, w_ljk, w_ldk, w_ldw, w_ldk2, w_ldt, w_ldtw, w_neg, w_cvb, w_cvs, w_cvc, w_cvj, w_add, w_sub, w_mul, w_ban, w_bor, w_bxo, w_shl, w_shr, w_ush, w_dvi, w_rmi, w_aldi, w_aldj, w_aldz, w_aldc, w_alda, w_ite, w_cmp, w_cmj, w_cz, w_cnot, w_cand, w_cor, w_nil, w_cons, w_cvi, w_csta, w_cvt, w_cvv, w_csv, w_cpy, w_seq, w_sbr, w_sbn, w_brk, w_ifs, w_ifx, w_ife, w_wk, w_rets, w_rtv, w_thr, w_asi, w_asj, w_asa, w_inc, w_exs, w_asti, w_astj, w_astz, w_astc, w_aopadd, w_aopsub, w_sw, if_true, if_false, ↓reduceIte, sr_249_11, sr_249_25, sr_249_17, sr_249_14, sr_249_71, sr_249_13, sr_249_64, sr_249_68, sr_249_15, sr_249_23, sr_249_67, sr_249_35, sr_249_43, sr_249_8, sr_249_41, sr_249_42, sr_249_30, sr_249_52, sr_249_58, sr_249_61, sr_249_55, sr_249_63, sr_249_54, sr_249_31, sr_249_40, sr_249_2, sr_249_22, sr_249_10, kl9_249, sr_249_50, sr_249_57, sr_249_34, sr_249_12, sr_249_16, sr_249_51, kc_249, sr_249_69, sr_249_24, sr_249_9, sr_249_70, kc_256, kl9_256, kc_257, kl9_257, kl9_259, kc_259, h58]; (try simp (disch := omega) only [w15_0, w15_1, w15_3, w15_4, w15_5, w15_6, w3_0, w3_1, w3_2]))
  (with_reducible refine And.intro ?_ ?_)
  intro _
  (with_reducible refine And.intro ?_ ?_)
  (with_reducible exact True.intro)
  iterate 3 ((with_reducible refine And.intro ?_ ?_))
  omega
  (with_reducible refine And.intro ?_ ?_)
  omega
  (with_reducible exact True.intro)
  (with_reducible refine And.intro ?_ ?_)
  iterate 2 (focus (simp (disch := omega) only [w32_eq]; omega))
  (with_reducible refine And.intro ?_ ?_)
  (with_reducible exact True.intro)
  (with_reducible refine And.intro ?_ ?_)
  omega
  iterate 3 ((with_reducible refine And.intro ?_ ?_))
  omega
  (with_reducible refine And.intro ?_ ?_)
  omega
  (with_reducible exact True.intro)
  (with_reducible refine And.intro ?_ ?_)
  iterate 2 (focus (simp (disch := omega) only [w32_eq]; omega))
  (with_reducible refine And.intro ?_ ?_)
  omega
  iterate 2 ((with_reducible refine And.intro ?_ ?_))
  omega
  (with_reducible refine And.intro ?_ ?_)
  omega
  (with_reducible exact True.intro)
  iterate 3 ((with_reducible refine And.intro ?_ ?_))
  omega
  (with_reducible refine And.intro ?_ ?_)
  omega
  (with_reducible exact True.intro)
  omega
  (with_reducible refine And.intro ?_ ?_)
  intro _
  (with_reducible refine And.intro ?_ ?_)
  omega
  iterate 3 ((with_reducible refine And.intro ?_ ?_))
  omega
  (with_reducible refine And.intro ?_ ?_)
  omega
  (with_reducible exact True.intro)
  omega
  iterate 3 ((with_reducible refine And.intro ?_ ?_))
  omega
  (with_reducible refine And.intro ?_ ?_)
  omega
  (with_reducible exact True.intro)
  omega
  (with_reducible refine And.intro ?_ ?_)
  omega
  iterate 3 ((with_reducible refine And.intro ?_ ?_))
  omega
  (with_reducible refine And.intro ?_ ?_)
  omega
  (with_reducible exact True.intro)
  omega
  (with_reducible refine And.intro ?_ ?_)
  (with_reducible exact True.intro)
  (with_reducible refine And.intro ?_ ?_)
  omega
  iterate 3 ((with_reducible refine And.intro ?_ ?_))
  omega
  (with_reducible refine And.intro ?_ ?_)
  omega
  (with_reducible exact True.intro)
  omega
  (with_reducible refine And.intro ?_ ?_)
  (with_reducible exact True.intro)
  (with_reducible refine And.intro ?_ ?_)
  omega
  iterate 3 ((with_reducible refine And.intro ?_ ?_))
  omega
  (with_reducible refine And.intro ?_ ?_)
  omega
  (with_reducible exact True.intro)
  omega
  (with_reducible refine And.intro ?_ ?_)
  (with_reducible exact True.intro)
  (with_reducible refine And.intro ?_ ?_)
  omega
  iterate 2 ((with_reducible refine And.intro ?_ ?_))
  omega
  (with_reducible refine And.intro ?_ ?_)
  omega
  (with_reducible exact True.intro)
  iterate 2 ((with_reducible refine And.intro ?_ ?_))
  omega
  (with_reducible refine And.intro ?_ ?_)
  omega
  (with_reducible exact True.intro)
  (with_reducible refine And.intro ?_ ?_)
  omega
  iterate 2 ((with_reducible refine And.intro ?_ ?_))
  omega
  (with_reducible refine And.intro ?_ ?_)
  omega
  (with_reducible exact True.intro)
  iterate 2 ((with_reducible refine And.intro ?_ ?_))
  omega
  (with_reducible refine And.intro ?_ ?_)
  omega
  (with_reducible exact True.intro)
  (with_reducible refine And.intro ?_ ?_)
  omega
  iterate 2 ((with_reducible refine And.intro ?_ ?_))
  omega
  (with_reducible refine And.intro ?_ ?_)
  omega
  (with_reducible exact True.intro)
  iterate 2 ((with_reducible refine And.intro ?_ ?_))
  omega
  (with_reducible refine And.intro ?_ ?_)
  omega
  (with_reducible exact True.intro)
  focus (with_reducible refine ⟨k - 1, ?_, _, _, _, _, _, rfl, rfl, ?_, ?_, ?_⟩; (next => omega); (next => refine JW_of hL ?_ (by decide); repeat (first | assumption | (refine JW_up ?_ (by first | decide | (unfold frR; omega)) (by first | decide | simp [frc]) (by first | decide | simp [frw]) (by first | (simp [BdR]; done) | (refine BdR_n (by simp) ?_; (first | (refine rb_at ?_ ?_ <;> first | omega | (simp only [upm_app]; (repeat' split) <;> omega)) | (refine rb_us ?_ ?_ <;> first | omega | (simp only [upm_app]; (repeat' split) <;> omega)) | (refine rb_ho ?_ ?_ <;> first | omega | (simp only [upm_app]; (repeat' split) <;> omega)) | (refine rb_on ?_ ?_ <;> first | omega | (simp only [upm_app]; (repeat' split) <;> omega)) | ((try simp (disch := omega) only [w32_eq]); (refine (rb_i ?_ ?_).2 ?_ <;> omega)) | (refine rb_us ?_ ?_ <;> first | omega | (unfold w32; omega)))) | (simp [BdR] <;> first | omega | (unfold w32; omega)) | (simp [BdR, upm] <;> first | omega | (unfold w32; omega)))))); (next => first | (with_reducible exact True.intro) | assumption | omega | (with_reducible rfl) | (unfold w32; omega) | (simp [upm]; done) | (simp [upm] <;> (first | omega | (unfold w32; omega)))); (next => first | (with_reducible exact True.intro) | assumption | omega | (with_reducible rfl) | (unfold w32; omega) | (simp [upm]; done) | (simp [upm] <;> (first | omega | (unfold w32; omega)))))
  intro _
  focus (with_reducible refine ⟨k - 1, ?_, _, _, _, _, _, rfl, rfl, ?_, ?_, ?_⟩; (next => omega); (next => refine JW_of hL ?_ (by decide); repeat (first | assumption | (refine JW_up ?_ (by first | decide | (unfold frR; omega)) (by first | decide | simp [frc]) (by first | decide | simp [frw]) (by first | (simp [BdR]; done) | (refine BdR_n (by simp) ?_; (first | (refine rb_at ?_ ?_ <;> first | omega | (simp only [upm_app]; (repeat' split) <;> omega)) | (refine rb_us ?_ ?_ <;> first | omega | (simp only [upm_app]; (repeat' split) <;> omega)) | (refine rb_ho ?_ ?_ <;> first | omega | (simp only [upm_app]; (repeat' split) <;> omega)) | (refine rb_on ?_ ?_ <;> first | omega | (simp only [upm_app]; (repeat' split) <;> omega)) | ((try simp (disch := omega) only [w32_eq]); (refine (rb_i ?_ ?_).2 ?_ <;> omega)) | (refine rb_us ?_ ?_ <;> first | omega | (unfold w32; omega)))) | (simp [BdR] <;> first | omega | (unfold w32; omega)) | (simp [BdR, upm] <;> first | omega | (unfold w32; omega)))))); (next => first | (with_reducible exact True.intro) | assumption | omega | (with_reducible rfl) | (unfold w32; omega) | (simp [upm]; done) | (simp [upm] <;> (first | omega | (unfold w32; omega)))); (next => first | (with_reducible exact True.intro) | assumption | omega | (with_reducible rfl) | (unfold w32; omega) | (simp [upm]; done) | (simp [upm] <;> (first | omega | (unfold w32; omega)))))
  intro _
  (with_reducible refine And.intro ?_ ?_)
  (with_reducible exact True.intro)
  iterate 3 ((with_reducible refine And.intro ?_ ?_))
  omega
  (with_reducible refine And.intro ?_ ?_)
  omega
  (with_reducible exact True.intro)
  (with_reducible refine And.intro ?_ ?_)
  iterate 2 (focus (simp (disch := omega) only [w32_eq]; omega))
  (with_reducible refine And.intro ?_ ?_)
  (with_reducible exact True.intro)
  (with_reducible refine And.intro ?_ ?_)
  omega
  iterate 3 ((with_reducible refine And.intro ?_ ?_))
  omega
  (with_reducible refine And.intro ?_ ?_)
  omega
  (with_reducible exact True.intro)
  (with_reducible refine And.intro ?_ ?_)
  iterate 2 (focus (simp (disch := omega) only [w32_eq]; omega))
  (with_reducible refine And.intro ?_ ?_)
  omega
  iterate 2 ((with_reducible refine And.intro ?_ ?_))
  omega
  (with_reducible refine And.intro ?_ ?_)
  omega
  (with_reducible exact True.intro)
  iterate 3 ((with_reducible refine And.intro ?_ ?_))
  omega
  (with_reducible refine And.intro ?_ ?_)
  omega
  (with_reducible exact True.intro)
  omega
  (with_reducible refine And.intro ?_ ?_)
  intro _
  (with_reducible refine And.intro ?_ ?_)
  omega
  iterate 3 ((with_reducible refine And.intro ?_ ?_))
  omega
  (with_reducible refine And.intro ?_ ?_)
  omega
  (with_reducible exact True.intro)
  omega
  iterate 3 ((with_reducible refine And.intro ?_ ?_))
  omega
  (with_reducible refine And.intro ?_ ?_)
  omega
  (with_reducible exact True.intro)
  omega
  (with_reducible refine And.intro ?_ ?_)
  omega
  iterate 3 ((with_reducible refine And.intro ?_ ?_))
  omega
  (with_reducible refine And.intro ?_ ?_)
  omega
  (with_reducible exact True.intro)
  omega
  (with_reducible refine And.intro ?_ ?_)
  (with_reducible exact True.intro)
  (with_reducible refine And.intro ?_ ?_)
  omega
  iterate 3 ((with_reducible refine And.intro ?_ ?_))
  omega
  (with_reducible refine And.intro ?_ ?_)
  omega
  (with_reducible exact True.intro)
  omega
  (with_reducible refine And.intro ?_ ?_)
  (with_reducible exact True.intro)
  (with_reducible refine And.intro ?_ ?_)
  omega
  iterate 3 ((with_reducible refine And.intro ?_ ?_))
  omega
  (with_reducible refine And.intro ?_ ?_)
  omega
  (with_reducible exact True.intro)
  omega
  (with_reducible refine And.intro ?_ ?_)
  (with_reducible exact True.intro)
  (with_reducible refine And.intro ?_ ?_)
  omega
  iterate 2 ((with_reducible refine And.intro ?_ ?_))
  omega
  (with_reducible refine And.intro ?_ ?_)
  omega
  (with_reducible exact True.intro)
  iterate 2 ((with_reducible refine And.intro ?_ ?_))
  omega
  (with_reducible refine And.intro ?_ ?_)
  omega
  (with_reducible exact True.intro)
  (with_reducible refine And.intro ?_ ?_)
  omega
  iterate 2 ((with_reducible refine And.intro ?_ ?_))
  omega
  (with_reducible refine And.intro ?_ ?_)
  omega
  (with_reducible exact True.intro)
  iterate 2 ((with_reducible refine And.intro ?_ ?_))
  omega
  (with_reducible refine And.intro ?_ ?_)
  omega
  (with_reducible exact True.intro)
  (with_reducible refine And.intro ?_ ?_)
  omega
  iterate 2 ((with_reducible refine And.intro ?_ ?_))
  omega
  (with_reducible refine And.intro ?_ ?_)
  omega
  (with_reducible exact True.intro)
  iterate 2 ((with_reducible refine And.intro ?_ ?_))
  omega
  (with_reducible refine And.intro ?_ ?_)
  omega
  (with_reducible exact True.intro)
  focus (with_reducible refine ⟨k - 1, ?_, _, _, _, _, _, rfl, rfl, ?_, ?_, ?_⟩; (next => omega); (next => refine JW_of hL ?_ (by decide); repeat (first | assumption | (refine JW_up ?_ (by first | decide | (unfold frR; omega)) (by first | decide | simp [frc]) (by first | decide | simp [frw]) (by first | (simp [BdR]; done) | (refine BdR_n (by simp) ?_; (first | (refine rb_at ?_ ?_ <;> first | omega | (simp only [upm_app]; (repeat' split) <;> omega)) | (refine rb_us ?_ ?_ <;> first | omega | (simp only [upm_app]; (repeat' split) <;> omega)) | (refine rb_ho ?_ ?_ <;> first | omega | (simp only [upm_app]; (repeat' split) <;> omega)) | (refine rb_on ?_ ?_ <;> first | omega | (simp only [upm_app]; (repeat' split) <;> omega)) | ((try simp (disch := omega) only [w32_eq]); (refine (rb_i ?_ ?_).2 ?_ <;> omega)) | (refine rb_us ?_ ?_ <;> first | omega | (unfold w32; omega)))) | (simp [BdR] <;> first | omega | (unfold w32; omega)) | (simp [BdR, upm] <;> first | omega | (unfold w32; omega)))))); (next => first | (with_reducible exact True.intro) | assumption | omega | (with_reducible rfl) | (unfold w32; omega) | (simp [upm]; done) | (simp [upm] <;> (first | omega | (unfold w32; omega)))); (next => first | (with_reducible exact True.intro) | assumption | omega | (with_reducible rfl) | (unfold w32; omega) | (simp [upm]; done) | (simp [upm] <;> (first | omega | (unfold w32; omega)))))
  intro _
  focus (with_reducible refine ⟨k - 1, ?_, _, _, _, _, _, rfl, rfl, ?_, ?_, ?_⟩; (next => omega); (next => refine JW_of hL ?_ (by decide); repeat (first | assumption | (refine JW_up ?_ (by first | decide | (unfold frR; omega)) (by first | decide | simp [frc]) (by first | decide | simp [frw]) (by first | (simp [BdR]; done) | (refine BdR_n (by simp) ?_; (first | (refine rb_at ?_ ?_ <;> first | omega | (simp only [upm_app]; (repeat' split) <;> omega)) | (refine rb_us ?_ ?_ <;> first | omega | (simp only [upm_app]; (repeat' split) <;> omega)) | (refine rb_ho ?_ ?_ <;> first | omega | (simp only [upm_app]; (repeat' split) <;> omega)) | (refine rb_on ?_ ?_ <;> first | omega | (simp only [upm_app]; (repeat' split) <;> omega)) | ((try simp (disch := omega) only [w32_eq]); (refine (rb_i ?_ ?_).2 ?_ <;> omega)) | (refine rb_us ?_ ?_ <;> first | omega | (unfold w32; omega)))) | (simp [BdR] <;> first | omega | (unfold w32; omega)) | (simp [BdR, upm] <;> first | omega | (unfold w32; omega)))))); (next => first | (with_reducible exact True.intro) | assumption | omega | (with_reducible rfl) | (unfold w32; omega) | (simp [upm]; done) | (simp [upm] <;> (first | omega | (unfold w32; omega)))); (next => first | (with_reducible exact True.intro) | assumption | omega | (with_reducible rfl) | (unfold w32; omega) | (simp [upm]; done) | (simp [upm] <;> (first | omega | (unfold w32; omega)))))
  intro _
  focus (with_reducible refine ⟨k - 1, ?_, _, _, _, _, _, rfl, rfl, ?_, ?_, ?_⟩; (next => omega); (next => refine JW_of hL ?_ (by decide); repeat (first | assumption | (refine JW_up ?_ (by first | decide | (unfold frR; omega)) (by first | decide | simp [frc]) (by first | decide | simp [frw]) (by first | (simp [BdR]; done) | (refine BdR_n (by simp) ?_; (first | (refine rb_at ?_ ?_ <;> first | omega | (simp only [upm_app]; (repeat' split) <;> omega)) | (refine rb_us ?_ ?_ <;> first | omega | (simp only [upm_app]; (repeat' split) <;> omega)) | (refine rb_ho ?_ ?_ <;> first | omega | (simp only [upm_app]; (repeat' split) <;> omega)) | (refine rb_on ?_ ?_ <;> first | omega | (simp only [upm_app]; (repeat' split) <;> omega)) | ((try simp (disch := omega) only [w32_eq]); (refine (rb_i ?_ ?_).2 ?_ <;> omega)) | (refine rb_us ?_ ?_ <;> first | omega | (unfold w32; omega)))) | (simp [BdR] <;> first | omega | (unfold w32; omega)) | (simp [BdR, upm] <;> first | omega | (unfold w32; omega)))))); (next => first | (with_reducible exact True.intro) | assumption | omega | (with_reducible rfl) | (unfold w32; omega) | (simp [upm]; done) | (simp [upm] <;> (first | omega | (unfold w32; omega)))); (next => first | (with_reducible exact True.intro) | assumption | omega | (with_reducible rfl) | (unfold w32; omega) | (simp [upm]; done) | (simp [upm] <;> (first | omega | (unfold w32; omega)))))
  intro _
  focus (with_reducible refine whl_i (fun k2 r u => ∃ (i x y z : Int) (m9 : Mem), r = rl [249, 259, i, x, y, z] ∧ u = S9 e m9 ∧ JW 4 g tc pl N W m9 ∧ (0 ≤ i) ∧ (i + k2 = 5)) 5 ?_ ?_; (next => refine ⟨_, _, _, _, _, rfl, rfl, ?_, ?_, ?_⟩; (next => refine JW_of hL ?_ (by decide); repeat (first | assumption | (refine JW_up ?_ (by first | decide | (unfold frR; omega)) (by first | decide | simp [frc]) (by first | decide | simp [frw]) (by first | (simp [BdR]; done) | (refine BdR_n (by simp) ?_; (first | (refine rb_at ?_ ?_ <;> first | omega | (simp only [upm_app]; (repeat' split) <;> omega)) | (refine rb_us ?_ ?_ <;> first | omega | (simp only [upm_app]; (repeat' split) <;> omega)) | (refine rb_ho ?_ ?_ <;> first | omega | (simp only [upm_app]; (repeat' split) <;> omega)) | (refine rb_on ?_ ?_ <;> first | omega | (simp only [upm_app]; (repeat' split) <;> omega)) | ((try simp (disch := omega) only [w32_eq]); (refine (rb_i ?_ ?_).2 ?_ <;> omega)) | (refine rb_us ?_ ?_ <;> first | omega | (unfold w32; omega)))) | (simp [BdR] <;> first | omega | (unfold w32; omega)) | (simp [BdR, upm] <;> first | omega | (unfold w32; omega)))))); (next => first | (with_reducible exact True.intro) | assumption | omega | (with_reducible rfl) | (unfold w32; omega) | (simp [upm]; done) | (simp [upm] <;> (first | omega | (unfold w32; omega)))); (next => first | (with_reducible exact True.intro) | assumption | omega | (with_reducible rfl) | (unfold w32; omega) | (simp [upm]; done) | (simp [upm] <;> (first | omega | (unfold w32; omega))))); rintro k2 r u ⟨i, x, y, z, m9, rfl, rfl, hJ9, h9a, h9b⟩; (try clear hs9); have hJ9 := JW_dn hL hJ9; have hs9 := JW_s hJ9; (try clear h58); have h58 := JW_2 hJ9; have hl9 := JW_s hJ9; have hy0 := JR_t (JW_1 hJ9) i; simp only [cl_224, runB, B224, ma_224, rho_22, wf_13_140, wf_13_143, wf_13_30, wf_13_33, wpf_13_304, wpopadd_pf_13_304, wpf_13_307, wpopor_pf_13_307, wpf_13_310, wpopor_pf_13_310, wc_19, wc_56, wc_188, wc_206, cl_19, B19, ma_19, rho_00, cl_56, B56, ma_56, w_cst, w_ldi, w_ldj, w_lda, w_ljk, w_ldk, w_ldw, w_ldk2, w_ldt, w_ldtw, w_neg, w_cvb, w_cvs, w_cvc, w_cvj, w_add, w_sub, w_mul, w_ban, w_bor, w_bxo, w_shl, w_shr, w_ush, w_dvi, w_rmi, w_aldi, w_aldj, w_aldz, w_aldc, w_alda, w_ite, w_cmp, w_cmj, w_cz, w_cnot, w_cand, w_cor, w_nil, w_cons, w_cvi, w_csta, w_cvt, w_cvv, w_csv, w_cpy, w_seq, w_sbr, w_sbn, w_brk, w_ifs, w_ifx, w_ife, w_wk, w_rets, w_rtv, w_thr, w_asi, w_asj, w_asa, w_inc, w_exs, w_asti, w_astj, w_astz, w_astc, w_aopadd, w_aopsub, w_sw, if_true, if_false, ↓reduceIte, hdl_c, S9_1, S9_m, bud9, live9, inb9, wrn, wr9_14, wr9_15, wr9_16, wr9_17, tq9_14, tq9_15, tq9_16, tq9_17, tq_0, tq_1, tq_3, upr_rl, rl_0, rl_1, rl_2, rl_3, rl_4, rl_5, rl_6, rl_7, rl_8, rl_9, rl_10, rl_11, rl_12, rl_13, sp_0, sp_1, sp_2, sp_3, sp_4, sp_5, sp_6, sp_7, sp_8, sp_9, sp_10, sp_11, sp_12, sp_13, se_0, se_1, se_2, se_3, se_4, se_5, se_6, se_7, se_8, se_9, se_10, se_11, se_12, se_13, sem_0, sem_1, sem_2, sem_3, sem_4, sem_5, sr_249_11, sr_249_25, sr_249_17, sr_249_14, sr_249_71, sr_249_13, sr_249_64, sr_249_68, sr_249_15, sr_249_23, sr_249_67, sr_249_35, sr_249_43, sr_249_8, sr_249_41, sr_249_42, sr_249_30, sr_249_52, sr_249_58, sr_249_61, sr_249_55, sr_249_63, sr_249_54, sr_249_31, sr_249_40, sr_249_2, sr_249_22, sr_249_10, kl9_249, sr_249_50, sr_249_57, sr_249_34, sr_249_12, sr_249_16, sr_249_51, kc_249, sr_249_69, sr_249_24, sr_249_9, sr_249_70, kc_256, kl9_256, kc_257, kl9_257, kl9_259, kc_259, List.getD_cons_zero, List.getD_cons_succ, Bool.false_eq_true, wrn3, wrn1, cpmS, cpok9, h58]; (try simp (disch := omega) only [w15_0, w15_1, w15_3, w15_4, w15_5, w15_6, w3_0, w3_1, w3_2]))
  (with_reducible refine And.intro ?_ ?_)
  omega
  iterate 2 ((with_reducible refine And.intro ?_ ?_))
  omega
  (with_reducible refine And.intro ?_ ?_)
  omega
  (with_reducible exact True.intro)
  (with_reducible refine And.intro ?_ ?_)
  intro _
  focus (with_reducible refine p_188 ?_ ?_; (next => first | omega | (with_reducible rfl) | decide | (unfold w32; omega) | (simp (disch := omega) only [w32_eq]; omega) | (simp [upm] <;> (first | omega | (unfold w32; omega)))); simp only [hdl_c, S9_1, S9_m, bud9, live9, inb9, wrn, wr9_14, wr9_15, wr9_16, wr9_17, tq9_14, tq9_15, tq9_16, tq9_17, tq_0, tq_1, tq_3, upr_rl, rl_0, rl_1, rl_2, rl_3, rl_4, rl_5, rl_6, rl_7, rl_8, rl_9, rl_10, rl_11, rl_12, rl_13, sp_0, sp_1, sp_2, sp_3, sp_4, sp_5, sp_6, sp_7, sp_8, sp_9, sp_10, sp_11, sp_12, sp_13, se_0, se_1, se_2, se_3, se_4, se_5, se_6, se_7, se_8, se_9, se_10, se_11, se_12, se_13, sem_0, sem_1, sem_2, sem_3, sem_4, sem_5, List.getD_cons_zero, List.getD_cons_succ, Bool.false_eq_true, wrn3, wrn1, cpmS, cpok9, if_true, if_false, ↓reduceIte, wc_19, wc_56, wc_188, wc_206, cl_19, runB, B19, ma_19, rho_00, cl_56, B56, ma_56, w_cst, w_ldi, w_ldj, w_lda, w_ljk, w_ldk, w_ldw, w_ldk2, w_ldt, w_ldtw, w_neg, w_cvb, w_cvs, w_cvc, w_cvj, w_add, w_sub, w_mul, w_ban, w_bor, w_bxo, w_shl, w_shr, w_ush, w_dvi, w_rmi, w_aldi, w_aldj, w_aldz, w_aldc, w_alda, w_ite, w_cmp, w_cmj, w_cz, w_cnot, w_cand, w_cor, w_nil, w_cons, w_cvi, w_csta, w_cvt, w_cvv, w_csv, w_cpy, w_seq, w_sbr, w_sbn, w_brk, w_ifs, w_ifx, w_ife, w_wk, w_rets, w_rtv, w_thr, w_asi, w_asj, w_asa, w_inc, w_exs, w_asti, w_astj, w_astz, w_astc, w_aopadd, w_aopsub, w_sw, if_true, if_false, ↓reduceIte, sr_249_11, sr_249_25, sr_249_17, sr_249_14, sr_249_71, sr_249_13, sr_249_64, sr_249_68, sr_249_15, sr_249_23, sr_249_67, sr_249_35, sr_249_43, sr_249_8, sr_249_41, sr_249_42, sr_249_30, sr_249_52, sr_249_58, sr_249_61, sr_249_55, sr_249_63, sr_249_54, sr_249_31, sr_249_40, sr_249_2, sr_249_22, sr_249_10, kl9_249, sr_249_50, sr_249_57, sr_249_34, sr_249_12, sr_249_16, sr_249_51, kc_249, sr_249_69, sr_249_24, sr_249_9, sr_249_70, kc_256, kl9_256, kc_257, kl9_257, kl9_259, kc_259, h58]; (try simp (disch := omega) only [w15_0, w15_1, w15_3, w15_4, w15_5, w15_6, w3_0, w3_1, w3_2]))
  focus (with_reducible refine whl_i (fun k3 r u => ∃ (y z : Int) (m9 : Mem), r = rl [249, 259, i, 15 + 7 * i, y, z] ∧ u = S9 e m9 ∧ JW 4 g tc pl N W m9 ∧ (0 ≤ y) ∧ (y + k3 = 2)) 2 ?_ ?_; (next => refine ⟨_, _, _, rfl, rfl, ?_, ?_, ?_⟩; (next => refine JW_of hL ?_ (by decide); repeat (first | assumption | (refine JW_up ?_ (by first | decide | (unfold frR; omega)) (by first | decide | simp [frc]) (by first | decide | simp [frw]) (by first | (simp [BdR]; done) | (refine BdR_n (by simp) ?_; (first | (refine rb_at ?_ ?_ <;> first | omega | (simp only [upm_app]; (repeat' split) <;> omega)) | (refine rb_us ?_ ?_ <;> first | omega | (simp only [upm_app]; (repeat' split) <;> omega)) | (refine rb_ho ?_ ?_ <;> first | omega | (simp only [upm_app]; (repeat' split) <;> omega)) | (refine rb_on ?_ ?_ <;> first | omega | (simp only [upm_app]; (repeat' split) <;> omega)) | ((try simp (disch := omega) only [w32_eq]); (refine (rb_i ?_ ?_).2 ?_ <;> omega)) | (refine rb_us ?_ ?_ <;> first | omega | (unfold w32; omega)))) | (simp [BdR] <;> first | omega | (unfold w32; omega)) | (simp [BdR, upm] <;> first | omega | (unfold w32; omega)))))); (next => first | (with_reducible exact True.intro) | assumption | omega | (with_reducible rfl) | (unfold w32; omega) | (simp [upm]; done) | (simp [upm] <;> (first | omega | (unfold w32; omega)))); (next => first | (with_reducible exact True.intro) | assumption | omega | (with_reducible rfl) | (unfold w32; omega) | (simp [upm]; done) | (simp [upm] <;> (first | omega | (unfold w32; omega))))); rintro k3 r u ⟨y, z, m9, rfl, rfl, hJ9, h9a, h9b⟩; (try clear hs9); have hJ9 := JW_dn hL hJ9; have hs9 := JW_s hJ9; (try clear h58); have h58 := JW_2 hJ9; have hl9 := JW_s hJ9; have hy0 := JR_t (JW_1 hJ9) i; simp only [cl_224, runB, B224, ma_224, rho_22, wf_13_140, wf_13_143, wf_13_30, wf_13_33, wpf_13_304, wpopadd_pf_13_304, wpf_13_307, wpopor_pf_13_307, wpf_13_310, wpopor_pf_13_310, wc_19, wc_56, wc_188, wc_206, cl_19, B19, ma_19, rho_00, cl_56, B56, ma_56, w_cst, w_ldi, w_ldj, w_lda, w_ljk, w_ldk, w_ldw, w_ldk2, w_ldt, w_ldtw, w_neg, w_cvb, w_cvs, w_cvc, w_cvj, w_add, w_sub, w_mul, w_ban, w_bor, w_bxo, w_shl, w_shr, w_ush, w_dvi, w_rmi, w_aldi, w_aldj, w_aldz, w_aldc, w_alda, w_ite, w_cmp, w_cmj, w_cz, w_cnot, w_cand, w_cor, w_nil, w_cons, w_cvi, w_csta, w_cvt, w_cvv, w_csv, w_cpy, w_seq, w_sbr, w_sbn, w_brk, w_ifs, w_ifx, w_ife, w_wk, w_rets, w_rtv, w_thr, w_asi, w_asj, w_asa, w_inc, w_exs, w_asti, w_astj, w_astz, w_astc, w_aopadd, w_aopsub, w_sw, if_true, if_false, ↓reduceIte, hdl_c, S9_1, S9_m, bud9, live9, inb9, wrn, wr9_14, wr9_15, wr9_16, wr9_17, tq9_14, tq9_15, tq9_16, tq9_17, tq_0, tq_1, tq_3, upr_rl, rl_0, rl_1, rl_2, rl_3, rl_4, rl_5, rl_6, rl_7, rl_8, rl_9, rl_10, rl_11, rl_12, rl_13, sp_0, sp_1, sp_2, sp_3, sp_4, sp_5, sp_6, sp_7, sp_8, sp_9, sp_10, sp_11, sp_12, sp_13, se_0, se_1, se_2, se_3, se_4, se_5, se_6, se_7, se_8, se_9, se_10, se_11, se_12, se_13, sem_0, sem_1, sem_2, sem_3, sem_4, sem_5, sr_249_11, sr_249_25, sr_249_17, sr_249_14, sr_249_71, sr_249_13, sr_249_64, sr_249_68, sr_249_15, sr_249_23, sr_249_67, sr_249_35, sr_249_43, sr_249_8, sr_249_41, sr_249_42, sr_249_30, sr_249_52, sr_249_58, sr_249_61, sr_249_55, sr_249_63, sr_249_54, sr_249_31, sr_249_40, sr_249_2, sr_249_22, sr_249_10, kl9_249, sr_249_50, sr_249_57, sr_249_34, sr_249_12, sr_249_16, sr_249_51, kc_249, sr_249_69, sr_249_24, sr_249_9, sr_249_70, kc_256, kl9_256, kc_257, kl9_257, kl9_259, kc_259, List.getD_cons_zero, List.getD_cons_succ, Bool.false_eq_true, wrn3, wrn1, cpmS, cpok9, h58]; (try simp (disch := omega) only [w15_0, w15_1, w15_3, w15_4, w15_5, w15_6, w3_0, w3_1, w3_2]))
  (with_reducible refine And.intro ?_ ?_)
  intro _
  (with_reducible refine And.intro ?_ ?_)
  omega
  iterate 3 ((with_reducible refine And.intro ?_ ?_))
  omega
  (with_reducible refine And.intro ?_ ?_)
  omega
  (with_reducible exact True.intro)
  omega
  (with_reducible refine And.intro ?_ ?_)
  intro _
  (with_reducible refine And.intro ?_ ?_)
  omega
  iterate 3 ((with_reducible refine And.intro ?_ ?_))
  omega
  (with_reducible refine And.intro ?_ ?_)
  omega
  (with_reducible exact True.intro)
  omega
  (with_reducible refine And.intro ?_ ?_)
  intro _
  (with_reducible refine And.intro ?_ ?_)
  omega
  iterate 3 ((with_reducible refine And.intro ?_ ?_))
  omega
  (with_reducible refine And.intro ?_ ?_)
  omega
  (with_reducible exact True.intro)
  (with_reducible refine And.intro ?_ ?_)
  iterate 2 (focus (simp (disch := omega) only [w32_eq]; omega))
  (with_reducible refine And.intro ?_ ?_)
  intro _
  iterate 3 ((with_reducible refine And.intro ?_ ?_))
  omega
  (with_reducible refine And.intro ?_ ?_)
  omega
  (with_reducible exact True.intro)
  (with_reducible refine And.intro ?_ ?_)
  iterate 2 (focus (simp (disch := omega) only [w32_eq]; omega))
  focus (with_reducible refine ⟨k3 - 1, ?_, _, _, _, rfl, rfl, ?_, ?_, ?_⟩; (next => omega); (next => refine JW_of hL ?_ (by decide); repeat (first | assumption | (refine JW_up ?_ (by first | decide | (unfold frR; omega)) (by first | decide | simp [frc]) (by first | decide | simp [frw]) (by first | (simp [BdR]; done) | (refine BdR_n (by simp) ?_; (first | (refine rb_at ?_ ?_ <;> first | omega | (simp only [upm_app]; (repeat' split) <;> omega)) | (refine rb_us ?_ ?_ <;> first | omega | (simp only [upm_app]; (repeat' split) <;> omega)) | (refine rb_ho ?_ ?_ <;> first | omega | (simp only [upm_app]; (repeat' split) <;> omega)) | (refine rb_on ?_ ?_ <;> first | omega | (simp only [upm_app]; (repeat' split) <;> omega)) | ((try simp (disch := omega) only [w32_eq]); (refine (rb_i ?_ ?_).2 ?_ <;> omega)) | (refine rb_us ?_ ?_ <;> first | omega | (unfold w32; omega)))) | (simp [BdR] <;> first | omega | (unfold w32; omega)) | (simp [BdR, upm] <;> first | omega | (unfold w32; omega)))))); (next => first | (with_reducible exact True.intro) | assumption | omega | (with_reducible rfl) | (unfold w32; omega) | (simp [upm]; done) | (simp [upm] <;> (first | omega | (unfold w32; omega)))); (next => first | (with_reducible exact True.intro) | assumption | omega | (with_reducible rfl) | (unfold w32; omega) | (simp [upm]; done) | (simp [upm] <;> (first | omega | (unfold w32; omega)))))
  omega
  intro _
  (with_reducible refine And.intro ?_ ?_)
  omega
  iterate 3 ((with_reducible refine And.intro ?_ ?_))
  omega
  (with_reducible refine And.intro ?_ ?_)
  omega
  (with_reducible exact True.intro)
  (with_reducible refine And.intro ?_ ?_)
  iterate 2 (focus (simp (disch := omega) only [w32_eq]; omega))
  (with_reducible refine And.intro ?_ ?_)
  intro _
  (with_reducible contradiction)
  intro _
  (with_reducible refine And.intro ?_ ?_)
  omega
  iterate 3 ((with_reducible refine And.intro ?_ ?_))
  omega
  (with_reducible refine And.intro ?_ ?_)
  omega
  (with_reducible exact True.intro)
  (with_reducible refine And.intro ?_ ?_)
  iterate 2 (focus (simp (disch := omega) only [w32_eq]; omega))
  (with_reducible refine And.intro ?_ ?_)
  omega
  iterate 3 ((with_reducible refine And.intro ?_ ?_))
  omega
  (with_reducible refine And.intro ?_ ?_)
  omega
  (with_reducible exact True.intro)
  (with_reducible refine And.intro ?_ ?_)
  iterate 2 (focus (simp (disch := omega) only [w32_eq]; omega))
  focus (with_reducible refine ⟨k3 - 1, ?_, _, _, _, rfl, rfl, ?_, ?_, ?_⟩; (next => omega); (next => refine JW_of hL ?_ (by decide); repeat (first | assumption | (refine JW_up ?_ (by first | decide | (unfold frR; omega)) (by first | decide | simp [frc]) (by first | decide | simp [frw]) (by first | (simp [BdR]; done) | (refine BdR_n (by simp) ?_; (first | (refine rb_at ?_ ?_ <;> first | omega | (simp only [upm_app]; (repeat' split) <;> omega)) | (refine rb_us ?_ ?_ <;> first | omega | (simp only [upm_app]; (repeat' split) <;> omega)) | (refine rb_ho ?_ ?_ <;> first | omega | (simp only [upm_app]; (repeat' split) <;> omega)) | (refine rb_on ?_ ?_ <;> first | omega | (simp only [upm_app]; (repeat' split) <;> omega)) | ((try simp (disch := omega) only [w32_eq]); (refine (rb_i ?_ ?_).2 ?_ <;> omega)) | (refine rb_us ?_ ?_ <;> first | omega | (unfold w32; omega)))) | (simp [BdR] <;> first | omega | (unfold w32; omega)) | (simp [BdR, upm] <;> first | omega | (unfold w32; omega)))))); (next => first | (with_reducible exact True.intro) | assumption | omega | (with_reducible rfl) | (unfold w32; omega) | (simp [upm]; done) | (simp [upm] <;> (first | omega | (unfold w32; omega)))); (next => first | (with_reducible exact True.intro) | assumption | omega | (with_reducible rfl) | (unfold w32; omega) | (simp [upm]; done) | (simp [upm] <;> (first | omega | (unfold w32; omega)))))
  intro _
  (with_reducible refine And.intro ?_ ?_)
  omega
  iterate 3 ((with_reducible refine And.intro ?_ ?_))
  omega
  (with_reducible refine And.intro ?_ ?_)
  omega
  (with_reducible exact True.intro)
  (with_reducible refine And.intro ?_ ?_)
  iterate 2 (focus (simp (disch := omega) only [w32_eq]; omega))
  (with_reducible refine And.intro ?_ ?_)
  intro _
  (with_reducible contradiction)
  intro _
  (with_reducible refine And.intro ?_ ?_)
  omega
  iterate 3 ((with_reducible refine And.intro ?_ ?_))
  omega
  (with_reducible refine And.intro ?_ ?_)
  omega
  (with_reducible exact True.intro)
  (with_reducible refine And.intro ?_ ?_)
  iterate 2 (focus (simp (disch := omega) only [w32_eq]; omega))
  (with_reducible refine And.intro ?_ ?_)
  omega
  iterate 3 ((with_reducible refine And.intro ?_ ?_))
  omega
  (with_reducible refine And.intro ?_ ?_)
  omega
  (with_reducible exact True.intro)
  (with_reducible refine And.intro ?_ ?_)
  iterate 2 (focus (simp (disch := omega) only [w32_eq]; omega))
  focus (with_reducible refine ⟨k3 - 1, ?_, _, _, _, rfl, rfl, ?_, ?_, ?_⟩; (next => omega); (next => refine JW_of hL ?_ (by decide); repeat (first | assumption | (refine JW_up ?_ (by first | decide | (unfold frR; omega)) (by first | decide | simp [frc]) (by first | decide | simp [frw]) (by first | (simp [BdR]; done) | (refine BdR_n (by simp) ?_; (first | (refine rb_at ?_ ?_ <;> first | omega | (simp only [upm_app]; (repeat' split) <;> omega)) | (refine rb_us ?_ ?_ <;> first | omega | (simp only [upm_app]; (repeat' split) <;> omega)) | (refine rb_ho ?_ ?_ <;> first | omega | (simp only [upm_app]; (repeat' split) <;> omega)) | (refine rb_on ?_ ?_ <;> first | omega | (simp only [upm_app]; (repeat' split) <;> omega)) | ((try simp (disch := omega) only [w32_eq]); (refine (rb_i ?_ ?_).2 ?_ <;> omega)) | (refine rb_us ?_ ?_ <;> first | omega | (unfold w32; omega)))) | (simp [BdR] <;> first | omega | (unfold w32; omega)) | (simp [BdR, upm] <;> first | omega | (unfold w32; omega)))))); (next => first | (with_reducible exact True.intro) | assumption | omega | (with_reducible rfl) | (unfold w32; omega) | (simp [upm]; done) | (simp [upm] <;> (first | omega | (unfold w32; omega)))); (next => first | (with_reducible exact True.intro) | assumption | omega | (with_reducible rfl) | (unfold w32; omega) | (simp [upm]; done) | (simp [upm] <;> (first | omega | (unfold w32; omega)))))
  intro _
  focus (with_reducible refine ⟨k2 - 1, ?_, _, _, _, _, _, rfl, rfl, ?_, ?_, ?_⟩; (next => omega); (next => refine JW_of hL ?_ (by decide); repeat (first | assumption | (refine JW_up ?_ (by first | decide | (unfold frR; omega)) (by first | decide | simp [frc]) (by first | decide | simp [frw]) (by first | (simp [BdR]; done) | (refine BdR_n (by simp) ?_; (first | (refine rb_at ?_ ?_ <;> first | omega | (simp only [upm_app]; (repeat' split) <;> omega)) | (refine rb_us ?_ ?_ <;> first | omega | (simp only [upm_app]; (repeat' split) <;> omega)) | (refine rb_ho ?_ ?_ <;> first | omega | (simp only [upm_app]; (repeat' split) <;> omega)) | (refine rb_on ?_ ?_ <;> first | omega | (simp only [upm_app]; (repeat' split) <;> omega)) | ((try simp (disch := omega) only [w32_eq]); (refine (rb_i ?_ ?_).2 ?_ <;> omega)) | (refine rb_us ?_ ?_ <;> first | omega | (unfold w32; omega)))) | (simp [BdR] <;> first | omega | (unfold w32; omega)) | (simp [BdR, upm] <;> first | omega | (unfold w32; omega)))))); (next => first | (with_reducible exact True.intro) | assumption | omega | (with_reducible rfl) | (unfold w32; omega) | (simp [upm]; done) | (simp [upm] <;> (first | omega | (unfold w32; omega)))); (next => first | (with_reducible exact True.intro) | assumption | omega | (with_reducible rfl) | (unfold w32; omega) | (simp [upm]; done) | (simp [upm] <;> (first | omega | (unfold w32; omega)))))
  intro _
  focus (with_reducible refine whl_i (fun k2 r u => ∃ (i x y z : Int) (m9 : Mem), r = rl [249, 259, i, x, y, z] ∧ u = S9 e m9 ∧ JW 4 g tc pl N W m9 ∧ (0 ≤ i) ∧ (i + k2 = 5)) 5 ?_ ?_; (next => refine ⟨_, _, _, _, _, rfl, rfl, ?_, ?_, ?_⟩; (next => refine JW_of hL ?_ (by decide); repeat (first | assumption | (refine JW_up ?_ (by first | decide | (unfold frR; omega)) (by first | decide | simp [frc]) (by first | decide | simp [frw]) (by first | (simp [BdR]; done) | (refine BdR_n (by simp) ?_; (first | (refine rb_at ?_ ?_ <;> first | omega | (simp only [upm_app]; (repeat' split) <;> omega)) | (refine rb_us ?_ ?_ <;> first | omega | (simp only [upm_app]; (repeat' split) <;> omega)) | (refine rb_ho ?_ ?_ <;> first | omega | (simp only [upm_app]; (repeat' split) <;> omega)) | (refine rb_on ?_ ?_ <;> first | omega | (simp only [upm_app]; (repeat' split) <;> omega)) | ((try simp (disch := omega) only [w32_eq]); (refine (rb_i ?_ ?_).2 ?_ <;> omega)) | (refine rb_us ?_ ?_ <;> first | omega | (unfold w32; omega)))) | (simp [BdR] <;> first | omega | (unfold w32; omega)) | (simp [BdR, upm] <;> first | omega | (unfold w32; omega)))))); (next => first | (with_reducible exact True.intro) | assumption | omega | (with_reducible rfl) | (unfold w32; omega) | (simp [upm]; done) | (simp [upm] <;> (first | omega | (unfold w32; omega)))); (next => first | (with_reducible exact True.intro) | assumption | omega | (with_reducible rfl) | (unfold w32; omega) | (simp [upm]; done) | (simp [upm] <;> (first | omega | (unfold w32; omega))))); rintro k2 r u ⟨i, x, y, z, m9, rfl, rfl, hJ9, h9a, h9b⟩; (try clear hs9); have hJ9 := JW_dn hL hJ9; have hs9 := JW_s hJ9; (try clear h58); have h58 := JW_2 hJ9; have hl9 := JW_s hJ9; have hy0 := JR_t (JW_1 hJ9) i; simp only [cl_224, runB, B224, ma_224, rho_22, wf_13_140, wf_13_143, wf_13_30, wf_13_33, wpf_13_304, wpopadd_pf_13_304, wpf_13_307, wpopor_pf_13_307, wpf_13_310, wpopor_pf_13_310, wc_19, wc_56, wc_188, wc_206, cl_19, B19, ma_19, rho_00, cl_56, B56, ma_56, w_cst, w_ldi, w_ldj, w_lda, w_ljk, w_ldk, w_ldw, w_ldk2, w_ldt, w_ldtw, w_neg, w_cvb, w_cvs, w_cvc, w_cvj, w_add, w_sub, w_mul, w_ban, w_bor, w_bxo, w_shl, w_shr, w_ush, w_dvi, w_rmi, w_aldi, w_aldj, w_aldz, w_aldc, w_alda, w_ite, w_cmp, w_cmj, w_cz, w_cnot, w_cand, w_cor, w_nil, w_cons, w_cvi, w_csta, w_cvt, w_cvv, w_csv, w_cpy, w_seq, w_sbr, w_sbn, w_brk, w_ifs, w_ifx, w_ife, w_wk, w_rets, w_rtv, w_thr, w_asi, w_asj, w_asa, w_inc, w_exs, w_asti, w_astj, w_astz, w_astc, w_aopadd, w_aopsub, w_sw, if_true, if_false, ↓reduceIte, hdl_c, S9_1, S9_m, bud9, live9, inb9, wrn, wr9_14, wr9_15, wr9_16, wr9_17, tq9_14, tq9_15, tq9_16, tq9_17, tq_0, tq_1, tq_3, upr_rl, rl_0, rl_1, rl_2, rl_3, rl_4, rl_5, rl_6, rl_7, rl_8, rl_9, rl_10, rl_11, rl_12, rl_13, sp_0, sp_1, sp_2, sp_3, sp_4, sp_5, sp_6, sp_7, sp_8, sp_9, sp_10, sp_11, sp_12, sp_13, se_0, se_1, se_2, se_3, se_4, se_5, se_6, se_7, se_8, se_9, se_10, se_11, se_12, se_13, sem_0, sem_1, sem_2, sem_3, sem_4, sem_5, sr_249_11, sr_249_25, sr_249_17, sr_249_14, sr_249_71, sr_249_13, sr_249_64, sr_249_68, sr_249_15, sr_249_23, sr_249_67, sr_249_35, sr_249_43, sr_249_8, sr_249_41, sr_249_42, sr_249_30, sr_249_52, sr_249_58, sr_249_61, sr_249_55, sr_249_63, sr_249_54, sr_249_31, sr_249_40, sr_249_2, sr_249_22, sr_249_10, kl9_249, sr_249_50, sr_249_57, sr_249_34, sr_249_12, sr_249_16, sr_249_51, kc_249, sr_249_69, sr_249_24, sr_249_9, sr_249_70, kc_256, kl9_256, kc_257, kl9_257, kl9_259, kc_259, List.getD_cons_zero, List.getD_cons_succ, Bool.false_eq_true, wrn3, wrn1, cpmS, cpok9, h58]; (try simp (disch := omega) only [w15_0, w15_1, w15_3, w15_4, w15_5, w15_6, w3_0, w3_1, w3_2]))
  (with_reducible refine And.intro ?_ ?_)
  omega
  iterate 2 ((with_reducible refine And.intro ?_ ?_))
  omega
  (with_reducible refine And.intro ?_ ?_)
  omega
  (with_reducible exact True.intro)
  (with_reducible refine And.intro ?_ ?_)
  intro _
  (with_reducible refine And.intro ?_ ?_)
  omega
  (with_reducible refine And.intro ?_ ?_)
  omega
  iterate 3 ((with_reducible refine And.intro ?_ ?_))
  omega
  (with_reducible refine And.intro ?_ ?_)
  omega
  (with_reducible exact True.intro)
  (with_reducible refine And.intro ?_ ?_)
  iterate 2 (focus (simp (disch := omega) only [w32_eq]; omega))
  (with_reducible refine And.intro ?_ ?_)
  omega
  iterate 3 ((with_reducible refine And.intro ?_ ?_))
  omega
  (with_reducible refine And.intro ?_ ?_)
  omega
  (with_reducible exact True.intro)
  (with_reducible refine And.intro ?_ ?_)
  iterate 2 (focus (simp (disch := omega) only [w32_eq]; omega))
  (with_reducible refine And.intro ?_ ?_)
  intro _
  (with_reducible refine And.intro ?_ ?_)
  omega
  iterate 2 ((with_reducible refine And.intro ?_ ?_))
  omega
  (with_reducible refine And.intro ?_ ?_)
  omega
  (with_reducible exact True.intro)
  iterate 3 ((with_reducible refine And.intro ?_ ?_))
  omega
  (with_reducible refine And.intro ?_ ?_)
  omega
  (with_reducible exact True.intro)
  omega
  (with_reducible refine And.intro ?_ ?_)
  intro _
  (with_reducible refine And.intro ?_ ?_)
  (with_reducible exact True.intro)
  iterate 3 ((with_reducible refine And.intro ?_ ?_))
  omega
  (with_reducible refine And.intro ?_ ?_)
  omega
  (with_reducible exact True.intro)
  (with_reducible refine And.intro ?_ ?_)
  iterate 2 (focus (simp (disch := omega) only [w32_eq]; omega))
  (with_reducible refine And.intro ?_ ?_)
  (with_reducible exact True.intro)
  focus (with_reducible refine ⟨k2 - 1, ?_, _, _, _, _, _, rfl, rfl, ?_, ?_, ?_⟩; (next => omega); (next => refine JW_of hL ?_ (by decide); repeat (first | assumption | (refine JW_up ?_ (by first | decide | (unfold frR; omega)) (by first | decide | simp [frc]) (by first | decide | simp [frw]) (by first | (simp [BdR]; done) | (refine BdR_n (by simp) ?_; (first | (refine rb_at ?_ ?_ <;> first | omega | (simp only [upm_app]; (repeat' split) <;> omega)) | (refine rb_us ?_ ?_ <;> first | omega | (simp only [upm_app]; (repeat' split) <;> omega)) | (refine rb_ho ?_ ?_ <;> first | omega | (simp only [upm_app]; (repeat' split) <;> omega)) | (refine rb_on ?_ ?_ <;> first | omega | (simp only [upm_app]; (repeat' split) <;> omega)) | ((try simp (disch := omega) only [w32_eq]); (refine (rb_i ?_ ?_).2 ?_ <;> omega)) | (refine rb_us ?_ ?_ <;> first | omega | (unfold w32; omega)))) | (simp [BdR] <;> first | omega | (unfold w32; omega)) | (simp [BdR, upm] <;> first | omega | (unfold w32; omega)))))); (next => first | (with_reducible exact True.intro) | assumption | omega | (with_reducible rfl) | (unfold w32; omega) | (simp [upm]; done) | (simp [upm] <;> (first | omega | (unfold w32; omega)))); (next => first | (with_reducible exact True.intro) | assumption | omega | (with_reducible rfl) | (unfold w32; omega) | (simp [upm]; done) | (simp [upm] <;> (first | omega | (unfold w32; omega)))))
  intro _
  (with_reducible refine And.intro ?_ ?_)
  (with_reducible exact True.intro)
  iterate 3 ((with_reducible refine And.intro ?_ ?_))
  omega
  (with_reducible refine And.intro ?_ ?_)
  omega
  (with_reducible exact True.intro)
  (with_reducible refine And.intro ?_ ?_)
  iterate 2 (focus (simp (disch := omega) only [w32_eq]; omega))
  (with_reducible refine And.intro ?_ ?_)
  (with_reducible exact True.intro)
  focus (with_reducible refine ⟨k2 - 1, ?_, _, _, _, _, _, rfl, rfl, ?_, ?_, ?_⟩; (next => omega); (next => refine JW_of hL ?_ (by decide); repeat (first | assumption | (refine JW_up ?_ (by first | decide | (unfold frR; omega)) (by first | decide | simp [frc]) (by first | decide | simp [frw]) (by first | (simp [BdR]; done) | (refine BdR_n (by simp) ?_; (first | (refine rb_at ?_ ?_ <;> first | omega | (simp only [upm_app]; (repeat' split) <;> omega)) | (refine rb_us ?_ ?_ <;> first | omega | (simp only [upm_app]; (repeat' split) <;> omega)) | (refine rb_ho ?_ ?_ <;> first | omega | (simp only [upm_app]; (repeat' split) <;> omega)) | (refine rb_on ?_ ?_ <;> first | omega | (simp only [upm_app]; (repeat' split) <;> omega)) | ((try simp (disch := omega) only [w32_eq]); (refine (rb_i ?_ ?_).2 ?_ <;> omega)) | (refine rb_us ?_ ?_ <;> first | omega | (unfold w32; omega)))) | (simp [BdR] <;> first | omega | (unfold w32; omega)) | (simp [BdR, upm] <;> first | omega | (unfold w32; omega)))))); (next => first | (with_reducible exact True.intro) | assumption | omega | (with_reducible rfl) | (unfold w32; omega) | (simp [upm]; done) | (simp [upm] <;> (first | omega | (unfold w32; omega)))); (next => first | (with_reducible exact True.intro) | assumption | omega | (with_reducible rfl) | (unfold w32; omega) | (simp [upm]; done) | (simp [upm] <;> (first | omega | (unfold w32; omega)))))
  intro _
  (with_reducible refine And.intro ?_ ?_)
  intro _
  (with_reducible refine And.intro ?_ ?_)
  (with_reducible exact True.intro)
  iterate 3 ((with_reducible refine And.intro ?_ ?_))
  omega
  (with_reducible refine And.intro ?_ ?_)
  omega
  (with_reducible exact True.intro)
  (with_reducible refine And.intro ?_ ?_)
  iterate 2 (focus (simp (disch := omega) only [w32_eq]; omega))
  (with_reducible refine And.intro ?_ ?_)
  (with_reducible exact True.intro)
  focus (with_reducible refine ⟨k2 - 1, ?_, _, _, _, _, _, rfl, rfl, ?_, ?_, ?_⟩; (next => omega); (next => refine JW_of hL ?_ (by decide); repeat (first | assumption | (refine JW_up ?_ (by first | decide | (unfold frR; omega)) (by first | decide | simp [frc]) (by first | decide | simp [frw]) (by first | (simp [BdR]; done) | (refine BdR_n (by simp) ?_; (first | (refine rb_at ?_ ?_ <;> first | omega | (simp only [upm_app]; (repeat' split) <;> omega)) | (refine rb_us ?_ ?_ <;> first | omega | (simp only [upm_app]; (repeat' split) <;> omega)) | (refine rb_ho ?_ ?_ <;> first | omega | (simp only [upm_app]; (repeat' split) <;> omega)) | (refine rb_on ?_ ?_ <;> first | omega | (simp only [upm_app]; (repeat' split) <;> omega)) | ((try simp (disch := omega) only [w32_eq]); (refine (rb_i ?_ ?_).2 ?_ <;> omega)) | (refine rb_us ?_ ?_ <;> first | omega | (unfold w32; omega)))) | (simp [BdR] <;> first | omega | (unfold w32; omega)) | (simp [BdR, upm] <;> first | omega | (unfold w32; omega)))))); (next => first | (with_reducible exact True.intro) | assumption | omega | (with_reducible rfl) | (unfold w32; omega) | (simp [upm]; done) | (simp [upm] <;> (first | omega | (unfold w32; omega)))); (next => first | (with_reducible exact True.intro) | assumption | omega | (with_reducible rfl) | (unfold w32; omega) | (simp [upm]; done) | (simp [upm] <;> (first | omega | (unfold w32; omega)))))
  intro _
  (with_reducible refine And.intro ?_ ?_)
  (with_reducible exact True.intro)
  iterate 3 ((with_reducible refine And.intro ?_ ?_))
  omega
  (with_reducible refine And.intro ?_ ?_)
  omega
  (with_reducible exact True.intro)
  (with_reducible refine And.intro ?_ ?_)
  iterate 2 (focus (simp (disch := omega) only [w32_eq]; omega))
  (with_reducible refine And.intro ?_ ?_)
  (with_reducible exact True.intro)
  focus (with_reducible refine ⟨k2 - 1, ?_, _, _, _, _, _, rfl, rfl, ?_, ?_, ?_⟩; (next => omega); (next => refine JW_of hL ?_ (by decide); repeat (first | assumption | (refine JW_up ?_ (by first | decide | (unfold frR; omega)) (by first | decide | simp [frc]) (by first | decide | simp [frw]) (by first | (simp [BdR]; done) | (refine BdR_n (by simp) ?_; (first | (refine rb_at ?_ ?_ <;> first | omega | (simp only [upm_app]; (repeat' split) <;> omega)) | (refine rb_us ?_ ?_ <;> first | omega | (simp only [upm_app]; (repeat' split) <;> omega)) | (refine rb_ho ?_ ?_ <;> first | omega | (simp only [upm_app]; (repeat' split) <;> omega)) | (refine rb_on ?_ ?_ <;> first | omega | (simp only [upm_app]; (repeat' split) <;> omega)) | ((try simp (disch := omega) only [w32_eq]); (refine (rb_i ?_ ?_).2 ?_ <;> omega)) | (refine rb_us ?_ ?_ <;> first | omega | (unfold w32; omega)))) | (simp [BdR] <;> first | omega | (unfold w32; omega)) | (simp [BdR, upm] <;> first | omega | (unfold w32; omega)))))); (next => first | (with_reducible exact True.intro) | assumption | omega | (with_reducible rfl) | (unfold w32; omega) | (simp [upm]; done) | (simp [upm] <;> (first | omega | (unfold w32; omega)))); (next => first | (with_reducible exact True.intro) | assumption | omega | (with_reducible rfl) | (unfold w32; omega) | (simp [upm]; done) | (simp [upm] <;> (first | omega | (unfold w32; omega)))))
  intro _
  (with_reducible refine And.intro ?_ ?_)
  omega
  iterate 3 ((with_reducible refine And.intro ?_ ?_))
  omega
  (with_reducible refine And.intro ?_ ?_)
  omega
  (with_reducible exact True.intro)
  omega
  iterate 3 ((with_reducible refine And.intro ?_ ?_))
  omega
  (with_reducible refine And.intro ?_ ?_)
  omega
  (with_reducible exact True.intro)
  omega
  focus (with_reducible refine hq _ _ ?_; (next => refine JW_of hL ?_ (by decide); repeat (first | assumption | (refine JW_up ?_ (by first | decide | (unfold frR; omega)) (by first | decide | simp [frc]) (by first | decide | simp [frw]) (by first | (simp [BdR]; done) | (refine BdR_n (by simp) ?_; (first | (refine rb_at ?_ ?_ <;> first | omega | (simp only [upm_app]; (repeat' split) <;> omega)) | (refine rb_us ?_ ?_ <;> first | omega | (simp only [upm_app]; (repeat' split) <;> omega)) | (refine rb_ho ?_ ?_ <;> first | omega | (simp only [upm_app]; (repeat' split) <;> omega)) | (refine rb_on ?_ ?_ <;> first | omega | (simp only [upm_app]; (repeat' split) <;> omega)) | ((try simp (disch := omega) only [w32_eq]); (refine (rb_i ?_ ?_).2 ?_ <;> omega)) | (refine rb_us ?_ ?_ <;> first | omega | (unfold w32; omega)))) | (simp [BdR] <;> first | omega | (unfold w32; omega)) | (simp [BdR, upm] <;> first | omega | (unfold w32; omega)))))))

