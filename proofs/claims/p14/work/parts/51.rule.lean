/-! more readers; THE RULE -/
theorem s_50 {d : Nat} {tc e : Int} {g : Fg} {m : Mem} {Q : Int → Sto → Prop} {a : Int} (hJ : JC 4 g tc m) (hq : ∀ v m', JC 4 g tc m' → m' = m → Q v (S9 e m')) : Cl (d + 1) 50 [a] Q (S9 e m) := by
  have hL := JC_l hJ
  have hs := JC_s hJ
  simp only [cl_50, runB, B50, ma_50, rho_0, w_cst, w_ldi, w_ldj, w_lda, w_ljk, w_ldk, w_ldw, w_ldk2, w_ldt, w_ldtw, w_neg, w_cvb, w_cvs, w_cvc, w_cvj, w_add, w_sub, w_mul, w_ban, w_bor, w_bxo, w_shl, w_shr, w_ush, w_dvi, w_rmi, w_aldi, w_aldj, w_aldz, w_aldc, w_alda, w_ite, w_cmp, w_cmj, w_cz, w_cnot, w_cand, w_cor, w_nil, w_cons, w_cvi, w_csta, w_cvt, w_cvv, w_csv, w_cpy, w_seq, w_sbr, w_sbn, w_brk, w_ifs, w_ifx, w_ife, w_wk, w_rets, w_rtv, w_thr, w_asi, w_asj, w_asa, w_inc, w_exs, w_asti, w_astj, w_astz, w_astc, w_aopadd, w_aopsub, w_sw, if_true, if_false, ↓reduceIte, hdl_c, S9_1, S9_m, bud9, live9, inb9, wrn, wr9_14, wr9_15, wr9_16, wr9_17, tq9_14, tq9_15, tq9_16, tq9_17, tq_0, tq_1, tq_3, upr_rl, rl_0, rl_1, rl_2, rl_3, rl_4, rl_5, rl_6, rl_7, rl_8, rl_9, rl_10, rl_11, rl_12, rl_13, sp_0, sp_1, sp_2, sp_3, sp_4, sp_5, sp_6, sp_7, sp_8, sp_9, sp_10, sp_11, sp_12, sp_13, se_0, se_1, se_2, se_3, se_4, se_5, se_6, se_7, se_8, se_9, se_10, se_11, se_12, se_13, sem_0, sem_1, sem_2, sem_3, sem_4, sem_5, List.getD_cons_zero, List.getD_cons_succ, Bool.false_eq_true, wrn3, wrn1, cpmS, cpok9, swW_c, swW_n, List.mem_singleton, List.mem_cons, List.mem_nil_iff]
  repeat' (first
    | (with_reducible exact True.intro)
    | (with_reducible rfl)
    | (with_reducible refine And.intro ?_ ?_)
    | intro _
    | (with_reducible refine hq _ _ ?_ ?_; (next => refine JC_of hL ?_ (by decide); repeat (first | assumption | (refine JC_up ?_ (by first | decide | (unfold frC; omega)) (by first | (simp [BdC, hnd]; done) | (simp [BdC, hnd, upm, cpf] <;> first | omega | (unfold w32; omega)))) | (refine JC_cp ?_ (fun _ => by first | decide | (unfold frC; omega)) (fun _ _ => by simp [BdC, hnd])))); (next => first | (with_reducible exact True.intro) | assumption | omega | (with_reducible rfl) | (simp [upm]; done) | (simp [upm] <;> omega)))
    | omega
    | (with_reducible contradiction)
    | (unfold w32; omega)
    | (with_reducible show (_ : Int) ≤ _; simp [upm] <;> (first | omega | (unfold w32; omega)))
    | (with_reducible show (_ : Int) < _; simp [upm] <;> (first | omega | (unfold w32; omega))))
