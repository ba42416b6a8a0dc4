/-! dinner, the component's: its acts done -/
def doC (m : Mem) (R : ENV → Int) : ACT → AS → AR := doA R (m 14) (m 13) (m 8 2).toNat (m 8 3).toNat (m 8 1) (m 10) (m 11) (m 12) (fun w => iand (ishr (m 8 8) w) 1) (m 9)
theorem doC_fr {m m' : Mem} {R : ENV → Int} (e : ∀ x, 8 ≤ x → x ≤ 14 → m' x = m x) : doC m' R = doC m R := by
  unfold doC
  rw [e 14 (by decide) (by decide), e 13 (by decide) (by decide), e 8 (by decide) (by decide), e 10 (by decide) (by decide), e 11 (by decide) (by decide), e 12 (by decide) (by decide), e 9 (by decide) (by decide)]
/-- the ends of ways are PLACES, their STEPS are digits -/
def WB (L : Int) (m : Mem) : Prop := ∀ w, 0 ≤ w → w < m 8 1 → (0 ≤ m 10 w ∧ m 10 w < L) ∧ (0 ≤ m 11 w ∧ m 11 w < L)
theorem WB_fr {L : Int} {m m' : Mem} (h : WB L m) (e : ∀ x, 8 ≤ x → x ≤ 14 → m' x = m x) : WB L m' := by
  unfold WB at h ⊢
  rw [e 8 (by decide) (by decide), e 10 (by decide) (by decide), e 11 (by decide) (by decide)]; exact h
set_option maxHeartbeats 1500000 in
theorem f_100 {d : Nat} {tc e : Int} {g : Fg} {m : Mem} {Q : Int → Sto → Prop} {R : ENV → Int} {L : Int} {k : Int} {a : ACT} (hJ : JC 3 g tc m) (hI : IV L (m 8 2) (m 8 3) (asC m 15)) (hD : HD (m 8 2) (m 8 3) (asC m 15) (m 18)) (hK : KB m) (hR : RuC m R) (hW : WB L m) (hLm : L ≤ m 8 0) (hk : 0 ≤ k ∧ k < 30) (ha : sgi (m 28 k) = a.1 ∧ 0 ≤ a.1 ∧ m 29 k = a.2.1 ∧ m 30 k = a.2.2) (hc : 0 ≤ asC m 15 11 0 ∧ asC m 15 11 0 ≤ 100000) (hq : ∀ v m', JC 3 g tc m' → FA m m' → HD (m 8 2) (m 8 3) (asC m' 15) (m' 18) → (0 ≤ v ↔ 0 ≤ (doC m R a (asC m 15)).1) → asC m' 15 = (doC m R a (asC m 15)).2 → Q v (S9 e m')) : Cl (d + 8) 100 [26, k] Q (S9 e m) := by
  have hL := JC_l hJ
  have hs := JC_s hJ
  have eH : ((m 8 3).toNat : Int) = m 8 3 := by omega
  have eP : ((m 8 2).toNat : Int) = m 8 2 := by omega
  obtain ⟨a1, a2, a3, a4⟩ := ha
  have hsg := sgi_r (m 28 k)
  rcases hsg with ⟨q1, -⟩ | ⟨q1, q2⟩ | ⟨q1, q2⟩ | ⟨q1, q2⟩ | ⟨q1, q2⟩ | ⟨q1, q2⟩ | ⟨q1, q2⟩ | ⟨q1, q2⟩
  next => exfalso; omega
  next =>
    simp only [cl_100, runB, B100, ma_100, rho_20, wf_7_17, wf_7_21, wf_7_24, wc_62, wc_66, wc_68, wc_86, wc_88, wc_90, wc_94, w_cst, w_ldi, w_ldj, w_lda, w_ljk, w_ldk, w_ldw, w_ldk2, w_ldt, w_ldtw, w_neg, w_cvb, w_cvs, w_cvc, w_cvj, w_add, w_sub, w_mul, w_ban, w_bor, w_bxo, w_shl, w_shr, w_ush, w_dvi, w_rmi, w_aldi, w_aldj, w_aldz, w_aldc, w_alda, w_ite, w_cmp, w_cmj, w_cz, w_cnot, w_cand, w_cor, w_nil, w_cons, w_cvi, w_csta, w_cvt, w_cvv, w_csv, w_cpy, w_seq, w_sbr, w_sbn, w_brk, w_ifs, w_ifx, w_ife, w_wk, w_rets, w_rtv, w_thr, w_asi, w_asj, w_asa, w_inc, w_exs, w_asti, w_astj, w_astz, w_astc, w_aopadd, w_aopsub, w_sw, if_true, if_false, ↓reduceIte, hdl_c, S9_1, S9_m, bud9, live9, inb9, wrn, wr9_14, wr9_15, wr9_16, wr9_17, tq9_14, tq9_15, tq9_16, tq9_17, tq_0, tq_1, tq_3, upr_rl, rl_0, rl_1, rl_2, rl_3, rl_4, rl_5, rl_6, rl_7, rl_8, rl_9, rl_10, rl_11, rl_12, rl_13, sp_0, sp_1, sp_2, sp_3, sp_4, sp_5, sp_6, sp_7, sp_8, sp_9, sp_10, sp_11, sp_12, sp_13, se_0, se_1, se_2, se_3, se_4, se_5, se_6, se_7, se_8, se_9, se_10, se_11, se_12, se_13, sem_0, sem_1, sem_2, sem_3, sem_4, sem_5, kc_26, kl9_26, sr_26_0, sr_26_1, sr_26_10, sr_26_11, sr_26_12, sr_26_2, sr_26_3, sr_26_7, kc_28, kl9_28, kc_29, kl9_29, kc_30, kl9_30, List.getD_cons_zero, List.getD_cons_succ, Bool.false_eq_true, wrn3, wrn1, cpmS, cpok9, upm_app, Int.reduceEq, and_self, and_true, true_and, and_false, false_and, if_true, if_false, ↓reduceIte, Int.reduceToNat, upm_f, Int.reduceEq, Int.reduceNe, ne_eq, not_false_eq_true, not_true_eq_false, or_false, swW_c, swW_n, List.mem_singleton, List.mem_cons, List.mem_nil_iff, q2, a3, a4]
    repeat' (first
      | (with_reducible exact True.intro)
      | (with_reducible rfl)
      | (with_reducible refine And.intro ?_ ?_)
      | intro _
      | ((with_reducible refine f_62 (g := g) (tc := tc) (L := L) hJ hI hD (fun v2 m2 hJ2 hF2 hD2 h2 => ?_)); simp only [hdl_c, S9_1, S9_m, bud9, live9, inb9, wrn, wr9_14, wr9_15, wr9_16, wr9_17, tq9_14, tq9_15, tq9_16, tq9_17, tq_0, tq_1, tq_3, upr_rl, rl_0, rl_1, rl_2, rl_3, rl_4, rl_5, rl_6, rl_7, rl_8, rl_9, rl_10, rl_11, rl_12, rl_13, sp_0, sp_1, sp_2, sp_3, sp_4, sp_5, sp_6, sp_7, sp_8, sp_9, sp_10, sp_11, sp_12, sp_13, se_0, se_1, se_2, se_3, se_4, se_5, se_6, se_7, se_8, se_9, se_10, se_11, se_12, se_13, sem_0, sem_1, sem_2, sem_3, sem_4, sem_5, List.getD_cons_zero, List.getD_cons_succ, Bool.false_eq_true, wrn3, wrn1, cpmS, cpok9, if_true, if_false, ↓reduceIte, wc_62, wc_66, wc_68, wc_86, wc_88, wc_90, wc_94, kc_26, kl9_26, sr_26_0, sr_26_1, sr_26_10, sr_26_11, sr_26_12, sr_26_2, sr_26_3, sr_26_7, kc_28, kl9_28, kc_29, kl9_29, kc_30, kl9_30, upm_app, Int.reduceEq, and_self, and_true, true_and, and_false, false_and, if_true, if_false, ↓reduceIte, Int.reduceToNat, upm_f, Int.reduceEq, Int.reduceNe, ne_eq, not_false_eq_true, not_true_eq_false, or_false, swW_c, swW_n, List.mem_singleton, List.mem_cons, List.mem_nil_iff])
      | ((with_reducible refine hq _ _ hJ2 hF2 hD2 ?_ ?_); (next => unfold doC; rw [doA_0 (by omega), eP, eH, ← h2]); (next => unfold doC; rw [doA_0 (by omega), eP, eH, ← h2]))
      | omega
      | (with_reducible contradiction)
      | (exfalso; omega)
      | (unfold w32; omega)
      | (simp (disch := omega) only [w32_eq]; omega)
      | (with_reducible show (_ : Int) ≤ _; simp [upm] <;> (first | omega | (unfold w32; omega)))
      | (with_reducible show (_ : Int) < _; simp [upm] <;> (first | omega | (unfold w32; omega))))
  next =>
    simp only [cl_100, runB, B100, ma_100, rho_20, wf_7_17, wf_7_21, wf_7_24, wc_62, wc_66, wc_68, wc_86, wc_88, wc_90, wc_94, w_cst, w_ldi, w_ldj, w_lda, w_ljk, w_ldk, w_ldw, w_ldk2, w_ldt, w_ldtw, w_neg, w_cvb, w_cvs, w_cvc, w_cvj, w_add, w_sub, w_mul, w_ban, w_bor, w_bxo, w_shl, w_shr, w_ush, w_dvi, w_rmi, w_aldi, w_aldj, w_aldz, w_aldc, w_alda, w_ite, w_cmp, w_cmj, w_cz, w_cnot, w_cand, w_cor, w_nil, w_cons, w_cvi, w_csta, w_cvt, w_cvv, w_csv, w_cpy, w_seq, w_sbr, w_sbn, w_brk, w_ifs, w_ifx, w_ife, w_wk, w_rets, w_rtv, w_thr, w_asi, w_asj, w_asa, w_inc, w_exs, w_asti, w_astj, w_astz, w_astc, w_aopadd, w_aopsub, w_sw, if_true, if_false, ↓reduceIte, hdl_c, S9_1, S9_m, bud9, live9, inb9, wrn, wr9_14, wr9_15, wr9_16, wr9_17, tq9_14, tq9_15, tq9_16, tq9_17, tq_0, tq_1, tq_3, upr_rl, rl_0, rl_1, rl_2, rl_3, rl_4, rl_5, rl_6, rl_7, rl_8, rl_9, rl_10, rl_11, rl_12, rl_13, sp_0, sp_1, sp_2, sp_3, sp_4, sp_5, sp_6, sp_7, sp_8, sp_9, sp_10, sp_11, sp_12, sp_13, se_0, se_1, se_2, se_3, se_4, se_5, se_6, se_7, se_8, se_9, se_10, se_11, se_12, se_13, sem_0, sem_1, sem_2, sem_3, sem_4, sem_5, kc_26, kl9_26, sr_26_0, sr_26_1, sr_26_10, sr_26_11, sr_26_12, sr_26_2, sr_26_3, sr_26_7, kc_28, kl9_28, kc_29, kl9_29, kc_30, kl9_30, List.getD_cons_zero, List.getD_cons_succ, Bool.false_eq_true, wrn3, wrn1, cpmS, cpok9, upm_app, Int.reduceEq, and_self, and_true, true_and, and_false, false_and, if_true, if_false, ↓reduceIte, Int.reduceToNat, upm_f, Int.reduceEq, Int.reduceNe, ne_eq, not_false_eq_true, not_true_eq_false, or_false, swW_c, swW_n, List.mem_singleton, List.mem_cons, List.mem_nil_iff, q2, a3, a4]
    repeat' (first
      | (with_reducible exact True.intro)
      | (with_reducible rfl)
      | (with_reducible refine And.intro ?_ ?_)
      | intro _
      | ((with_reducible refine f_66 (g := g) (tc := tc) (L := L) hJ hI hD hLm (fun v2 m2 hJ2 hF2 hD2 h2 => ?_)); simp only [hdl_c, S9_1, S9_m, bud9, live9, inb9, wrn, wr9_14, wr9_15, wr9_16, wr9_17, tq9_14, tq9_15, tq9_16, tq9_17, tq_0, tq_1, tq_3, upr_rl, rl_0, rl_1, rl_2, rl_3, rl_4, rl_5, rl_6, rl_7, rl_8, rl_9, rl_10, rl_11, rl_12, rl_13, sp_0, sp_1, sp_2, sp_3, sp_4, sp_5, sp_6, sp_7, sp_8, sp_9, sp_10, sp_11, sp_12, sp_13, se_0, se_1, se_2, se_3, se_4, se_5, se_6, se_7, se_8, se_9, se_10, se_11, se_12, se_13, sem_0, sem_1, sem_2, sem_3, sem_4, sem_5, List.getD_cons_zero, List.getD_cons_succ, Bool.false_eq_true, wrn3, wrn1, cpmS, cpok9, if_true, if_false, ↓reduceIte, wc_62, wc_66, wc_68, wc_86, wc_88, wc_90, wc_94, kc_26, kl9_26, sr_26_0, sr_26_1, sr_26_10, sr_26_11, sr_26_12, sr_26_2, sr_26_3, sr_26_7, kc_28, kl9_28, kc_29, kl9_29, kc_30, kl9_30, upm_app, Int.reduceEq, and_self, and_true, true_and, and_false, false_and, if_true, if_false, ↓reduceIte, Int.reduceToNat, upm_f, Int.reduceEq, Int.reduceNe, ne_eq, not_false_eq_true, not_true_eq_false, or_false, swW_c, swW_n, List.mem_singleton, List.mem_cons, List.mem_nil_iff])
      | ((with_reducible refine hq _ _ hJ2 hF2 hD2 ?_ ?_); (next => unfold doC; rw [doA_1 (by omega), eH, ← h2]); (next => unfold doC; rw [doA_1 (by omega), eH, ← h2]))
      | omega
      | (with_reducible contradiction)
      | (exfalso; omega)
      | (unfold w32; omega)
      | (simp (disch := omega) only [w32_eq]; omega)
      | (with_reducible show (_ : Int) ≤ _; simp [upm] <;> (first | omega | (unfold w32; omega)))
      | (with_reducible show (_ : Int) < _; simp [upm] <;> (first | omega | (unfold w32; omega))))
  next =>
    simp only [cl_100, runB, B100, ma_100, rho_20, wf_7_17, wf_7_21, wf_7_24, wc_62, wc_66, wc_68, wc_86, wc_88, wc_90, wc_94, w_cst, w_ldi, w_ldj, w_lda, w_ljk, w_ldk, w_ldw, w_ldk2, w_ldt, w_ldtw, w_neg, w_cvb, w_cvs, w_cvc, w_cvj, w_add, w_sub, w_mul, w_ban, w_bor, w_bxo, w_shl, w_shr, w_ush, w_dvi, w_rmi, w_aldi, w_aldj, w_aldz, w_aldc, w_alda, w_ite, w_cmp, w_cmj, w_cz, w_cnot, w_cand, w_cor, w_nil, w_cons, w_cvi, w_csta, w_cvt, w_cvv, w_csv, w_cpy, w_seq, w_sbr, w_sbn, w_brk, w_ifs, w_ifx, w_ife, w_wk, w_rets, w_rtv, w_thr, w_asi, w_asj, w_asa, w_inc, w_exs, w_asti, w_astj, w_astz, w_astc, w_aopadd, w_aopsub, w_sw, if_true, if_false, ↓reduceIte, hdl_c, S9_1, S9_m, bud9, live9, inb9, wrn, wr9_14, wr9_15, wr9_16, wr9_17, tq9_14, tq9_15, tq9_16, tq9_17, tq_0, tq_1, tq_3, upr_rl, rl_0, rl_1, rl_2, rl_3, rl_4, rl_5, rl_6, rl_7, rl_8, rl_9, rl_10, rl_11, rl_12, rl_13, sp_0, sp_1, sp_2, sp_3, sp_4, sp_5, sp_6, sp_7, sp_8, sp_9, sp_10, sp_11, sp_12, sp_13, se_0, se_1, se_2, se_3, se_4, se_5, se_6, se_7, se_8, se_9, se_10, se_11, se_12, se_13, sem_0, sem_1, sem_2, sem_3, sem_4, sem_5, kc_26, kl9_26, sr_26_0, sr_26_1, sr_26_10, sr_26_11, sr_26_12, sr_26_2, sr_26_3, sr_26_7, kc_28, kl9_28, kc_29, kl9_29, kc_30, kl9_30, List.getD_cons_zero, List.getD_cons_succ, Bool.false_eq_true, wrn3, wrn1, cpmS, cpok9, upm_app, Int.reduceEq, and_self, and_true, true_and, and_false, false_and, if_true, if_false, ↓reduceIte, Int.reduceToNat, upm_f, Int.reduceEq, Int.reduceNe, ne_eq, not_false_eq_true, not_true_eq_false, or_false, swW_c, swW_n, List.mem_singleton, List.mem_cons, List.mem_nil_iff, q2, a3, a4]
    repeat' (first
      | (with_reducible exact True.intro)
      | (with_reducible rfl)
      | (with_reducible refine And.intro ?_ ?_)
      | intro _
      | ((with_reducible refine f_68 (g := g) (tc := tc) (R := R) (L := L) hJ hI hD hK hR (fun v2 m2 hJ2 hF2 hD2 h2 => ?_)); simp only [hdl_c, S9_1, S9_m, bud9, live9, inb9, wrn, wr9_14, wr9_15, wr9_16, wr9_17, tq9_14, tq9_15, tq9_16, tq9_17, tq_0, tq_1, tq_3, upr_rl, rl_0, rl_1, rl_2, rl_3, rl_4, rl_5, rl_6, rl_7, rl_8, rl_9, rl_10, rl_11, rl_12, rl_13, sp_0, sp_1, sp_2, sp_3, sp_4, sp_5, sp_6, sp_7, sp_8, sp_9, sp_10, sp_11, sp_12, sp_13, se_0, se_1, se_2, se_3, se_4, se_5, se_6, se_7, se_8, se_9, se_10, se_11, se_12, se_13, sem_0, sem_1, sem_2, sem_3, sem_4, sem_5, List.getD_cons_zero, List.getD_cons_succ, Bool.false_eq_true, wrn3, wrn1, cpmS, cpok9, if_true, if_false, ↓reduceIte, wc_62, wc_66, wc_68, wc_86, wc_88, wc_90, wc_94, kc_26, kl9_26, sr_26_0, sr_26_1, sr_26_10, sr_26_11, sr_26_12, sr_26_2, sr_26_3, sr_26_7, kc_28, kl9_28, kc_29, kl9_29, kc_30, kl9_30, upm_app, Int.reduceEq, and_self, and_true, true_and, and_false, false_and, if_true, if_false, ↓reduceIte, Int.reduceToNat, upm_f, Int.reduceEq, Int.reduceNe, ne_eq, not_false_eq_true, not_true_eq_false, or_false, swW_c, swW_n, List.mem_singleton, List.mem_cons, List.mem_nil_iff])
      | ((with_reducible refine hq _ _ hJ2 hF2 hD2 ?_ ?_); (next => unfold doC; rw [doA_2 (by omega), ← h2]); (next => unfold doC; rw [doA_2 (by omega), ← h2]))
      | omega
      | (with_reducible contradiction)
      | (exfalso; omega)
      | (unfold w32; omega)
      | (simp (disch := omega) only [w32_eq]; omega)
      | (with_reducible show (_ : Int) ≤ _; simp [upm] <;> (first | omega | (unfold w32; omega)))
      | (with_reducible show (_ : Int) < _; simp [upm] <;> (first | omega | (unfold w32; omega))))
  next =>
    simp only [cl_100, runB, B100, ma_100, rho_20, wf_7_17, wf_7_21, wf_7_24, wc_62, wc_66, wc_68, wc_86, wc_88, wc_90, wc_94, w_cst, w_ldi, w_ldj, w_lda, w_ljk, w_ldk, w_ldw, w_ldk2, w_ldt, w_ldtw, w_neg, w_cvb, w_cvs, w_cvc, w_cvj, w_add, w_sub, w_mul, w_ban, w_bor, w_bxo, w_shl, w_shr, w_ush, w_dvi, w_rmi, w_aldi, w_aldj, w_aldz, w_aldc, w_alda, w_ite, w_cmp, w_cmj, w_cz, w_cnot, w_cand, w_cor, w_nil, w_cons, w_cvi, w_csta, w_cvt, w_cvv, w_csv, w_cpy, w_seq, w_sbr, w_sbn, w_brk, w_ifs, w_ifx, w_ife, w_wk, w_rets, w_rtv, w_thr, w_asi, w_asj, w_asa, w_inc, w_exs, w_asti, w_astj, w_astz, w_astc, w_aopadd, w_aopsub, w_sw, if_true, if_false, ↓reduceIte, hdl_c, S9_1, S9_m, bud9, live9, inb9, wrn, wr9_14, wr9_15, wr9_16, wr9_17, tq9_14, tq9_15, tq9_16, tq9_17, tq_0, tq_1, tq_3, upr_rl, rl_0, rl_1, rl_2, rl_3, rl_4, rl_5, rl_6, rl_7, rl_8, rl_9, rl_10, rl_11, rl_12, rl_13, sp_0, sp_1, sp_2, sp_3, sp_4, sp_5, sp_6, sp_7, sp_8, sp_9, sp_10, sp_11, sp_12, sp_13, se_0, se_1, se_2, se_3, se_4, se_5, se_6, se_7, se_8, se_9, se_10, se_11, se_12, se_13, sem_0, sem_1, sem_2, sem_3, sem_4, sem_5, kc_26, kl9_26, sr_26_0, sr_26_1, sr_26_10, sr_26_11, sr_26_12, sr_26_2, sr_26_3, sr_26_7, kc_28, kl9_28, kc_29, kl9_29, kc_30, kl9_30, List.getD_cons_zero, List.getD_cons_succ, Bool.false_eq_true, wrn3, wrn1, cpmS, cpok9, upm_app, Int.reduceEq, and_self, and_true, true_and, and_false, false_and, if_true, if_false, ↓reduceIte, Int.reduceToNat, upm_f, Int.reduceEq, Int.reduceNe, ne_eq, not_false_eq_true, not_true_eq_false, or_false, swW_c, swW_n, List.mem_singleton, List.mem_cons, List.mem_nil_iff, q2, a3, a4]
    repeat' (first
      | (with_reducible exact True.intro)
      | (with_reducible rfl)
      | (with_reducible refine And.intro ?_ ?_)
      | intro _
      | ((with_reducible refine f_86 (g := g) (tc := tc) (R := R) (L := L) hJ hI hD hK hR (fun z2 => ?_) (fun z2 v2 m2 hJ2 hF2 hD2 hI2 hA2 hv2 => ?_)); all_goals (simp only [hdl_c, S9_1, S9_m, bud9, live9, inb9, wrn, wr9_14, wr9_15, wr9_16, wr9_17, tq9_14, tq9_15, tq9_16, tq9_17, tq_0, tq_1, tq_3, upr_rl, rl_0, rl_1, rl_2, rl_3, rl_4, rl_5, rl_6, rl_7, rl_8, rl_9, rl_10, rl_11, rl_12, rl_13, sp_0, sp_1, sp_2, sp_3, sp_4, sp_5, sp_6, sp_7, sp_8, sp_9, sp_10, sp_11, sp_12, sp_13, se_0, se_1, se_2, se_3, se_4, se_5, se_6, se_7, se_8, se_9, se_10, se_11, se_12, se_13, sem_0, sem_1, sem_2, sem_3, sem_4, sem_5, List.getD_cons_zero, List.getD_cons_succ, Bool.false_eq_true, wrn3, wrn1, cpmS, cpok9, if_true, if_false, ↓reduceIte, wc_62, wc_66, wc_68, wc_86, wc_88, wc_90, wc_94, kc_26, kl9_26, sr_26_0, sr_26_1, sr_26_10, sr_26_11, sr_26_12, sr_26_2, sr_26_3, sr_26_7, kc_28, kl9_28, kc_29, kl9_29, kc_30, kl9_30, upm_app, Int.reduceEq, and_self, and_true, true_and, and_false, false_and, if_true, if_false, ↓reduceIte, Int.reduceToNat, upm_f, Int.reduceEq, Int.reduceNe, ne_eq, not_false_eq_true, not_true_eq_false, or_false, swW_c, swW_n, List.mem_singleton, List.mem_cons, List.mem_nil_iff]))
      | ((with_reducible refine hq _ _ hJ (fun _ _ _ => rfl) hD ?_ ?_); (next => unfold doC; rw [doA_3 (by omega)]; unfold dPass; rw [if_pos z2]); (next => unfold doC; rw [doA_3 (by omega)]; unfold dPass; rw [if_pos z2]))
      | ((with_reducible refine hq _ _ hJ2 hF2 hD2 ?_ ?_); (next => unfold doC; rw [doA_3 (by omega)]; unfold dPass; rw [if_neg (not_not_intro z2), hv2, hA2]; have qc := secs_c (R := R) (BE := m 14) (CO := m 13) (L := L) (P := (m 8 2).toNat) (H := (m 8 3).toNat) (by omega) (fun q q0 q1 => hK.2 q q0 (by omega)) a.2.1.toNat (asC m 15) (by rw [eP, eH]; exact hI) hc.1 (by omega); exact ⟨fun _ => (by show (0 : Int) ≤ 0; omega), fun _ => (by omega)⟩); (next => unfold doC; rw [doA_3 (by omega)]; unfold dPass; rw [if_neg (not_not_intro z2), hA2]))
      | omega
      | (with_reducible contradiction)
      | (exfalso; omega)
      | (unfold w32; omega)
      | (simp (disch := omega) only [w32_eq]; omega)
      | (with_reducible show (_ : Int) ≤ _; simp [upm] <;> (first | omega | (unfold w32; omega)))
      | (with_reducible show (_ : Int) < _; simp [upm] <;> (first | omega | (unfold w32; omega))))
  next =>
    simp only [cl_100, runB, B100, ma_100, rho_20, wf_7_17, wf_7_21, wf_7_24, wc_62, wc_66, wc_68, wc_86, wc_88, wc_90, wc_94, w_cst, w_ldi, w_ldj, w_lda, w_ljk, w_ldk, w_ldw, w_ldk2, w_ldt, w_ldtw, w_neg, w_cvb, w_cvs, w_cvc, w_cvj, w_add, w_sub, w_mul, w_ban, w_bor, w_bxo, w_shl, w_shr, w_ush, w_dvi, w_rmi, w_aldi, w_aldj, w_aldz, w_aldc, w_alda, w_ite, w_cmp, w_cmj, w_cz, w_cnot, w_cand, w_cor, w_nil, w_cons, w_cvi, w_csta, w_cvt, w_cvv, w_csv, w_cpy, w_seq, w_sbr, w_sbn, w_brk, w_ifs, w_ifx, w_ife, w_wk, w_rets, w_rtv, w_thr, w_asi, w_asj, w_asa, w_inc, w_exs, w_asti, w_astj, w_astz, w_astc, w_aopadd, w_aopsub, w_sw, if_true, if_false, ↓reduceIte, hdl_c, S9_1, S9_m, bud9, live9, inb9, wrn, wr9_14, wr9_15, wr9_16, wr9_17, tq9_14, tq9_15, tq9_16, tq9_17, tq_0, tq_1, tq_3, upr_rl, rl_0, rl_1, rl_2, rl_3, rl_4, rl_5, rl_6, rl_7, rl_8, rl_9, rl_10, rl_11, rl_12, rl_13, sp_0, sp_1, sp_2, sp_3, sp_4, sp_5, sp_6, sp_7, sp_8, sp_9, sp_10, sp_11, sp_12, sp_13, se_0, se_1, se_2, se_3, se_4, se_5, se_6, se_7, se_8, se_9, se_10, se_11, se_12, se_13, sem_0, sem_1, sem_2, sem_3, sem_4, sem_5, kc_26, kl9_26, sr_26_0, sr_26_1, sr_26_10, sr_26_11, sr_26_12, sr_26_2, sr_26_3, sr_26_7, kc_28, kl9_28, kc_29, kl9_29, kc_30, kl9_30, List.getD_cons_zero, List.getD_cons_succ, Bool.false_eq_true, wrn3, wrn1, cpmS, cpok9, upm_app, Int.reduceEq, and_self, and_true, true_and, and_false, false_and, if_true, if_false, ↓reduceIte, Int.reduceToNat, upm_f, Int.reduceEq, Int.reduceNe, ne_eq, not_false_eq_true, not_true_eq_false, or_false, swW_c, swW_n, List.mem_singleton, List.mem_cons, List.mem_nil_iff, q2, a3, a4]
    repeat' (first
      | (with_reducible exact True.intro)
      | (with_reducible rfl)
      | (with_reducible refine And.intro ?_ ?_)
      | intro _
      | ((with_reducible refine f_88 (g := g) (tc := tc) (L := L) hJ hI hD (fun v2 m2 hJ2 hF2 hD2 h2 => ?_)); simp only [hdl_c, S9_1, S9_m, bud9, live9, inb9, wrn, wr9_14, wr9_15, wr9_16, wr9_17, tq9_14, tq9_15, tq9_16, tq9_17, tq_0, tq_1, tq_3, upr_rl, rl_0, rl_1, rl_2, rl_3, rl_4, rl_5, rl_6, rl_7, rl_8, rl_9, rl_10, rl_11, rl_12, rl_13, sp_0, sp_1, sp_2, sp_3, sp_4, sp_5, sp_6, sp_7, sp_8, sp_9, sp_10, sp_11, sp_12, sp_13, se_0, se_1, se_2, se_3, se_4, se_5, se_6, se_7, se_8, se_9, se_10, se_11, se_12, se_13, sem_0, sem_1, sem_2, sem_3, sem_4, sem_5, List.getD_cons_zero, List.getD_cons_succ, Bool.false_eq_true, wrn3, wrn1, cpmS, cpok9, if_true, if_false, ↓reduceIte, wc_62, wc_66, wc_68, wc_86, wc_88, wc_90, wc_94, kc_26, kl9_26, sr_26_0, sr_26_1, sr_26_10, sr_26_11, sr_26_12, sr_26_2, sr_26_3, sr_26_7, kc_28, kl9_28, kc_29, kl9_29, kc_30, kl9_30, upm_app, Int.reduceEq, and_self, and_true, true_and, and_false, false_and, if_true, if_false, ↓reduceIte, Int.reduceToNat, upm_f, Int.reduceEq, Int.reduceNe, ne_eq, not_false_eq_true, not_true_eq_false, or_false, swW_c, swW_n, List.mem_singleton, List.mem_cons, List.mem_nil_iff])
      | ((with_reducible refine hq _ _ hJ2 hF2 hD2 ?_ ?_); (next => unfold doC; rw [doA_4 (by omega), eH, ← h2]); (next => unfold doC; rw [doA_4 (by omega), eH, ← h2]))
      | omega
      | (with_reducible contradiction)
      | (exfalso; omega)
      | (unfold w32; omega)
      | (simp (disch := omega) only [w32_eq]; omega)
      | (with_reducible show (_ : Int) ≤ _; simp [upm] <;> (first | omega | (unfold w32; omega)))
      | (with_reducible show (_ : Int) < _; simp [upm] <;> (first | omega | (unfold w32; omega))))
  next =>
    simp only [cl_100, runB, B100, ma_100, rho_20, wf_7_17, wf_7_21, wf_7_24, wc_62, wc_66, wc_68, wc_86, wc_88, wc_90, wc_94, w_cst, w_ldi, w_ldj, w_lda, w_ljk, w_ldk, w_ldw, w_ldk2, w_ldt, w_ldtw, w_neg, w_cvb, w_cvs, w_cvc, w_cvj, w_add, w_sub, w_mul, w_ban, w_bor, w_bxo, w_shl, w_shr, w_ush, w_dvi, w_rmi, w_aldi, w_aldj, w_aldz, w_aldc, w_alda, w_ite, w_cmp, w_cmj, w_cz, w_cnot, w_cand, w_cor, w_nil, w_cons, w_cvi, w_csta, w_cvt, w_cvv, w_csv, w_cpy, w_seq, w_sbr, w_sbn, w_brk, w_ifs, w_ifx, w_ife, w_wk, w_rets, w_rtv, w_thr, w_asi, w_asj, w_asa, w_inc, w_exs, w_asti, w_astj, w_astz, w_astc, w_aopadd, w_aopsub, w_sw, if_true, if_false, ↓reduceIte, hdl_c, S9_1, S9_m, bud9, live9, inb9, wrn, wr9_14, wr9_15, wr9_16, wr9_17, tq9_14, tq9_15, tq9_16, tq9_17, tq_0, tq_1, tq_3, upr_rl, rl_0, rl_1, rl_2, rl_3, rl_4, rl_5, rl_6, rl_7, rl_8, rl_9, rl_10, rl_11, rl_12, rl_13, sp_0, sp_1, sp_2, sp_3, sp_4, sp_5, sp_6, sp_7, sp_8, sp_9, sp_10, sp_11, sp_12, sp_13, se_0, se_1, se_2, se_3, se_4, se_5, se_6, se_7, se_8, se_9, se_10, se_11, se_12, se_13, sem_0, sem_1, sem_2, sem_3, sem_4, sem_5, kc_26, kl9_26, sr_26_0, sr_26_1, sr_26_10, sr_26_11, sr_26_12, sr_26_2, sr_26_3, sr_26_7, kc_28, kl9_28, kc_29, kl9_29, kc_30, kl9_30, List.getD_cons_zero, List.getD_cons_succ, Bool.false_eq_true, wrn3, wrn1, cpmS, cpok9, upm_app, Int.reduceEq, and_self, and_true, true_and, and_false, false_and, if_true, if_false, ↓reduceIte, Int.reduceToNat, upm_f, Int.reduceEq, Int.reduceNe, ne_eq, not_false_eq_true, not_true_eq_false, or_false, swW_c, swW_n, List.mem_singleton, List.mem_cons, List.mem_nil_iff, q2, a3, a4]
    repeat' (first
      | (with_reducible exact True.intro)
      | (with_reducible rfl)
      | (with_reducible refine And.intro ?_ ?_)
      | intro _
      | ((with_reducible refine f_90 (g := g) (tc := tc) (L := L) hJ hI hD (fun v2 m2 hJ2 hF2 hD2 h2 => ?_)); simp only [hdl_c, S9_1, S9_m, bud9, live9, inb9, wrn, wr9_14, wr9_15, wr9_16, wr9_17, tq9_14, tq9_15, tq9_16, tq9_17, tq_0, tq_1, tq_3, upr_rl, rl_0, rl_1, rl_2, rl_3, rl_4, rl_5, rl_6, rl_7, rl_8, rl_9, rl_10, rl_11, rl_12, rl_13, sp_0, sp_1, sp_2, sp_3, sp_4, sp_5, sp_6, sp_7, sp_8, sp_9, sp_10, sp_11, sp_12, sp_13, se_0, se_1, se_2, se_3, se_4, se_5, se_6, se_7, se_8, se_9, se_10, se_11, se_12, se_13, sem_0, sem_1, sem_2, sem_3, sem_4, sem_5, List.getD_cons_zero, List.getD_cons_succ, Bool.false_eq_true, wrn3, wrn1, cpmS, cpok9, if_true, if_false, ↓reduceIte, wc_62, wc_66, wc_68, wc_86, wc_88, wc_90, wc_94, kc_26, kl9_26, sr_26_0, sr_26_1, sr_26_10, sr_26_11, sr_26_12, sr_26_2, sr_26_3, sr_26_7, kc_28, kl9_28, kc_29, kl9_29, kc_30, kl9_30, upm_app, Int.reduceEq, and_self, and_true, true_and, and_false, false_and, if_true, if_false, ↓reduceIte, Int.reduceToNat, upm_f, Int.reduceEq, Int.reduceNe, ne_eq, not_false_eq_true, not_true_eq_false, or_false, swW_c, swW_n, List.mem_singleton, List.mem_cons, List.mem_nil_iff])
      | ((with_reducible refine hq _ _ hJ2 hF2 hD2 ?_ ?_); (next => unfold doC; rw [doA_5 (by omega), eH, ← h2]); (next => unfold doC; rw [doA_5 (by omega), eH, ← h2]))
      | omega
      | (with_reducible contradiction)
      | (exfalso; omega)
      | (unfold w32; omega)
      | (simp (disch := omega) only [w32_eq]; omega)
      | (with_reducible show (_ : Int) ≤ _; simp [upm] <;> (first | omega | (unfold w32; omega)))
      | (with_reducible show (_ : Int) < _; simp [upm] <;> (first | omega | (unfold w32; omega))))
  next =>
    simp only [cl_100, runB, B100, ma_100, rho_20, wf_7_17, wf_7_21, wf_7_24, wc_62, wc_66, wc_68, wc_86, wc_88, wc_90, wc_94, w_cst, w_ldi, w_ldj, w_lda, w_ljk, w_ldk, w_ldw, w_ldk2, w_ldt, w_ldtw, w_neg, w_cvb, w_cvs, w_cvc, w_cvj, w_add, w_sub, w_mul, w_ban, w_bor, w_bxo, w_shl, w_shr, w_ush, w_dvi, w_rmi, w_aldi, w_aldj, w_aldz, w_aldc, w_alda, w_ite, w_cmp, w_cmj, w_cz, w_cnot, w_cand, w_cor, w_nil, w_cons, w_cvi, w_csta, w_cvt, w_cvv, w_csv, w_cpy, w_seq, w_sbr, w_sbn, w_brk, w_ifs, w_ifx, w_ife, w_wk, w_rets, w_rtv, w_thr, w_asi, w_asj, w_asa, w_inc, w_exs, w_asti, w_astj, w_astz, w_astc, w_aopadd, w_aopsub, w_sw, if_true, if_false, ↓reduceIte, hdl_c, S9_1, S9_m, bud9, live9, inb9, wrn, wr9_14, wr9_15, wr9_16, wr9_17, tq9_14, tq9_15, tq9_16, tq9_17, tq_0, tq_1, tq_3, upr_rl, rl_0, rl_1, rl_2, rl_3, rl_4, rl_5, rl_6, rl_7, rl_8, rl_9, rl_10, rl_11, rl_12, rl_13, sp_0, sp_1, sp_2, sp_3, sp_4, sp_5, sp_6, sp_7, sp_8, sp_9, sp_10, sp_11, sp_12, sp_13, se_0, se_1, se_2, se_3, se_4, se_5, se_6, se_7, se_8, se_9, se_10, se_11, se_12, se_13, sem_0, sem_1, sem_2, sem_3, sem_4, sem_5, kc_26, kl9_26, sr_26_0, sr_26_1, sr_26_10, sr_26_11, sr_26_12, sr_26_2, sr_26_3, sr_26_7, kc_28, kl9_28, kc_29, kl9_29, kc_30, kl9_30, List.getD_cons_zero, List.getD_cons_succ, Bool.false_eq_true, wrn3, wrn1, cpmS, cpok9, upm_app, Int.reduceEq, and_self, and_true, true_and, and_false, false_and, if_true, if_false, ↓reduceIte, Int.reduceToNat, upm_f, Int.reduceEq, Int.reduceNe, ne_eq, not_false_eq_true, not_true_eq_false, or_false, swW_c, swW_n, List.mem_singleton, List.mem_cons, List.mem_nil_iff, q2, a3, a4]
    repeat' (first
      | (with_reducible exact True.intro)
      | (with_reducible rfl)
      | (with_reducible refine And.intro ?_ ?_)
      | intro _
      | ((with_reducible refine f_94 (g := g) (tc := tc) (L := L) hJ hI hD (fun v2 m2 hJ2 hF2 hD2 h2 => ?_)); simp only [hdl_c, S9_1, S9_m, bud9, live9, inb9, wrn, wr9_14, wr9_15, wr9_16, wr9_17, tq9_14, tq9_15, tq9_16, tq9_17, tq_0, tq_1, tq_3, upr_rl, rl_0, rl_1, rl_2, rl_3, rl_4, rl_5, rl_6, rl_7, rl_8, rl_9, rl_10, rl_11, rl_12, rl_13, sp_0, sp_1, sp_2, sp_3, sp_4, sp_5, sp_6, sp_7, sp_8, sp_9, sp_10, sp_11, sp_12, sp_13, se_0, se_1, se_2, se_3, se_4, se_5, se_6, se_7, se_8, se_9, se_10, se_11, se_12, se_13, sem_0, sem_1, sem_2, sem_3, sem_4, sem_5, List.getD_cons_zero, List.getD_cons_succ, Bool.false_eq_true, wrn3, wrn1, cpmS, cpok9, if_true, if_false, ↓reduceIte, wc_62, wc_66, wc_68, wc_86, wc_88, wc_90, wc_94, kc_26, kl9_26, sr_26_0, sr_26_1, sr_26_10, sr_26_11, sr_26_12, sr_26_2, sr_26_3, sr_26_7, kc_28, kl9_28, kc_29, kl9_29, kc_30, kl9_30, upm_app, Int.reduceEq, and_self, and_true, true_and, and_false, false_and, if_true, if_false, ↓reduceIte, Int.reduceToNat, upm_f, Int.reduceEq, Int.reduceNe, ne_eq, not_false_eq_true, not_true_eq_false, or_false, swW_c, swW_n, List.mem_singleton, List.mem_cons, List.mem_nil_iff])
      | ((with_reducible refine hq _ _ hJ2 hF2 hD2 ?_ ?_); (next => unfold doC; rw [doA_6 (by omega), ← h2]); (next => unfold doC; rw [doA_6 (by omega), ← h2]))
      | omega
      | (with_reducible contradiction)
      | (exfalso; omega)
      | (unfold w32; omega)
      | (simp (disch := omega) only [w32_eq]; omega)
      | (with_reducible show (_ : Int) ≤ _; simp [upm] <;> (first | omega | (unfold w32; omega)))
      | (with_reducible show (_ : Int) < _; simp [upm] <;> (first | omega | (unfold w32; omega))))

