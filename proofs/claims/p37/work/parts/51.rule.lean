section
/-! more readers; THE RULE -/
theorem s_50 {d : Nat} {tc e : Int} {g : Fg} {m : Mem} {Q : Int → Sto → Prop} {a : Int} (hJ : JC 4 g tc m) (hq : ∀ v m', JC 4 g tc m' → m' = m → Q v (S9 e m')) : Cl (d + 1) 50 [a] Q (S9 e m) := by
  have hL := JC_l hJ
  have hs := JC_s hJ
  simp only [cl_50, runB, B50, ma_50, rho_0, w_cst, w_ldi, w_ldj, w_lda, w_ljk, w_ldk, w_ldw, w_ldk2, w_ldt, w_ldtw, w_neg, w_cvb, w_cvs, w_cvc, w_cvj, w_add, w_sub, w_mul, w_ban, w_bor, w_bxo, w_shl, w_shr, w_ush, w_dvi, w_rmi, w_aldi, w_aldj, w_aldz, w_aldc, w_alda, w_ite, w_cmp, w_cmj, w_cz, w_cnot, w_cand, w_cor, w_nil, w_cons, w_cvi, w_csta, w_cvt, w_cvv, w_csv, w_cpy, w_seq, w_sbr, w_sbn, w_brk, w_ifs, w_ifx, w_ife, w_wk, w_rets, w_rtv, w_thr, w_asi, w_asj, w_asa, w_inc, w_exs, w_asti, w_astj, w_astz, w_astc, w_aopadd, w_aopsub, w_sw, if_true, if_false, ↓reduceIte, hdl_c, S9_1, S9_m, bud9, live9, inb9, wrn, wr9_14, wr9_15, wr9_16, wr9_17, tq9_14, tq9_15, tq9_16, tq9_17, tq_0, tq_1, tq_3, upr_rl, rl_0, rl_1, rl_2, rl_3, rl_4, rl_5, rl_6, rl_7, rl_8, rl_9, rl_10, rl_11, rl_12, rl_13, sp_0, sp_1, sp_2, sp_3, sp_4, sp_5, sp_6, sp_7, sp_8, sp_9, sp_10, sp_11, sp_12, sp_13, se_0, se_1, se_2, se_3, se_4, se_5, se_6, se_7, se_8, se_9, se_10, se_11, se_12, se_13, sem_0, sem_1, sem_2, sem_3, sem_4, sem_5, List.getD_cons_zero, List.getD_cons_succ, Bool.false_eq_true, wrn3, wrn1, cpmS, cpok9, swW_c, swW_n, List.mem_singleton, List.mem_cons, List.mem_nil_iff]
  repeat' (first
    | (with_reducible exact True.intro)
    | (with_reducible rfl)
    | (with_reducible refine And.intro ?_ ?_)
    | intro _
    | (with_reducible refine hq _ _ ?_ ?_; (next => refine JC_of hL ?_ (by decide); repeat (first | assumption | (refine JC_up ?_ (by first | decide | (unfold frC; omega)) (by first | (simp [BdC, hnd]; done) | (simp [BdC, hnd, upm, cpf] <;> first | omega | (unfold w32; omega)))) | (refine JC_cp ?_ (fun _ => by first | decide | (unfold frC; omega)) (fun _ _ => by simp [BdC, hnd])))); (next => first | (with_reducible exact True.intro) | assumption | omega | (with_reducible rfl) | (simp [upm]; done) | (simp [upm] <;> omega)))
    | omega
    | (with_reducible contradiction)
    | (unfold w32; omega)
    | (with_reducible show (_ : Int) ≤ _; simp [upm] <;> (first | omega | (unfold w32; omega)))
    | (with_reducible show (_ : Int) < _; simp [upm] <;> (first | omega | (unfold w32; omega))))
end
section
/-! THE KITCHEN is read -/
end
section
/-! numbers; states copied; seconds -/
theorem and1 (a : Int) : 0 ≤ iand a 1 ∧ iand a 1 ≤ 1 := by
  unfold iand
  obtain ⟨j, hj, e⟩ := pk_andE (Int32.ofInt a) (m := 1) 1 (by decide)
  have e2 : Int32.ofInt a &&& Int32.ofInt 1 = nI j := e
  rw [e2]
  have : ∀ j : Nat, j < 2 → 0 ≤ (nI j).toInt ∧ (nI j).toInt ≤ 1 := by decide +kernel
  exact this j hj
theorem ixneg {a : Int} (h : inI a) : ixor a 16 < 0 ↔ a < 0 := by
  have e : (Int32.ofInt a).toInt = a := by
    unfold inI at h
    exact Int32.toInt_ofInt_of_le (by omega) (by omega)
  have k : ∀ x : Int32, (x ^^^ Int32.ofInt 16).toInt < 0 ↔ x.toInt < 0 := by
    intro x
    have m1 : (x ^^^ Int32.ofInt 16).toBitVec.msb = decide ((x ^^^ Int32.ofInt 16).toBitVec.toInt < 0) := BitVec.msb_eq_toInt
    have m2 : x.toBitVec.msb = decide (x.toBitVec.toInt < 0) := BitVec.msb_eq_toInt
    rw [Int32.toBitVec_xor, BitVec.msb_xor] at m1
    have m3 : (Int32.ofInt 16).toBitVec.msb = false := by decide
    rw [m3, m2] at m1
    simp only [Bool.bne_false, decide_eq_decide] at m1
    exact m1.symm
  have := k (Int32.ofInt a)
  rw [e] at this
  exact this
theorem st_sr : ∀ n ∈ [(15 : Int), 15, 31, 41, 51, 61, 71, 81, 91, 101, 111, 121, 131, 141, 151, 161, 171, 181, 219, 229, 239], 0 < n ∧ n < 280 ∧ kcls n = 5 ∧ SR n 0 = n + 1 ∧ SR n 1 = n + 2 ∧ SR n 2 = n + 3 ∧ SR n 4 = n + 4 ∧ SR n 5 = n + 5 ∧ SR n 6 = n + 6 ∧ SR n 7 = n + 7 ∧ SR n 8 = n + 8 ∧ SR n 9 = n + 9 := by decide +kernel
theorem st_kc : ∀ n ∈ [(15 : Int), 15, 31, 41, 51, 61, 71, 81, 91, 101, 111, 121, 131, 141, 151, 161, 171, 181, 219, 229, 239], kcls (n + 1) = 14 ∧ klen (n + 1) = 5 ∧ kcls (n + 2) = 14 ∧ klen (n + 2) = 5 ∧ kcls (n + 3) = 14 ∧ klen (n + 3) = 5 ∧ kcls (n + 4) = 14 ∧ klen (n + 4) = 5 ∧ kcls (n + 5) = 14 ∧ klen (n + 5) = 10 ∧ kcls (n + 6) = 14 ∧ klen (n + 6) = 5 ∧ kcls (n + 7) = 14 ∧ klen (n + 7) = 5 ∧ kcls (n + 8) = 14 ∧ klen (n + 8) = 5 ∧ kcls (n + 9) = 14 ∧ klen (n + 9) = 5 := by decide +kernel
theorem st_sc : ∀ n ∈ [(15 : Int), 15, 31, 41, 51, 61, 71, 81, 91, 101, 111, 121, 131, 141, 151, 161, 171, 181, 219, 229, 239], n = 15 ∨ 31 ≤ n ∧ n ≤ 181 ∧ n % 10 = 1 ∨ 219 ≤ n ∧ n ≤ 239 ∧ n % 10 = 9 := by decide +kernel
theorem sr27 : ∀ v : Nat, v < 16 → SR 27 (v : Int) = 31 + 10 * (v : Int) ∧ (31 + 10 * (v : Int)) ∈ [(15 : Int), 15, 31, 41, 51, 61, 71, 81, 91, 101, 111, 121, 131, 141, 151, 161, 171, 181, 219, 229, 239] := by decide +kernel
theorem sr27i {v : Int} (h0 : 0 ≤ v) (h1 : v ≤ 15) : (0 < SR 27 v ∧ SR 27 v < 289 ∧ kcls (SR 27 v) = 5) ∧ SR 27 v ∈ [(15 : Int), 15, 31, 41, 51, 61, 71, 81, 91, 101, 111, 121, 131, 141, 151, 161, 171, 181, 219, 229, 239] := by
  obtain ⟨k, rfl⟩ : ∃ k : Nat, v = k := ⟨v.toNat, by omega⟩
  obtain ⟨a, b⟩ := sr27 k (by omega)
  rw [a]
  exact ⟨⟨by omega, by omega, (st_sr _ b).2.2.1⟩, b⟩
end
section
/-! acts -/
theorem s_69 {d : Nat} {tc e : Int} {g : Fg} {m : Mem} {Q : Int → Sto → Prop} {a b : Int} (hJ : JC 4 g tc m) (hq : ∀ v m', JC 4 g tc m' → m' = m → (v = -1 ∨ 0 ≤ v ∧ v ≤ 9 ∧ 0 ≤ a ∧ a < 14) → Q v (S9 e m')) : Cl (d + 2) 69 [8, a, b] Q (S9 e m) := by
  have hL := JC_l hJ
  have hs := JC_s hJ
  have h10 := JC_10 hJ a
  have h11 := JC_11 hJ a
  simp only [cl_69, runB, B69, ma_69, rho_200, wf_4_15, wf_4_18, wc_70, cl_70, B70, ma_70, rho_20, wf_4_34, w_cst, w_ldi, w_ldj, w_lda, w_ljk, w_ldk, w_ldw, w_ldk2, w_ldt, w_ldtw, w_neg, w_cvb, w_cvs, w_cvc, w_cvj, w_add, w_sub, w_mul, w_ban, w_bor, w_bxo, w_shl, w_shr, w_ush, w_dvi, w_rmi, w_aldi, w_aldj, w_aldz, w_aldc, w_alda, w_ite, w_cmp, w_cmj, w_cz, w_cnot, w_cand, w_cor, w_nil, w_cons, w_cvi, w_csta, w_cvt, w_cvv, w_csv, w_cpy, w_seq, w_sbr, w_sbn, w_brk, w_ifs, w_ifx, w_ife, w_wk, w_rets, w_rtv, w_thr, w_asi, w_asj, w_asa, w_inc, w_exs, w_asti, w_astj, w_astz, w_astc, w_aopadd, w_aopsub, w_sw, if_true, if_false, ↓reduceIte, hdl_c, S9_1, S9_m, bud9, live9, inb9, wrn, wr9_14, wr9_15, wr9_16, wr9_17, tq9_14, tq9_15, tq9_16, tq9_17, tq_0, tq_1, tq_3, upr_rl, rl_0, rl_1, rl_2, rl_3, rl_4, rl_5, rl_6, rl_7, rl_8, rl_9, rl_10, rl_11, rl_12, rl_13, sp_0, sp_1, sp_2, sp_3, sp_4, sp_5, sp_6, sp_7, sp_8, sp_9, sp_10, sp_11, sp_12, sp_13, se_0, se_1, se_2, se_3, se_4, se_5, se_6, se_7, se_8, se_9, se_10, se_11, se_12, se_13, sem_0, sem_1, sem_2, sem_3, sem_4, sem_5, kc_8, sr_8_9, sr_8_4, sr_8_6, sr_8_7, kl9_8, sr_8_5, sr_8_10, kc_10, kl9_10, kc_11, kl9_11, List.getD_cons_zero, List.getD_cons_succ, Bool.false_eq_true, wrn3, wrn1, cpmS, cpok9]
  repeat' (first
    | (with_reducible exact True.intro)
    | (with_reducible rfl)
    | (with_reducible refine And.intro ?_ ?_)
    | intro _
    | (with_reducible refine hq _ _ ?_ ?_ ?_; (next => refine JC_of hL ?_ (by decide); repeat (first | assumption | (refine JC_up ?_ (by first | decide | (unfold frC; omega)) (by first | (simp [BdC, hnd]; done) | (simp [BdC, hnd, upm, cpf] <;> first | omega | (unfold w32; omega)))) | (refine JC_cp ?_ (fun _ => by first | decide | (unfold frC; omega)) (fun _ _ => by simp [BdC, hnd])))); (next => rfl); (next => first | (with_reducible exact True.intro) | assumption | omega | (with_reducible rfl) | (simp [upm]; done) | (simp [upm] <;> omega)))
    | omega
    | (with_reducible contradiction)
    | (unfold w32; omega)
    | (with_reducible show (_ : Int) ≤ _; simp [upm] <;> (first | omega | (unfold w32; omega)))
    | (with_reducible show (_ : Int) < _; simp [upm] <;> (first | omega | (unfold w32; omega))))

theorem s_76 {d : Nat} {tc e : Int} {g : Fg} {m : Mem} {Q : Int → Sto → Prop} {a : Int} (hJ : JC 4 g tc m) (hq : ∀ v m', JC 4 g tc m' → (v = 0 ∨ 0 ≤ a ∧ a < 5) → Q v (S9 e m')) : Cl (d + 2) 76 [25, a] Q (S9 e m) := by
  have hL := JC_l hJ
  have hs := JC_s hJ
  have h1 := and1 (m 21 a)
  simp only [cl_76, runB, B76, ma_76, rho_20, wf_6_15, wf_6_33, wf_6_39, wf_6_46, wf_6_49, wf_6_51, wf_6_59, wf_6_9, wpf_6_29, wpf_6_37, wpf_6_44, wpf_6_49, wpf_6_54, wpopsub_pf_6_54, wpf_6_56, wpopsub_pf_6_56, wpf_6_62, wpopadd_pf_6_62, wc_63, cl_63, B63, ma_63, wf_4_40, w_cst, w_ldi, w_ldj, w_lda, w_ljk, w_ldk, w_ldw, w_ldk2, w_ldt, w_ldtw, w_neg, w_cvb, w_cvs, w_cvc, w_cvj, w_add, w_sub, w_mul, w_ban, w_bor, w_bxo, w_shl, w_shr, w_ush, w_dvi, w_rmi, w_aldi, w_aldj, w_aldz, w_aldc, w_alda, w_ite, w_cmp, w_cmj, w_cz, w_cnot, w_cand, w_cor, w_nil, w_cons, w_cvi, w_csta, w_cvt, w_cvv, w_csv, w_cpy, w_seq, w_sbr, w_sbn, w_brk, w_ifs, w_ifx, w_ife, w_wk, w_rets, w_rtv, w_thr, w_asi, w_asj, w_asa, w_inc, w_exs, w_asti, w_astj, w_astz, w_astc, w_aopadd, w_aopsub, w_sw, if_true, if_false, ↓reduceIte, hdl_c, S9_1, S9_m, bud9, live9, inb9, wrn, wr9_14, wr9_15, wr9_16, wr9_17, tq9_14, tq9_15, tq9_16, tq9_17, tq_0, tq_1, tq_3, upr_rl, rl_0, rl_1, rl_2, rl_3, rl_4, rl_5, rl_6, rl_7, rl_8, rl_9, rl_10, rl_11, rl_12, rl_13, sp_0, sp_1, sp_2, sp_3, sp_4, sp_5, sp_6, sp_7, sp_8, sp_9, sp_10, sp_11, sp_12, sp_13, se_0, se_1, se_2, se_3, se_4, se_5, se_6, se_7, se_8, se_9, se_10, se_11, se_12, se_13, sem_0, sem_1, sem_2, sem_3, sem_4, sem_5, kl9_218, kc_218, sr_1_9, sr_1_10, sr_1_5, sr_1_6, sr_1_2, sr_1_13, sr_1_11, sr_1_1, sr_1_3, sr_1_8, kl9_1, kc_1, sr_1_4, sr_1_0, sr_1_7, kc_2, kl9_2, sr_2_0, kl9_3, kc_3, sr_4_0, kl9_4, kc_4, sr_4_4, sr_4_2, kc_5, kl9_5, kl9_6, kc_6, kc_8, sr_8_9, sr_8_4, sr_8_6, sr_8_7, kl9_8, sr_8_5, sr_8_10, kc_9, kl9_9, kc_10, kl9_10, kc_11, kl9_11, kc_12, kl9_12, kl9_13, kc_13, kl9_14, kc_14, sr_25_1, sr_25_2, sr_25_0, kl9_25, kc_25, kc_26, sr_26_12, sr_26_7, sr_26_3, kl9_26, sr_26_1, sr_26_11, sr_26_2, sr_26_10, sr_26_0, sr_27_9, sr_27_8, sr_27_7, kl9_27, sr_27_11, sr_27_5, sr_27_0, sr_27_15, sr_27_4, kc_27, sr_27_13, sr_27_6, sr_27_12, sr_27_3, sr_27_14, sr_27_2, sr_27_10, sr_27_1, kl9_28, kc_28, kl9_29, kc_29, kl9_30, kc_30, sr_15_7, sr_15_0, sr_15_6, kl9_15, sr_15_8, sr_15_9, sr_15_1, sr_15_4, sr_15_5, kc_15, sr_15_2, kl9_16, kc_16, kl9_17, kc_17, kc_18, kl9_18, kl9_19, kc_19, kc_20, kl9_20, kl9_21, kc_21, kc_22, kl9_22, kl9_23, kc_23, kc_24, kl9_24, List.getD_cons_zero, List.getD_cons_succ, Bool.false_eq_true, wrn3, wrn1, cpmS, cpok9]
  repeat' (first
    | (with_reducible exact True.intro)
    | (with_reducible rfl)
    | (with_reducible refine And.intro ?_ ?_)
    | intro _
    | (with_reducible refine hq _ _ ?_ ?_; (next => refine JC_of hL ?_ (by decide); repeat (first | assumption | (refine JC_up ?_ (by first | decide | (unfold frC; omega)) (by first | (simp [BdC, hnd]; done) | (simp [BdC, hnd, upm, cpf] <;> first | omega | (unfold w32; omega)))) | (refine JC_cp ?_ (fun _ => by first | decide | (unfold frC; omega)) (fun _ _ => by simp [BdC, hnd])))); (next => first | (with_reducible exact True.intro) | assumption | omega | (with_reducible rfl) | (simp [upm]; done) | (simp [upm] <;> omega)))
    | omega
    | (with_reducible contradiction)
    | (unfold w32; omega)
    | (with_reducible show (_ : Int) ≤ _; simp [upm] <;> (first | omega | (unfold w32; omega)))
    | (with_reducible show (_ : Int) < _; simp [upm] <;> (first | omega | (unfold w32; omega))))

theorem s_77 {d : Nat} {tc e : Int} {g : Fg} {m : Mem} {Q : Int → Sto → Prop} {a : Int} (hJ : JC 4 g tc m) (hq : ∀ v m', JC 4 g tc m' → (v = 0 ∨ 0 ≤ a ∧ a < 5) → Q v (S9 e m')) : Cl (d + 2) 77 [25, a] Q (S9 e m) := by
  have hL := JC_l hJ
  have hs := JC_s hJ
  simp only [cl_77, runB, B77, ma_77, rho_20, wf_6_15, wf_6_59, wf_6_62, wf_6_69, wf_6_72, wf_6_74, wf_6_9, wpf_6_66, wpf_6_72, wpf_6_83, wc_52, wc_56, cl_52, B52, ma_52, wf_4_37, cl_56, B56, ma_56, rho_00, w_cst, w_ldi, w_ldj, w_lda, w_ljk, w_ldk, w_ldw, w_ldk2, w_ldt, w_ldtw, w_neg, w_cvb, w_cvs, w_cvc, w_cvj, w_add, w_sub, w_mul, w_ban, w_bor, w_bxo, w_shl, w_shr, w_ush, w_dvi, w_rmi, w_aldi, w_aldj, w_aldz, w_aldc, w_alda, w_ite, w_cmp, w_cmj, w_cz, w_cnot, w_cand, w_cor, w_nil, w_cons, w_cvi, w_csta, w_cvt, w_cvv, w_csv, w_cpy, w_seq, w_sbr, w_sbn, w_brk, w_ifs, w_ifx, w_ife, w_wk, w_rets, w_rtv, w_thr, w_asi, w_asj, w_asa, w_inc, w_exs, w_asti, w_astj, w_astz, w_astc, w_aopadd, w_aopsub, w_sw, if_true, if_false, ↓reduceIte, hdl_c, S9_1, S9_m, bud9, live9, inb9, wrn, wr9_14, wr9_15, wr9_16, wr9_17, tq9_14, tq9_15, tq9_16, tq9_17, tq_0, tq_1, tq_3, upr_rl, rl_0, rl_1, rl_2, rl_3, rl_4, rl_5, rl_6, rl_7, rl_8, rl_9, rl_10, rl_11, rl_12, rl_13, sp_0, sp_1, sp_2, sp_3, sp_4, sp_5, sp_6, sp_7, sp_8, sp_9, sp_10, sp_11, sp_12, sp_13, se_0, se_1, se_2, se_3, se_4, se_5, se_6, se_7, se_8, se_9, se_10, se_11, se_12, se_13, sem_0, sem_1, sem_2, sem_3, sem_4, sem_5, kl9_218, kc_218, sr_1_9, sr_1_10, sr_1_5, sr_1_6, sr_1_2, sr_1_13, sr_1_11, sr_1_1, sr_1_3, sr_1_8, kl9_1, kc_1, sr_1_4, sr_1_0, sr_1_7, kc_2, kl9_2, sr_2_0, kl9_3, kc_3, sr_4_0, kl9_4, kc_4, sr_4_4, sr_4_2, kc_5, kl9_5, kl9_6, kc_6, kc_8, sr_8_9, sr_8_4, sr_8_6, sr_8_7, kl9_8, sr_8_5, sr_8_10, kc_9, kl9_9, kc_10, kl9_10, kc_11, kl9_11, kc_12, kl9_12, kl9_13, kc_13, kl9_14, kc_14, sr_25_1, sr_25_2, sr_25_0, kl9_25, kc_25, kc_26, sr_26_12, sr_26_7, sr_26_3, kl9_26, sr_26_1, sr_26_11, sr_26_2, sr_26_10, sr_26_0, sr_27_9, sr_27_8, sr_27_7, kl9_27, sr_27_11, sr_27_5, sr_27_0, sr_27_15, sr_27_4, kc_27, sr_27_13, sr_27_6, sr_27_12, sr_27_3, sr_27_14, sr_27_2, sr_27_10, sr_27_1, kl9_28, kc_28, kl9_29, kc_29, kl9_30, kc_30, sr_15_7, sr_15_0, sr_15_6, kl9_15, sr_15_8, sr_15_9, sr_15_1, sr_15_4, sr_15_5, kc_15, sr_15_2, kl9_16, kc_16, kl9_17, kc_17, kc_18, kl9_18, kl9_19, kc_19, kc_20, kl9_20, kl9_21, kc_21, kc_22, kl9_22, kl9_23, kc_23, kc_24, kl9_24, List.getD_cons_zero, List.getD_cons_succ, Bool.false_eq_true, wrn3, wrn1, cpmS, cpok9]
  repeat' (first
    | (with_reducible exact True.intro)
    | (with_reducible rfl)
    | (with_reducible refine And.intro ?_ ?_)
    | intro _
    | (with_reducible refine hq _ _ ?_ ?_; (next => refine JC_of hL ?_ (by decide); repeat (first | assumption | (refine JC_up ?_ (by first | decide | (unfold frC; omega)) (by first | (simp [BdC, hnd]; done) | (simp [BdC, hnd, upm, cpf] <;> first | omega | (unfold w32; omega)))) | (refine JC_cp ?_ (fun _ => by first | decide | (unfold frC; omega)) (fun _ _ => by simp [BdC, hnd])))); (next => first | (with_reducible exact True.intro) | assumption | omega | (with_reducible rfl) | (simp [upm]; done) | (simp [upm] <;> omega)))
    | omega
    | (with_reducible contradiction)
    | (unfold w32; omega)
    | (with_reducible show (_ : Int) ≤ _; simp [upm] <;> (first | omega | (unfold w32; omega)))
    | (with_reducible show (_ : Int) < _; simp [upm] <;> (first | omega | (unfold w32; omega))))

theorem s_75 {d : Nat} {tc e : Int} {g : Fg} {m : Mem} {Q : Int → Sto → Prop} {a b : Int} (hJ : JC 4 g tc m) (hq : ∀ v m', JC 4 g tc m' → (v = 0 ∨ 0 ≤ a ∧ a < 5 ∧ 0 ≤ b ∧ b < 5) → Q v (S9 e m')) : Cl (d + 3) 75 [25, a, b] Q (S9 e m) := by
  have hL := JC_l hJ
  have hs := JC_s hJ
  simp only [cl_75, runB, B75, ma_75, rho_200, wc_76, wc_77, w_cst, w_ldi, w_ldj, w_lda, w_ljk, w_ldk, w_ldw, w_ldk2, w_ldt, w_ldtw, w_neg, w_cvb, w_cvs, w_cvc, w_cvj, w_add, w_sub, w_mul, w_ban, w_bor, w_bxo, w_shl, w_shr, w_ush, w_dvi, w_rmi, w_aldi, w_aldj, w_aldz, w_aldc, w_alda, w_ite, w_cmp, w_cmj, w_cz, w_cnot, w_cand, w_cor, w_nil, w_cons, w_cvi, w_csta, w_cvt, w_cvv, w_csv, w_cpy, w_seq, w_sbr, w_sbn, w_brk, w_ifs, w_ifx, w_ife, w_wk, w_rets, w_rtv, w_thr, w_asi, w_asj, w_asa, w_inc, w_exs, w_asti, w_astj, w_astz, w_astc, w_aopadd, w_aopsub, w_sw, if_true, if_false, ↓reduceIte, hdl_c, S9_1, S9_m, bud9, live9, inb9, wrn, wr9_14, wr9_15, wr9_16, wr9_17, tq9_14, tq9_15, tq9_16, tq9_17, tq_0, tq_1, tq_3, upr_rl, rl_0, rl_1, rl_2, rl_3, rl_4, rl_5, rl_6, rl_7, rl_8, rl_9, rl_10, rl_11, rl_12, rl_13, sp_0, sp_1, sp_2, sp_3, sp_4, sp_5, sp_6, sp_7, sp_8, sp_9, sp_10, sp_11, sp_12, sp_13, se_0, se_1, se_2, se_3, se_4, se_5, se_6, se_7, se_8, se_9, se_10, se_11, se_12, se_13, sem_0, sem_1, sem_2, sem_3, sem_4, sem_5, kl9_218, kc_218, sr_1_9, sr_1_10, sr_1_5, sr_1_6, sr_1_2, sr_1_13, sr_1_11, sr_1_1, sr_1_3, sr_1_8, kl9_1, kc_1, sr_1_4, sr_1_0, sr_1_7, kc_2, kl9_2, sr_2_0, kl9_3, kc_3, sr_4_0, kl9_4, kc_4, sr_4_4, sr_4_2, kc_5, kl9_5, kl9_6, kc_6, kc_8, sr_8_9, sr_8_4, sr_8_6, sr_8_7, kl9_8, sr_8_5, sr_8_10, kc_9, kl9_9, kc_10, kl9_10, kc_11, kl9_11, kc_12, kl9_12, kl9_13, kc_13, kl9_14, kc_14, sr_25_1, sr_25_2, sr_25_0, kl9_25, kc_25, kc_26, sr_26_12, sr_26_7, sr_26_3, kl9_26, sr_26_1, sr_26_11, sr_26_2, sr_26_10, sr_26_0, sr_27_9, sr_27_8, sr_27_7, kl9_27, sr_27_11, sr_27_5, sr_27_0, sr_27_15, sr_27_4, kc_27, sr_27_13, sr_27_6, sr_27_12, sr_27_3, sr_27_14, sr_27_2, sr_27_10, sr_27_1, kl9_28, kc_28, kl9_29, kc_29, kl9_30, kc_30, sr_15_7, sr_15_0, sr_15_6, kl9_15, sr_15_8, sr_15_9, sr_15_1, sr_15_4, sr_15_5, kc_15, sr_15_2, kl9_16, kc_16, kl9_17, kc_17, kc_18, kl9_18, kl9_19, kc_19, kc_20, kl9_20, kl9_21, kc_21, kc_22, kl9_22, kl9_23, kc_23, kc_24, kl9_24, List.getD_cons_zero, List.getD_cons_succ, Bool.false_eq_true, wrn3, wrn1, cpmS, cpok9]
  repeat' (first
    | (with_reducible exact True.intro)
    | (with_reducible rfl)
    | (with_reducible refine And.intro ?_ ?_)
    | intro _
    | (with_reducible refine s_76 (g := g) (tc := tc) ?_ (fun v9 m9 hJ9 _ => ?_); (next => refine JC_of hL ?_ (by decide); repeat (first | assumption | (refine JC_up ?_ (by first | decide | (unfold frC; omega)) (by first | (simp [BdC, hnd]; done) | (simp [BdC, hnd, upm, cpf] <;> first | omega | (unfold w32; omega)))) | (refine JC_cp ?_ (fun _ => by first | decide | (unfold frC; omega)) (fun _ _ => by simp [BdC, hnd])))); (try clear hs9); have hJ9 := JC_dn hL hJ9; have hs9 := JC_s hJ9; simp only [hdl_c, S9_1, S9_m, bud9, live9, inb9, wrn, wr9_14, wr9_15, wr9_16, wr9_17, tq9_14, tq9_15, tq9_16, tq9_17, tq_0, tq_1, tq_3, upr_rl, rl_0, rl_1, rl_2, rl_3, rl_4, rl_5, rl_6, rl_7, rl_8, rl_9, rl_10, rl_11, rl_12, rl_13, sp_0, sp_1, sp_2, sp_3, sp_4, sp_5, sp_6, sp_7, sp_8, sp_9, sp_10, sp_11, sp_12, sp_13, se_0, se_1, se_2, se_3, se_4, se_5, se_6, se_7, se_8, se_9, se_10, se_11, se_12, se_13, sem_0, sem_1, sem_2, sem_3, sem_4, sem_5, List.getD_cons_zero, List.getD_cons_succ, Bool.false_eq_true, wrn3, wrn1, cpmS, cpok9, if_true, if_false, ↓reduceIte, wc_76, wc_77, kl9_218, kc_218, sr_1_9, sr_1_10, sr_1_5, sr_1_6, sr_1_2, sr_1_13, sr_1_11, sr_1_1, sr_1_3, sr_1_8, kl9_1, kc_1, sr_1_4, sr_1_0, sr_1_7, kc_2, kl9_2, sr_2_0, kl9_3, kc_3, sr_4_0, kl9_4, kc_4, sr_4_4, sr_4_2, kc_5, kl9_5, kl9_6, kc_6, kc_8, sr_8_9, sr_8_4, sr_8_6, sr_8_7, kl9_8, sr_8_5, sr_8_10, kc_9, kl9_9, kc_10, kl9_10, kc_11, kl9_11, kc_12, kl9_12, kl9_13, kc_13, kl9_14, kc_14, sr_25_1, sr_25_2, sr_25_0, kl9_25, kc_25, kc_26, sr_26_12, sr_26_7, sr_26_3, kl9_26, sr_26_1, sr_26_11, sr_26_2, sr_26_10, sr_26_0, sr_27_9, sr_27_8, sr_27_7, kl9_27, sr_27_11, sr_27_5, sr_27_0, sr_27_15, sr_27_4, kc_27, sr_27_13, sr_27_6, sr_27_12, sr_27_3, sr_27_14, sr_27_2, sr_27_10, sr_27_1, kl9_28, kc_28, kl9_29, kc_29, kl9_30, kc_30, sr_15_7, sr_15_0, sr_15_6, kl9_15, sr_15_8, sr_15_9, sr_15_1, sr_15_4, sr_15_5, kc_15, sr_15_2, kl9_16, kc_16, kl9_17, kc_17, kc_18, kl9_18, kl9_19, kc_19, kc_20, kl9_20, kl9_21, kc_21, kc_22, kl9_22, kl9_23, kc_23, kc_24, kl9_24])
    | (with_reducible refine s_77 (g := g) (tc := tc) ?_ (fun v9 m9 hJ9 _ => ?_); (next => refine JC_of hL ?_ (by decide); repeat (first | assumption | (refine JC_up ?_ (by first | decide | (unfold frC; omega)) (by first | (simp [BdC, hnd]; done) | (simp [BdC, hnd, upm, cpf] <;> first | omega | (unfold w32; omega)))) | (refine JC_cp ?_ (fun _ => by first | decide | (unfold frC; omega)) (fun _ _ => by simp [BdC, hnd])))); (try clear hs9); have hJ9 := JC_dn hL hJ9; have hs9 := JC_s hJ9; simp only [hdl_c, S9_1, S9_m, bud9, live9, inb9, wrn, wr9_14, wr9_15, wr9_16, wr9_17, tq9_14, tq9_15, tq9_16, tq9_17, tq_0, tq_1, tq_3, upr_rl, rl_0, rl_1, rl_2, rl_3, rl_4, rl_5, rl_6, rl_7, rl_8, rl_9, rl_10, rl_11, rl_12, rl_13, sp_0, sp_1, sp_2, sp_3, sp_4, sp_5, sp_6, sp_7, sp_8, sp_9, sp_10, sp_11, sp_12, sp_13, se_0, se_1, se_2, se_3, se_4, se_5, se_6, se_7, se_8, se_9, se_10, se_11, se_12, se_13, sem_0, sem_1, sem_2, sem_3, sem_4, sem_5, List.getD_cons_zero, List.getD_cons_succ, Bool.false_eq_true, wrn3, wrn1, cpmS, cpok9, if_true, if_false, ↓reduceIte, wc_76, wc_77, kl9_218, kc_218, sr_1_9, sr_1_10, sr_1_5, sr_1_6, sr_1_2, sr_1_13, sr_1_11, sr_1_1, sr_1_3, sr_1_8, kl9_1, kc_1, sr_1_4, sr_1_0, sr_1_7, kc_2, kl9_2, sr_2_0, kl9_3, kc_3, sr_4_0, kl9_4, kc_4, sr_4_4, sr_4_2, kc_5, kl9_5, kl9_6, kc_6, kc_8, sr_8_9, sr_8_4, sr_8_6, sr_8_7, kl9_8, sr_8_5, sr_8_10, kc_9, kl9_9, kc_10, kl9_10, kc_11, kl9_11, kc_12, kl9_12, kl9_13, kc_13, kl9_14, kc_14, sr_25_1, sr_25_2, sr_25_0, kl9_25, kc_25, kc_26, sr_26_12, sr_26_7, sr_26_3, kl9_26, sr_26_1, sr_26_11, sr_26_2, sr_26_10, sr_26_0, sr_27_9, sr_27_8, sr_27_7, kl9_27, sr_27_11, sr_27_5, sr_27_0, sr_27_15, sr_27_4, kc_27, sr_27_13, sr_27_6, sr_27_12, sr_27_3, sr_27_14, sr_27_2, sr_27_10, sr_27_1, kl9_28, kc_28, kl9_29, kc_29, kl9_30, kc_30, sr_15_7, sr_15_0, sr_15_6, kl9_15, sr_15_8, sr_15_9, sr_15_1, sr_15_4, sr_15_5, kc_15, sr_15_2, kl9_16, kc_16, kl9_17, kc_17, kc_18, kl9_18, kl9_19, kc_19, kc_20, kl9_20, kl9_21, kc_21, kc_22, kl9_22, kl9_23, kc_23, kc_24, kl9_24])
    | (with_reducible refine hq _ _ ?_ ?_; (next => refine JC_of hL ?_ (by decide); repeat (first | assumption | (refine JC_up ?_ (by first | decide | (unfold frC; omega)) (by first | (simp [BdC, hnd]; done) | (simp [BdC, hnd, upm, cpf] <;> first | omega | (unfold w32; omega)))) | (refine JC_cp ?_ (fun _ => by first | decide | (unfold frC; omega)) (fun _ _ => by simp [BdC, hnd])))); (next => first | (with_reducible exact True.intro) | assumption | omega | (with_reducible rfl) | (simp [upm]; done) | (simp [upm] <;> omega)))
    | omega
    | (with_reducible contradiction)
    | (unfold w32; omega)
    | (with_reducible show (_ : Int) ≤ _; simp [upm] <;> (first | omega | (unfold w32; omega)))
    | (with_reducible show (_ : Int) < _; simp [upm] <;> (first | omega | (unfold w32; omega))))

theorem s_81 {d : Nat} {tc e : Int} {g : Fg} {m : Mem} {Q : Int → Sto → Prop} {a : Int} (hJ : JC 4 g tc m) (hq : ∀ v m', JC 4 g tc m' → m' = m → Q v (S9 e m')) : Cl (d + 1) 81 [25, a] Q (S9 e m) := by
  have hL := JC_l hJ
  have hs := JC_s hJ
  simp only [cl_81, runB, B81, ma_81, rho_20, wf_6_29, wf_6_37, wf_6_44, wf_6_49, wf_6_54, wf_6_62, wf_6_66, wf_6_83, w_cst, w_ldi, w_ldj, w_lda, w_ljk, w_ldk, w_ldw, w_ldk2, w_ldt, w_ldtw, w_neg, w_cvb, w_cvs, w_cvc, w_cvj, w_add, w_sub, w_mul, w_ban, w_bor, w_bxo, w_shl, w_shr, w_ush, w_dvi, w_rmi, w_aldi, w_aldj, w_aldz, w_aldc, w_alda, w_ite, w_cmp, w_cmj, w_cz, w_cnot, w_cand, w_cor, w_nil, w_cons, w_cvi, w_csta, w_cvt, w_cvv, w_csv, w_cpy, w_seq, w_sbr, w_sbn, w_brk, w_ifs, w_ifx, w_ife, w_wk, w_rets, w_rtv, w_thr, w_asi, w_asj, w_asa, w_inc, w_exs, w_asti, w_astj, w_astz, w_astc, w_aopadd, w_aopsub, w_sw, if_true, if_false, ↓reduceIte, hdl_c, S9_1, S9_m, bud9, live9, inb9, wrn, wr9_14, wr9_15, wr9_16, wr9_17, tq9_14, tq9_15, tq9_16, tq9_17, tq_0, tq_1, tq_3, upr_rl, rl_0, rl_1, rl_2, rl_3, rl_4, rl_5, rl_6, rl_7, rl_8, rl_9, rl_10, rl_11, rl_12, rl_13, sp_0, sp_1, sp_2, sp_3, sp_4, sp_5, sp_6, sp_7, sp_8, sp_9, sp_10, sp_11, sp_12, sp_13, se_0, se_1, se_2, se_3, se_4, se_5, se_6, se_7, se_8, se_9, se_10, se_11, se_12, se_13, sem_0, sem_1, sem_2, sem_3, sem_4, sem_5, sr_25_1, sr_25_2, sr_25_0, kl9_25, kc_25, List.getD_cons_zero, List.getD_cons_succ, Bool.false_eq_true, wrn3, wrn1, cpmS, cpok9, swW_c, swW_n, List.mem_singleton, List.mem_cons, List.mem_nil_iff]
  repeat' (first
    | (with_reducible exact True.intro)
    | (with_reducible rfl)
    | (with_reducible refine And.intro ?_ ?_)
    | intro _
    | (with_reducible refine hq _ _ ?_ ?_; (next => refine JC_of hL ?_ (by decide); repeat (first | assumption | (refine JC_up ?_ (by first | decide | (unfold frC; omega)) (by first | (simp [BdC, hnd]; done) | (simp [BdC, hnd, upm, cpf] <;> first | omega | (unfold w32; omega)))) | (refine JC_cp ?_ (fun _ => by first | decide | (unfold frC; omega)) (fun _ _ => by simp [BdC, hnd])))); (next => first | (with_reducible exact True.intro) | assumption | omega | (with_reducible rfl) | (simp [upm]; done) | (simp [upm] <;> omega)))
    | omega
    | (with_reducible contradiction)
    | (unfold w32; omega)
    | (with_reducible show (_ : Int) ≤ _; simp [upm] <;> (first | omega | (unfold w32; omega)))
    | (with_reducible show (_ : Int) < _; simp [upm] <;> (first | omega | (unfold w32; omega))))

theorem s_79 {d : Nat} {tc e : Int} {g : Fg} {m : Mem} {Q : Int → Sto → Prop} {a b c : Int} (hJ : JC 4 g tc m) (hq : ∀ v m', JC 4 g tc m' → m' = m → Q v (S9 e m')) : Cl (d + 1) 79 [a, b, c] Q (S9 e m) := by
  have hL := JC_l hJ
  have hs := JC_s hJ
  simp only [cl_79, runB, B79, ma_79, rho_000, w_cst, w_ldi, w_ldj, w_lda, w_ljk, w_ldk, w_ldw, w_ldk2, w_ldt, w_ldtw, w_neg, w_cvb, w_cvs, w_cvc, w_cvj, w_add, w_sub, w_mul, w_ban, w_bor, w_bxo, w_shl, w_shr, w_ush, w_dvi, w_rmi, w_aldi, w_aldj, w_aldz, w_aldc, w_alda, w_ite, w_cmp, w_cmj, w_cz, w_cnot, w_cand, w_cor, w_nil, w_cons, w_cvi, w_csta, w_cvt, w_cvv, w_csv, w_cpy, w_seq, w_sbr, w_sbn, w_brk, w_ifs, w_ifx, w_ife, w_wk, w_rets, w_rtv, w_thr, w_asi, w_asj, w_asa, w_inc, w_exs, w_asti, w_astj, w_astz, w_astc, w_aopadd, w_aopsub, w_sw, if_true, if_false, ↓reduceIte, hdl_c, S9_1, S9_m, bud9, live9, inb9, wrn, wr9_14, wr9_15, wr9_16, wr9_17, tq9_14, tq9_15, tq9_16, tq9_17, tq_0, tq_1, tq_3, upr_rl, rl_0, rl_1, rl_2, rl_3, rl_4, rl_5, rl_6, rl_7, rl_8, rl_9, rl_10, rl_11, rl_12, rl_13, sp_0, sp_1, sp_2, sp_3, sp_4, sp_5, sp_6, sp_7, sp_8, sp_9, sp_10, sp_11, sp_12, sp_13, se_0, se_1, se_2, se_3, se_4, se_5, se_6, se_7, se_8, se_9, se_10, se_11, se_12, se_13, sem_0, sem_1, sem_2, sem_3, sem_4, sem_5, List.getD_cons_zero, List.getD_cons_succ, Bool.false_eq_true, wrn3, wrn1, cpmS, cpok9, swW_c, swW_n, List.mem_singleton, List.mem_cons, List.mem_nil_iff]
  repeat' (first
    | (with_reducible exact True.intro)
    | (with_reducible rfl)
    | (with_reducible refine And.intro ?_ ?_)
    | intro _
    | (with_reducible refine hq _ _ ?_ ?_; (next => refine JC_of hL ?_ (by decide); repeat (first | assumption | (refine JC_up ?_ (by first | decide | (unfold frC; omega)) (by first | (simp [BdC, hnd]; done) | (simp [BdC, hnd, upm, cpf] <;> first | omega | (unfold w32; omega)))) | (refine JC_cp ?_ (fun _ => by first | decide | (unfold frC; omega)) (fun _ _ => by simp [BdC, hnd])))); (next => first | (with_reducible exact True.intro) | assumption | omega | (with_reducible rfl) | (simp [upm]; done) | (simp [upm] <;> omega)))
    | omega
    | (with_reducible contradiction)
    | (unfold w32; omega)
    | (with_reducible show (_ : Int) ≤ _; simp [upm] <;> (first | omega | (unfold w32; omega)))
    | (with_reducible show (_ : Int) < _; simp [upm] <;> (first | omega | (unfold w32; omega))))
end
section
/-! a second; the acts -/
theorem s_78 {d : Nat} {tc e : Int} {g : Fg} {m : Mem} {Q : Int → Sto → Prop} (hJ : JC 4 g tc m) (hq : ∀ v m', JC 4 g tc m' → Q v (S9 e m')) : Cl (d + 4) 78 [4, 25] Q (S9 e m) := by
  have hL := JC_l hJ
  have hs := JC_s hJ
  simp only [cl_78, runB, B78, ma_78, rho_22, wf_3_100, wf_3_18, wf_3_49, wf_3_9, wf_3_95, wc_50, wc_79, wc_80, wc_81, cl_80, B80, ma_80, rho_0, wc_19, wc_56, cl_19, B19, ma_19, rho_00, cl_56, B56, ma_56, w_cst, w_ldi, w_ldj, w_lda, w_ljk, w_ldk, w_ldw, w_ldk2, w_ldt, w_ldtw, w_neg, w_cvb, w_cvs, w_cvc, w_cvj, w_add, w_sub, w_mul, w_ban, w_bor, w_bxo, w_shl, w_shr, w_ush, w_dvi, w_rmi, w_aldi, w_aldj, w_aldz, w_aldc, w_alda, w_ite, w_cmp, w_cmj, w_cz, w_cnot, w_cand, w_cor, w_nil, w_cons, w_cvi, w_csta, w_cvt, w_cvv, w_csv, w_cpy, w_seq, w_sbr, w_sbn, w_brk, w_ifs, w_ifx, w_ife, w_wk, w_rets, w_rtv, w_thr, w_asi, w_asj, w_asa, w_inc, w_exs, w_asti, w_astj, w_astz, w_astc, w_aopadd, w_aopsub, w_sw, if_true, if_false, ↓reduceIte, hdl_c, S9_1, S9_m, bud9, live9, inb9, wrn, wr9_14, wr9_15, wr9_16, wr9_17, tq9_14, tq9_15, tq9_16, tq9_17, tq_0, tq_1, tq_3, upr_rl, rl_0, rl_1, rl_2, rl_3, rl_4, rl_5, rl_6, rl_7, rl_8, rl_9, rl_10, rl_11, rl_12, rl_13, sp_0, sp_1, sp_2, sp_3, sp_4, sp_5, sp_6, sp_7, sp_8, sp_9, sp_10, sp_11, sp_12, sp_13, se_0, se_1, se_2, se_3, se_4, se_5, se_6, se_7, se_8, se_9, se_10, se_11, se_12, se_13, sem_0, sem_1, sem_2, sem_3, sem_4, sem_5, kc_3, kl9_3, kl9_4, kc_4, sr_4_2, sr_4_4, sr_4_0, kc_5, kl9_5, kc_6, kl9_6, kc_7, kl9_7, kl9_25, sr_25_0, sr_25_1, sr_25_2, kc_25, List.getD_cons_zero, List.getD_cons_succ, Bool.false_eq_true, wrn3, wrn1, cpmS, cpok9]
  repeat' (first
    | (with_reducible exact True.intro)
    | (with_reducible rfl)
    | (with_reducible refine And.intro ?_ ?_)
    | intro _
    | (with_reducible refine s_50 (g := g) (tc := tc) ?_ (fun v9 m9 hJ9 e9 => ?_); (next => refine JC_of hL ?_ (by decide); repeat (first | assumption | (refine JC_up ?_ (by first | decide | (unfold frC; omega)) (by first | (simp [BdC, hnd]; done) | (simp [BdC, hnd, upm, cpf] <;> first | omega | (unfold w32; omega)))) | (refine JC_cp ?_ (fun _ => by first | decide | (unfold frC; omega)) (fun _ _ => by simp [BdC, hnd])))); subst e9; (try clear hs9); have hJ9 := JC_dn hL hJ9; have hs9 := JC_s hJ9; simp only [hdl_c, S9_1, S9_m, bud9, live9, inb9, wrn, wr9_14, wr9_15, wr9_16, wr9_17, tq9_14, tq9_15, tq9_16, tq9_17, tq_0, tq_1, tq_3, upr_rl, rl_0, rl_1, rl_2, rl_3, rl_4, rl_5, rl_6, rl_7, rl_8, rl_9, rl_10, rl_11, rl_12, rl_13, sp_0, sp_1, sp_2, sp_3, sp_4, sp_5, sp_6, sp_7, sp_8, sp_9, sp_10, sp_11, sp_12, sp_13, se_0, se_1, se_2, se_3, se_4, se_5, se_6, se_7, se_8, se_9, se_10, se_11, se_12, se_13, sem_0, sem_1, sem_2, sem_3, sem_4, sem_5, List.getD_cons_zero, List.getD_cons_succ, Bool.false_eq_true, wrn3, wrn1, cpmS, cpok9, if_true, if_false, ↓reduceIte, wc_19, wc_50, wc_56, wc_79, wc_80, wc_81, cl_80, runB, B80, ma_80, rho_0, wc_19, wc_56, cl_19, B19, ma_19, rho_00, cl_56, B56, ma_56, w_cst, w_ldi, w_ldj, w_lda, w_ljk, w_ldk, w_ldw, w_ldk2, w_ldt, w_ldtw, w_neg, w_cvb, w_cvs, w_cvc, w_cvj, w_add, w_sub, w_mul, w_ban, w_bor, w_bxo, w_shl, w_shr, w_ush, w_dvi, w_rmi, w_aldi, w_aldj, w_aldz, w_aldc, w_alda, w_ite, w_cmp, w_cmj, w_cz, w_cnot, w_cand, w_cor, w_nil, w_cons, w_cvi, w_csta, w_cvt, w_cvv, w_csv, w_cpy, w_seq, w_sbr, w_sbn, w_brk, w_ifs, w_ifx, w_ife, w_wk, w_rets, w_rtv, w_thr, w_asi, w_asj, w_asa, w_inc, w_exs, w_asti, w_astj, w_astz, w_astc, w_aopadd, w_aopsub, w_sw, if_true, if_false, ↓reduceIte, kc_3, kl9_3, kl9_4, kc_4, sr_4_2, sr_4_4, sr_4_0, kc_5, kl9_5, kc_6, kl9_6, kc_7, kl9_7, kl9_25, sr_25_0, sr_25_1, sr_25_2, kc_25])
    | (with_reducible refine s_79 (g := g) (tc := tc) ?_ (fun v9 m9 hJ9 e9 => ?_); (next => refine JC_of hL ?_ (by decide); repeat (first | assumption | (refine JC_up ?_ (by first | decide | (unfold frC; omega)) (by first | (simp [BdC, hnd]; done) | (simp [BdC, hnd, upm, cpf] <;> first | omega | (unfold w32; omega)))) | (refine JC_cp ?_ (fun _ => by first | decide | (unfold frC; omega)) (fun _ _ => by simp [BdC, hnd])))); subst e9; (try clear hs9); have hJ9 := JC_dn hL hJ9; have hs9 := JC_s hJ9; simp only [hdl_c, S9_1, S9_m, bud9, live9, inb9, wrn, wr9_14, wr9_15, wr9_16, wr9_17, tq9_14, tq9_15, tq9_16, tq9_17, tq_0, tq_1, tq_3, upr_rl, rl_0, rl_1, rl_2, rl_3, rl_4, rl_5, rl_6, rl_7, rl_8, rl_9, rl_10, rl_11, rl_12, rl_13, sp_0, sp_1, sp_2, sp_3, sp_4, sp_5, sp_6, sp_7, sp_8, sp_9, sp_10, sp_11, sp_12, sp_13, se_0, se_1, se_2, se_3, se_4, se_5, se_6, se_7, se_8, se_9, se_10, se_11, se_12, se_13, sem_0, sem_1, sem_2, sem_3, sem_4, sem_5, List.getD_cons_zero, List.getD_cons_succ, Bool.false_eq_true, wrn3, wrn1, cpmS, cpok9, if_true, if_false, ↓reduceIte, wc_19, wc_50, wc_56, wc_79, wc_80, wc_81, cl_80, runB, B80, ma_80, rho_0, wc_19, wc_56, cl_19, B19, ma_19, rho_00, cl_56, B56, ma_56, w_cst, w_ldi, w_ldj, w_lda, w_ljk, w_ldk, w_ldw, w_ldk2, w_ldt, w_ldtw, w_neg, w_cvb, w_cvs, w_cvc, w_cvj, w_add, w_sub, w_mul, w_ban, w_bor, w_bxo, w_shl, w_shr, w_ush, w_dvi, w_rmi, w_aldi, w_aldj, w_aldz, w_aldc, w_alda, w_ite, w_cmp, w_cmj, w_cz, w_cnot, w_cand, w_cor, w_nil, w_cons, w_cvi, w_csta, w_cvt, w_cvv, w_csv, w_cpy, w_seq, w_sbr, w_sbn, w_brk, w_ifs, w_ifx, w_ife, w_wk, w_rets, w_rtv, w_thr, w_asi, w_asj, w_asa, w_inc, w_exs, w_asti, w_astj, w_astz, w_astc, w_aopadd, w_aopsub, w_sw, if_true, if_false, ↓reduceIte, kc_3, kl9_3, kl9_4, kc_4, sr_4_2, sr_4_4, sr_4_0, kc_5, kl9_5, kc_6, kl9_6, kc_7, kl9_7, kl9_25, sr_25_0, sr_25_1, sr_25_2, kc_25])
    | (with_reducible refine s_81 (g := g) (tc := tc) ?_ (fun v9 m9 hJ9 e9 => ?_); (next => refine JC_of hL ?_ (by decide); repeat (first | assumption | (refine JC_up ?_ (by first | decide | (unfold frC; omega)) (by first | (simp [BdC, hnd]; done) | (simp [BdC, hnd, upm, cpf] <;> first | omega | (unfold w32; omega)))) | (refine JC_cp ?_ (fun _ => by first | decide | (unfold frC; omega)) (fun _ _ => by simp [BdC, hnd])))); subst e9; (try clear hs9); have hJ9 := JC_dn hL hJ9; have hs9 := JC_s hJ9; simp only [hdl_c, S9_1, S9_m, bud9, live9, inb9, wrn, wr9_14, wr9_15, wr9_16, wr9_17, tq9_14, tq9_15, tq9_16, tq9_17, tq_0, tq_1, tq_3, upr_rl, rl_0, rl_1, rl_2, rl_3, rl_4, rl_5, rl_6, rl_7, rl_8, rl_9, rl_10, rl_11, rl_12, rl_13, sp_0, sp_1, sp_2, sp_3, sp_4, sp_5, sp_6, sp_7, sp_8, sp_9, sp_10, sp_11, sp_12, sp_13, se_0, se_1, se_2, se_3, se_4, se_5, se_6, se_7, se_8, se_9, se_10, se_11, se_12, se_13, sem_0, sem_1, sem_2, sem_3, sem_4, sem_5, List.getD_cons_zero, List.getD_cons_succ, Bool.false_eq_true, wrn3, wrn1, cpmS, cpok9, if_true, if_false, ↓reduceIte, wc_19, wc_50, wc_56, wc_79, wc_80, wc_81, cl_80, runB, B80, ma_80, rho_0, wc_19, wc_56, cl_19, B19, ma_19, rho_00, cl_56, B56, ma_56, w_cst, w_ldi, w_ldj, w_lda, w_ljk, w_ldk, w_ldw, w_ldk2, w_ldt, w_ldtw, w_neg, w_cvb, w_cvs, w_cvc, w_cvj, w_add, w_sub, w_mul, w_ban, w_bor, w_bxo, w_shl, w_shr, w_ush, w_dvi, w_rmi, w_aldi, w_aldj, w_aldz, w_aldc, w_alda, w_ite, w_cmp, w_cmj, w_cz, w_cnot, w_cand, w_cor, w_nil, w_cons, w_cvi, w_csta, w_cvt, w_cvv, w_csv, w_cpy, w_seq, w_sbr, w_sbn, w_brk, w_ifs, w_ifx, w_ife, w_wk, w_rets, w_rtv, w_thr, w_asi, w_asj, w_asa, w_inc, w_exs, w_asti, w_astj, w_astz, w_astc, w_aopadd, w_aopsub, w_sw, if_true, if_false, ↓reduceIte, kc_3, kl9_3, kl9_4, kc_4, sr_4_2, sr_4_4, sr_4_0, kc_5, kl9_5, kc_6, kl9_6, kc_7, kl9_7, kl9_25, sr_25_0, sr_25_1, sr_25_2, kc_25])
    | (with_reducible refine whl_i (fun k r u => ∃ (x i z : Int) (m9 : Mem), r = rl [4, 25, x, i, z] ∧ u = S9 e m9 ∧ JC 4 g tc m9 ∧ (0 ≤ x) ∧ (x ≤ 40) ∧ (0 ≤ i) ∧ (i + k = 41)) 41 ?_ ?_; (next => refine ⟨_, _, _, _, rlp4, rfl, ?_, ?_, ?_, ?_, ?_⟩; (next => refine JC_of hL ?_ (by decide); repeat (first | assumption | (refine JC_up ?_ (by first | decide | (unfold frC; omega)) (by first | (simp [BdC, hnd]; done) | (simp [BdC, hnd, upm, cpf] <;> first | omega | (unfold w32; omega)))) | (refine JC_cp ?_ (fun _ => by first | decide | (unfold frC; omega)) (fun _ _ => by simp [BdC, hnd])))); (next => first | (with_reducible exact True.intro) | assumption | omega | (unfold w32; omega) | (simp [upm]; done) | (simp [upm] <;> (first | omega | (unfold w32; omega)))); (next => first | (with_reducible exact True.intro) | assumption | omega | (unfold w32; omega) | (simp [upm]; done) | (simp [upm] <;> (first | omega | (unfold w32; omega)))); (next => first | (with_reducible exact True.intro) | assumption | omega | (unfold w32; omega) | (simp [upm]; done) | (simp [upm] <;> (first | omega | (unfold w32; omega)))); (next => first | (with_reducible exact True.intro) | assumption | omega | (unfold w32; omega) | (simp [upm]; done) | (simp [upm] <;> (first | omega | (unfold w32; omega))))); rintro k r u ⟨x, i, z, m9, rfl, rfl, hJ9, h9a, h9b, h9c, h9d⟩; (try clear hs9); have hJ9 := JC_dn hL hJ9; have hs9 := JC_s hJ9; simp only [cl_78, runB, B78, ma_78, rho_22, wf_3_100, wf_3_18, wf_3_49, wf_3_9, wf_3_95, wc_50, wc_79, wc_80, wc_81, cl_80, B80, ma_80, rho_0, wc_19, wc_56, cl_19, B19, ma_19, rho_00, cl_56, B56, ma_56, w_cst, w_ldi, w_ldj, w_lda, w_ljk, w_ldk, w_ldw, w_ldk2, w_ldt, w_ldtw, w_neg, w_cvb, w_cvs, w_cvc, w_cvj, w_add, w_sub, w_mul, w_ban, w_bor, w_bxo, w_shl, w_shr, w_ush, w_dvi, w_rmi, w_aldi, w_aldj, w_aldz, w_aldc, w_alda, w_ite, w_cmp, w_cmj, w_cz, w_cnot, w_cand, w_cor, w_nil, w_cons, w_cvi, w_csta, w_cvt, w_cvv, w_csv, w_cpy, w_seq, w_sbr, w_sbn, w_brk, w_ifs, w_ifx, w_ife, w_wk, w_rets, w_rtv, w_thr, w_asi, w_asj, w_asa, w_inc, w_exs, w_asti, w_astj, w_astz, w_astc, w_aopadd, w_aopsub, w_sw, if_true, if_false, ↓reduceIte, hdl_c, S9_1, S9_m, bud9, live9, inb9, wrn, wr9_14, wr9_15, wr9_16, wr9_17, tq9_14, tq9_15, tq9_16, tq9_17, tq_0, tq_1, tq_3, upr_rl, rl_0, rl_1, rl_2, rl_3, rl_4, rl_5, rl_6, rl_7, rl_8, rl_9, rl_10, rl_11, rl_12, rl_13, sp_0, sp_1, sp_2, sp_3, sp_4, sp_5, sp_6, sp_7, sp_8, sp_9, sp_10, sp_11, sp_12, sp_13, se_0, se_1, se_2, se_3, se_4, se_5, se_6, se_7, se_8, se_9, se_10, se_11, se_12, se_13, sem_0, sem_1, sem_2, sem_3, sem_4, sem_5, kc_3, kl9_3, kl9_4, kc_4, sr_4_2, sr_4_4, sr_4_0, kc_5, kl9_5, kc_6, kl9_6, kc_7, kl9_7, kl9_25, sr_25_0, sr_25_1, sr_25_2, kc_25, List.getD_cons_zero, List.getD_cons_succ, Bool.false_eq_true, wrn3, wrn1, cpmS, cpok9])
    | (with_reducible refine hq _ _ ?_; (next => refine JC_of hL ?_ (by decide); repeat (first | assumption | (refine JC_up ?_ (by first | decide | (unfold frC; omega)) (by first | (simp [BdC, hnd]; done) | (simp [BdC, hnd, upm, cpf] <;> first | omega | (unfold w32; omega)))) | (refine JC_cp ?_ (fun _ => by first | decide | (unfold frC; omega)) (fun _ _ => by simp [BdC, hnd])))))
    | (with_reducible refine ⟨k - 1, ?_, _, _, _, _, rfl, rfl, ?_, ?_, ?_, ?_, ?_⟩; (next => omega); (next => refine JC_of hL ?_ (by decide); repeat (first | assumption | (refine JC_up ?_ (by first | decide | (unfold frC; omega)) (by first | (simp [BdC, hnd]; done) | (simp [BdC, hnd, upm, cpf] <;> first | omega | (unfold w32; omega)))) | (refine JC_cp ?_ (fun _ => by first | decide | (unfold frC; omega)) (fun _ _ => by simp [BdC, hnd])))); (next => first | (with_reducible exact True.intro) | assumption | omega | (unfold w32; omega) | (simp [upm]; done) | (simp [upm] <;> (first | omega | (unfold w32; omega)))); (next => first | (with_reducible exact True.intro) | assumption | omega | (unfold w32; omega) | (simp [upm]; done) | (simp [upm] <;> (first | omega | (unfold w32; omega)))); (next => first | (with_reducible exact True.intro) | assumption | omega | (unfold w32; omega) | (simp [upm]; done) | (simp [upm] <;> (first | omega | (unfold w32; omega)))); (next => first | (with_reducible exact True.intro) | assumption | omega | (unfold w32; omega) | (simp [upm]; done) | (simp [upm] <;> (first | omega | (unfold w32; omega)))))
    | omega
    | (with_reducible contradiction)
    | (unfold w32; omega)
    | (with_reducible show (_ : Int) ≤ _; simp [upm] <;> (first | omega | (unfold w32; omega)))
    | (with_reducible show (_ : Int) < _; simp [upm] <;> (first | omega | (unfold w32; omega))))

theorem s_95 {d : Nat} {tc e : Int} {g : Fg} {m : Mem} {Q : Int → Sto → Prop} {a : Int} (hJ : JC 4 g tc m) (hq : ∀ v m', JC 4 g tc m' → m' = m → Q v (S9 e m')) : Cl (d + 1) 95 [a] Q (S9 e m) := by
  have hL := JC_l hJ
  have hs := JC_s hJ
  simp only [cl_95, runB, B95, ma_95, rho_0, w_cst, w_ldi, w_ldj, w_lda, w_ljk, w_ldk, w_ldw, w_ldk2, w_ldt, w_ldtw, w_neg, w_cvb, w_cvs, w_cvc, w_cvj, w_add, w_sub, w_mul, w_ban, w_bor, w_bxo, w_shl, w_shr, w_ush, w_dvi, w_rmi, w_aldi, w_aldj, w_aldz, w_aldc, w_alda, w_ite, w_cmp, w_cmj, w_cz, w_cnot, w_cand, w_cor, w_nil, w_cons, w_cvi, w_csta, w_cvt, w_cvv, w_csv, w_cpy, w_seq, w_sbr, w_sbn, w_brk, w_ifs, w_ifx, w_ife, w_wk, w_rets, w_rtv, w_thr, w_asi, w_asj, w_asa, w_inc, w_exs, w_asti, w_astj, w_astz, w_astc, w_aopadd, w_aopsub, w_sw, if_true, if_false, ↓reduceIte, hdl_c, S9_1, S9_m, bud9, live9, inb9, wrn, wr9_14, wr9_15, wr9_16, wr9_17, tq9_14, tq9_15, tq9_16, tq9_17, tq_0, tq_1, tq_3, upr_rl, rl_0, rl_1, rl_2, rl_3, rl_4, rl_5, rl_6, rl_7, rl_8, rl_9, rl_10, rl_11, rl_12, rl_13, sp_0, sp_1, sp_2, sp_3, sp_4, sp_5, sp_6, sp_7, sp_8, sp_9, sp_10, sp_11, sp_12, sp_13, se_0, se_1, se_2, se_3, se_4, se_5, se_6, se_7, se_8, se_9, se_10, se_11, se_12, se_13, sem_0, sem_1, sem_2, sem_3, sem_4, sem_5, List.getD_cons_zero, List.getD_cons_succ, Bool.false_eq_true, wrn3, wrn1, cpmS, cpok9]
  repeat' (first
    | (with_reducible exact True.intro)
    | (with_reducible rfl)
    | (with_reducible refine And.intro ?_ ?_)
    | intro _
    | (with_reducible refine hq _ _ ?_ ?_; (next => refine JC_of hL ?_ (by decide); repeat (first | assumption | (refine JC_up ?_ (by first | decide | (unfold frC; omega)) (by first | (simp [BdC, hnd]; done) | (simp [BdC, hnd, upm, cpf] <;> first | omega | (unfold w32; omega)))) | (refine JC_cp ?_ (fun _ => by first | decide | (unfold frC; omega)) (fun _ _ => by simp [BdC, hnd])))); (next => first | (with_reducible exact True.intro) | assumption | omega | (with_reducible rfl) | (simp [upm]; done) | (simp [upm] <;> omega)))
    | omega
    | (with_reducible contradiction)
    | (unfold w32; omega)
    | (with_reducible show (_ : Int) ≤ _; simp [upm] <;> (first | omega | (unfold w32; omega)))
    | (with_reducible show (_ : Int) < _; simp [upm] <;> (first | omega | (unfold w32; omega))))
end
section
/-! the row; calls that act; the text is written; heats -/
theorem s_83 {d : Nat} {tc e : Int} {g : Fg} {m : Mem} {Q : Int → Sto → Prop} (hJ : JC 4 g tc m) (hq : ∀ v m', JC 4 g tc m' → Q v (S9 e m')) : Cl (d + 1) 83 [1] Q (S9 e m) := by
  have hL := JC_l hJ
  have hs := JC_s hJ
  simp only [cl_83, runB, B83, ma_83, rho_2, wpf_1_395, wpopadd_pf_1_395, w_cst, w_ldi, w_ldj, w_lda, w_ljk, w_ldk, w_ldw, w_ldk2, w_ldt, w_ldtw, w_neg, w_cvb, w_cvs, w_cvc, w_cvj, w_add, w_sub, w_mul, w_ban, w_bor, w_bxo, w_shl, w_shr, w_ush, w_dvi, w_rmi, w_aldi, w_aldj, w_aldz, w_aldc, w_alda, w_ite, w_cmp, w_cmj, w_cz, w_cnot, w_cand, w_cor, w_nil, w_cons, w_cvi, w_csta, w_cvt, w_cvv, w_csv, w_cpy, w_seq, w_sbr, w_sbn, w_brk, w_ifs, w_ifx, w_ife, w_wk, w_rets, w_rtv, w_thr, w_asi, w_asj, w_asa, w_inc, w_exs, w_asti, w_astj, w_astz, w_astc, w_aopadd, w_aopsub, w_sw, if_true, if_false, ↓reduceIte, hdl_c, S9_1, S9_m, bud9, live9, inb9, wrn, wr9_14, wr9_15, wr9_16, wr9_17, tq9_14, tq9_15, tq9_16, tq9_17, tq_0, tq_1, tq_3, upr_rl, rl_0, rl_1, rl_2, rl_3, rl_4, rl_5, rl_6, rl_7, rl_8, rl_9, rl_10, rl_11, rl_12, rl_13, sp_0, sp_1, sp_2, sp_3, sp_4, sp_5, sp_6, sp_7, sp_8, sp_9, sp_10, sp_11, sp_12, sp_13, se_0, se_1, se_2, se_3, se_4, se_5, se_6, se_7, se_8, se_9, se_10, se_11, se_12, se_13, sem_0, sem_1, sem_2, sem_3, sem_4, sem_5, sr_1_11, kl9_1, sr_1_9, sr_1_2, sr_1_1, sr_1_13, sr_1_0, sr_1_5, sr_1_6, sr_1_7, kc_1, sr_1_10, sr_1_4, sr_1_3, sr_1_8, List.getD_cons_zero, List.getD_cons_succ, Bool.false_eq_true, wrn3, wrn1, cpmS, cpok9]
  repeat' (first
    | (with_reducible exact True.intro)
    | (with_reducible rfl)
    | (with_reducible refine And.intro ?_ ?_)
    | intro _
    | (with_reducible refine hq _ _ ?_; (next => refine JC_of hL ?_ (by decide); repeat (first | assumption | (refine JC_up ?_ (by first | decide | (unfold frC; omega)) (by first | (simp [BdC, hnd]; done) | (simp [BdC, hnd, upm, cpf] <;> first | omega | (unfold w32; omega)))) | (refine JC_cp ?_ (fun _ => by first | decide | (unfold frC; omega)) (fun _ _ => by simp [BdC, hnd])))))
    | omega
    | (with_reducible contradiction)
    | (unfold w32; omega)
    | (with_reducible show (_ : Int) ≤ _; simp [upm] <;> (first | omega | (unfold w32; omega)))
    | (with_reducible show (_ : Int) < _; simp [upm] <;> (first | omega | (unfold w32; omega))))

theorem s_84 {d : Nat} {tc e : Int} {g : Fg} {m : Mem} {Q : Int → Sto → Prop} {a : Int} (hJ : JC 4 g tc m) (hq : ∀ v m', JC 4 g tc m' → Q v (S9 e m')) : Cl (d + 1) 84 [1, a] Q (S9 e m) := by
  have hL := JC_l hJ
  have hs := JC_s hJ
  simp only [cl_84, runB, B84, ma_84, rho_21, wf_1_100, wf_1_395, wpf_1_395, wpopadd_pf_1_395, w_cst, w_ldi, w_ldj, w_lda, w_ljk, w_ldk, w_ldw, w_ldk2, w_ldt, w_ldtw, w_neg, w_cvb, w_cvs, w_cvc, w_cvj, w_add, w_sub, w_mul, w_ban, w_bor, w_bxo, w_shl, w_shr, w_ush, w_dvi, w_rmi, w_aldi, w_aldj, w_aldz, w_aldc, w_alda, w_ite, w_cmp, w_cmj, w_cz, w_cnot, w_cand, w_cor, w_nil, w_cons, w_cvi, w_csta, w_cvt, w_cvv, w_csv, w_cpy, w_seq, w_sbr, w_sbn, w_brk, w_ifs, w_ifx, w_ife, w_wk, w_rets, w_rtv, w_thr, w_asi, w_asj, w_asa, w_inc, w_exs, w_asti, w_astj, w_astz, w_astc, w_aopadd, w_aopsub, w_sw, if_true, if_false, ↓reduceIte, hdl_c, S9_1, S9_m, bud9, live9, inb9, wrn, wr9_14, wr9_15, wr9_16, wr9_17, tq9_14, tq9_15, tq9_16, tq9_17, tq_0, tq_1, tq_3, upr_rl, rl_0, rl_1, rl_2, rl_3, rl_4, rl_5, rl_6, rl_7, rl_8, rl_9, rl_10, rl_11, rl_12, rl_13, sp_0, sp_1, sp_2, sp_3, sp_4, sp_5, sp_6, sp_7, sp_8, sp_9, sp_10, sp_11, sp_12, sp_13, se_0, se_1, se_2, se_3, se_4, se_5, se_6, se_7, se_8, se_9, se_10, se_11, se_12, se_13, sem_0, sem_1, sem_2, sem_3, sem_4, sem_5, sr_1_11, kl9_1, sr_1_9, sr_1_2, sr_1_1, sr_1_13, sr_1_0, sr_1_5, sr_1_6, sr_1_7, kc_1, sr_1_10, sr_1_4, sr_1_3, sr_1_8, kc_218, kl9_218, List.getD_cons_zero, List.getD_cons_succ, Bool.false_eq_true, wrn3, wrn1, cpmS, cpok9]
  repeat' (first
    | (with_reducible exact True.intro)
    | (with_reducible rfl)
    | (with_reducible refine And.intro ?_ ?_)
    | intro _
    | (with_reducible refine hq _ _ ?_; (next => refine JC_of hL ?_ (by decide); repeat (first | assumption | (refine JC_up ?_ (by first | decide | (unfold frC; omega)) (by first | (simp [BdC, hnd]; done) | (simp [BdC, hnd, upm, cpf] <;> first | omega | (unfold w32; omega)))) | (refine JC_cp ?_ (fun _ => by first | decide | (unfold frC; omega)) (fun _ _ => by simp [BdC, hnd])))))
    | omega
    | (with_reducible contradiction)
    | (unfold w32; omega)
    | (with_reducible show (_ : Int) ≤ _; simp [upm] <;> (first | omega | (unfold w32; omega)))
    | (with_reducible show (_ : Int) < _; simp [upm] <;> (first | omega | (unfold w32; omega))))
end
section
theorem JC_lenv {l : Nat} {g : Fg} {tc : Int} {m : Mem} {v w : Int} (h : JC l g tc m) (h0 : 0 ≤ v) (h1 : v ≤ 80) (e : w = v) : JC l g v (upm m 2 1 w) := by
  rw [e]
  exact JC_len h h0 h1
theorem i2c_r (x : Int) : 0 ≤ i2c (iand x 255) ∧ i2c (iand x 255) < 65536 := by
  rw [i2c_255]
  have := and255 x
  omega
theorem s_15 {d : Nat} {tc e : Int} {g : Fg} {m : Mem} {Q : Int → Sto → Prop} {a : Int} (hJ : JC 4 g tc m) (hq : ∀ v m' tc', JC 4 g tc' m' → ((a < 0 ∨ tc < a) ∧ v = 0 ∧ tc' = tc ∨ 0 ≤ a ∧ a ≤ tc ∧ v = 1 ∧ tc' = a) → Q v (S9 e m')) : Cl (d + 1) 15 [2, a] Q (S9 e m) := by
  have hL := JC_l hJ
  have hs := JC_s hJ
  have e4 : w32 (m 2 1 + 4) = tc + 4 := by unfold w32; omega
  simp only [cl_15, runB, B15, ma_15, rho_20, wf_2_15, wpf_2_15, wpopadd_pf_2_15, w_cst, w_ldi, w_ldj, w_lda, w_ljk, w_ldk, w_ldw, w_ldk2, w_ldt, w_ldtw, w_neg, w_cvb, w_cvs, w_cvc, w_cvj, w_add, w_sub, w_mul, w_ban, w_bor, w_bxo, w_shl, w_shr, w_ush, w_dvi, w_rmi, w_aldi, w_aldj, w_aldz, w_aldc, w_alda, w_ite, w_cmp, w_cmj, w_cz, w_cnot, w_cand, w_cor, w_nil, w_cons, w_cvi, w_csta, w_cvt, w_cvv, w_csv, w_cpy, w_seq, w_sbr, w_sbn, w_brk, w_ifs, w_ifx, w_ife, w_wk, w_rets, w_rtv, w_thr, w_asi, w_asj, w_asa, w_inc, w_exs, w_asti, w_astj, w_astz, w_astc, w_aopadd, w_aopsub, w_sw, if_true, if_false, ↓reduceIte, hdl_c, S9_1, S9_m, bud9, live9, inb9, wrn, wr9_14, wr9_15, wr9_16, wr9_17, tq9_14, tq9_15, tq9_16, tq9_17, tq_0, tq_1, tq_3, upr_rl, rl_0, rl_1, rl_2, rl_3, rl_4, rl_5, rl_6, rl_7, rl_8, rl_9, rl_10, rl_11, rl_12, rl_13, sp_0, sp_1, sp_2, sp_3, sp_4, sp_5, sp_6, sp_7, sp_8, sp_9, sp_10, sp_11, sp_12, sp_13, se_0, se_1, se_2, se_3, se_4, se_5, se_6, se_7, se_8, se_9, se_10, se_11, se_12, se_13, sem_0, sem_1, sem_2, sem_3, sem_4, sem_5, kl9_2, sr_2_0, kc_2, List.getD_cons_zero, List.getD_cons_succ, Bool.false_eq_true, wrn3, wrn1, cpmS, cpok9]
  repeat' (first
    | (with_reducible exact True.intro)
    | (with_reducible rfl)
    | (with_reducible refine And.intro ?_ ?_)
    | intro _
    | (refine hq _ _ a ?_ ?_; (next => refine JC_lenv (tc := tc) ?_ ?_ ?_ ?_; (next => refine JC_of hL ?_ (by decide); repeat (first | assumption | (refine JC_up ?_ (by first | decide | (unfold frC; omega)) (by first | (simp [BdC, hnd]; done) | (simp [BdC, hnd, upm, cpf] <;> first | omega | (unfold w32; omega)))) | (refine JC_cp ?_ (fun _ => by first | decide | (unfold frC; omega)) (fun _ _ => by simp [BdC, hnd])))); (next => omega); (next => omega); (next => first | omega | (simp [upm]; unfold w32; omega))); (next => omega))
    | (refine hq _ _ tc ?_ ?_; (next => assumption); (next => omega))
    | (exact (i2c_r _).1)
    | (exact (i2c_r _).2)
    | omega
    | (with_reducible contradiction)
    | (unfold w32; omega)
    | (with_reducible show (_ : Int) ≤ _; simp [upm] <;> (first | omega | (unfold w32; omega)))
    | (with_reducible show (_ : Int) < _; simp [upm] <;> (first | omega | (unfold w32; omega))))

theorem s_14 {d : Nat} {tc e : Int} {g : Fg} {m : Mem} {Q : Int → Sto → Prop} {a : Int} (hJ : JC 4 g tc m) (hq : ∀ v m' tc', JC 4 g tc' m' → ((a < 0 ∨ tc < a) ∧ v = 0 ∧ tc' = tc ∨ 0 ≤ a ∧ a ≤ tc ∧ v = 1 ∧ tc' = a) → Q v (S9 e m')) : Cl (d + 2) 14 [1, a] Q (S9 e m) := by
  have hL := JC_l hJ
  have hs := JC_s hJ
  have e4 : w32 (m 2 1 + 4) = tc + 4 := by unfold w32; omega
  simp only [cl_14, runB, B14, ma_14, rho_20, wf_1_10, wc_15, w_cst, w_ldi, w_ldj, w_lda, w_ljk, w_ldk, w_ldw, w_ldk2, w_ldt, w_ldtw, w_neg, w_cvb, w_cvs, w_cvc, w_cvj, w_add, w_sub, w_mul, w_ban, w_bor, w_bxo, w_shl, w_shr, w_ush, w_dvi, w_rmi, w_aldi, w_aldj, w_aldz, w_aldc, w_alda, w_ite, w_cmp, w_cmj, w_cz, w_cnot, w_cand, w_cor, w_nil, w_cons, w_cvi, w_csta, w_cvt, w_cvv, w_csv, w_cpy, w_seq, w_sbr, w_sbn, w_brk, w_ifs, w_ifx, w_ife, w_wk, w_rets, w_rtv, w_thr, w_asi, w_asj, w_asa, w_inc, w_exs, w_asti, w_astj, w_astz, w_astc, w_aopadd, w_aopsub, w_sw, if_true, if_false, ↓reduceIte, hdl_c, S9_1, S9_m, bud9, live9, inb9, wrn, wr9_14, wr9_15, wr9_16, wr9_17, tq9_14, tq9_15, tq9_16, tq9_17, tq_0, tq_1, tq_3, upr_rl, rl_0, rl_1, rl_2, rl_3, rl_4, rl_5, rl_6, rl_7, rl_8, rl_9, rl_10, rl_11, rl_12, rl_13, sp_0, sp_1, sp_2, sp_3, sp_4, sp_5, sp_6, sp_7, sp_8, sp_9, sp_10, sp_11, sp_12, sp_13, se_0, se_1, se_2, se_3, se_4, se_5, se_6, se_7, se_8, se_9, se_10, se_11, se_12, se_13, sem_0, sem_1, sem_2, sem_3, sem_4, sem_5, sr_1_3, kc_1, kl9_1, sr_1_11, sr_1_7, sr_1_6, sr_1_4, sr_1_2, sr_1_8, sr_1_1, sr_1_5, sr_1_0, sr_1_10, sr_1_9, sr_1_13, kl9_2, sr_2_0, kc_2, List.getD_cons_zero, List.getD_cons_succ, Bool.false_eq_true, wrn3, wrn1, cpmS, cpok9]
  repeat' (first
    | (with_reducible exact True.intro)
    | (with_reducible rfl)
    | (with_reducible refine And.intro ?_ ?_)
    | intro _
    | (with_reducible refine s_15 (g := g) (tc := tc) hJ (fun v9 m9 t9 hJ9 p9 => ?_); simp only [hdl_c, S9_1, S9_m, bud9, live9, inb9, wrn, wr9_14, wr9_15, wr9_16, wr9_17, tq9_14, tq9_15, tq9_16, tq9_17, tq_0, tq_1, tq_3, upr_rl, rl_0, rl_1, rl_2, rl_3, rl_4, rl_5, rl_6, rl_7, rl_8, rl_9, rl_10, rl_11, rl_12, rl_13, sp_0, sp_1, sp_2, sp_3, sp_4, sp_5, sp_6, sp_7, sp_8, sp_9, sp_10, sp_11, sp_12, sp_13, se_0, se_1, se_2, se_3, se_4, se_5, se_6, se_7, se_8, se_9, se_10, se_11, se_12, se_13, sem_0, sem_1, sem_2, sem_3, sem_4, sem_5, List.getD_cons_zero, List.getD_cons_succ, Bool.false_eq_true, wrn3, wrn1, cpmS, cpok9, if_true, if_false, ↓reduceIte, sr_1_3, kc_1, kl9_1, sr_1_11, sr_1_7, sr_1_6, sr_1_4, sr_1_2, sr_1_8, sr_1_1, sr_1_5, sr_1_0, sr_1_10, sr_1_9, sr_1_13, kl9_2, sr_2_0, kc_2])
    | (refine hq _ _ _ hJ9 ?_; (next => assumption))
    | (exact (i2c_r _).1)
    | (exact (i2c_r _).2)
    | omega
    | (with_reducible contradiction)
    | (unfold w32; omega)
    | (with_reducible show (_ : Int) ≤ _; simp [upm] <;> (first | omega | (unfold w32; omega)))
    | (with_reducible show (_ : Int) < _; simp [upm] <;> (first | omega | (unfold w32; omega))))
end
