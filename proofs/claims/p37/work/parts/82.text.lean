section
/-! the text is written, a dinner is read and done -/
theorem JW_lenv {l : Nat} {g : Fg} {tc pl W : Int} {N : Int → Int} {m : Mem} {v w : Int} (h : JW l g tc pl N W m) (h0 : 0 ≤ v) (h1 : v ≤ 80) (e : w = v) : JW l g v pl N W (upm m 249 18 w) := by
  rw [e]; exact JW_len h h0 h1
theorem s_168 {d : Nat} {tc pl e W : Int} {g : Fg} {m : Mem} {Q : Int → Sto → Prop} {N : Int → Int} {a : Int} (hJ : JW 4 g tc pl N W m) (hq : ∀ v m' tc', JW 4 g tc' pl N W m' → ((a < 0 ∨ tc < a) ∧ v = 0 ∧ tc' = tc ∨ 0 ≤ a ∧ a ≤ tc ∧ v = 1 ∧ tc' = a) → Q v (S9 e m')) : Cl (d + 2) 168 [249, a] Q (S9 e m) := by
  have hL := JW_l hJ
  have hJ1 : JW 4 g tc pl N W (upm m 249 0 0) := by refine JW_of hL ?_ (by decide); repeat (first | assumption | (exact JW_len0 (by assumption)) | (refine JW_up ?_ (by first | decide | (unfold frR; omega)) (by first | decide | simp [frc]) (by first | decide | simp [frw]) (by first | (simp [BdR]; done) | (simp [BdR] <;> first | omega | (unfold w32; omega)) | (simp [BdR, upm] <;> first | omega | (unfold w32; omega)) | (refine BdR_n (by simp) ?_; (first | (refine rb_at ?_ ?_ <;> first | omega | (simp only [upm_app]; (repeat' split) <;> omega)) | (refine rb_us ?_ ?_ <;> first | omega | (simp only [upm_app]; (repeat' split) <;> omega)) | (refine rb_ho ?_ ?_ <;> first | omega | (simp only [upm_app]; (repeat' split) <;> omega)) | (refine rb_on ?_ ?_ <;> first | omega | (simp only [upm_app]; (repeat' split) <;> omega)) | ((try simp (disch := omega) only [w32_eq]); (refine (rb_i ?_ ?_).2 ?_ <;> omega)) | (refine rb_us ?_ ?_ <;> first | omega | (unfold w32; omega)))))))
  simp only [cl_168, runB, B168, ma_168, rho_20, wf_13_160, wpf_13_126, wpf_13_160, wpopadd_pf_13_160, wc_169, w_cst, w_ldi, w_ldj, w_lda, w_ljk, w_ldk, w_ldw, w_ldk2, w_ldt, w_ldtw, w_neg, w_cvb, w_cvs, w_cvc, w_cvj, w_add, w_sub, w_mul, w_ban, w_bor, w_bxo, w_shl, w_shr, w_ush, w_dvi, w_rmi, w_aldi, w_aldj, w_aldz, w_aldc, w_alda, w_ite, w_cmp, w_cmj, w_cz, w_cnot, w_cand, w_cor, w_nil, w_cons, w_cvi, w_csta, w_cvt, w_cvv, w_csv, w_cpy, w_seq, w_sbr, w_sbn, w_brk, w_ifs, w_ifx, w_ife, w_wk, w_rets, w_rtv, w_thr, w_asi, w_asj, w_asa, w_inc, w_exs, w_asti, w_astj, w_astz, w_astc, w_aopadd, w_aopsub, w_sw, if_true, if_false, ↓reduceIte, hdl_c, S9_1, S9_m, bud9, live9, inb9, wrn, wr9_14, wr9_15, wr9_16, wr9_17, tq9_14, tq9_15, tq9_16, tq9_17, tq_0, tq_1, tq_3, upr_rl, rl_0, rl_1, rl_2, rl_3, rl_4, rl_5, rl_6, rl_7, rl_8, rl_9, rl_10, rl_11, rl_12, rl_13, sp_0, sp_1, sp_2, sp_3, sp_4, sp_5, sp_6, sp_7, sp_8, sp_9, sp_10, sp_11, sp_12, sp_13, se_0, se_1, se_2, se_3, se_4, se_5, se_6, se_7, se_8, se_9, se_10, se_11, se_12, se_13, sem_0, sem_1, sem_2, sem_3, sem_4, sem_5, sr_249_41, sr_249_52, sr_249_8, sr_249_10, sr_249_11, sr_249_58, sr_249_63, sr_249_55, sr_249_17, sr_249_13, sr_249_42, sr_249_9, sr_249_64, sr_249_34, sr_249_43, sr_249_68, sr_249_23, sr_249_61, sr_249_12, sr_249_14, sr_249_24, sr_249_69, kl9_249, sr_249_67, sr_249_22, sr_249_35, sr_249_40, kc_249, sr_249_2, sr_249_30, sr_249_50, sr_249_57, sr_249_70, sr_249_15, sr_249_25, sr_249_71, sr_249_16, sr_249_54, sr_249_31, sr_249_51, List.getD_cons_zero, List.getD_cons_succ, Bool.false_eq_true, wrn3, wrn1, cpmS, cpok9]
  generalize upm m 249 0 0 = m1 at hJ1 ⊢
  have hs := JW_s hJ1
  have h58 := JW_2 hJ1
  have e4 : w32 (tc + 4) = tc + 4 := by unfold w32; omega
  (try simp (disch := omega) only [w15_0, w15_1, w15_3, w15_4, w15_5, w15_6, w3_0, w3_1, w3_2, upm_app, Int.reduceEq, and_self, and_true, true_and, and_false, false_and, if_true, if_false, ↓reduceIte, h58])
  repeat' (first
    | (with_reducible exact True.intro)
    | omega
    | (with_reducible rfl)
    | (with_reducible contradiction)
    | (with_reducible refine And.intro ?_ ?_)
    | intro _
    | (with_reducible refine p_169 (fun v9 h9 => ?_); (try simp only [h58] at h9); simp only [hdl_c, S9_1, S9_m, bud9, live9, inb9, wrn, wr9_14, wr9_15, wr9_16, wr9_17, tq9_14, tq9_15, tq9_16, tq9_17, tq_0, tq_1, tq_3, upr_rl, rl_0, rl_1, rl_2, rl_3, rl_4, rl_5, rl_6, rl_7, rl_8, rl_9, rl_10, rl_11, rl_12, rl_13, sp_0, sp_1, sp_2, sp_3, sp_4, sp_5, sp_6, sp_7, sp_8, sp_9, sp_10, sp_11, sp_12, sp_13, se_0, se_1, se_2, se_3, se_4, se_5, se_6, se_7, se_8, se_9, se_10, se_11, se_12, se_13, sem_0, sem_1, sem_2, sem_3, sem_4, sem_5, List.getD_cons_zero, List.getD_cons_succ, Bool.false_eq_true, wrn3, wrn1, cpmS, cpok9, if_true, if_false, ↓reduceIte, wc_169, sr_249_41, sr_249_52, sr_249_8, sr_249_10, sr_249_11, sr_249_58, sr_249_63, sr_249_55, sr_249_17, sr_249_13, sr_249_42, sr_249_9, sr_249_64, sr_249_34, sr_249_43, sr_249_68, sr_249_23, sr_249_61, sr_249_12, sr_249_14, sr_249_24, sr_249_69, kl9_249, sr_249_67, sr_249_22, sr_249_35, sr_249_40, kc_249, sr_249_2, sr_249_30, sr_249_50, sr_249_57, sr_249_70, sr_249_15, sr_249_25, sr_249_71, sr_249_16, sr_249_54, sr_249_31, sr_249_51, h58]; (try simp (disch := omega) only [w15_0, w15_1, w15_3, w15_4, w15_5, w15_6, w3_0, w3_1, w3_2, upm_app, Int.reduceEq, and_self, and_true, true_and, and_false, false_and, if_true, if_false, ↓reduceIte, h58]))
    | (refine hq _ _ a (JW_lenv hJ1 (by omega) (by omega) rfl) ?_; omega)
    | (refine hq _ _ tc (by assumption) ?_; omega)
    | (unfold w32; omega)
    | (simp (disch := omega) only [w32_eq]; omega)
    | (with_reducible show (_ : Int) ≤ _; simp [upm] <;> (first | omega | (unfold w32; omega)))
    | (with_reducible show (_ : Int) < _; simp [upm] <;> (first | omega | (unfold w32; omega))))
end
section
/-! the rule is read by the reference -/
theorem hgt_eq {c c' : Int → Int} : ∀ n : Nat, (∀ k : Nat, k < n → c k = c' k) → hgt c n = hgt c' n
  | 0, _ => rfl
  | n + 1, h => by rw [hgt_s, hgt_s, hgt_eq n (fun k hk => h k (by omega)), h n (by omega)]
def RC (m : Mem) (h : Int) : Prop := 0 ≤ m 249 33 ∧ COK (m 266) (m 249 33) ∧ hgt (m 266) (m 249 33).toNat = h
theorem RC_h {m : Mem} {h : Int} (hR : RC m h) : 0 ≤ h := by
  obtain ⟨h0, hC, rfl⟩ := hR
  exact hgt_nn hC _ (by omega)
theorem RC_up {m : Mem} {a j v h : Int} (hR : RC m h) (n1 : a = 249 → j ≠ 33) (n2 : 266 ≠ a) : RC (upm m a j v) h := by
  have e1 : upm m a j v 249 33 = m 249 33 := upn (fun q => by have := n1 q.symm; omega)
  have e2 : upm m a j v 266 = m 266 := by funext y; exact upm_a _ _ _ _ _ _ n2
  unfold RC; rw [e1, e2]; exact hR
theorem RC_add {m : Mem} {h c h' L n : Int} (hR : RC m h) (ho : okc h c) (e : h' = h + (if c = 3000 then 0 else if 2000 ≤ c then -1 else 1)) (eL : L = m 249 33) (en : n = m 249 33 + 1) : RC (upm (upm m 266 L c) 249 33 n) h' := by
  subst eL en
  obtain ⟨h0, hC, hh⟩ := hR
  obtain ⟨k9, hk9⟩ : ∃ n : Nat, m 249 33 = n := ⟨_, (Int.toNat_of_nonneg h0).symm⟩
  rw [hk9] at hC hh ⊢
  have e1 : upm (upm m 266 (k9 : Int) c) 249 33 ((k9 : Int) + 1) 249 33 = (k9 : Int) + 1 := upm_v _ _ _ _
  have e2 : ∀ k : Nat, k ≠ k9 → upm (upm m 266 (k9 : Int) c) 249 33 ((k9 : Int) + 1) 266 k = m 266 k := by
    intro k hk
    rw [upm_a _ _ _ _ _ _ (by decide), upm_k (by omega)]
  have e3 : upm (upm m 266 (k9 : Int) c) 249 33 ((k9 : Int) + 1) 266 k9 = c := by
    rw [upm_a _ _ _ _ _ _ (by decide), upm_v]
  have e4 : ∀ k : Nat, k ≤ k9 → hgt (upm (upm m 266 (k9 : Int) c) 249 33 ((k9 : Int) + 1) 266) k = hgt (m 266) k := fun k hk => hgt_eq k (fun q hq => e2 q (by omega))
  have hh9 : hgt (m 266) k9 = h := hh
  unfold RC
  rw [e1]
  refine ⟨by omega, ?_, ?_⟩
  · intro k hk
    rw [e4 k (by omega)]
    by_cases hk0 : k = k9
    · subst hk0; rw [e3, hh9]; exact ho
    · rw [e2 k hk0]; exact hC k (by omega)
  · have : ((k9 : Int) + 1).toNat = k9 + 1 := by omega
    rw [this, hgt_s, e4 k9 (Nat.le_refl _), e3, hh9, e]
abbrev RS (m : Mem) : Prop := 0 ≤ m 249 19 ∧ m 249 19 ≤ m 249 20 ∧ m 249 20 ≤ 40 ∧ 0 ≤ m 249 33 ∧ m 249 33 ≤ m 249 19
abbrev RQ (m m' : Mem) (v h : Int) : Prop := (m' 249 20 = m 249 20 ∧ m 249 19 ≤ m' 249 19 ∧ m' 249 19 ≤ m' 249 20 ∧ m 249 33 ≤ m' 249 33 ∧ m' 249 33 - m 249 33 ≤ m' 249 19 - m 249 19) ∧ (v = 0 ∨ v = 1 ∧ RC m' (h + 1))
theorem l_ask : ((sLen.getD (-1 - (-1 - ((3 : Nat) : Int)) : Int).toNat 0 : Nat) : Int) = 8 := by decide
theorem l_cmp : ((sLen.getD (-1 - (-1 - ((4 : Nat) : Int)) : Int).toNat 0 : Nat) : Int) = 3 := by decide
theorem l_pls : ((sLen.getD (-1 - (-1 - ((5 : Nat) : Int)) : Int).toNat 0 : Nat) : Int) = 2 := by decide
theorem l_mul : ((sLen.getD (-1 - (-1 - ((6 : Nat) : Int)) : Int).toNat 0 : Nat) : Int) = 2 := by decide
theorem p_192 {d : Nat} {e : Int} {m : Mem} {Q : Int → Sto → Prop} {a : Int} (h0 : 0 ≤ m 249 33 ∧ m 249 33 < 80) (hq : ∀ v, Q v (S9 e (upm (upm m 266 (m 249 33) a) 249 33 (m 249 33 + 1)))) : Cl (d + 1) 192 [249, a] Q (S9 e m) := by
  have ea : w32 (m 249 33 + 1) = m 249 33 + 1 := by unfold w32; omega
  simp only [cl_192, runB, B192, ma_192, rho_20, wf_13_266, wf_13_60, wpf_13_266, wpopadd_pf_13_266, w_cst, w_ldi, w_ldj, w_lda, w_ljk, w_ldk, w_ldw, w_ldk2, w_ldt, w_ldtw, w_neg, w_cvb, w_cvs, w_cvc, w_cvj, w_add, w_sub, w_mul, w_ban, w_bor, w_bxo, w_shl, w_shr, w_ush, w_dvi, w_rmi, w_aldi, w_aldj, w_aldz, w_aldc, w_alda, w_ite, w_cmp, w_cmj, w_cz, w_cnot, w_cand, w_cor, w_nil, w_cons, w_cvi, w_csta, w_cvt, w_cvv, w_csv, w_cpy, w_seq, w_sbr, w_sbn, w_brk, w_ifs, w_ifx, w_ife, w_wk, w_rets, w_rtv, w_thr, w_asi, w_asj, w_asa, w_inc, w_exs, w_asti, w_astj, w_astz, w_astc, w_aopadd, w_aopsub, w_sw, if_true, if_false, ↓reduceIte, hdl_c, S9_1, S9_m, bud9, live9, inb9, wrn, wr9_14, wr9_15, wr9_16, wr9_17, tq9_14, tq9_15, tq9_16, tq9_17, tq_0, tq_1, tq_3, upr_rl, rl_0, rl_1, rl_2, rl_3, rl_4, rl_5, rl_6, rl_7, rl_8, rl_9, rl_10, rl_11, rl_12, rl_13, sp_0, sp_1, sp_2, sp_3, sp_4, sp_5, sp_6, sp_7, sp_8, sp_9, sp_10, sp_11, sp_12, sp_13, se_0, se_1, se_2, se_3, se_4, se_5, se_6, se_7, se_8, se_9, se_10, se_11, se_12, se_13, sem_0, sem_1, sem_2, sem_3, sem_4, sem_5, sr_249_22, sr_249_25, sr_249_43, sr_249_52, sr_249_11, sr_249_13, sr_249_68, kl9_249, sr_249_54, sr_249_16, sr_249_30, sr_249_17, sr_249_50, sr_249_10, sr_249_51, sr_249_34, sr_249_31, sr_249_2, sr_249_57, sr_249_42, sr_249_55, sr_249_8, sr_249_63, sr_249_67, kc_249, sr_249_58, sr_249_61, sr_249_40, sr_249_41, sr_249_12, sr_249_15, sr_249_23, sr_249_69, sr_249_71, sr_249_64, sr_249_9, sr_249_14, sr_249_24, sr_249_35, sr_249_70, kl9_266, kc_266, List.getD_cons_zero, List.getD_cons_succ, Bool.false_eq_true, wrn3, wrn1, cpmS, cpok9, ea, upm_app, Int.reduceEq, and_self, and_true, true_and, and_false, false_and, if_true, if_false, ↓reduceIte]
  repeat' (first
    | (with_reducible exact True.intro)
    | omega
    | (with_reducible rfl)
    | (with_reducible contradiction)
    | (with_reducible refine And.intro ?_ ?_)
    | intro _
    | (with_reducible exact hq _)
    | (unfold w32; omega)
    | (simp (disch := omega) only [w32_eq]; omega)
    | (with_reducible show (_ : Int) ≤ _; simp [upm] <;> (first | omega | (unfold w32; omega)))
    | (with_reducible show (_ : Int) < _; simp [upm] <;> (first | omega | (unfold w32; omega))))
end
