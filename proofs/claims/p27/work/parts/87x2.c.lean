section
set_option maxHeartbeats 16000000 in
theorem f_224 {d : Nat} {tc pl e : Int} {g : Fg} {m : Mem} {Q : Int → Sto → Prop} {R : ENV → Int} {L : Int} (hJ : JR 3 g tc pl m) (hI : IV L (m 249 5) (m 249 6) (asR m 258 0)) (hK : KR2 m) (hR : RuR m R) (hq : ∀ v m', JR 3 g tc pl m' → FB m m' → asR m' 258 0 = sec R (m 257) (m 256) (m 249 5).toNat (m 249 6).toNat (asR m 258 0) → Q v (S9 e m')) : Cl (d + 6) 224 [249, 258] Q (S9 e m) := by
  have hL := JR_l hJ
  have hs := JR_s hJ
  simp only [cl_224, runB, B224, ma_224, rho_22, wf_13_140, wf_13_143, wf_13_30, wf_13_33, wpf_13_304, wpopadd_pf_13_304, wpf_13_307, wpopor_pf_13_307, wpf_13_310, wpopor_pf_13_310, wc_19, wc_56, wc_188, wc_206, cl_19, B19, ma_19, rho_00, cl_56, B56, ma_56, w_cst, w_ldi, w_ldj, w_lda, w_ljk, w_ldk, w_ldw, w_ldk2, w_ldt, w_ldtw, w_neg, w_cvb, w_cvs, w_cvc, w_cvj, w_add, w_sub, w_mul, w_ban, w_bor, w_bxo, w_shl, w_shr, w_ush, w_dvi, w_rmi, w_aldi, w_aldj, w_aldz, w_aldc, w_alda, w_ite, w_cmp, w_cmj, w_cz, w_cnot, w_cand, w_cor, w_nil, w_cons, w_cvi, w_csta, w_cvt, w_cvv, w_csv, w_cpy, w_seq, w_sbr, w_sbn, w_brk, w_ifs, w_ifx, w_ife, w_wk, w_rets, w_rtv, w_thr, w_asi, w_asj, w_asa, w_inc, w_exs, w_asti, w_astj, w_astz, w_astc, w_aopadd, w_aopsub, w_sw, if_true, if_false, ↓reduceIte, hdl_c, S9_1, S9_m, bud9, live9, inb9, wrn, wr9_14, wr9_15, wr9_16, wr9_17, tq9_14, tq9_15, tq9_16, tq9_17, tq_0, tq_1, tq_3, upr_rl, rl_0, rl_1, rl_2, rl_3, rl_4, rl_5, rl_6, rl_7, rl_8, rl_9, rl_10, rl_11, rl_12, rl_13, sp_0, sp_1, sp_2, sp_3, sp_4, sp_5, sp_6, sp_7, sp_8, sp_9, sp_10, sp_11, sp_12, sp_13, se_0, se_1, se_2, se_3, se_4, se_5, se_6, se_7, se_8, se_9, se_10, se_11, se_12, se_13, sem_0, sem_1, sem_2, sem_3, sem_4, sem_5, sr_249_13, sr_249_51, sr_249_23, sr_249_42, sr_249_11, sr_249_34, sr_249_15, sr_249_52, kc_249, sr_249_68, sr_249_35, sr_249_9, sr_249_25, sr_249_58, sr_249_2, sr_249_67, kl9_249, sr_249_31, sr_249_43, sr_249_24, sr_249_10, sr_249_55, sr_249_41, sr_249_64, sr_249_61, sr_249_16, sr_249_14, sr_249_17, sr_249_70, sr_249_63, sr_249_71, sr_249_30, sr_249_50, sr_249_69, sr_249_12, sr_249_40, sr_249_54, sr_249_8, sr_249_22, sr_249_57, kc_256, kl9_256, kl9_257, kc_257, kl9_258, kc_258, List.getD_cons_zero, List.getD_cons_succ, Bool.false_eq_true, wrn3, wrn1, cpmS, cpok9, upm_app, Int.reduceEq, and_self, and_true, true_and, and_false, false_and, if_true, if_false, ↓reduceIte, Int.reduceToNat, upm_f, Int.reduceEq, Int.reduceNe, ne_eq, not_false_eq_true, not_true_eq_false]
  repeat' (first
    | (with_reducible exact True.intro)
    | (with_reducible exact False.elim)
    | (with_reducible rfl)
    | (with_reducible refine And.intro ?_ ?_)
    | intro _
    | ((with_reducible show Cl _ 188 _ _ _); (with_reducible refine p_188 ?_ ?_; (next => first | omega | (with_reducible rfl) | decide | (unfold w32; omega) | (simp (disch := omega) only [w32_eq]; omega) | (simp [upm] <;> (first | omega | (unfold w32; omega)))); simp only [hdl_c, S9_1, S9_m, bud9, live9, inb9, wrn, wr9_14, wr9_15, wr9_16, wr9_17, tq9_14, tq9_15, tq9_16, tq9_17, tq_0, tq_1, tq_3, upr_rl, rl_0, rl_1, rl_2, rl_3, rl_4, rl_5, rl_6, rl_7, rl_8, rl_9, rl_10, rl_11, rl_12, rl_13, sp_0, sp_1, sp_2, sp_3, sp_4, sp_5, sp_6, sp_7, sp_8, sp_9, sp_10, sp_11, sp_12, sp_13, se_0, se_1, se_2, se_3, se_4, se_5, se_6, se_7, se_8, se_9, se_10, se_11, se_12, se_13, sem_0, sem_1, sem_2, sem_3, sem_4, sem_5, List.getD_cons_zero, List.getD_cons_succ, Bool.false_eq_true, wrn3, wrn1, cpmS, cpok9, if_true, if_false, ↓reduceIte, wc_19, wc_56, wc_188, wc_206, cl_19, runB, B19, ma_19, rho_00, cl_56, B56, ma_56, w_cst, w_ldi, w_ldj, w_lda, w_ljk, w_ldk, w_ldw, w_ldk2, w_ldt, w_ldtw, w_neg, w_cvb, w_cvs, w_cvc, w_cvj, w_add, w_sub, w_mul, w_ban, w_bor, w_bxo, w_shl, w_shr, w_ush, w_dvi, w_rmi, w_aldi, w_aldj, w_aldz, w_aldc, w_alda, w_ite, w_cmp, w_cmj, w_cz, w_cnot, w_cand, w_cor, w_nil, w_cons, w_cvi, w_csta, w_cvt, w_cvv, w_csv, w_cpy, w_seq, w_sbr, w_sbn, w_brk, w_ifs, w_ifx, w_ife, w_wk, w_rets, w_rtv, w_thr, w_asi, w_asj, w_asa, w_inc, w_exs, w_asti, w_astj, w_astz, w_astc, w_aopadd, w_aopsub, w_sw, if_true, if_false, ↓reduceIte, sr_249_13, sr_249_51, sr_249_23, sr_249_42, sr_249_11, sr_249_34, sr_249_15, sr_249_52, kc_249, sr_249_68, sr_249_35, sr_249_9, sr_249_25, sr_249_58, sr_249_2, sr_249_67, kl9_249, sr_249_31, sr_249_43, sr_249_24, sr_249_10, sr_249_55, sr_249_41, sr_249_64, sr_249_61, sr_249_16, sr_249_14, sr_249_17, sr_249_70, sr_249_63, sr_249_71, sr_249_30, sr_249_50, sr_249_69, sr_249_12, sr_249_40, sr_249_54, sr_249_8, sr_249_22, sr_249_57, kc_256, kl9_256, kl9_257, kc_257, kl9_258, kc_258, upm_app, Int.reduceEq, and_self, and_true, true_and, and_false, false_and, if_true, if_false, ↓reduceIte, Int.reduceToNat, upm_f, Int.reduceEq, Int.reduceNe, ne_eq, not_false_eq_true, not_true_eq_false]; (try simp (disch := omega) only [w15_0, w15_1, w15_3, w15_4, w15_5, w15_6, w3_0, w3_1, w3_2, upm_app, Int.reduceEq, and_self, and_true, true_and, and_false, false_and, if_true, if_false, ↓reduceIte])))
    | ((with_reducible show Cl _ 206 _ _ _); ((with_reducible refine f_206 (g := g) (tc := tc) (pl := pl) (R := R) (L := L) hJ9 (by rw [hF5, hF6]; exact hI9) (KR2_fr hK hF5 hF6 hF56 hF57) (RuR_fr hR (hF9 249 32 (by omega)) (fun j => hF9 265 j (by omega))) (by omega) (by rw [hF6]; omega) (fun v8 m8 hJ8 hG8 w8 => ?_)); have w8 := w8 (by omega); have e57 : m9 257 = m 257 := (by funext j; exact hF57 j); (rw [e57] at w8); have g58 : m8 258 = m9 258 := hG8 258 (by decide) (by decide); have g49 : m8 249 = m9 249 := hG8 249 (by decide) (by decide); have g57 : m8 257 = m 257 := (by rw [hG8 257 (by decide) (by decide), e57]); have gA : asR m8 258 0 = asR m9 258 0 := asR_g hG8 (by decide); have hs8 := JR_s hJ8; have eb : bwm R (m 257) (asR m9 258 0) i = min 9999 (w32 (m9 258 (16 + 7 * i + m9 258 (18 + 7 * i)) + v8)) := (by unfold bwm hwm; rw [r_6 m9 (by omega), r_h m9 j3 (by omega), ← w8]); simp only [hdl_c, S9_1, S9_m, bud9, live9, inb9, wrn, wr9_14, wr9_15, wr9_16, wr9_17, tq9_14, tq9_15, tq9_16, tq9_17, tq_0, tq_1, tq_3, upr_rl, rl_0, rl_1, rl_2, rl_3, rl_4, rl_5, rl_6, rl_7, rl_8, rl_9, rl_10, rl_11, rl_12, rl_13, sp_0, sp_1, sp_2, sp_3, sp_4, sp_5, sp_6, sp_7, sp_8, sp_9, sp_10, sp_11, sp_12, sp_13, se_0, se_1, se_2, se_3, se_4, se_5, se_6, se_7, se_8, se_9, se_10, se_11, se_12, se_13, sem_0, sem_1, sem_2, sem_3, sem_4, sem_5, List.getD_cons_zero, List.getD_cons_succ, Bool.false_eq_true, wrn3, wrn1, cpmS, cpok9, if_true, if_false, ↓reduceIte, wc_19, wc_56, wc_188, wc_206, cl_19, runB, B19, ma_19, rho_00, cl_56, B56, ma_56, w_cst, w_ldi, w_ldj, w_lda, w_ljk, w_ldk, w_ldw, w_ldk2, w_ldt, w_ldtw, w_neg, w_cvb, w_cvs, w_cvc, w_cvj, w_add, w_sub, w_mul, w_ban, w_bor, w_bxo, w_shl, w_shr, w_ush, w_dvi, w_rmi, w_aldi, w_aldj, w_aldz, w_aldc, w_alda, w_ite, w_cmp, w_cmj, w_cz, w_cnot, w_cand, w_cor, w_nil, w_cons, w_cvi, w_csta, w_cvt, w_cvv, w_csv, w_cpy, w_seq, w_sbr, w_sbn, w_brk, w_ifs, w_ifx, w_ife, w_wk, w_rets, w_rtv, w_thr, w_asi, w_asj, w_asa, w_inc, w_exs, w_asti, w_astj, w_astz, w_astc, w_aopadd, w_aopsub, w_sw, if_true, if_false, ↓reduceIte, sr_249_13, sr_249_51, sr_249_23, sr_249_42, sr_249_11, sr_249_34, sr_249_15, sr_249_52, kc_249, sr_249_68, sr_249_35, sr_249_9, sr_249_25, sr_249_58, sr_249_2, sr_249_67, kl9_249, sr_249_31, sr_249_43, sr_249_24, sr_249_10, sr_249_55, sr_249_41, sr_249_64, sr_249_61, sr_249_16, sr_249_14, sr_249_17, sr_249_70, sr_249_63, sr_249_71, sr_249_30, sr_249_50, sr_249_69, sr_249_12, sr_249_40, sr_249_54, sr_249_8, sr_249_22, sr_249_57, kc_256, kl9_256, kl9_257, kc_257, kl9_258, kc_258, upm_app, Int.reduceEq, and_self, and_true, true_and, and_false, false_and, if_true, if_false, ↓reduceIte, Int.reduceToNat, upm_f, Int.reduceEq, Int.reduceNe, ne_eq, not_false_eq_true, not_true_eq_false, g58, g49, g57, hF6, ew3]; (try simp (disch := omega) only [w15_0, w15_1, w15_3, w15_4, w15_5, w15_6, w3_0, w3_1, w3_2, upm_app, Int.reduceEq, and_self, and_true, true_and, and_false, false_and, if_true, if_false, ↓reduceIte, Int.reduceToNat, upm_f, Int.reduceEq, Int.reduceNe, ne_eq, not_false_eq_true, not_true_eq_false]); (try simp only [ewx])))
    | ((with_reducible show (whl _ _ _ _ _).1.2 _ _ _ _ _ _); ((with_reducible refine whl_i (fun k r u => ∃ (i x y z : Int) (n : Nat) (m9 : Mem), r = rl [249, 258, i, x, y, z] ∧ u = S9 e m9 ∧ JR 3 g tc pl m9 ∧ FB m m9 ∧ (i = n ∧ i ≤ m 249 6 ∧ i + k = m 249 6 + 1) ∧ asR m9 258 0 = hlds R (m 257) n (asR m 258 0)) ((m 249 6).toNat + 1) ?_ ?_); (next => exact ⟨0, 0, 0, 0, 0, m, (by first | rfl | exact rlp3_3), rfl, hJ, fun _ _ _ => rfl, ⟨rfl, by omega, by omega⟩, rfl⟩); rintro k r u ⟨i, x9, y9, z9, n, m9, rfl, rfl, hJ9, hF9, ⟨hi, hn, hk⟩, hA9⟩; have hs9 := JR_s hJ9; have hF5 : m9 249 5 = m 249 5 := hF9 249 5 (by omega); have hF6 : m9 249 6 = m 249 6 := hF9 249 6 (by omega); have hF56 : ∀ j, m9 256 j = m 256 j := (fun j => hF9 256 j (by omega)); have hF57 : ∀ j, m9 257 j = m 257 j := (fun j => hF9 257 j (by omega)); have i0 : 0 ≤ i := (by omega); have ew3 : w32 (i + 1) = i + 1 := w32_eq (by omega) (by omega); have hI9 : IV L (m 249 5) (m 249 6) (asR m9 258 0) := (by rw [hA9]; exact IV_hlds hI n (by omega)); rcases Int.lt_or_le i (m 249 6) with hlt | hlt; all_goals ((try (have hl2 : i < m 249 6 := hlt; obtain ⟨j1, j2, j3, j4, j5, j6, j7⟩ := hI9.1 i i0 hl2; clear hl2)); (try rw [r_8 m9 (by omega)] at j1); (try rw [r_6 m9 (by omega)] at j3); (try have ewx := w15x (p := i) (by omega) (by omega) j3); simp only [cl_224, runB, B224, ma_224, rho_22, wf_13_140, wf_13_143, wf_13_30, wf_13_33, wpf_13_304, wpopadd_pf_13_304, wpf_13_307, wpopor_pf_13_307, wpf_13_310, wpopor_pf_13_310, wc_19, wc_56, wc_188, wc_206, cl_19, B19, ma_19, rho_00, cl_56, B56, ma_56, w_cst, w_ldi, w_ldj, w_lda, w_ljk, w_ldk, w_ldw, w_ldk2, w_ldt, w_ldtw, w_neg, w_cvb, w_cvs, w_cvc, w_cvj, w_add, w_sub, w_mul, w_ban, w_bor, w_bxo, w_shl, w_shr, w_ush, w_dvi, w_rmi, w_aldi, w_aldj, w_aldz, w_aldc, w_alda, w_ite, w_cmp, w_cmj, w_cz, w_cnot, w_cand, w_cor, w_nil, w_cons, w_cvi, w_csta, w_cvt, w_cvv, w_csv, w_cpy, w_seq, w_sbr, w_sbn, w_brk, w_ifs, w_ifx, w_ife, w_wk, w_rets, w_rtv, w_thr, w_asi, w_asj, w_asa, w_inc, w_exs, w_asti, w_astj, w_astz, w_astc, w_aopadd, w_aopsub, w_sw, if_true, if_false, ↓reduceIte, hdl_c, S9_1, S9_m, bud9, live9, inb9, wrn, wr9_14, wr9_15, wr9_16, wr9_17, tq9_14, tq9_15, tq9_16, tq9_17, tq_0, tq_1, tq_3, upr_rl, rl_0, rl_1, rl_2, rl_3, rl_4, rl_5, rl_6, rl_7, rl_8, rl_9, rl_10, rl_11, rl_12, rl_13, sp_0, sp_1, sp_2, sp_3, sp_4, sp_5, sp_6, sp_7, sp_8, sp_9, sp_10, sp_11, sp_12, sp_13, se_0, se_1, se_2, se_3, se_4, se_5, se_6, se_7, se_8, se_9, se_10, se_11, se_12, se_13, sem_0, sem_1, sem_2, sem_3, sem_4, sem_5, sr_249_13, sr_249_51, sr_249_23, sr_249_42, sr_249_11, sr_249_34, sr_249_15, sr_249_52, kc_249, sr_249_68, sr_249_35, sr_249_9, sr_249_25, sr_249_58, sr_249_2, sr_249_67, kl9_249, sr_249_31, sr_249_43, sr_249_24, sr_249_10, sr_249_55, sr_249_41, sr_249_64, sr_249_61, sr_249_16, sr_249_14, sr_249_17, sr_249_70, sr_249_63, sr_249_71, sr_249_30, sr_249_50, sr_249_69, sr_249_12, sr_249_40, sr_249_54, sr_249_8, sr_249_22, sr_249_57, kc_256, kl9_256, kl9_257, kc_257, kl9_258, kc_258, List.getD_cons_zero, List.getD_cons_succ, Bool.false_eq_true, wrn3, wrn1, cpmS, cpok9, upm_app, Int.reduceEq, and_self, and_true, true_and, and_false, false_and, if_true, if_false, ↓reduceIte, Int.reduceToNat, upm_f, Int.reduceEq, Int.reduceNe, ne_eq, not_false_eq_true, not_true_eq_false, hF6, ew3]; (try simp (disch := omega) only [w15_0, w15_1, w15_3, w15_4, w15_5, w15_6, w3_0, w3_1, w3_2, upm_app, Int.reduceEq, and_self, and_true, true_and, and_false, false_and, if_true, if_false, ↓reduceIte, Int.reduceToNat, upm_f, Int.reduceEq, Int.reduceNe, ne_eq, not_false_eq_true, not_true_eq_false]); (try simp only [ewx]))))
    | ((with_reducible show (whl _ _ _ _ _).1.2 _ _ _ _ _ _); ((with_reducible refine whl_i (fun k r u => ∃ (y z : Int) (m8 : Mem), r = rl [249, 258, i, 15 + 7 * i, y, z] ∧ u = S9 e m8 ∧ JR 3 g tc pl m8 ∧ (y + k = 3) ∧ (y = 0 ∧ m8 = m9 ∨ y = 1 ∧ m8 = upm m9 258 (16 + 7 * i) (if 0 ≤ m9 258 (20 + 7 * i) ∧ m9 258 (18 + 7 * i) = 0 then m9 258 (16 + 7 * i) else cl4 (m9 258 (16 + 7 * i))) ∨ y = 2 ∧ m8 = upm (upm m9 258 (16 + 7 * i) (if 0 ≤ m9 258 (20 + 7 * i) ∧ m9 258 (18 + 7 * i) = 0 then m9 258 (16 + 7 * i) else cl4 (m9 258 (16 + 7 * i)))) 258 (17 + 7 * i) (if 0 ≤ m9 258 (20 + 7 * i) ∧ m9 258 (18 + 7 * i) = 1 then m9 258 (17 + 7 * i) else cl4 (m9 258 (17 + 7 * i))))) 3 ?_ ?_); (next => exact ⟨0, _, m9, rfl, rfl, hJ9, by decide, Or.inl ⟨rfl, rfl⟩⟩); have ei0 : w32 (16 + 7 * i + 0) = 16 + 7 * i := (by unfold w32; omega); have ei1 : w32 (16 + 7 * i + 1) = 17 + 7 * i := (by unfold w32; omega); have e01 : w32 (0 + 1) = 1 := (by decide); have e11 : w32 (1 + 1) = 2 := (by decide); rintro k3 r u ⟨y, z, m8, rfl, rfl, hJ8, hk3, ⟨rfl, rfl⟩ | ⟨rfl, hm8⟩ | ⟨rfl, hm8⟩⟩; all_goals ((try (refine (fun (q5 : m8 258 (20 + 7 * i) = m9 258 (20 + 7 * i)) => ?_) ?_; rotate_left 1; (next => first | rfl | (rw [hm8, upm_k (by omega)]; done) | (rw [hm8, upm_k (by omega), upm_k (by omega)]; done)))); (try (refine (fun (q3 : m8 258 (18 + 7 * i) = m9 258 (18 + 7 * i)) => ?_) ?_; rotate_left 1; (next => first | rfl | (rw [hm8, upm_k (by omega)]; done) | (rw [hm8, upm_k (by omega), upm_k (by omega)]; done)))); (try (refine (fun (q2 : m8 258 (17 + 7 * i) = m9 258 (17 + 7 * i)) => ?_) ?_; rotate_left 1; (next => first | rfl | (rw [hm8, upm_k (by omega)]; done) | (rw [hm8, upm_k (by omega), upm_k (by omega)]; done)))); simp only [cl_224, runB, B224, ma_224, rho_22, wf_13_140, wf_13_143, wf_13_30, wf_13_33, wpf_13_304, wpopadd_pf_13_304, wpf_13_307, wpopor_pf_13_307, wpf_13_310, wpopor_pf_13_310, wc_19, wc_56, wc_188, wc_206, cl_19, B19, ma_19, rho_00, cl_56, B56, ma_56, w_cst, w_ldi, w_ldj, w_lda, w_ljk, w_ldk, w_ldw, w_ldk2, w_ldt, w_ldtw, w_neg, w_cvb, w_cvs, w_cvc, w_cvj, w_add, w_sub, w_mul, w_ban, w_bor, w_bxo, w_shl, w_shr, w_ush, w_dvi, w_rmi, w_aldi, w_aldj, w_aldz, w_aldc, w_alda, w_ite, w_cmp, w_cmj, w_cz, w_cnot, w_cand, w_cor, w_nil, w_cons, w_cvi, w_csta, w_cvt, w_cvv, w_csv, w_cpy, w_seq, w_sbr, w_sbn, w_brk, w_ifs, w_ifx, w_ife, w_wk, w_rets, w_rtv, w_thr, w_asi, w_asj, w_asa, w_inc, w_exs, w_asti, w_astj, w_astz, w_astc, w_aopadd, w_aopsub, w_sw, if_true, if_false, ↓reduceIte, hdl_c, S9_1, S9_m, bud9, live9, inb9, wrn, wr9_14, wr9_15, wr9_16, wr9_17, tq9_14, tq9_15, tq9_16, tq9_17, tq_0, tq_1, tq_3, upr_rl, rl_0, rl_1, rl_2, rl_3, rl_4, rl_5, rl_6, rl_7, rl_8, rl_9, rl_10, rl_11, rl_12, rl_13, sp_0, sp_1, sp_2, sp_3, sp_4, sp_5, sp_6, sp_7, sp_8, sp_9, sp_10, sp_11, sp_12, sp_13, se_0, se_1, se_2, se_3, se_4, se_5, se_6, se_7, se_8, se_9, se_10, se_11, se_12, se_13, sem_0, sem_1, sem_2, sem_3, sem_4, sem_5, sr_249_13, sr_249_51, sr_249_23, sr_249_42, sr_249_11, sr_249_34, sr_249_15, sr_249_52, kc_249, sr_249_68, sr_249_35, sr_249_9, sr_249_25, sr_249_58, sr_249_2, sr_249_67, kl9_249, sr_249_31, sr_249_43, sr_249_24, sr_249_10, sr_249_55, sr_249_41, sr_249_64, sr_249_61, sr_249_16, sr_249_14, sr_249_17, sr_249_70, sr_249_63, sr_249_71, sr_249_30, sr_249_50, sr_249_69, sr_249_12, sr_249_40, sr_249_54, sr_249_8, sr_249_22, sr_249_57, kc_256, kl9_256, kl9_257, kc_257, kl9_258, kc_258, List.getD_cons_zero, List.getD_cons_succ, Bool.false_eq_true, wrn3, wrn1, cpmS, cpok9, upm_app, Int.reduceEq, and_self, and_true, true_and, and_false, false_and, if_true, if_false, ↓reduceIte, Int.reduceToNat, upm_f, Int.reduceEq, Int.reduceNe, ne_eq, not_false_eq_true, not_true_eq_false]; (try simp (disch := omega) only [w15_0, w15_1, w15_3, w15_4, w15_5, w15_6, w3_0, w3_1, w3_2, ei0, ei1, e01, e11, ew3, upm_app, Int.reduceEq, and_self, and_true, true_and, and_false, false_and, if_true, if_false, ↓reduceIte, Int.reduceToNat, upm_f, Int.reduceEq, Int.reduceNe, ne_eq, not_false_eq_true, not_true_eq_false]); (try simp only [q5, q3, q2]))))
    | ((with_reducible show (whl _ _ _ _ _).1.2 _ _ _ _ _ _); ((with_reducible refine whl_i (fun k r u => ∃ (i x y z : Int) (n : Nat) (m9 : Mem), r = rl [249, 258, i, x, y, z] ∧ u = S9 e m9 ∧ JR 3 g tc pl m9 ∧ FB m m9 ∧ (i = n ∧ i ≤ m 249 6 ∧ i + k = m 249 6 + 1) ∧ asR m9 258 0 = clds n (hlds R (m 257) (m 249 6).toNat (asR m 258 0))) ((m 249 6).toNat + 1) ?_ ?_); (next => exact ⟨0, _, _, _, 0, m9, rfl, rfl, hJ9, hF9, ⟨rfl, by omega, by omega⟩, by rw [hA9, show n = (m 249 6).toNat by omega]; rfl⟩); clear hA9 hI9 hs9 hF5 hF6 hF56 hF57 hF9 hJ9 hi hn hk i0; rintro k r u ⟨i, x9, y9, z9, n, m9, rfl, rfl, hJ9, hF9, ⟨hi, hn, hk⟩, hA9⟩; have hs9 := JR_s hJ9; have hF5 : m9 249 5 = m 249 5 := hF9 249 5 (by omega); have hF6 : m9 249 6 = m 249 6 := hF9 249 6 (by omega); have hF56 : ∀ j, m9 256 j = m 256 j := (fun j => hF9 256 j (by omega)); have hF57 : ∀ j, m9 257 j = m 257 j := (fun j => hF9 257 j (by omega)); have i0 : 0 ≤ i := (by omega); have ew3 : w32 (i + 1) = i + 1 := w32_eq (by omega) (by omega); have hI9 : IV L (m 249 5) (m 249 6) (asR m9 258 0) := (by rw [hA9]; exact IV_clds (IV_hlds hI _ (by omega)) n); rcases Int.lt_or_le i (m 249 6) with hlt | hlt; all_goals ((try (have hl2 : i < m 249 6 := hlt; obtain ⟨j1, j2, j3, j4, j5, j6, j7⟩ := hI9.1 i i0 hl2; clear hl2)); (try rw [r_8 m9 (by omega)] at j1); (try rw [r_6 m9 (by omega)] at j3); (try rw [r_4 m9 (by omega)] at j5); (try rw [r_5 m9 (by omega)] at j6); simp only [cl_224, runB, B224, ma_224, rho_22, wf_13_140, wf_13_143, wf_13_30, wf_13_33, wpf_13_304, wpopadd_pf_13_304, wpf_13_307, wpopor_pf_13_307, wpf_13_310, wpopor_pf_13_310, wc_19, wc_56, wc_188, wc_206, cl_19, B19, ma_19, rho_00, cl_56, B56, ma_56, w_cst, w_ldi, w_ldj, w_lda, w_ljk, w_ldk, w_ldw, w_ldk2, w_ldt, w_ldtw, w_neg, w_cvb, w_cvs, w_cvc, w_cvj, w_add, w_sub, w_mul, w_ban, w_bor, w_bxo, w_shl, w_shr, w_ush, w_dvi, w_rmi, w_aldi, w_aldj, w_aldz, w_aldc, w_alda, w_ite, w_cmp, w_cmj, w_cz, w_cnot, w_cand, w_cor, w_nil, w_cons, w_cvi, w_csta, w_cvt, w_cvv, w_csv, w_cpy, w_seq, w_sbr, w_sbn, w_brk, w_ifs, w_ifx, w_ife, w_wk, w_rets, w_rtv, w_thr, w_asi, w_asj, w_asa, w_inc, w_exs, w_asti, w_astj, w_astz, w_astc, w_aopadd, w_aopsub, w_sw, if_true, if_false, ↓reduceIte, hdl_c, S9_1, S9_m, bud9, live9, inb9, wrn, wr9_14, wr9_15, wr9_16, wr9_17, tq9_14, tq9_15, tq9_16, tq9_17, tq_0, tq_1, tq_3, upr_rl, rl_0, rl_1, rl_2, rl_3, rl_4, rl_5, rl_6, rl_7, rl_8, rl_9, rl_10, rl_11, rl_12, rl_13, sp_0, sp_1, sp_2, sp_3, sp_4, sp_5, sp_6, sp_7, sp_8, sp_9, sp_10, sp_11, sp_12, sp_13, se_0, se_1, se_2, se_3, se_4, se_5, se_6, se_7, se_8, se_9, se_10, se_11, se_12, se_13, sem_0, sem_1, sem_2, sem_3, sem_4, sem_5, sr_249_13, sr_249_51, sr_249_23, sr_249_42, sr_249_11, sr_249_34, sr_249_15, sr_249_52, kc_249, sr_249_68, sr_249_35, sr_249_9, sr_249_25, sr_249_58, sr_249_2, sr_249_67, kl9_249, sr_249_31, sr_249_43, sr_249_24, sr_249_10, sr_249_55, sr_249_41, sr_249_64, sr_249_61, sr_249_16, sr_249_14, sr_249_17, sr_249_70, sr_249_63, sr_249_71, sr_249_30, sr_249_50, sr_249_69, sr_249_12, sr_249_40, sr_249_54, sr_249_8, sr_249_22, sr_249_57, kc_256, kl9_256, kl9_257, kc_257, kl9_258, kc_258, List.getD_cons_zero, List.getD_cons_succ, Bool.false_eq_true, wrn3, wrn1, cpmS, cpok9, upm_app, Int.reduceEq, and_self, and_true, true_and, and_false, false_and, if_true, if_false, ↓reduceIte, Int.reduceToNat, upm_f, Int.reduceEq, Int.reduceNe, ne_eq, not_false_eq_true, not_true_eq_false, hF6, ew3]; (try simp (disch := omega) only [w15_0, w15_1, w15_3, w15_4, w15_5, w15_6, w3_0, w3_1, w3_2, upm_app, Int.reduceEq, and_self, and_true, true_and, and_false, false_and, if_true, if_false, ↓reduceIte, Int.reduceToNat, upm_f, Int.reduceEq, Int.reduceNe, ne_eq, not_false_eq_true, not_true_eq_false]))))
    | ((with_reducible show (whl _ _ _ _ _).1.2 _ _ _ _ _ _); ((with_reducible refine whl_i (fun k r u => ∃ (i x y z : Int) (n : Nat) (m9 : Mem), r = rl [249, 258, i, x, y, z] ∧ u = S9 e m9 ∧ JR 3 g tc pl m9 ∧ FB m m9 ∧ (i = n ∧ i ≤ m 249 5 ∧ i + k = m 249 5 + 1) ∧ asR m9 258 0 = ptds (m 256) n (clds (m 249 6).toNat (hlds R (m 257) (m 249 6).toNat (asR m 258 0)))) ((m 249 5).toNat + 1) ?_ ?_); (next => exact ⟨0, _, _, _, 0, m9, rfl, rfl, hJ9, hF9, ⟨rfl, by omega, by omega⟩, by rw [hA9, show n = (m 249 6).toNat by omega]; rfl⟩); clear hA9 hI9 hs9 hF5 hF6 hF56 hF57 hF9 hJ9 hi hn hk i0; rintro k r u ⟨i, x9, y9, z9, n, m9, rfl, rfl, hJ9, hF9, ⟨hi, hn, hk⟩, hA9⟩; have hs9 := JR_s hJ9; have hF5 : m9 249 5 = m 249 5 := hF9 249 5 (by omega); have hF6 : m9 249 6 = m 249 6 := hF9 249 6 (by omega); have hF56 : ∀ j, m9 256 j = m 256 j := (fun j => hF9 256 j (by omega)); have hF57 : ∀ j, m9 257 j = m 257 j := (fun j => hF9 257 j (by omega)); have i0 : 0 ≤ i := (by omega); have ew3 : w32 (i + 1) = i + 1 := w32_eq (by omega) (by omega); have ez0 := w3a i0 (show i ≤ 5 by omega); have ez2 := w3b i0 (show i ≤ 5 by omega); have hI9 : IV L (m 249 5) (m 249 6) (asR m9 258 0) := (by rw [hA9]; exact IV_ptds (IV_clds (IV_hlds hI _ (by omega)) _) hK.2 n (by omega)); simp only [cl_224, runB, B224, ma_224, rho_22, wf_13_140, wf_13_143, wf_13_30, wf_13_33, wpf_13_304, wpopadd_pf_13_304, wpf_13_307, wpopor_pf_13_307, wpf_13_310, wpopor_pf_13_310, wc_19, wc_56, wc_188, wc_206, cl_19, B19, ma_19, rho_00, cl_56, B56, ma_56, w_cst, w_ldi, w_ldj, w_lda, w_ljk, w_ldk, w_ldw, w_ldk2, w_ldt, w_ldtw, w_neg, w_cvb, w_cvs, w_cvc, w_cvj, w_add, w_sub, w_mul, w_ban, w_bor, w_bxo, w_shl, w_shr, w_ush, w_dvi, w_rmi, w_aldi, w_aldj, w_aldz, w_aldc, w_alda, w_ite, w_cmp, w_cmj, w_cz, w_cnot, w_cand, w_cor, w_nil, w_cons, w_cvi, w_csta, w_cvt, w_cvv, w_csv, w_cpy, w_seq, w_sbr, w_sbn, w_brk, w_ifs, w_ifx, w_ife, w_wk, w_rets, w_rtv, w_thr, w_asi, w_asj, w_asa, w_inc, w_exs, w_asti, w_astj, w_astz, w_astc, w_aopadd, w_aopsub, w_sw, if_true, if_false, ↓reduceIte, hdl_c, S9_1, S9_m, bud9, live9, inb9, wrn, wr9_14, wr9_15, wr9_16, wr9_17, tq9_14, tq9_15, tq9_16, tq9_17, tq_0, tq_1, tq_3, upr_rl, rl_0, rl_1, rl_2, rl_3, rl_4, rl_5, rl_6, rl_7, rl_8, rl_9, rl_10, rl_11, rl_12, rl_13, sp_0, sp_1, sp_2, sp_3, sp_4, sp_5, sp_6, sp_7, sp_8, sp_9, sp_10, sp_11, sp_12, sp_13, se_0, se_1, se_2, se_3, se_4, se_5, se_6, se_7, se_8, se_9, se_10, se_11, se_12, se_13, sem_0, sem_1, sem_2, sem_3, sem_4, sem_5, sr_249_13, sr_249_51, sr_249_23, sr_249_42, sr_249_11, sr_249_34, sr_249_15, sr_249_52, kc_249, sr_249_68, sr_249_35, sr_249_9, sr_249_25, sr_249_58, sr_249_2, sr_249_67, kl9_249, sr_249_31, sr_249_43, sr_249_24, sr_249_10, sr_249_55, sr_249_41, sr_249_64, sr_249_61, sr_249_16, sr_249_14, sr_249_17, sr_249_70, sr_249_63, sr_249_71, sr_249_30, sr_249_50, sr_249_69, sr_249_12, sr_249_40, sr_249_54, sr_249_8, sr_249_22, sr_249_57, kc_256, kl9_256, kl9_257, kc_257, kl9_258, kc_258, List.getD_cons_zero, List.getD_cons_succ, Bool.false_eq_true, wrn3, wrn1, cpmS, cpok9, upm_app, Int.reduceEq, and_self, and_true, true_and, and_false, false_and, if_true, if_false, ↓reduceIte, Int.reduceToNat, upm_f, Int.reduceEq, Int.reduceNe, ne_eq, not_false_eq_true, not_true_eq_false, hF5, hF56, ew3, ez0, ez2]))
    | ((with_reducible show Q _ _); ((with_reducible refine hq _ _ ?_ ?_ ?_); (next => with_reducible (refine JR_of hL ?_ (by decide); repeat (first | assumption | (refine JR_up ?_ (by first | decide | (unfold frR; omega)) (by first | decide | simp [frc]) (by refine BdR_n (by simp) ?_; refine (rb_i ?_ ?_).2 ?_ <;> omega)))); done); (next => intro x j q; (try simp only [upm_app]); (repeat rw [if_neg (by omega)]); exact hF9 x j q); (next => rw [asR_o (j := 1) _ (by decide) (by decide) (by decide)]; show _ = asU (ptds (m 256) (m 249 5).toNat (clds (m 249 6).toNat (hlds R (m 257) (m 249 6).toNat (asR m 258 0)))) 10 1 (w32 (ptds (m 256) (m 249 5).toNat (clds (m 249 6).toNat (hlds R (m 257) (m 249 6).toNat (asR m 258 0))) 10 1 + 1)); rw [show (m 249 5).toNat = n by omega, ← hA9, r_no])))
    | ((with_reducible show ∃ _, _); ((with_reducible refine ⟨k - 1, ?_, i + 1, _, _, _, n + 1, _, rfl, rfl, ?_, ?_, ⟨?_, ?_, ?_⟩, ?_⟩); (next => omega); (next => first | (with_reducible exact JR_burn hJ8 i0 (by omega) j3 ⟨by omega, by omega⟩) | (with_reducible (refine JR_of hL ?_ (by decide); repeat (first | assumption | (refine JR_up ?_ (by first | decide | (unfold frR; omega)) (by first | decide | simp [frc]) (by first | (simp [BdR]; done) | (simp [BdR] <;> first | omega | (unfold w32; omega)) | (simp [BdR, upm] <;> first | omega | (unfold w32; omega)) | (refine BdR_n (by simp) ?_; (first | (refine rb_at ?_ ?_ <;> first | omega | (simp only [upm_app]; (repeat' split) <;> omega)) | (refine rb_us ?_ ?_ <;> first | omega | (simp only [upm_app]; (repeat' split) <;> omega)) | (refine rb_ho ?_ ?_ <;> first | omega | (simp only [upm_app]; (repeat' split) <;> omega)) | (refine rb_on ?_ ?_ <;> first | omega | (simp only [upm_app]; (repeat' split) <;> omega)) | ((try simp (disch := omega) only [w32_eq]); (refine (rb_i ?_ ?_).2 ?_ <;> omega)) | (refine rb_us ?_ ?_ <;> first | omega | (unfold w32; omega)))))))); done)); (next => intro x j q; (try simp only [upm_app]); (repeat rw [if_neg (by omega)]); first | exact hF9 x j q | (rw [hG8 x (by omega) (by omega)]; exact hF9 x j q)); (next => omega); (next => omega); (next => omega); (first | (next => show _ = holdS R (m 257) (n : Int) (hlds R (m 257) n (asR m 258 0)); rw [← hi, ← hA9, hold_n (by rw [r_8 m9 (by omega)]; omega)]) | (next => show _ = holdS R (m 257) (n : Int) (hlds R (m 257) n (asR m 258 0)); rw [← hi, ← hA9, asR_h (f := 4 + m9 258 (18 + 7 * i)) (j := i) _ (by decide) (by omega) (by omega) (by omega), gA, hold_w (by rw [r_8 m9 (by omega)]; omega) (by rw [eb]; omega), eb, r_6 m9 (by omega)]; congr 1; omega) | (next => (try rw [if_neg (show ¬ (21 + 7 * i = 16 + 7 * i + m9 258 (18 + 7 * i)) by omega)]); show _ = holdS R (m 257) (n : Int) (hlds R (m 257) n (asR m 258 0)); rw [← hi, ← hA9]; exact asR_burn2 i0 (by omega) gA rfl j3 rfl ⟨by omega, by omega⟩ (by rw [eb]; omega) (by omega) rfl rfl rfl rfl))))
    | ((with_reducible show ∃ _, _); ((with_reducible refine ⟨k3 - 1, ?_, 1, _, _, rfl, rfl, ?_, ?_, Or.inr (Or.inl ⟨rfl, ?_⟩)⟩); (next => omega); (next => with_reducible (refine JR_of hL ?_ (by decide); repeat (first | assumption | (refine JR_up ?_ (by first | decide | (unfold frR; omega)) (by first | decide | simp [frc]) (by refine BdR_n (by simp) ?_; refine (rb_i ?_ ?_).2 ?_ <;> omega)))); done); (next => omega); (next => first | (rw [if_pos ⟨by omega, by omega⟩, Int.sub_zero, w32_id (by assumption)]) | (rw [if_neg (by omega)]; rfl))))
    | ((with_reducible show ∃ _, _); ((with_reducible refine ⟨k3 - 1, ?_, 2, _, _, rfl, rfl, ?_, ?_, Or.inr (Or.inr ⟨rfl, ?_⟩)⟩); (next => omega); (next => with_reducible (refine JR_of hL ?_ (by decide); repeat (first | assumption | (refine JR_up ?_ (by first | decide | (unfold frR; omega)) (by first | decide | simp [frc]) (by refine BdR_n (by simp) ?_; refine (rb_i ?_ ?_).2 ?_ <;> omega)))); done); (next => omega); (next => rw [← hm8]; first | (rw [if_pos ⟨by omega, by omega⟩, Int.sub_zero, w32_id (by assumption)]) | (rw [if_neg (by omega)]; rfl))))
    | ((try simp only [ew3]); (with_reducible refine ⟨k - 1, ?_, i + 1, _, _, _, n + 1, m8, rfl, rfl, hJ8, ?_, ⟨?_, ?_, ?_⟩, ?_⟩); (next => omega); (next => intro x j q; rw [hm8, upm_app, if_neg (by omega), upm_app, if_neg (by omega)]; exact hF9 x j q); (next => omega); (next => omega); (next => omega); (next => show _ = coolS (n : Int) (clds n (hlds R (m 257) (m 249 6).toNat (asR m 258 0))); rw [← hi, ← hA9, hm8, asR_h (f := 5) (j := i) _ (by decide) (by decide) (by omega) (by omega), asR_h (f := 4) (j := i) _ (by decide) (by decide) (by omega) (by omega)]; refine cool_2 (by rw [r_6 m9 (by omega)]; exact j3) ?_ ?_; (next => rw [r_8 m9 (by omega), r_6 m9 (by omega), r_4 m9 (by omega)]); (next => rw [r_8 m9 (by omega), r_6 m9 (by omega), r_5 m9 (by omega)])))
    | ((with_reducible show ∃ _, _); ((with_reducible refine ⟨k - 1, ?_, i + 1, _, _, _, n + 1, _, rfl, rfl, ?_, ?_, ⟨?_, ?_, ?_⟩, ?_⟩); (next => omega); (next => exact JR_pot hJ9 i0 (by omega)); (next => intro x j q; (try simp only [upm_app]); (repeat rw [if_neg (by omega)]); exact hF9 x j q); (next => omega); (next => omega); (next => omega); (next => show _ = potS (m 256) (n : Int) (ptds (m 256) n (clds (m 249 6).toNat (hlds R (m 257) (m 249 6).toNat (asR m 258 0)))); rw [← hi, ← hA9]; refine asR_pot2 hI9 i0 (by omega) (by omega) (hK.2 i i0 (by omega)) ?_; first | (rw [if_pos (by omega)]; omega) | (rw [if_neg (by omega)]; omega) | (rw [if_neg (by omega), Int.sub_zero]; omega))))
    | omega
    | (with_reducible contradiction)
    | (exfalso; omega)
    | (unfold w32; omega)
    | (simp (disch := omega) only [w32_eq]; omega)
    | (with_reducible show (_ : Int) ≤ _; simp [upm] <;> (first | omega | (unfold w32; omega)))
    | (with_reducible show (_ : Int) < _; simp [upm] <;> (first | omega | (unfold w32; omega))))
end
section
/-! acts on states alike, whatever was counted -/
abbrev AF (P H : Int) (r r' : AR) : Prop := r.1 = r'.1 ∧ SE P H r.2 r'.2
theorem AF_if {P H : Int} {c c' : Prop} [Decidable c] [Decidable c'] {r r' s s' : AR} (h : c ↔ c') (h1 : c → AF P H r r') (h2 : ¬ c → AF P H s s') : AF P H (if c then r else s) (if c' then r' else s') := by
  by_cases z : c
  · rw [if_pos z, if_pos (h.1 z)]; exact h1 z
  · rw [if_neg z, if_neg (fun y => z (h.2 y))]; exact h2 z
section
variable {L P H : Int} {x y : AS} {a b : Int}
theorem take_f (h : IV L P H x) (e : SE P H x y) : AF P H (aTake P H x a b) (aTake P H y a b) := by
  unfold aTake
  refine AF_if Iff.rfl (fun _ => ⟨rfl, e⟩) (fun z => ?_)
  have ha : per H a := Decidable.not_not.mp z
  have f := fun f f0 f1 => e.2.1 f a f0 f1 ha.1 ha.2
  refine AF_if (by rw [f 8 (by decide) (by decide)]) (fun _ => ⟨rfl, e⟩) (fun _ => ?_)
  refine AF_if ?_ (fun _ => ⟨rfl, e⟩) (fun w => ?_)
  · by_cases hb : per P b
    · rw [e.1 1 b (by decide) (by decide) hb.1 hb.2, f 3 (by decide) (by decide)]
    · constructor <;> (intro _ q; exact hb q.1)
  · have hb := (Decidable.not_not.mp w).1
    exact ⟨e.1 0 b (by decide) (by decide) hb.1 hb.2, SE_U _ _ (SE_U _ _ e rfl) rfl⟩
theorem down_f {K1 K1' : Int → Int} (h : IV L P H x) (e : SE P H x y) (hk : ∀ p, 0 ≤ p → p < L → K1 p = K1' p) : AF P H (aDown H K1 x a) (aDown H K1' y a) := by
  unfold aDown
  refine AF_if Iff.rfl (fun _ => ⟨rfl, e⟩) (fun z => ?_)
  have ha : per H a := Decidable.not_not.mp z
  have f := fun f f0 f1 => e.2.1 f a f0 f1 ha.1 ha.2
  have i3 := (h.1 a ha.1 ha.2).2.1
  rw [← f 8 (by decide) (by decide), ← f 3 (by decide) (by decide), ← hk _ i3.1 i3.2]
  exact AF_if Iff.rfl (fun _ => ⟨rfl, e⟩) (fun _ => AF_if Iff.rfl (fun _ => ⟨rfl, e⟩) (fun _ => ⟨rfl, SE_U _ _ (SE_U _ _ e rfl) rfl⟩))
theorem change_f (e : SE P H x y) : AF P H (aChange H x a) (aChange H y a) := by
  unfold aChange
  refine AF_if Iff.rfl (fun _ => ⟨rfl, e⟩) (fun z => ?_)
  have ha : per H a := Decidable.not_not.mp z
  rw [← e.2.1 6 a (by decide) (by decide) ha.1 ha.2]
  exact ⟨rfl, SE_U _ _ e rfl⟩
theorem give_f (e : SE P H x y) : AF P H (aGive H x a b) (aGive H y a b) := by
  unfold aGive
  refine AF_if Iff.rfl (fun _ => ⟨rfl, e⟩) (fun z => ?_)
  obtain ⟨ha, hb, -⟩ := Decidable.not_not.mp z
  rw [← e.2.1 8 a (by decide) (by decide) ha.1 ha.2, ← e.2.1 8 b (by decide) (by decide) hb.1 hb.2, ← e.2.1 3 a (by decide) (by decide) ha.1 ha.2, ← e.2.1 3 b (by decide) (by decide) hb.1 hb.2]
  exact AF_if Iff.rfl (fun _ => ⟨rfl, e⟩) (fun _ => AF_if Iff.rfl (fun _ => ⟨rfl, e⟩) (fun _ => ⟨rfl, SE_U _ _ (SE_U _ _ e rfl) rfl⟩))
theorem fold_f (e : SE P H x y) : AF P H (aFold H x a b) (aFold H y a b) := by
  unfold aFold
  refine AF_if Iff.rfl (fun _ => ⟨rfl, e⟩) (fun z => ?_)
  obtain ⟨ha, -⟩ := Decidable.not_not.mp z
  exact ⟨e.2.1 7 a (by decide) (by decide) ha.1 ha.2, SE_U _ _ e rfl⟩
theorem door_f {B : Int → Int} {W : Int} {D D' : Int → Int} (e : SE P H x y) (hk : ∀ p, 0 ≤ p → p < W → (D p ≠ 0 ↔ D' p ≠ 0)) : AF P H (aDoor B W D x a b) (aDoor B W D' y a b) := by
  unfold aDoor
  refine AF_if ?_ (fun _ => ⟨rfl, e⟩) (fun _ => ?_)
  · by_cases ha : per W a
    · rw [hk a ha.1 ha.2]
    · constructor <;> (intro _ q; exact ha q.1)
  · rw [← e.2.2.1]
    exact ⟨rfl, SE_U _ _ e rfl⟩
theorem heat_f (e : SE P H x y) : AF P H (aHeat P x a b) (aHeat P y a b) := by
  unfold aHeat
  refine AF_if ?_ (fun _ => ⟨rfl, e⟩) (fun z => ?_)
  · by_cases ha : per P a
    · rw [e.1 2 a (by decide) (by decide) ha.1 ha.2]
    · constructor <;> (intro _ q; exact ha q.1)
  · obtain ⟨ha, -⟩ := Decidable.not_not.mp z
    exact ⟨e.1 0 a (by decide) (by decide) ha.1 ha.2, SE_U _ _ e rfl⟩
end
end
section
/-! the component's acts without loops, to the letter -/
theorem l_95 {d : Nat} {e : Int} {m : Mem} {Q : Int → Sto → Prop} {a : Int} (hq : Q (bcf a) (S9 e m)) : Cl (d + 1) 95 [a] Q (S9 e m) := by
  simp only [cl_95, runB, B95, ma_95, rho_0, w_cst, w_ldi, w_ldj, w_lda, w_ljk, w_ldk, w_ldw, w_ldk2, w_ldt, w_ldtw, w_neg, w_cvb, w_cvs, w_cvc, w_cvj, w_add, w_sub, w_mul, w_ban, w_bor, w_bxo, w_shl, w_shr, w_ush, w_dvi, w_rmi, w_aldi, w_aldj, w_aldz, w_aldc, w_alda, w_ite, w_cmp, w_cmj, w_cz, w_cnot, w_cand, w_cor, w_nil, w_cons, w_cvi, w_csta, w_cvt, w_cvv, w_csv, w_cpy, w_seq, w_sbr, w_sbn, w_brk, w_ifs, w_ifx, w_ife, w_wk, w_rets, w_rtv, w_thr, w_asi, w_asj, w_asa, w_inc, w_exs, w_asti, w_astj, w_astz, w_astc, w_aopadd, w_aopsub, w_sw, if_true, if_false, ↓reduceIte, hdl_c, S9_1, S9_m, bud9, live9, inb9, wrn, wr9_14, wr9_15, wr9_16, wr9_17, tq9_14, tq9_15, tq9_16, tq9_17, tq_0, tq_1, tq_3, upr_rl, rl_0, rl_1, rl_2, rl_3, rl_4, rl_5, rl_6, rl_7, rl_8, rl_9, rl_10, rl_11, rl_12, rl_13, sp_0, sp_1, sp_2, sp_3, sp_4, sp_5, sp_6, sp_7, sp_8, sp_9, sp_10, sp_11, sp_12, sp_13, se_0, se_1, se_2, se_3, se_4, se_5, se_6, se_7, se_8, se_9, se_10, se_11, se_12, se_13, sem_0, sem_1, sem_2, sem_3, sem_4, sem_5, List.getD_cons_zero, List.getD_cons_succ, Bool.false_eq_true, wrn3, wrn1, cpmS, cpok9, upm_app, Int.reduceEq, and_self, and_true, true_and, and_false, false_and, if_true, if_false, ↓reduceIte, Int.reduceNe, ne_eq, not_false_eq_true, not_true_eq_false]
  exact hq
set_option maxHeartbeats 4000000 in
theorem l_62 {d : Nat} {e : Int} {m : Mem} {Q : Int → Sto → Prop} {a b : Int} (hH : 0 ≤ m 8 3 ∧ m 8 3 ≤ 5) (hP : 0 ≤ m 8 2 ∧ m 8 2 ≤ 5) (c0 : ¬ (0 ≤ a ∧ a < m 8 3) → Q (-1) (S9 e m)) (c1 : (0 ≤ a ∧ a < m 8 3) → m 23 a ≠ -1 → Q (-2) (S9 e m)) (c2 : (0 ≤ a ∧ a < m 8 3) → m 23 a = -1 → ¬ (0 ≤ b ∧ b < m 8 2 ∧ m 17 b = m 19 a) → Q (-3) (S9 e m)) (c3 : (0 ≤ a ∧ a < m 8 3) → m 23 a = -1 → (0 ≤ b ∧ b < m 8 2 ∧ m 17 b = m 19 a) → Q (m 16 b) (S9 e (upm (upm (upm m 17 b (-1)) 18 b a) 23 a b))) : Cl (d + 2) 62 [26, a, b] Q (S9 e m) := by
  simp only [cl_62, runB, B62, ma_62, rho_200, wf_7_27, wf_7_31, wf_7_80, wf_7_86, wf_7_89, wf_7_92, wf_7_95, wc_52, wc_63, cl_63, B63, ma_63, rho_20, wf_4_40, cl_52, B52, ma_52, wf_4_37, w_cst, w_ldi, w_ldj, w_lda, w_ljk, w_ldk, w_ldw, w_ldk2, w_ldt, w_ldtw, w_neg, w_cvb, w_cvs, w_cvc, w_cvj, w_add, w_sub, w_mul, w_ban, w_bor, w_bxo, w_shl, w_shr, w_ush, w_dvi, w_rmi, w_aldi, w_aldj, w_aldz, w_aldc, w_alda, w_ite, w_cmp, w_cmj, w_cz, w_cnot, w_cand, w_cor, w_nil, w_cons, w_cvi, w_csta, w_cvt, w_cvv, w_csv, w_cpy, w_seq, w_sbr, w_sbn, w_brk, w_ifs, w_ifx, w_ife, w_wk, w_rets, w_rtv, w_thr, w_asi, w_asj, w_asa, w_inc, w_exs, w_asti, w_astj, w_astz, w_astc, w_aopadd, w_aopsub, w_sw, if_true, if_false, ↓reduceIte, hdl_c, S9_1, S9_m, bud9, live9, inb9, wrn, wr9_14, wr9_15, wr9_16, wr9_17, tq9_14, tq9_15, tq9_16, tq9_17, tq_0, tq_1, tq_3, upr_rl, rl_0, rl_1, rl_2, rl_3, rl_4, rl_5, rl_6, rl_7, rl_8, rl_9, rl_10, rl_11, rl_12, rl_13, sp_0, sp_1, sp_2, sp_3, sp_4, sp_5, sp_6, sp_7, sp_8, sp_9, sp_10, sp_11, sp_12, sp_13, se_0, se_1, se_2, se_3, se_4, se_5, se_6, se_7, se_8, se_9, se_10, se_11, se_12, se_13, sem_0, sem_1, sem_2, sem_3, sem_4, sem_5, kc_8, sr_8_4, sr_8_9, sr_8_7, sr_8_6, sr_8_10, kl9_8, sr_8_5, kl9_9, kc_9, sr_15_7, sr_15_9, kl9_15, sr_15_5, sr_15_2, sr_15_4, sr_15_1, sr_15_6, kc_15, sr_15_8, sr_15_0, kl9_16, kc_16, kl9_17, kc_17, kc_18, kl9_18, kc_19, kl9_19, kl9_20, kc_20, kc_21, kl9_21, kl9_22, kc_22, kc_23, kl9_23, kc_24, kl9_24, sr_26_12, kl9_26, sr_26_1, kc_26, sr_26_0, sr_26_10, sr_26_11, sr_26_7, sr_26_2, sr_26_3, List.getD_cons_zero, List.getD_cons_succ, Bool.false_eq_true, wrn3, wrn1, cpmS, cpok9, upm_app, Int.reduceEq, and_self, and_true, true_and, and_false, false_and, if_true, if_false, ↓reduceIte, Int.reduceNe, ne_eq, not_false_eq_true, not_true_eq_false]
  repeat' (first
    | (with_reducible exact True.intro)
    | (with_reducible exact False.elim)
    | omega
    | (with_reducible rfl)
    | (with_reducible contradiction)
    | (with_reducible refine And.intro ?_ ?_)
    | intro _
    | ((with_reducible refine c0 ?_) <;> (first | omega | assumption | (unfold w32; omega) | (unfold w32 at *; omega) | (simp only [not_and_or]; omega)))
    | ((with_reducible refine c1 ?_ ?_) <;> (first | omega | assumption | (unfold w32; omega) | (unfold w32 at *; omega) | (simp only [not_and_or]; omega)))
    | ((with_reducible refine c2 ?_ ?_ ?_) <;> (first | omega | assumption | (unfold w32; omega) | (unfold w32 at *; omega) | (simp only [not_and_or]; omega)))
    | ((with_reducible refine c3 ?_ ?_ ?_) <;> (first | omega | assumption | (unfold w32; omega) | (unfold w32 at *; omega) | (simp only [not_and_or]; omega)))
    | (unfold w32; omega)
    | (simp (disch := omega) only [w32_eq]; omega)
    | (with_reducible show (_ : Int) ≤ _; simp [upm] <;> (first | omega | (unfold w32; omega)))
    | (with_reducible show (_ : Int) < _; simp [upm] <;> (first | omega | (unfold w32; omega))))

set_option maxHeartbeats 4000000 in
theorem l_66 {d : Nat} {e : Int} {m : Mem} {Q : Int → Sto → Prop} {a : Int} (hH : 0 ≤ m 8 3 ∧ m 8 3 ≤ 5) (hP : 0 ≤ m 8 2 ∧ m 8 2 ≤ 5) (hL : 0 ≤ m 8 0 ∧ m 8 0 ≤ 10) (c0 : ¬ (0 ≤ a ∧ a < m 8 3) → Q (-1) (S9 e m)) (c1 : (0 ≤ a ∧ a < m 8 3) → ¬ (0 ≤ m 23 a ∧ m 23 a < m 8 2) → Q (-2) (S9 e m)) (c2 : (0 ≤ a ∧ a < m 8 3) → (0 ≤ m 23 a ∧ m 23 a < m 8 2) → ¬ (0 ≤ m 19 a ∧ m 19 a < m 8 0 ∧ m 9 (m 19 a) ≠ 0) → Q (-3) (S9 e m)) (c3 : (0 ≤ a ∧ a < m 8 3) → (0 ≤ m 23 a ∧ m 23 a < m 8 2) → (0 ≤ m 19 a ∧ m 19 a < m 8 0 ∧ m 9 (m 19 a) ≠ 0) → Q (m 23 a) (S9 e (upm (upm (upm m 23 a (-1)) 18 (m 23 a) (-1)) 17 (m 23 a) (m 19 a)))) : Cl (d + 2) 66 [26, a] Q (S9 e m) := by
  simp only [cl_66, runB, B66, ma_66, rho_20, wf_7_101, wf_7_27, wf_7_31, wf_7_80, wf_7_86, wf_7_89, wf_7_92, wc_33, wc_52, wc_63, cl_63, B63, ma_63, wf_4_40, cl_52, B52, ma_52, wf_4_37, cl_33, B33, ma_33, wf_4_30, w_cst, w_ldi, w_ldj, w_lda, w_ljk, w_ldk, w_ldw, w_ldk2, w_ldt, w_ldtw, w_neg, w_cvb, w_cvs, w_cvc, w_cvj, w_add, w_sub, w_mul, w_ban, w_bor, w_bxo, w_shl, w_shr, w_ush, w_dvi, w_rmi, w_aldi, w_aldj, w_aldz, w_aldc, w_alda, w_ite, w_cmp, w_cmj, w_cz, w_cnot, w_cand, w_cor, w_nil, w_cons, w_cvi, w_csta, w_cvt, w_cvv, w_csv, w_cpy, w_seq, w_sbr, w_sbn, w_brk, w_ifs, w_ifx, w_ife, w_wk, w_rets, w_rtv, w_thr, w_asi, w_asj, w_asa, w_inc, w_exs, w_asti, w_astj, w_astz, w_astc, w_aopadd, w_aopsub, w_sw, if_true, if_false, ↓reduceIte, hdl_c, S9_1, S9_m, bud9, live9, inb9, wrn, wr9_14, wr9_15, wr9_16, wr9_17, tq9_14, tq9_15, tq9_16, tq9_17, tq_0, tq_1, tq_3, upr_rl, rl_0, rl_1, rl_2, rl_3, rl_4, rl_5, rl_6, rl_7, rl_8, rl_9, rl_10, rl_11, rl_12, rl_13, sp_0, sp_1, sp_2, sp_3, sp_4, sp_5, sp_6, sp_7, sp_8, sp_9, sp_10, sp_11, sp_12, sp_13, se_0, se_1, se_2, se_3, se_4, se_5, se_6, se_7, se_8, se_9, se_10, se_11, se_12, se_13, sem_0, sem_1, sem_2, sem_3, sem_4, sem_5, kc_8, sr_8_4, sr_8_9, sr_8_7, sr_8_6, sr_8_10, kl9_8, sr_8_5, kl9_9, kc_9, sr_15_7, sr_15_9, kl9_15, sr_15_5, sr_15_2, sr_15_4, sr_15_1, sr_15_6, kc_15, sr_15_8, sr_15_0, kl9_16, kc_16, kl9_17, kc_17, kc_18, kl9_18, kc_19, kl9_19, kl9_20, kc_20, kc_21, kl9_21, kl9_22, kc_22, kc_23, kl9_23, kc_24, kl9_24, sr_26_12, kl9_26, sr_26_1, kc_26, sr_26_0, sr_26_10, sr_26_11, sr_26_7, sr_26_2, sr_26_3, List.getD_cons_zero, List.getD_cons_succ, Bool.false_eq_true, wrn3, wrn1, cpmS, cpok9, upm_app, Int.reduceEq, and_self, and_true, true_and, and_false, false_and, if_true, if_false, ↓reduceIte, Int.reduceNe, ne_eq, not_false_eq_true, not_true_eq_false]
  repeat' (first
    | (with_reducible exact True.intro)
    | (with_reducible exact False.elim)
    | omega
    | (with_reducible rfl)
    | (with_reducible contradiction)
    | (with_reducible refine And.intro ?_ ?_)
    | intro _
    | ((with_reducible refine c0 ?_) <;> (first | omega | assumption | (unfold w32; omega) | (unfold w32 at *; omega) | (simp only [not_and_or]; omega)))
    | ((with_reducible refine c1 ?_ ?_) <;> (first | omega | assumption | (unfold w32; omega) | (unfold w32 at *; omega) | (simp only [not_and_or]; omega)))
    | ((with_reducible refine c2 ?_ ?_ ?_) <;> (first | omega | assumption | (unfold w32; omega) | (unfold w32 at *; omega) | (simp only [not_and_or]; omega)))
    | ((with_reducible refine c3 ?_ ?_ ?_) <;> (first | omega | assumption | (unfold w32; omega) | (unfold w32 at *; omega) | (simp only [not_and_or]; omega)))
    | (unfold w32; omega)
    | (simp (disch := omega) only [w32_eq]; omega)
    | (with_reducible show (_ : Int) ≤ _; simp [upm] <;> (first | omega | (unfold w32; omega)))
    | (with_reducible show (_ : Int) < _; simp [upm] <;> (first | omega | (unfold w32; omega))))

set_option maxHeartbeats 4000000 in
theorem l_88 {d : Nat} {e : Int} {m : Mem} {Q : Int → Sto → Prop} {a : Int} (hH : 0 ≤ m 8 3 ∧ m 8 3 ≤ 5) (hP : 0 ≤ m 8 2 ∧ m 8 2 ≤ 5) (hh : ∀ j, 0 ≤ m 21 j ∧ m 21 j ≤ 1) (c0 : ¬ (0 ≤ a ∧ a < m 8 3) → Q (-1) (S9 e m)) (c1 : (0 ≤ a ∧ a < m 8 3) → Q (1 - m 21 a) (S9 e (upm m 21 a (1 - m 21 a)))) : Cl (d + 2) 88 [26, a] Q (S9 e m) := by
  have ew : w32 (1 - m 21 a) = 1 - m 21 a := by
    have := hh a
    unfold w32; omega
  simp only [cl_88, runB, B88, ma_88, rho_20, wf_7_127, wf_7_27, wf_7_31, wc_63, cl_63, B63, ma_63, wf_4_40, w_cst, w_ldi, w_ldj, w_lda, w_ljk, w_ldk, w_ldw, w_ldk2, w_ldt, w_ldtw, w_neg, w_cvb, w_cvs, w_cvc, w_cvj, w_add, w_sub, w_mul, w_ban, w_bor, w_bxo, w_shl, w_shr, w_ush, w_dvi, w_rmi, w_aldi, w_aldj, w_aldz, w_aldc, w_alda, w_ite, w_cmp, w_cmj, w_cz, w_cnot, w_cand, w_cor, w_nil, w_cons, w_cvi, w_csta, w_cvt, w_cvv, w_csv, w_cpy, w_seq, w_sbr, w_sbn, w_brk, w_ifs, w_ifx, w_ife, w_wk, w_rets, w_rtv, w_thr, w_asi, w_asj, w_asa, w_inc, w_exs, w_asti, w_astj, w_astz, w_astc, w_aopadd, w_aopsub, w_sw, if_true, if_false, ↓reduceIte, hdl_c, S9_1, S9_m, bud9, live9, inb9, wrn, wr9_14, wr9_15, wr9_16, wr9_17, tq9_14, tq9_15, tq9_16, tq9_17, tq_0, tq_1, tq_3, upr_rl, rl_0, rl_1, rl_2, rl_3, rl_4, rl_5, rl_6, rl_7, rl_8, rl_9, rl_10, rl_11, rl_12, rl_13, sp_0, sp_1, sp_2, sp_3, sp_4, sp_5, sp_6, sp_7, sp_8, sp_9, sp_10, sp_11, sp_12, sp_13, se_0, se_1, se_2, se_3, se_4, se_5, se_6, se_7, se_8, se_9, se_10, se_11, se_12, se_13, sem_0, sem_1, sem_2, sem_3, sem_4, sem_5, kc_8, sr_8_4, sr_8_9, sr_8_7, sr_8_6, sr_8_10, kl9_8, sr_8_5, kl9_9, kc_9, sr_15_7, sr_15_9, kl9_15, sr_15_5, sr_15_2, sr_15_4, sr_15_1, sr_15_6, kc_15, sr_15_8, sr_15_0, kl9_16, kc_16, kl9_17, kc_17, kc_18, kl9_18, kc_19, kl9_19, kl9_20, kc_20, kc_21, kl9_21, kl9_22, kc_22, kc_23, kl9_23, kc_24, kl9_24, sr_26_12, kl9_26, sr_26_1, kc_26, sr_26_0, sr_26_10, sr_26_11, sr_26_7, sr_26_2, sr_26_3, List.getD_cons_zero, List.getD_cons_succ, Bool.false_eq_true, wrn3, wrn1, cpmS, cpok9, upm_app, Int.reduceEq, and_self, and_true, true_and, and_false, false_and, if_true, if_false, ↓reduceIte, Int.reduceNe, ne_eq, not_false_eq_true, not_true_eq_false, ew]
  repeat' (first
    | (with_reducible exact True.intro)
    | (with_reducible exact False.elim)
    | omega
    | (with_reducible rfl)
    | (with_reducible contradiction)
    | (with_reducible refine And.intro ?_ ?_)
    | intro _
    | ((with_reducible refine c0 ?_) <;> (first | omega | assumption | (unfold w32; omega) | (unfold w32 at *; omega) | (simp only [not_and_or]; omega)))
    | ((with_reducible refine c1 ?_) <;> (first | omega | assumption | (unfold w32; omega) | (unfold w32 at *; omega) | (simp only [not_and_or]; omega)))
    | (unfold w32; omega)
    | (simp (disch := omega) only [w32_eq]; omega)
    | (with_reducible show (_ : Int) ≤ _; simp [upm] <;> (first | omega | (unfold w32; omega)))
    | (with_reducible show (_ : Int) < _; simp [upm] <;> (first | omega | (unfold w32; omega))))

set_option maxHeartbeats 4000000 in
theorem l_90 {d : Nat} {e : Int} {m : Mem} {Q : Int → Sto → Prop} {a b : Int} (hH : 0 ≤ m 8 3 ∧ m 8 3 ≤ 5) (hP : 0 ≤ m 8 2 ∧ m 8 2 ≤ 5) (c0 : ¬ ((0 ≤ a ∧ a < m 8 3) ∧ (0 ≤ b ∧ b < m 8 3) ∧ a ≠ b) → Q (-1) (S9 e m)) (c1 : ((0 ≤ a ∧ a < m 8 3) ∧ (0 ≤ b ∧ b < m 8 3) ∧ a ≠ b) → ¬ (0 ≤ m 23 a ∧ m 23 a < m 8 2 ∧ m 23 b = -1) → Q (-2) (S9 e m)) (c2 : ((0 ≤ a ∧ a < m 8 3) ∧ (0 ≤ b ∧ b < m 8 3) ∧ a ≠ b) → (0 ≤ m 23 a ∧ m 23 a < m 8 2 ∧ m 23 b = -1) → m 19 a ≠ m 19 b → Q (-3) (S9 e m)) (c3 : ((0 ≤ a ∧ a < m 8 3) ∧ (0 ≤ b ∧ b < m 8 3) ∧ a ≠ b) → (0 ≤ m 23 a ∧ m 23 a < m 8 2 ∧ m 23 b = -1) → m 19 a = m 19 b → Q (m 23 a) (S9 e (upm (upm (upm m 23 a (-1)) 23 b (m 23 a)) 18 (m 23 a) b))) : Cl (d + 2) 90 [26, a, b] Q (S9 e m) := by
  simp only [cl_90, runB, B90, ma_90, rho_200, wf_7_27, wf_7_31, wf_7_80, wf_7_89, wf_7_92, wc_52, wc_63, cl_63, B63, ma_63, rho_20, wf_4_40, cl_52, B52, ma_52, wf_4_37, w_cst, w_ldi, w_ldj, w_lda, w_ljk, w_ldk, w_ldw, w_ldk2, w_ldt, w_ldtw, w_neg, w_cvb, w_cvs, w_cvc, w_cvj, w_add, w_sub, w_mul, w_ban, w_bor, w_bxo, w_shl, w_shr, w_ush, w_dvi, w_rmi, w_aldi, w_aldj, w_aldz, w_aldc, w_alda, w_ite, w_cmp, w_cmj, w_cz, w_cnot, w_cand, w_cor, w_nil, w_cons, w_cvi, w_csta, w_cvt, w_cvv, w_csv, w_cpy, w_seq, w_sbr, w_sbn, w_brk, w_ifs, w_ifx, w_ife, w_wk, w_rets, w_rtv, w_thr, w_asi, w_asj, w_asa, w_inc, w_exs, w_asti, w_astj, w_astz, w_astc, w_aopadd, w_aopsub, w_sw, if_true, if_false, ↓reduceIte, hdl_c, S9_1, S9_m, bud9, live9, inb9, wrn, wr9_14, wr9_15, wr9_16, wr9_17, tq9_14, tq9_15, tq9_16, tq9_17, tq_0, tq_1, tq_3, upr_rl, rl_0, rl_1, rl_2, rl_3, rl_4, rl_5, rl_6, rl_7, rl_8, rl_9, rl_10, rl_11, rl_12, rl_13, sp_0, sp_1, sp_2, sp_3, sp_4, sp_5, sp_6, sp_7, sp_8, sp_9, sp_10, sp_11, sp_12, sp_13, se_0, se_1, se_2, se_3, se_4, se_5, se_6, se_7, se_8, se_9, se_10, se_11, se_12, se_13, sem_0, sem_1, sem_2, sem_3, sem_4, sem_5, kc_8, sr_8_4, sr_8_9, sr_8_7, sr_8_6, sr_8_10, kl9_8, sr_8_5, kl9_9, kc_9, sr_15_7, sr_15_9, kl9_15, sr_15_5, sr_15_2, sr_15_4, sr_15_1, sr_15_6, kc_15, sr_15_8, sr_15_0, kl9_16, kc_16, kl9_17, kc_17, kc_18, kl9_18, kc_19, kl9_19, kl9_20, kc_20, kc_21, kl9_21, kl9_22, kc_22, kc_23, kl9_23, kc_24, kl9_24, sr_26_12, kl9_26, sr_26_1, kc_26, sr_26_0, sr_26_10, sr_26_11, sr_26_7, sr_26_2, sr_26_3, List.getD_cons_zero, List.getD_cons_succ, Bool.false_eq_true, wrn3, wrn1, cpmS, cpok9, upm_app, Int.reduceEq, and_self, and_true, true_and, and_false, false_and, if_true, if_false, ↓reduceIte, Int.reduceNe, ne_eq, not_false_eq_true, not_true_eq_false]
  repeat' (first
    | (with_reducible exact True.intro)
    | (with_reducible exact False.elim)
    | omega
    | (with_reducible rfl)
    | (with_reducible contradiction)
    | (with_reducible refine And.intro ?_ ?_)
    | intro _
    | ((with_reducible refine c0 ?_) <;> (first | omega | assumption | (unfold w32; omega) | (unfold w32 at *; omega) | (simp only [not_and_or]; omega)))
    | ((with_reducible refine c1 ?_ ?_) <;> (first | omega | assumption | (unfold w32; omega) | (unfold w32 at *; omega) | (simp only [not_and_or]; omega)))
    | ((with_reducible refine c2 ?_ ?_ ?_) <;> (first | omega | assumption | (unfold w32; omega) | (unfold w32 at *; omega) | (simp only [not_and_or]; omega)))
    | ((with_reducible refine c3 ?_ ?_ ?_) <;> (first | omega | assumption | (unfold w32; omega) | (unfold w32 at *; omega) | (simp only [not_and_or]; omega)))
    | (unfold w32; omega)
    | (simp (disch := omega) only [w32_eq]; omega)
    | (with_reducible show (_ : Int) ≤ _; simp [upm] <;> (first | omega | (unfold w32; omega)))
    | (with_reducible show (_ : Int) < _; simp [upm] <;> (first | omega | (unfold w32; omega))))

set_option maxHeartbeats 4000000 in
theorem l_92 {d : Nat} {e : Int} {m : Mem} {Q : Int → Sto → Prop} {a b : Int} (hH : 0 ≤ m 8 3 ∧ m 8 3 ≤ 5) (hP : 0 ≤ m 8 2 ∧ m 8 2 ≤ 5) (c0 : ¬ ((0 ≤ a ∧ a < m 8 3) ∧ 0 ≤ b ∧ b ≤ 9) → Q (-1) (S9 e m)) (c1 : ((0 ≤ a ∧ a < m 8 3) ∧ 0 ≤ b ∧ b ≤ 9) → Q (m 22 a) (S9 e (upm m 22 a b))) : Cl (d + 2) 92 [26, a, b] Q (S9 e m) := by
  simp only [cl_92, runB, B92, ma_92, rho_200, wf_7_175, wf_7_27, wf_7_31, wc_63, cl_63, B63, ma_63, rho_20, wf_4_40, w_cst, w_ldi, w_ldj, w_lda, w_ljk, w_ldk, w_ldw, w_ldk2, w_ldt, w_ldtw, w_neg, w_cvb, w_cvs, w_cvc, w_cvj, w_add, w_sub, w_mul, w_ban, w_bor, w_bxo, w_shl, w_shr, w_ush, w_dvi, w_rmi, w_aldi, w_aldj, w_aldz, w_aldc, w_alda, w_ite, w_cmp, w_cmj, w_cz, w_cnot, w_cand, w_cor, w_nil, w_cons, w_cvi, w_csta, w_cvt, w_cvv, w_csv, w_cpy, w_seq, w_sbr, w_sbn, w_brk, w_ifs, w_ifx, w_ife, w_wk, w_rets, w_rtv, w_thr, w_asi, w_asj, w_asa, w_inc, w_exs, w_asti, w_astj, w_astz, w_astc, w_aopadd, w_aopsub, w_sw, if_true, if_false, ↓reduceIte, hdl_c, S9_1, S9_m, bud9, live9, inb9, wrn, wr9_14, wr9_15, wr9_16, wr9_17, tq9_14, tq9_15, tq9_16, tq9_17, tq_0, tq_1, tq_3, upr_rl, rl_0, rl_1, rl_2, rl_3, rl_4, rl_5, rl_6, rl_7, rl_8, rl_9, rl_10, rl_11, rl_12, rl_13, sp_0, sp_1, sp_2, sp_3, sp_4, sp_5, sp_6, sp_7, sp_8, sp_9, sp_10, sp_11, sp_12, sp_13, se_0, se_1, se_2, se_3, se_4, se_5, se_6, se_7, se_8, se_9, se_10, se_11, se_12, se_13, sem_0, sem_1, sem_2, sem_3, sem_4, sem_5, kc_8, sr_8_4, sr_8_9, sr_8_7, sr_8_6, sr_8_10, kl9_8, sr_8_5, kl9_9, kc_9, sr_15_7, sr_15_9, kl9_15, sr_15_5, sr_15_2, sr_15_4, sr_15_1, sr_15_6, kc_15, sr_15_8, sr_15_0, kl9_16, kc_16, kl9_17, kc_17, kc_18, kl9_18, kc_19, kl9_19, kl9_20, kc_20, kc_21, kl9_21, kl9_22, kc_22, kc_23, kl9_23, kc_24, kl9_24, sr_26_12, kl9_26, sr_26_1, kc_26, sr_26_0, sr_26_10, sr_26_11, sr_26_7, sr_26_2, sr_26_3, List.getD_cons_zero, List.getD_cons_succ, Bool.false_eq_true, wrn3, wrn1, cpmS, cpok9, upm_app, Int.reduceEq, and_self, and_true, true_and, and_false, false_and, if_true, if_false, ↓reduceIte, Int.reduceNe, ne_eq, not_false_eq_true, not_true_eq_false]
  repeat' (first
    | (with_reducible exact True.intro)
    | (with_reducible exact False.elim)
    | omega
    | (with_reducible rfl)
    | (with_reducible contradiction)
    | (with_reducible refine And.intro ?_ ?_)
    | intro _
    | ((with_reducible refine c0 ?_) <;> (first | omega | assumption | (unfold w32; omega) | (unfold w32 at *; omega) | (simp only [not_and_or]; omega)))
    | ((with_reducible refine c1 ?_) <;> (first | omega | assumption | (unfold w32; omega) | (unfold w32 at *; omega) | (simp only [not_and_or]; omega)))
    | (unfold w32; omega)
    | (simp (disch := omega) only [w32_eq]; omega)
    | (with_reducible show (_ : Int) ≤ _; simp [upm] <;> (first | omega | (unfold w32; omega)))
    | (with_reducible show (_ : Int) < _; simp [upm] <;> (first | omega | (unfold w32; omega))))

set_option maxHeartbeats 4000000 in
theorem l_94 {d : Nat} {e : Int} {m : Mem} {Q : Int → Sto → Prop} {a b : Int} (hw : 0 ≤ m 8 1 ∧ m 8 1 ≤ 14) (c0 : ¬ ((0 ≤ a ∧ a < m 8 1) ∧ iand (ishr (m 8 8) a) 1 ≠ 0 ∧ 0 ≤ b ∧ b ≤ 1) → Q (-1) (S9 e m)) (c1 : ((0 ≤ a ∧ a < m 8 1) ∧ iand (ishr (m 8 8) a) 1 ≠ 0 ∧ 0 ≤ b ∧ b ≤ 1) → Q (bcf (ior (iand (m 15 10) (ixor (ishl 1 a) (-1))) (ishl b a))) (S9 e (upm m 15 10 (ior (iand (m 15 10) (ixor (ishl 1 a) (-1))) (ishl b a))))) : Cl (d + 3) 94 [26, a, b] Q (S9 e m) := by
  simp only [cl_94, runB, B94, ma_94, rho_200, wf_7_107, wf_7_27, wf_7_31, wpf_7_107, wc_70, wc_72, wc_95, cl_70, B70, ma_70, rho_20, wf_4_34, cl_72, B72, ma_72, wf_4_43, w_cst, w_ldi, w_ldj, w_lda, w_ljk, w_ldk, w_ldw, w_ldk2, w_ldt, w_ldtw, w_neg, w_cvb, w_cvs, w_cvc, w_cvj, w_add, w_sub, w_mul, w_ban, w_bor, w_bxo, w_shl, w_shr, w_ush, w_dvi, w_rmi, w_aldi, w_aldj, w_aldz, w_aldc, w_alda, w_ite, w_cmp, w_cmj, w_cz, w_cnot, w_cand, w_cor, w_nil, w_cons, w_cvi, w_csta, w_cvt, w_cvv, w_csv, w_cpy, w_seq, w_sbr, w_sbn, w_brk, w_ifs, w_ifx, w_ife, w_wk, w_rets, w_rtv, w_thr, w_asi, w_asj, w_asa, w_inc, w_exs, w_asti, w_astj, w_astz, w_astc, w_aopadd, w_aopsub, w_sw, if_true, if_false, ↓reduceIte, hdl_c, S9_1, S9_m, bud9, live9, inb9, wrn, wr9_14, wr9_15, wr9_16, wr9_17, tq9_14, tq9_15, tq9_16, tq9_17, tq_0, tq_1, tq_3, upr_rl, rl_0, rl_1, rl_2, rl_3, rl_4, rl_5, rl_6, rl_7, rl_8, rl_9, rl_10, rl_11, rl_12, rl_13, sp_0, sp_1, sp_2, sp_3, sp_4, sp_5, sp_6, sp_7, sp_8, sp_9, sp_10, sp_11, sp_12, sp_13, se_0, se_1, se_2, se_3, se_4, se_5, se_6, se_7, se_8, se_9, se_10, se_11, se_12, se_13, sem_0, sem_1, sem_2, sem_3, sem_4, sem_5, kc_8, sr_8_4, sr_8_9, sr_8_7, sr_8_6, sr_8_10, kl9_8, sr_8_5, kl9_9, kc_9, sr_15_7, sr_15_9, kl9_15, sr_15_5, sr_15_2, sr_15_4, sr_15_1, sr_15_6, kc_15, sr_15_8, sr_15_0, kl9_16, kc_16, kl9_17, kc_17, kc_18, kl9_18, kc_19, kl9_19, kl9_20, kc_20, kc_21, kl9_21, kl9_22, kc_22, kc_23, kl9_23, kc_24, kl9_24, sr_26_12, kl9_26, sr_26_1, kc_26, sr_26_0, sr_26_10, sr_26_11, sr_26_7, sr_26_2, sr_26_3, List.getD_cons_zero, List.getD_cons_succ, Bool.false_eq_true, wrn3, wrn1, cpmS, cpok9, upm_app, Int.reduceEq, and_self, and_true, true_and, and_false, false_and, if_true, if_false, ↓reduceIte, Int.reduceNe, ne_eq, not_false_eq_true, not_true_eq_false]
  repeat' (first
    | (with_reducible exact True.intro)
    | (with_reducible exact False.elim)
    | omega
    | (with_reducible rfl)
    | (with_reducible contradiction)
    | (with_reducible refine And.intro ?_ ?_)
    | intro _
    | ((with_reducible refine l_95 ?_); simp only [hdl_c, S9_1, S9_m, bud9, live9, inb9, wrn, wr9_14, wr9_15, wr9_16, wr9_17, tq9_14, tq9_15, tq9_16, tq9_17, tq_0, tq_1, tq_3, upr_rl, rl_0, rl_1, rl_2, rl_3, rl_4, rl_5, rl_6, rl_7, rl_8, rl_9, rl_10, rl_11, rl_12, rl_13, sp_0, sp_1, sp_2, sp_3, sp_4, sp_5, sp_6, sp_7, sp_8, sp_9, sp_10, sp_11, sp_12, sp_13, se_0, se_1, se_2, se_3, se_4, se_5, se_6, se_7, se_8, se_9, se_10, se_11, se_12, se_13, sem_0, sem_1, sem_2, sem_3, sem_4, sem_5, List.getD_cons_zero, List.getD_cons_succ, Bool.false_eq_true, wrn3, wrn1, cpmS, cpok9, if_true, if_false, ↓reduceIte, wc_70, wc_72, wc_95, cl_70, runB, B70, ma_70, rho_20, wf_4_34, cl_72, B72, ma_72, wf_4_43, w_cst, w_ldi, w_ldj, w_lda, w_ljk, w_ldk, w_ldw, w_ldk2, w_ldt, w_ldtw, w_neg, w_cvb, w_cvs, w_cvc, w_cvj, w_add, w_sub, w_mul, w_ban, w_bor, w_bxo, w_shl, w_shr, w_ush, w_dvi, w_rmi, w_aldi, w_aldj, w_aldz, w_aldc, w_alda, w_ite, w_cmp, w_cmj, w_cz, w_cnot, w_cand, w_cor, w_nil, w_cons, w_cvi, w_csta, w_cvt, w_cvv, w_csv, w_cpy, w_seq, w_sbr, w_sbn, w_brk, w_ifs, w_ifx, w_ife, w_wk, w_rets, w_rtv, w_thr, w_asi, w_asj, w_asa, w_inc, w_exs, w_asti, w_astj, w_astz, w_astc, w_aopadd, w_aopsub, w_sw, if_true, if_false, ↓reduceIte, kc_8, sr_8_4, sr_8_9, sr_8_7, sr_8_6, sr_8_10, kl9_8, sr_8_5, kl9_9, kc_9, sr_15_7, sr_15_9, kl9_15, sr_15_5, sr_15_2, sr_15_4, sr_15_1, sr_15_6, kc_15, sr_15_8, sr_15_0, kl9_16, kc_16, kl9_17, kc_17, kc_18, kl9_18, kc_19, kl9_19, kl9_20, kc_20, kc_21, kl9_21, kl9_22, kc_22, kc_23, kl9_23, kc_24, kl9_24, sr_26_12, kl9_26, sr_26_1, kc_26, sr_26_0, sr_26_10, sr_26_11, sr_26_7, sr_26_2, sr_26_3, upm_app, Int.reduceEq, and_self, and_true, true_and, and_false, false_and, if_true, if_false, ↓reduceIte, Int.reduceNe, ne_eq, not_false_eq_true, not_true_eq_false])
    | ((with_reducible refine c0 ?_) <;> (first | omega | assumption | (unfold w32; omega) | (unfold w32 at *; omega) | (simp only [not_and_or]; omega)))
    | ((with_reducible refine c1 ?_) <;> (first | omega | assumption | (unfold w32; omega) | (unfold w32 at *; omega) | (simp only [not_and_or]; omega)))
    | (unfold w32; omega)
    | (simp (disch := omega) only [w32_eq]; omega)
    | (with_reducible show (_ : Int) ≤ _; simp [upm] <;> (first | omega | (unfold w32; omega)))
    | (with_reducible show (_ : Int) < _; simp [upm] <;> (first | omega | (unfold w32; omega))))

set_option maxHeartbeats 4000000 in
theorem l_51 {d : Nat} {e : Int} {m : Mem} {Q : Int → Sto → Prop} {a b : Int} (hP : 0 ≤ m 8 2 ∧ m 8 2 ≤ 5) (c0 : ¬ ((0 ≤ a ∧ a < m 8 2) ∧ iand (ishr (m 15 3) a) 1 = 0 ∧ 0 ≤ b ∧ b ≤ 999) → Q (-1) (S9 e m)) (c1 : ((0 ≤ a ∧ a < m 8 2) ∧ iand (ishr (m 15 3) a) 1 = 0 ∧ 0 ≤ b ∧ b ≤ 999) → Q (m 16 a) (S9 e (upm m 16 a b))) : Cl (d + 2) 51 [1, a, b] Q (S9 e m) := by
  simp only [cl_51, runB, B51, ma_51, rho_200, wf_1_176, wf_1_26, wf_1_33, wc_52, wc_53, cl_52, B52, ma_52, rho_20, wf_4_37, cl_53, B53, ma_53, wf_5_45, w_cst, w_ldi, w_ldj, w_lda, w_ljk, w_ldk, w_ldw, w_ldk2, w_ldt, w_ldtw, w_neg, w_cvb, w_cvs, w_cvc, w_cvj, w_add, w_sub, w_mul, w_ban, w_bor, w_bxo, w_shl, w_shr, w_ush, w_dvi, w_rmi, w_aldi, w_aldj, w_aldz, w_aldc, w_alda, w_ite, w_cmp, w_cmj, w_cz, w_cnot, w_cand, w_cor, w_nil, w_cons, w_cvi, w_csta, w_cvt, w_cvv, w_csv, w_cpy, w_seq, w_sbr, w_sbn, w_brk, w_ifs, w_ifx, w_ife, w_wk, w_rets, w_rtv, w_thr, w_asi, w_asj, w_asa, w_inc, w_exs, w_asti, w_astj, w_astz, w_astc, w_aopadd, w_aopsub, w_sw, if_true, if_false, ↓reduceIte, hdl_c, S9_1, S9_m, bud9, live9, inb9, wrn, wr9_14, wr9_15, wr9_16, wr9_17, tq9_14, tq9_15, tq9_16, tq9_17, tq_0, tq_1, tq_3, upr_rl, rl_0, rl_1, rl_2, rl_3, rl_4, rl_5, rl_6, rl_7, rl_8, rl_9, rl_10, rl_11, rl_12, rl_13, sp_0, sp_1, sp_2, sp_3, sp_4, sp_5, sp_6, sp_7, sp_8, sp_9, sp_10, sp_11, sp_12, sp_13, se_0, se_1, se_2, se_3, se_4, se_5, se_6, se_7, se_8, se_9, se_10, se_11, se_12, se_13, sem_0, sem_1, sem_2, sem_3, sem_4, sem_5, kl9_1, sr_1_7, sr_1_9, sr_1_0, sr_1_1, sr_1_8, sr_1_10, sr_1_11, sr_1_5, sr_1_2, sr_1_4, kc_1, sr_1_6, sr_1_3, sr_1_13, kc_8, sr_8_4, sr_8_9, sr_8_7, sr_8_6, sr_8_10, kl9_8, sr_8_5, kl9_9, kc_9, sr_15_7, sr_15_9, kl9_15, sr_15_5, sr_15_2, sr_15_4, sr_15_1, sr_15_6, kc_15, sr_15_8, sr_15_0, kl9_16, kc_16, kl9_17, kc_17, kc_18, kl9_18, kc_19, kl9_19, kl9_20, kc_20, kc_21, kl9_21, kl9_22, kc_22, kc_23, kl9_23, kc_24, kl9_24, sr_26_12, kl9_26, sr_26_1, kc_26, sr_26_0, sr_26_10, sr_26_11, sr_26_7, sr_26_2, sr_26_3, List.getD_cons_zero, List.getD_cons_succ, Bool.false_eq_true, wrn3, wrn1, cpmS, cpok9, upm_app, Int.reduceEq, and_self, and_true, true_and, and_false, false_and, if_true, if_false, ↓reduceIte, Int.reduceNe, ne_eq, not_false_eq_true, not_true_eq_false]
  repeat' (first
    | (with_reducible exact True.intro)
    | (with_reducible exact False.elim)
    | omega
    | (with_reducible rfl)
    | (with_reducible contradiction)
    | (with_reducible refine And.intro ?_ ?_)
    | intro _
    | ((with_reducible refine c0 ?_) <;> (first | omega | assumption | (unfold w32; omega) | (unfold w32 at *; omega) | (simp only [not_and_or]; omega)))
    | ((with_reducible refine c1 ?_) <;> (first | omega | assumption | (unfold w32; omega) | (unfold w32 at *; omega) | (simp only [not_and_or]; omega)))
    | (unfold w32; omega)
    | (simp (disch := omega) only [w32_eq]; omega)
    | (with_reducible show (_ : Int) ≤ _; simp [upm] <;> (first | omega | (unfold w32; omega)))
    | (with_reducible show (_ : Int) < _; simp [upm] <;> (first | omega | (unfold w32; omega))))

theorem FA_rf (m : Mem) : FA m m := fun _ _ _ => rfl
theorem FA_up {m m' : Mem} {a j v : Int} (h : FA m m') (ha : (15 ≤ a ∧ a ≤ 25) ∨ a = 7 ∨ (a = 26 ∧ 4 ≤ j ∧ j ≤ 6)) : FA m (upm m' a j v) := fun x y q => by
  rw [upm_app, if_neg (by omega)]; exact h x y q
theorem HD_take {L P H : Int} {x : AS} {h : Int → Int} {a b : Int} (hd : HD P H x h) (iv : IV L P H x) (ha : per H a) (hb : per P b) (h8 : x 8 a = -1) (h1 : x 1 b = x 3 a) {x' : AS} {h' : Int → Int} (hx : ∀ j, x' 8 j = if j = a then b else x 8 j) (hh : ∀ j, h' j = if j = b then a else h j) : HD P H x' h' := fun q q0 q1 => by
  obtain ⟨c, d⟩ := hd q q0 q1
  have i3 := (iv.1 a ha.1 ha.2).2.1
  rw [hh]
  by_cases z : q = b
  · rw [if_pos z]
    refine ⟨⟨by omega, ha.2⟩, fun p p0 p1 => ?_⟩
    rw [hx]
    by_cases y : p = a
    · rw [if_pos y]; omega
    · rw [if_neg y]
      constructor
      · intro w
        have := ((iv.1 p p0 p1).2.2.2.1 (by omega)).1
        rw [w, z, h1] at this; omega
      · intro w; omega
  · rw [if_neg z]
    refine ⟨c, fun p p0 p1 => ?_⟩
    rw [hx]
    by_cases y : p = a
    · subst y
      rw [if_pos rfl]
      have := d p p0 p1
      constructor
      · intro w; omega
      · intro w; have := this.2 w; omega
    · rw [if_neg y]; exact d p p0 p1
theorem HD_give {L P H : Int} {x : AS} {h : Int → Int} {a b : Int} (hd : HD P H x h) (iv : IV L P H x) (ha : per H a) (hb : per H b) (hab : a ≠ b) (h8 : 0 ≤ x 8 a) (hb8 : x 8 b = -1) {x' : AS} {h' : Int → Int} (hx : ∀ j, x' 8 j = if j = b then x 8 a else if j = a then -1 else x 8 j) (hh : ∀ j, h' j = if j = x 8 a then b else h j) : HD P H x' h' := fun q q0 q1 => by
  obtain ⟨c, d⟩ := hd q q0 q1
  rw [hh]
  by_cases z : q = x 8 a
  · rw [if_pos z]
    refine ⟨⟨by have := hb.1; omega, hb.2⟩, fun p p0 p1 => ?_⟩
    rw [hx]
    by_cases y : p = b
    · rw [if_pos y]; omega
    · rw [if_neg y]
      by_cases w : p = a
      · rw [if_pos w]; omega
      · rw [if_neg w]
        constructor
        · intro v; exact absurd (iv.2.1 p a p0 p1 ha.1 ha.2 (v.trans z) (by omega)) w
        · intro v; omega
  · rw [if_neg z]
    refine ⟨c, fun p p0 p1 => ?_⟩
    rw [hx]
    by_cases y : p = b
    · subst y
      rw [if_pos rfl]
      have := d p p0 p1
      constructor
      · intro w; omega
      · intro w; have := this.2 w; omega
    · rw [if_neg y]
      by_cases w : p = a
      · subst w
        rw [if_pos rfl]
        have := d p p0 p1
        constructor
        · intro v; omega
        · intro v; have := this.2 v; omega
      · rw [if_neg w]; exact d p p0 p1
theorem f_62 {d : Nat} {tc e : Int} {g : Fg} {m : Mem} {Q : Int → Sto → Prop} {L : Int} {a b : Int} (hJ : JC 3 g tc m) (hI : IV L (m 8 2) (m 8 3) (asC m 15)) (hD : HD (m 8 2) (m 8 3) (asC m 15) (m 18)) (hq : ∀ v m', JC 3 g tc m' → FA m m' → HD (m 8 2) (m 8 3) (asC m' 15) (m' 18) → (v, asC m' 15) = aTake (m 8 2) (m 8 3) (asC m 15) a b → Q v (S9 e m')) : Cl (d + 2) 62 [26, a, b] Q (S9 e m) := by
  have hs := JC_s hJ
  have hH : 0 ≤ m 8 3 ∧ m 8 3 ≤ 5 := by omega
  have hP : 0 ≤ m 8 2 ∧ m 8 2 ≤ 5 := by omega
  refine l_62 hH hP (fun z => hq _ _ hJ (FA_rf m) hD ?_) (fun z w => hq _ _ hJ (FA_rf m) hD ?_) (fun z w y => hq _ _ hJ (FA_rf m) hD ?_) (fun z w y => ?_)
  · unfold aTake; rw [if_pos z]
  · unfold aTake; rw [if_neg (not_not_intro z), if_pos (by rw [c_8 m (by omega)]; exact w)]
  · unfold aTake; rw [if_neg (not_not_intro z), if_neg (by rw [c_8 m (by omega)]; exact not_not_intro w)]
    rw [if_pos (fun q => y ⟨q.1.1, q.1.2, by obtain ⟨⟨q0, q1⟩, q2⟩ := q; rw [c_1 m (by omega), c_3 m (by omega)] at q2; exact q2⟩)]
  · have e1 : asC m 15 1 b = m 17 b := c_1 m (by omega)
    have e3 : asC m 15 3 a = m 19 a := c_3 m (by omega)
    have e8 : asC m 15 8 a = m 23 a := c_8 m (by omega)
    have ex : asC (upm (upm (upm m 17 b (-1)) 18 b a) 23 a b) 15 = asU (asU (asC m 15) 1 b (-1)) 8 a b := by
      rw [asC_8 _ _ (by omega), asC_x _ (Or.inr (Or.inr (Or.inl rfl))), asC_1 _ _ (by omega)]
    refine hq _ _ (by refine JC_of (JC_l hJ) ?_ (by decide); repeat (first | assumption | (refine JC_up ?_ (by first | decide | (unfold frC; omega)) (by first | (simp [BdC, hnd]; done) | (simp [BdC, hnd, upm, cpf] <;> first | omega | (unfold w32; omega)))))) (FA_up (FA_up (FA_up (FA_rf m) (by omega)) (by omega)) (by omega)) ?_ ?_
    · rw [ex]
      refine HD_take hD hI z ⟨y.1, y.2.1⟩ (by rw [e8]; exact w) (by rw [e1, e3]; exact y.2.2) (fun j => ?_) (fun j => ?_)
      · rw [asU_app, asU_f _ _ _ _ (by decide)]; simp
      · rw [upm_f _ _ _ _ _ (by decide), upm_app, upm_f _ _ _ _ _ (by decide)]; simp
    · rw [ex]
      unfold aTake
      rw [if_neg (not_not_intro z), if_neg (by rw [e8]; exact not_not_intro w), if_neg (not_not_intro ⟨⟨y.1, y.2.1⟩, by rw [e1, e3]; exact y.2.2⟩), c_0 m (by omega)]
theorem f_66 {d : Nat} {tc e : Int} {g : Fg} {m : Mem} {Q : Int → Sto → Prop} {L : Int} {a : Int} (hJ : JC 3 g tc m) (hI : IV L (m 8 2) (m 8 3) (asC m 15)) (hD : HD (m 8 2) (m 8 3) (asC m 15) (m 18)) (hLm : L ≤ m 8 0) (hq : ∀ v m', JC 3 g tc m' → FA m m' → HD (m 8 2) (m 8 3) (asC m' 15) (m' 18) → (v, asC m' 15) = aDown (m 8 3) (m 9) (asC m 15) a → Q v (S9 e m')) : Cl (d + 2) 66 [26, a] Q (S9 e m) := by
  have hs := JC_s hJ
  have hH : 0 ≤ m 8 3 ∧ m 8 3 ≤ 5 := by omega
  have hP : 0 ≤ m 8 2 ∧ m 8 2 ≤ 5 := by omega
  have hL0 : 0 ≤ m 8 0 ∧ m 8 0 ≤ 10 := by omega
  refine l_66 hH hP hL0 (fun z => hq _ _ hJ (FA_rf m) hD ?_) (fun z w => hq _ _ hJ (FA_rf m) hD ?_) (fun z w y => hq _ _ hJ (FA_rf m) hD ?_) (fun z w y => ?_)
  · unfold aDown; rw [if_pos z]
  · have i8 := (hI.1 a z.1 z.2).1
    rw [c_8 m (by omega)] at i8
    unfold aDown; rw [if_neg (not_not_intro z), if_pos (by rw [c_8 m (by omega)]; omega)]
  · have i3 := (hI.1 a z.1 z.2).2.1
    rw [c_3 m (by omega)] at i3
    unfold aDown; rw [if_neg (not_not_intro z), if_neg (by rw [c_8 m (by omega)]; omega), if_pos (by rw [c_3 m (by omega)]; exact Decidable.byContradiction (fun q => y ⟨i3.1, by omega, q⟩))]
  · have e3 : asC m 15 3 a = m 19 a := c_3 m (by omega)
    have e8 : asC m 15 8 a = m 23 a := c_8 m (by omega)
    have ex : asC (upm (upm (upm m 23 a (-1)) 18 (m 23 a) (-1)) 17 (m 23 a) (m 19 a)) 15 = asU (asU (asC m 15) 8 a (-1)) 1 (m 23 a) (m 19 a) := by
      rw [asC_1 _ _ (by omega), asC_x _ (Or.inr (Or.inr (Or.inl rfl))), asC_8 _ _ (by omega)]
    refine hq _ _ (by refine JC_of (JC_l hJ) ?_ (by decide); repeat (first | assumption | (refine JC_up ?_ (by first | decide | (unfold frC; omega)) (by first | (simp [BdC, hnd]; done) | (simp [BdC, hnd, upm, cpf] <;> first | omega | (unfold w32; omega)))))) (FA_up (FA_up (FA_up (FA_rf m) (by omega)) (by omega)) (by omega)) ?_ ?_
    · rw [ex]
      refine HD_burn hD hI z.1 z.2 (by rw [e8]; exact w.1) (fun j => ?_) (fun j => ?_)
      · rw [asU_f _ _ _ _ (by decide), asU_app]; simp
      · rw [upm_f _ _ _ _ _ (by decide), upm_app, upm_f _ _ _ _ _ (by decide), e8]; simp
    · rw [ex]
      unfold aDown
      rw [if_neg (not_not_intro z), if_neg (by rw [e8]; omega), if_neg (by rw [e3]; exact y.2.2), e8, e3]
theorem f_88 {d : Nat} {tc e : Int} {g : Fg} {m : Mem} {Q : Int → Sto → Prop} {L : Int} {a : Int} (hJ : JC 3 g tc m) (hI : IV L (m 8 2) (m 8 3) (asC m 15)) (hD : HD (m 8 2) (m 8 3) (asC m 15) (m 18)) (hq : ∀ v m', JC 3 g tc m' → FA m m' → HD (m 8 2) (m 8 3) (asC m' 15) (m' 18) → (v, asC m' 15) = aChange (m 8 3) (asC m 15) a → Q v (S9 e m')) : Cl (d + 2) 88 [26, a] Q (S9 e m) := by
  have hs := JC_s hJ
  have hH : 0 ≤ m 8 3 ∧ m 8 3 ≤ 5 := by omega
  have hP : 0 ≤ m 8 2 ∧ m 8 2 ≤ 5 := by omega
  refine l_88 hH hP (fun j => ⟨(JC_h hJ j).1, (JC_h hJ j).2⟩) (fun z => hq _ _ hJ (FA_rf m) hD ?_) (fun z => ?_)
  · unfold aChange; rw [if_pos z]
  · have ex : asC (upm m 21 a (1 - m 21 a)) 15 = asU (asC m 15) 6 a (1 - m 21 a) := asC_6 _ _ (by omega)
    have h1 := JC_h hJ a
    refine hq _ _ (by refine JC_of (JC_l hJ) ?_ (by decide); repeat (first | assumption | (refine JC_up ?_ (by first | decide | (unfold frC; omega)) (by first | (simp [BdC, hnd]; done) | (simp [BdC, hnd, upm, cpf] <;> first | omega | (unfold w32; omega)))))) (FA_up (FA_rf m) (by omega)) ?_ ?_
    · refine HD_e hD (fun j j0 j1 => ?_) (fun j => ?_)
      · rw [ex, asU_f _ _ _ _ (by decide)]
      · rw [upm_f _ _ _ _ _ (by decide)]
    · rw [ex]
      unfold aChange
      rw [if_neg (not_not_intro z), c_6 m (by omega)]
theorem f_90 {d : Nat} {tc e : Int} {g : Fg} {m : Mem} {Q : Int → Sto → Prop} {L : Int} {a b : Int} (hJ : JC 3 g tc m) (hI : IV L (m 8 2) (m 8 3) (asC m 15)) (hD : HD (m 8 2) (m 8 3) (asC m 15) (m 18)) (hq : ∀ v m', JC 3 g tc m' → FA m m' → HD (m 8 2) (m 8 3) (asC m' 15) (m' 18) → (v, asC m' 15) = aGive (m 8 3) (asC m 15) a b → Q v (S9 e m')) : Cl (d + 2) 90 [26, a, b] Q (S9 e m) := by
  have hs := JC_s hJ
  have hH : 0 ≤ m 8 3 ∧ m 8 3 ≤ 5 := by omega
  have hP : 0 ≤ m 8 2 ∧ m 8 2 ≤ 5 := by omega
  refine l_90 hH hP (fun z => hq _ _ hJ (FA_rf m) hD ?_) (fun z w => hq _ _ hJ (FA_rf m) hD ?_) (fun z w y => hq _ _ hJ (FA_rf m) hD ?_) (fun z w y => ?_)
  · unfold aGive; rw [if_pos z]
  · have i8 := (hI.1 a z.1.1 z.1.2).1
    rw [c_8 m (by omega)] at i8
    unfold aGive; rw [if_neg (not_not_intro z), if_pos (fun q => w (by rw [c_8 m (by omega), c_8 m (by omega)] at q; exact ⟨q.1, i8.2, q.2⟩))]
  · unfold aGive; rw [if_neg (not_not_intro z), if_neg (not_not_intro (by rw [c_8 m (by omega), c_8 m (by omega)]; exact ⟨w.1, w.2.2⟩)), if_pos (by rw [c_3 m (by omega), c_3 m (by omega)]; exact y)]
  · have ea : asC m 15 8 a = m 23 a := c_8 m (by omega)
    have eb : asC m 15 8 b = m 23 b := c_8 m (by omega)
    have ex : asC (upm (upm (upm m 23 a (-1)) 23 b (m 23 a)) 18 (m 23 a) b) 15 = asU (asU (asC m 15) 8 a (-1)) 8 b (m 23 a) := by
      rw [asC_x _ (Or.inr (Or.inr (Or.inl rfl))), asC_8 _ _ (by omega), asC_8 _ _ (by omega)]
    refine hq _ _ (by refine JC_of (JC_l hJ) ?_ (by decide); repeat (first | assumption | (refine JC_up ?_ (by first | decide | (unfold frC; omega)) (by first | (simp [BdC, hnd]; done) | (simp [BdC, hnd, upm, cpf] <;> first | omega | (unfold w32; omega)))))) (FA_up (FA_up (FA_up (FA_rf m) (by omega)) (by omega)) (by omega)) ?_ ?_
    · rw [ex]
      refine HD_give hD hI z.1 z.2.1 z.2.2 (by rw [ea]; exact w.1) (by rw [eb]; exact w.2.2) (fun j => ?_) (fun j => ?_)
      · rw [asU_app, asU_app, ea]; simp
      · rw [upm_app, upm_f _ _ _ _ _ (by decide), upm_f _ _ _ _ _ (by decide), ea]; simp
    · rw [ex]
      unfold aGive
      rw [if_neg (not_not_intro z), if_neg (not_not_intro (by rw [ea, eb]; exact ⟨w.1, w.2.2⟩)), if_neg (not_not_intro (by rw [c_3 m (by omega), c_3 m (by omega)]; exact y)), ea]
theorem f_92 {d : Nat} {tc e : Int} {g : Fg} {m : Mem} {Q : Int → Sto → Prop} {L : Int} {a b : Int} (hJ : JC 3 g tc m) (hI : IV L (m 8 2) (m 8 3) (asC m 15)) (hD : HD (m 8 2) (m 8 3) (asC m 15) (m 18)) (hq : ∀ v m', JC 3 g tc m' → FA m m' → HD (m 8 2) (m 8 3) (asC m' 15) (m' 18) → (v, asC m' 15) = aFold (m 8 3) (asC m 15) a b → Q v (S9 e m')) : Cl (d + 2) 92 [26, a, b] Q (S9 e m) := by
  have hs := JC_s hJ
  have hH : 0 ≤ m 8 3 ∧ m 8 3 ≤ 5 := by omega
  have hP : 0 ≤ m 8 2 ∧ m 8 2 ≤ 5 := by omega
  refine l_92 hH hP (fun z => hq _ _ hJ (FA_rf m) hD ?_) (fun z => ?_)
  · unfold aFold; rw [if_pos z]
  · have ex : asC (upm m 22 a b) 15 = asU (asC m 15) 7 a b := asC_7 _ _ (by omega)
    refine hq _ _ (by refine JC_of (JC_l hJ) ?_ (by decide); repeat (first | assumption | (refine JC_up ?_ (by first | decide | (unfold frC; omega)) (by first | (simp [BdC, hnd]; done) | (simp [BdC, hnd, upm, cpf] <;> first | omega | (unfold w32; omega)))))) (FA_up (FA_rf m) (by omega)) ?_ ?_
    · refine HD_e hD (fun j j0 j1 => ?_) (fun j => ?_)
      · rw [ex, asU_f _ _ _ _ (by decide)]
      · rw [upm_f _ _ _ _ _ (by decide)]
    · rw [ex]
      unfold aFold
      rw [if_neg (not_not_intro z), c_7 m (by omega)]
theorem f_94 {d : Nat} {tc e : Int} {g : Fg} {m : Mem} {Q : Int → Sto → Prop} {L : Int} {a b : Int} (hJ : JC 3 g tc m) (hI : IV L (m 8 2) (m 8 3) (asC m 15)) (hD : HD (m 8 2) (m 8 3) (asC m 15) (m 18)) (hq : ∀ v m', JC 3 g tc m' → FA m m' → HD (m 8 2) (m 8 3) (asC m' 15) (m' 18) → (v, asC m' 15) = aDoor bcf (m 8 1) (fun w => iand (ishr (m 8 8) w) 1) (asC m 15) a b → Q v (S9 e m')) : Cl (d + 3) 94 [26, a, b] Q (S9 e m) := by
  have hs := JC_s hJ
  have hH : 0 ≤ m 8 3 ∧ m 8 3 ≤ 5 := by omega
  have hP : 0 ≤ m 8 2 ∧ m 8 2 ≤ 5 := by omega
  have hw : 0 ≤ m 8 1 ∧ m 8 1 ≤ 14 := by omega
  refine l_94 hw (fun z => hq _ _ hJ (FA_rf m) hD ?_) (fun z => ?_)
  · unfold aDoor; rw [if_pos z]
  · have ex : ∀ v, asC (upm m 15 10 v) 15 = asU (asC m 15) 10 0 v := fun v => asC_10 _ _
    refine hq _ _ (by refine JC_of (JC_l hJ) ?_ (by decide); repeat (first | assumption | (refine JC_up ?_ (by first | decide | (unfold frC; omega)) (by first | (simp [BdC, hnd]; done) | (simp [BdC, hnd, upm, cpf] <;> first | omega | (unfold w32; omega)))))) (FA_up (FA_rf m) (by omega)) ?_ ?_
    · refine HD_e hD (fun j j0 j1 => ?_) (fun j => ?_)
      · rw [ex, asU_f _ _ _ _ (by decide)]
      · rw [upm_f _ _ _ _ _ (by decide)]
    · rw [ex]
      unfold aDoor
      rw [if_neg (not_not_intro z), c_op]
theorem f_51 {d : Nat} {tc e : Int} {g : Fg} {m : Mem} {Q : Int → Sto → Prop} {L : Int} {a b : Int} (hJ : JC 3 g tc m) (hI : IV L (m 8 2) (m 8 3) (asC m 15)) (hD : HD (m 8 2) (m 8 3) (asC m 15) (m 18)) (hq : ∀ v m', JC 3 g tc m' → FA m m' → HD (m 8 2) (m 8 3) (asC m' 15) (m' 18) → (v, asC m' 15) = aHeat (m 8 2) (asC m 15) a b → Q v (S9 e m')) : Cl (d + 2) 51 [1, a, b] Q (S9 e m) := by
  have hs := JC_s hJ
  have hH : 0 ≤ m 8 3 ∧ m 8 3 ≤ 5 := by omega
  have hP : 0 ≤ m 8 2 ∧ m 8 2 ≤ 5 := by omega
  refine l_51 hP (fun z => hq _ _ hJ (FA_rf m) hD ?_) (fun z => ?_)
  · unfold aHeat
    rw [if_pos (fun q => z ⟨q.1, by obtain ⟨⟨q0, q1⟩, q2, -⟩ := q; rw [c_2 m (by omega)] at q2; exact q2, q.2.2⟩)]
  · have ex : asC (upm m 16 a b) 15 = asU (asC m 15) 0 a b := asC_0 _ _ (by omega)
    refine hq _ _ (by refine JC_of (JC_l hJ) ?_ (by decide); repeat (first | assumption | (refine JC_up ?_ (by first | decide | (unfold frC; omega)) (by first | (simp [BdC, hnd]; done) | (simp [BdC, hnd, upm, cpf] <;> first | omega | (unfold w32; omega)))))) (FA_up (FA_rf m) (by omega)) ?_ ?_
    · refine HD_e hD (fun j j0 j1 => ?_) (fun j => ?_)
      · rw [ex, asU_f _ _ _ _ (by decide)]
      · rw [upm_f _ _ _ _ _ (by decide)]
    · rw [ex]
      unfold aHeat
      rw [if_neg (not_not_intro ⟨z.1, by rw [c_2 m (by omega)]; exact z.2.1, z.2.2⟩), c_0 m (by omega)]
end
section
/-! the reference's acts without loops, to the letter -/
set_option maxHeartbeats 4000000 in
theorem l_216 {d : Nat} {e : Int} {m : Mem} {Q : Int → Sto → Prop} {a b : Int} (hH : 0 ≤ m 249 6 ∧ m 249 6 ≤ 5) (hP : 0 ≤ m 249 5 ∧ m 249 5 ≤ 5) (hW : 0 ≤ m 249 4 ∧ m 249 4 ≤ 14) (hJp : ∀ p, 0 ≤ p → p ≤ 4 → 0 ≤ m 258 (15 + 7 * p) ∧ m 258 (15 + 7 * p) ≤ 9 ∧ 0 ≤ m 258 (18 + 7 * p) ∧ m 258 (18 + 7 * p) ≤ 1 ∧ -1 ≤ m 258 (20 + 7 * p) ∧ m 258 (20 + 7 * p) ≤ 4) (c0 : ¬ (0 ≤ a ∧ a < m 249 6) → Q (-1) (S9 e m)) (c1 : (0 ≤ a ∧ a < m 249 6) → 0 ≤ m 258 (20 + 7 * a) → Q (-2) (S9 e m)) (c2 : (0 ≤ a ∧ a < m 249 6) → m 258 (20 + 7 * a) < 0 → ¬ (0 ≤ b ∧ b < m 249 5 ∧ m 258 (3 * b + 1) = m 258 (15 + 7 * a)) → Q (-3) (S9 e m)) (c3 : (0 ≤ a ∧ a < m 249 6) → m 258 (20 + 7 * a) < 0 → (0 ≤ b ∧ b < m 249 5 ∧ m 258 (3 * b + 1) = m 258 (15 + 7 * a)) → Q (m 258 (3 * b)) (S9 e (upm (upm m 258 (20 + 7 * a) b) 258 (3 * b + 1) (-1)))) : Cl (d + 4) 216 [249, a, b] Q (S9 e m) := by
  have hx0 := hJp a
  simp only [cl_216, runB, B216, ma_216, rho_200, wf_13_36, wc_188, wc_201, wc_203, wc_205, w_cst, w_ldi, w_ldj, w_lda, w_ljk, w_ldk, w_ldw, w_ldk2, w_ldt, w_ldtw, w_neg, w_cvb, w_cvs, w_cvc, w_cvj, w_add, w_sub, w_mul, w_ban, w_bor, w_bxo, w_shl, w_shr, w_ush, w_dvi, w_rmi, w_aldi, w_aldj, w_aldz, w_aldc, w_alda, w_ite, w_cmp, w_cmj, w_cz, w_cnot, w_cand, w_cor, w_nil, w_cons, w_cvi, w_csta, w_cvt, w_cvv, w_csv, w_cpy, w_seq, w_sbr, w_sbn, w_brk, w_ifs, w_ifx, w_ife, w_wk, w_rets, w_rtv, w_thr, w_asi, w_asj, w_asa, w_inc, w_exs, w_asti, w_astj, w_astz, w_astc, w_aopadd, w_aopsub, w_sw, if_true, if_false, ↓reduceIte, hdl_c, S9_1, S9_m, bud9, live9, inb9, wrn, wr9_14, wr9_15, wr9_16, wr9_17, tq9_14, tq9_15, tq9_16, tq9_17, tq_0, tq_1, tq_3, upr_rl, rl_0, rl_1, rl_2, rl_3, rl_4, rl_5, rl_6, rl_7, rl_8, rl_9, rl_10, rl_11, rl_12, rl_13, sp_0, sp_1, sp_2, sp_3, sp_4, sp_5, sp_6, sp_7, sp_8, sp_9, sp_10, sp_11, sp_12, sp_13, se_0, se_1, se_2, se_3, se_4, se_5, se_6, se_7, se_8, se_9, se_10, se_11, se_12, se_13, sem_0, sem_1, sem_2, sem_3, sem_4, sem_5, sr_249_25, sr_249_41, sr_249_10, sr_249_16, sr_249_23, sr_249_61, sr_249_24, sr_249_69, sr_249_2, sr_249_54, kl9_249, sr_249_14, sr_249_11, sr_249_34, sr_249_12, sr_249_42, sr_249_8, sr_249_70, sr_249_50, sr_249_9, sr_249_13, sr_249_57, sr_249_55, sr_249_22, sr_249_68, sr_249_17, sr_249_40, sr_249_67, sr_249_31, sr_249_63, kc_249, sr_249_30, sr_249_43, sr_249_15, sr_249_35, sr_249_58, sr_249_51, sr_249_64, sr_249_52, sr_249_71, kl9_251, kc_251, kl9_252, kc_252, kl9_253, kc_253, kl9_254, kc_254, kl9_255, kc_255, kl9_256, kc_256, kc_257, kl9_257, kl9_258, kc_258, List.getD_cons_zero, List.getD_cons_succ, Bool.false_eq_true, wrn3, wrn1, cpmS, cpok9, upm_app, Int.reduceEq, and_self, and_true, true_and, and_false, false_and, if_true, if_false, ↓reduceIte, Int.reduceNe, ne_eq, not_false_eq_true, not_true_eq_false]
  (try simp (disch := omega) only [w15_0, w15_1, w15_3, w15_4, w15_5, w15_6, w3_0, w3_1, w3_2, upm_app, Int.reduceEq, and_self, and_true, true_and, and_false, false_and, if_true, if_false, ↓reduceIte])
  repeat' (first
    | (with_reducible exact True.intro)
    | (with_reducible exact False.elim)
    | omega
    | (with_reducible rfl)
    | (with_reducible contradiction)
    | (with_reducible refine And.intro ?_ ?_)
    | intro _
    | (with_reducible refine p_188 ?_ ?_; (next => first | omega | (with_reducible rfl) | decide | (unfold w32; omega) | (simp (disch := omega) only [w32_eq]; omega) | (simp [upm] <;> (first | omega | (unfold w32; omega)))); simp only [hdl_c, S9_1, S9_m, bud9, live9, inb9, wrn, wr9_14, wr9_15, wr9_16, wr9_17, tq9_14, tq9_15, tq9_16, tq9_17, tq_0, tq_1, tq_3, upr_rl, rl_0, rl_1, rl_2, rl_3, rl_4, rl_5, rl_6, rl_7, rl_8, rl_9, rl_10, rl_11, rl_12, rl_13, sp_0, sp_1, sp_2, sp_3, sp_4, sp_5, sp_6, sp_7, sp_8, sp_9, sp_10, sp_11, sp_12, sp_13, se_0, se_1, se_2, se_3, se_4, se_5, se_6, se_7, se_8, se_9, se_10, se_11, se_12, se_13, sem_0, sem_1, sem_2, sem_3, sem_4, sem_5, List.getD_cons_zero, List.getD_cons_succ, Bool.false_eq_true, wrn3, wrn1, cpmS, cpok9, if_true, if_false, ↓reduceIte, wc_188, wc_201, wc_203, wc_205, sr_249_25, sr_249_41, sr_249_10, sr_249_16, sr_249_23, sr_249_61, sr_249_24, sr_249_69, sr_249_2, sr_249_54, kl9_249, sr_249_14, sr_249_11, sr_249_34, sr_249_12, sr_249_42, sr_249_8, sr_249_70, sr_249_50, sr_249_9, sr_249_13, sr_249_57, sr_249_55, sr_249_22, sr_249_68, sr_249_17, sr_249_40, sr_249_67, sr_249_31, sr_249_63, kc_249, sr_249_30, sr_249_43, sr_249_15, sr_249_35, sr_249_58, sr_249_51, sr_249_64, sr_249_52, sr_249_71, kl9_251, kc_251, kl9_252, kc_252, kl9_253, kc_253, kl9_254, kc_254, kl9_255, kc_255, kl9_256, kc_256, kc_257, kl9_257, kl9_258, kc_258, upm_app, Int.reduceEq, and_self, and_true, true_and, and_false, false_and, if_true, if_false, ↓reduceIte, Int.reduceNe, ne_eq, not_false_eq_true, not_true_eq_false]; (try simp (disch := omega) only [w15_0, w15_1, w15_3, w15_4, w15_5, w15_6, w3_0, w3_1, w3_2, upm_app, Int.reduceEq, and_self, and_true, true_and, and_false, false_and, if_true, if_false, ↓reduceIte]))
    | (with_reducible refine p_201 ?_ (fun v9 h9 => ?_); (next => first | omega | (with_reducible rfl) | decide | (unfold w32; omega) | (simp (disch := omega) only [w32_eq]; omega) | (simp [upm] <;> (first | omega | (unfold w32; omega)))); simp only [hdl_c, S9_1, S9_m, bud9, live9, inb9, wrn, wr9_14, wr9_15, wr9_16, wr9_17, tq9_14, tq9_15, tq9_16, tq9_17, tq_0, tq_1, tq_3, upr_rl, rl_0, rl_1, rl_2, rl_3, rl_4, rl_5, rl_6, rl_7, rl_8, rl_9, rl_10, rl_11, rl_12, rl_13, sp_0, sp_1, sp_2, sp_3, sp_4, sp_5, sp_6, sp_7, sp_8, sp_9, sp_10, sp_11, sp_12, sp_13, se_0, se_1, se_2, se_3, se_4, se_5, se_6, se_7, se_8, se_9, se_10, se_11, se_12, se_13, sem_0, sem_1, sem_2, sem_3, sem_4, sem_5, List.getD_cons_zero, List.getD_cons_succ, Bool.false_eq_true, wrn3, wrn1, cpmS, cpok9, if_true, if_false, ↓reduceIte, wc_188, wc_201, wc_203, wc_205, sr_249_25, sr_249_41, sr_249_10, sr_249_16, sr_249_23, sr_249_61, sr_249_24, sr_249_69, sr_249_2, sr_249_54, kl9_249, sr_249_14, sr_249_11, sr_249_34, sr_249_12, sr_249_42, sr_249_8, sr_249_70, sr_249_50, sr_249_9, sr_249_13, sr_249_57, sr_249_55, sr_249_22, sr_249_68, sr_249_17, sr_249_40, sr_249_67, sr_249_31, sr_249_63, kc_249, sr_249_30, sr_249_43, sr_249_15, sr_249_35, sr_249_58, sr_249_51, sr_249_64, sr_249_52, sr_249_71, kl9_251, kc_251, kl9_252, kc_252, kl9_253, kc_253, kl9_254, kc_254, kl9_255, kc_255, kl9_256, kc_256, kc_257, kl9_257, kl9_258, kc_258, upm_app, Int.reduceEq, and_self, and_true, true_and, and_false, false_and, if_true, if_false, ↓reduceIte, Int.reduceNe, ne_eq, not_false_eq_true, not_true_eq_false]; (try simp (disch := omega) only [w15_0, w15_1, w15_3, w15_4, w15_5, w15_6, w3_0, w3_1, w3_2, upm_app, Int.reduceEq, and_self, and_true, true_and, and_false, false_and, if_true, if_false, ↓reduceIte]))
    | (with_reducible refine p_203 ?_ ?_; (next => first | omega | (with_reducible rfl) | decide | (unfold w32; omega) | (simp (disch := omega) only [w32_eq]; omega) | (simp [upm] <;> (first | omega | (unfold w32; omega)))); simp only [hdl_c, S9_1, S9_m, bud9, live9, inb9, wrn, wr9_14, wr9_15, wr9_16, wr9_17, tq9_14, tq9_15, tq9_16, tq9_17, tq_0, tq_1, tq_3, upr_rl, rl_0, rl_1, rl_2, rl_3, rl_4, rl_5, rl_6, rl_7, rl_8, rl_9, rl_10, rl_11, rl_12, rl_13, sp_0, sp_1, sp_2, sp_3, sp_4, sp_5, sp_6, sp_7, sp_8, sp_9, sp_10, sp_11, sp_12, sp_13, se_0, se_1, se_2, se_3, se_4, se_5, se_6, se_7, se_8, se_9, se_10, se_11, se_12, se_13, sem_0, sem_1, sem_2, sem_3, sem_4, sem_5, List.getD_cons_zero, List.getD_cons_succ, Bool.false_eq_true, wrn3, wrn1, cpmS, cpok9, if_true, if_false, ↓reduceIte, wc_188, wc_201, wc_203, wc_205, sr_249_25, sr_249_41, sr_249_10, sr_249_16, sr_249_23, sr_249_61, sr_249_24, sr_249_69, sr_249_2, sr_249_54, kl9_249, sr_249_14, sr_249_11, sr_249_34, sr_249_12, sr_249_42, sr_249_8, sr_249_70, sr_249_50, sr_249_9, sr_249_13, sr_249_57, sr_249_55, sr_249_22, sr_249_68, sr_249_17, sr_249_40, sr_249_67, sr_249_31, sr_249_63, kc_249, sr_249_30, sr_249_43, sr_249_15, sr_249_35, sr_249_58, sr_249_51, sr_249_64, sr_249_52, sr_249_71, kl9_251, kc_251, kl9_252, kc_252, kl9_253, kc_253, kl9_254, kc_254, kl9_255, kc_255, kl9_256, kc_256, kc_257, kl9_257, kl9_258, kc_258, upm_app, Int.reduceEq, and_self, and_true, true_and, and_false, false_and, if_true, if_false, ↓reduceIte, Int.reduceNe, ne_eq, not_false_eq_true, not_true_eq_false]; (try simp (disch := omega) only [w15_0, w15_1, w15_3, w15_4, w15_5, w15_6, w3_0, w3_1, w3_2, upm_app, Int.reduceEq, and_self, and_true, true_and, and_false, false_and, if_true, if_false, ↓reduceIte]))
    | (with_reducible refine p_205 ?_ (fun v9 h9 => ?_); (next => first | omega | (with_reducible rfl) | decide | (unfold w32; omega) | (simp (disch := omega) only [w32_eq]; omega) | (simp [upm] <;> (first | omega | (unfold w32; omega)))); simp only [hdl_c, S9_1, S9_m, bud9, live9, inb9, wrn, wr9_14, wr9_15, wr9_16, wr9_17, tq9_14, tq9_15, tq9_16, tq9_17, tq_0, tq_1, tq_3, upr_rl, rl_0, rl_1, rl_2, rl_3, rl_4, rl_5, rl_6, rl_7, rl_8, rl_9, rl_10, rl_11, rl_12, rl_13, sp_0, sp_1, sp_2, sp_3, sp_4, sp_5, sp_6, sp_7, sp_8, sp_9, sp_10, sp_11, sp_12, sp_13, se_0, se_1, se_2, se_3, se_4, se_5, se_6, se_7, se_8, se_9, se_10, se_11, se_12, se_13, sem_0, sem_1, sem_2, sem_3, sem_4, sem_5, List.getD_cons_zero, List.getD_cons_succ, Bool.false_eq_true, wrn3, wrn1, cpmS, cpok9, if_true, if_false, ↓reduceIte, wc_188, wc_201, wc_203, wc_205, sr_249_25, sr_249_41, sr_249_10, sr_249_16, sr_249_23, sr_249_61, sr_249_24, sr_249_69, sr_249_2, sr_249_54, kl9_249, sr_249_14, sr_249_11, sr_249_34, sr_249_12, sr_249_42, sr_249_8, sr_249_70, sr_249_50, sr_249_9, sr_249_13, sr_249_57, sr_249_55, sr_249_22, sr_249_68, sr_249_17, sr_249_40, sr_249_67, sr_249_31, sr_249_63, kc_249, sr_249_30, sr_249_43, sr_249_15, sr_249_35, sr_249_58, sr_249_51, sr_249_64, sr_249_52, sr_249_71, kl9_251, kc_251, kl9_252, kc_252, kl9_253, kc_253, kl9_254, kc_254, kl9_255, kc_255, kl9_256, kc_256, kc_257, kl9_257, kl9_258, kc_258, upm_app, Int.reduceEq, and_self, and_true, true_and, and_false, false_and, if_true, if_false, ↓reduceIte, Int.reduceNe, ne_eq, not_false_eq_true, not_true_eq_false]; (try simp (disch := omega) only [w15_0, w15_1, w15_3, w15_4, w15_5, w15_6, w3_0, w3_1, w3_2, upm_app, Int.reduceEq, and_self, and_true, true_and, and_false, false_and, if_true, if_false, ↓reduceIte]))
    | ((try simp (disch := omega) only [w32_eq]); (try rw [if_neg (by omega)]); (try rw [if_neg (by omega)]); (try rw [if_neg (by omega)]); ((with_reducible refine c0 ?_) <;> (first | omega | assumption | (unfold w32; omega) | (unfold w32 at *; omega) | (simp only [not_and_or]; omega))))
    | ((try simp (disch := omega) only [w32_eq]); (try rw [if_neg (by omega)]); (try rw [if_neg (by omega)]); (try rw [if_neg (by omega)]); ((with_reducible refine c1 ?_ ?_) <;> (first | omega | assumption | (unfold w32; omega) | (unfold w32 at *; omega) | (simp only [not_and_or]; omega))))
    | ((try simp (disch := omega) only [w32_eq]); (try rw [if_neg (by omega)]); (try rw [if_neg (by omega)]); (try rw [if_neg (by omega)]); ((with_reducible refine c2 ?_ ?_ ?_) <;> (first | omega | assumption | (unfold w32; omega) | (unfold w32 at *; omega) | (simp only [not_and_or]; omega))))
    | ((try simp (disch := omega) only [w32_eq]); (try rw [if_neg (by omega)]); (try rw [if_neg (by omega)]); (try rw [if_neg (by omega)]); ((with_reducible refine c3 ?_ ?_ ?_) <;> (first | omega | assumption | (unfold w32; omega) | (unfold w32 at *; omega) | (simp only [not_and_or]; omega))))
    | (unfold w32; omega)
    | (simp (disch := omega) only [w32_eq]; omega)
    | (with_reducible show (_ : Int) ≤ _; simp [upm] <;> (first | omega | (unfold w32; omega)))
    | (with_reducible show (_ : Int) < _; simp [upm] <;> (first | omega | (unfold w32; omega))))

set_option maxHeartbeats 4000000 in
theorem l_220 {d : Nat} {e : Int} {m : Mem} {Q : Int → Sto → Prop} {a : Int} (hH : 0 ≤ m 249 6 ∧ m 249 6 ≤ 5) (hP : 0 ≤ m 249 5 ∧ m 249 5 ≤ 5) (hW : 0 ≤ m 249 4 ∧ m 249 4 ≤ 14) (hJp : ∀ p, 0 ≤ p → p ≤ 4 → 0 ≤ m 258 (15 + 7 * p) ∧ m 258 (15 + 7 * p) ≤ 9 ∧ 0 ≤ m 258 (18 + 7 * p) ∧ m 258 (18 + 7 * p) ≤ 1 ∧ -1 ≤ m 258 (20 + 7 * p) ∧ m 258 (20 + 7 * p) ≤ 4) (c0 : ¬ (0 ≤ a ∧ a < m 249 6) → Q (-1) (S9 e m)) (c1 : (0 ≤ a ∧ a < m 249 6) → m 258 (20 + 7 * a) < 0 → Q (-2) (S9 e m)) (c2 : (0 ≤ a ∧ a < m 249 6) → 0 ≤ m 258 (20 + 7 * a) → m 251 (m 258 (15 + 7 * a)) = 0 → Q (-3) (S9 e m)) (c3 : (0 ≤ a ∧ a < m 249 6) → 0 ≤ m 258 (20 + 7 * a) → m 251 (m 258 (15 + 7 * a)) ≠ 0 → Q (m 258 (20 + 7 * a)) (S9 e (upm (upm m 258 (20 + 7 * a) (-1)) 258 (3 * m 258 (20 + 7 * a) + 1) (m 258 (15 + 7 * a))))) : Cl (d + 4) 220 [249, a] Q (S9 e m) := by
  have hx0 := hJp a
  simp only [cl_220, runB, B220, ma_220, rho_20, wf_13_13, wf_13_36, wc_188, wc_203, wc_205, w_cst, w_ldi, w_ldj, w_lda, w_ljk, w_ldk, w_ldw, w_ldk2, w_ldt, w_ldtw, w_neg, w_cvb, w_cvs, w_cvc, w_cvj, w_add, w_sub, w_mul, w_ban, w_bor, w_bxo, w_shl, w_shr, w_ush, w_dvi, w_rmi, w_aldi, w_aldj, w_aldz, w_aldc, w_alda, w_ite, w_cmp, w_cmj, w_cz, w_cnot, w_cand, w_cor, w_nil, w_cons, w_cvi, w_csta, w_cvt, w_cvv, w_csv, w_cpy, w_seq, w_sbr, w_sbn, w_brk, w_ifs, w_ifx, w_ife, w_wk, w_rets, w_rtv, w_thr, w_asi, w_asj, w_asa, w_inc, w_exs, w_asti, w_astj, w_astz, w_astc, w_aopadd, w_aopsub, w_sw, if_true, if_false, ↓reduceIte, hdl_c, S9_1, S9_m, bud9, live9, inb9, wrn, wr9_14, wr9_15, wr9_16, wr9_17, tq9_14, tq9_15, tq9_16, tq9_17, tq_0, tq_1, tq_3, upr_rl, rl_0, rl_1, rl_2, rl_3, rl_4, rl_5, rl_6, rl_7, rl_8, rl_9, rl_10, rl_11, rl_12, rl_13, sp_0, sp_1, sp_2, sp_3, sp_4, sp_5, sp_6, sp_7, sp_8, sp_9, sp_10, sp_11, sp_12, sp_13, se_0, se_1, se_2, se_3, se_4, se_5, se_6, se_7, se_8, se_9, se_10, se_11, se_12, se_13, sem_0, sem_1, sem_2, sem_3, sem_4, sem_5, sr_249_25, sr_249_41, sr_249_10, sr_249_16, sr_249_23, sr_249_61, sr_249_24, sr_249_69, sr_249_2, sr_249_54, kl9_249, sr_249_14, sr_249_11, sr_249_34, sr_249_12, sr_249_42, sr_249_8, sr_249_70, sr_249_50, sr_249_9, sr_249_13, sr_249_57, sr_249_55, sr_249_22, sr_249_68, sr_249_17, sr_249_40, sr_249_67, sr_249_31, sr_249_63, kc_249, sr_249_30, sr_249_43, sr_249_15, sr_249_35, sr_249_58, sr_249_51, sr_249_64, sr_249_52, sr_249_71, kl9_251, kc_251, kl9_252, kc_252, kl9_253, kc_253, kl9_254, kc_254, kl9_255, kc_255, kl9_256, kc_256, kc_257, kl9_257, kl9_258, kc_258, List.getD_cons_zero, List.getD_cons_succ, Bool.false_eq_true, wrn3, wrn1, cpmS, cpok9, upm_app, Int.reduceEq, and_self, and_true, true_and, and_false, false_and, if_true, if_false, ↓reduceIte, Int.reduceNe, ne_eq, not_false_eq_true, not_true_eq_false]
  (try simp (disch := omega) only [w15_0, w15_1, w15_3, w15_4, w15_5, w15_6, w3_0, w3_1, w3_2, upm_app, Int.reduceEq, and_self, and_true, true_and, and_false, false_and, if_true, if_false, ↓reduceIte])
  repeat' (first
    | (with_reducible exact True.intro)
    | (with_reducible exact False.elim)
    | omega
    | (with_reducible rfl)
    | (with_reducible contradiction)
    | (with_reducible refine And.intro ?_ ?_)
    | intro _
    | (with_reducible refine p_188 ?_ ?_; (next => first | omega | (with_reducible rfl) | decide | (unfold w32; omega) | (simp (disch := omega) only [w32_eq]; omega) | (simp [upm] <;> (first | omega | (unfold w32; omega)))); simp only [hdl_c, S9_1, S9_m, bud9, live9, inb9, wrn, wr9_14, wr9_15, wr9_16, wr9_17, tq9_14, tq9_15, tq9_16, tq9_17, tq_0, tq_1, tq_3, upr_rl, rl_0, rl_1, rl_2, rl_3, rl_4, rl_5, rl_6, rl_7, rl_8, rl_9, rl_10, rl_11, rl_12, rl_13, sp_0, sp_1, sp_2, sp_3, sp_4, sp_5, sp_6, sp_7, sp_8, sp_9, sp_10, sp_11, sp_12, sp_13, se_0, se_1, se_2, se_3, se_4, se_5, se_6, se_7, se_8, se_9, se_10, se_11, se_12, se_13, sem_0, sem_1, sem_2, sem_3, sem_4, sem_5, List.getD_cons_zero, List.getD_cons_succ, Bool.false_eq_true, wrn3, wrn1, cpmS, cpok9, if_true, if_false, ↓reduceIte, wc_188, wc_203, wc_205, sr_249_25, sr_249_41, sr_249_10, sr_249_16, sr_249_23, sr_249_61, sr_249_24, sr_249_69, sr_249_2, sr_249_54, kl9_249, sr_249_14, sr_249_11, sr_249_34, sr_249_12, sr_249_42, sr_249_8, sr_249_70, sr_249_50, sr_249_9, sr_249_13, sr_249_57, sr_249_55, sr_249_22, sr_249_68, sr_249_17, sr_249_40, sr_249_67, sr_249_31, sr_249_63, kc_249, sr_249_30, sr_249_43, sr_249_15, sr_249_35, sr_249_58, sr_249_51, sr_249_64, sr_249_52, sr_249_71, kl9_251, kc_251, kl9_252, kc_252, kl9_253, kc_253, kl9_254, kc_254, kl9_255, kc_255, kl9_256, kc_256, kc_257, kl9_257, kl9_258, kc_258, upm_app, Int.reduceEq, and_self, and_true, true_and, and_false, false_and, if_true, if_false, ↓reduceIte, Int.reduceNe, ne_eq, not_false_eq_true, not_true_eq_false]; (try simp (disch := omega) only [w15_0, w15_1, w15_3, w15_4, w15_5, w15_6, w3_0, w3_1, w3_2, upm_app, Int.reduceEq, and_self, and_true, true_and, and_false, false_and, if_true, if_false, ↓reduceIte]))
    | (with_reducible refine p_203 ?_ ?_; (next => first | omega | (with_reducible rfl) | decide | (unfold w32; omega) | (simp (disch := omega) only [w32_eq]; omega) | (simp [upm] <;> (first | omega | (unfold w32; omega)))); simp only [hdl_c, S9_1, S9_m, bud9, live9, inb9, wrn, wr9_14, wr9_15, wr9_16, wr9_17, tq9_14, tq9_15, tq9_16, tq9_17, tq_0, tq_1, tq_3, upr_rl, rl_0, rl_1, rl_2, rl_3, rl_4, rl_5, rl_6, rl_7, rl_8, rl_9, rl_10, rl_11, rl_12, rl_13, sp_0, sp_1, sp_2, sp_3, sp_4, sp_5, sp_6, sp_7, sp_8, sp_9, sp_10, sp_11, sp_12, sp_13, se_0, se_1, se_2, se_3, se_4, se_5, se_6, se_7, se_8, se_9, se_10, se_11, se_12, se_13, sem_0, sem_1, sem_2, sem_3, sem_4, sem_5, List.getD_cons_zero, List.getD_cons_succ, Bool.false_eq_true, wrn3, wrn1, cpmS, cpok9, if_true, if_false, ↓reduceIte, wc_188, wc_203, wc_205, sr_249_25, sr_249_41, sr_249_10, sr_249_16, sr_249_23, sr_249_61, sr_249_24, sr_249_69, sr_249_2, sr_249_54, kl9_249, sr_249_14, sr_249_11, sr_249_34, sr_249_12, sr_249_42, sr_249_8, sr_249_70, sr_249_50, sr_249_9, sr_249_13, sr_249_57, sr_249_55, sr_249_22, sr_249_68, sr_249_17, sr_249_40, sr_249_67, sr_249_31, sr_249_63, kc_249, sr_249_30, sr_249_43, sr_249_15, sr_249_35, sr_249_58, sr_249_51, sr_249_64, sr_249_52, sr_249_71, kl9_251, kc_251, kl9_252, kc_252, kl9_253, kc_253, kl9_254, kc_254, kl9_255, kc_255, kl9_256, kc_256, kc_257, kl9_257, kl9_258, kc_258, upm_app, Int.reduceEq, and_self, and_true, true_and, and_false, false_and, if_true, if_false, ↓reduceIte, Int.reduceNe, ne_eq, not_false_eq_true, not_true_eq_false]; (try simp (disch := omega) only [w15_0, w15_1, w15_3, w15_4, w15_5, w15_6, w3_0, w3_1, w3_2, upm_app, Int.reduceEq, and_self, and_true, true_and, and_false, false_and, if_true, if_false, ↓reduceIte]))
    | (with_reducible refine p_205 ?_ (fun v9 h9 => ?_); (next => first | omega | (with_reducible rfl) | decide | (unfold w32; omega) | (simp (disch := omega) only [w32_eq]; omega) | (simp [upm] <;> (first | omega | (unfold w32; omega)))); simp only [hdl_c, S9_1, S9_m, bud9, live9, inb9, wrn, wr9_14, wr9_15, wr9_16, wr9_17, tq9_14, tq9_15, tq9_16, tq9_17, tq_0, tq_1, tq_3, upr_rl, rl_0, rl_1, rl_2, rl_3, rl_4, rl_5, rl_6, rl_7, rl_8, rl_9, rl_10, rl_11, rl_12, rl_13, sp_0, sp_1, sp_2, sp_3, sp_4, sp_5, sp_6, sp_7, sp_8, sp_9, sp_10, sp_11, sp_12, sp_13, se_0, se_1, se_2, se_3, se_4, se_5, se_6, se_7, se_8, se_9, se_10, se_11, se_12, se_13, sem_0, sem_1, sem_2, sem_3, sem_4, sem_5, List.getD_cons_zero, List.getD_cons_succ, Bool.false_eq_true, wrn3, wrn1, cpmS, cpok9, if_true, if_false, ↓reduceIte, wc_188, wc_203, wc_205, sr_249_25, sr_249_41, sr_249_10, sr_249_16, sr_249_23, sr_249_61, sr_249_24, sr_249_69, sr_249_2, sr_249_54, kl9_249, sr_249_14, sr_249_11, sr_249_34, sr_249_12, sr_249_42, sr_249_8, sr_249_70, sr_249_50, sr_249_9, sr_249_13, sr_249_57, sr_249_55, sr_249_22, sr_249_68, sr_249_17, sr_249_40, sr_249_67, sr_249_31, sr_249_63, kc_249, sr_249_30, sr_249_43, sr_249_15, sr_249_35, sr_249_58, sr_249_51, sr_249_64, sr_249_52, sr_249_71, kl9_251, kc_251, kl9_252, kc_252, kl9_253, kc_253, kl9_254, kc_254, kl9_255, kc_255, kl9_256, kc_256, kc_257, kl9_257, kl9_258, kc_258, upm_app, Int.reduceEq, and_self, and_true, true_and, and_false, false_and, if_true, if_false, ↓reduceIte, Int.reduceNe, ne_eq, not_false_eq_true, not_true_eq_false]; (try simp (disch := omega) only [w15_0, w15_1, w15_3, w15_4, w15_5, w15_6, w3_0, w3_1, w3_2, upm_app, Int.reduceEq, and_self, and_true, true_and, and_false, false_and, if_true, if_false, ↓reduceIte]))
    | ((try simp (disch := omega) only [w32_eq]); (try rw [if_neg (by omega)]); (try rw [if_neg (by omega)]); (try rw [if_neg (by omega)]); ((with_reducible refine c0 ?_) <;> (first | omega | assumption | (unfold w32; omega) | (unfold w32 at *; omega) | (simp only [not_and_or]; omega))))
    | ((try simp (disch := omega) only [w32_eq]); (try rw [if_neg (by omega)]); (try rw [if_neg (by omega)]); (try rw [if_neg (by omega)]); ((with_reducible refine c1 ?_ ?_) <;> (first | omega | assumption | (unfold w32; omega) | (unfold w32 at *; omega) | (simp only [not_and_or]; omega))))
    | ((try simp (disch := omega) only [w32_eq]); (try rw [if_neg (by omega)]); (try rw [if_neg (by omega)]); (try rw [if_neg (by omega)]); ((with_reducible refine c2 ?_ ?_ ?_) <;> (first | omega | assumption | (unfold w32; omega) | (unfold w32 at *; omega) | (simp only [not_and_or]; omega))))
    | ((try simp (disch := omega) only [w32_eq]); (try rw [if_neg (by omega)]); (try rw [if_neg (by omega)]); (try rw [if_neg (by omega)]); ((with_reducible refine c3 ?_ ?_ ?_) <;> (first | omega | assumption | (unfold w32; omega) | (unfold w32 at *; omega) | (simp only [not_and_or]; omega))))
    | (unfold w32; omega)
    | (simp (disch := omega) only [w32_eq]; omega)
    | (with_reducible show (_ : Int) ≤ _; simp [upm] <;> (first | omega | (unfold w32; omega)))
    | (with_reducible show (_ : Int) < _; simp [upm] <;> (first | omega | (unfold w32; omega))))

set_option maxHeartbeats 4000000 in
theorem l_229 {d : Nat} {e : Int} {m : Mem} {Q : Int → Sto → Prop} {a : Int} (hH : 0 ≤ m 249 6 ∧ m 249 6 ≤ 5) (hP : 0 ≤ m 249 5 ∧ m 249 5 ≤ 5) (hW : 0 ≤ m 249 4 ∧ m 249 4 ≤ 14) (hJp : ∀ p, 0 ≤ p → p ≤ 4 → 0 ≤ m 258 (15 + 7 * p) ∧ m 258 (15 + 7 * p) ≤ 9 ∧ 0 ≤ m 258 (18 + 7 * p) ∧ m 258 (18 + 7 * p) ≤ 1 ∧ -1 ≤ m 258 (20 + 7 * p) ∧ m 258 (20 + 7 * p) ≤ 4) (c0 : ¬ (0 ≤ a ∧ a < m 249 6) → Q (-1) (S9 e m)) (c1 : (0 ≤ a ∧ a < m 249 6) → Q (1 - m 258 (18 + 7 * a)) (S9 e (upm m 258 (18 + 7 * a) (1 - m 258 (18 + 7 * a))))) : Cl (d + 3) 229 [249, a] Q (S9 e m) := by
  have hx0 := hJp a
  simp only [cl_229, runB, B229, ma_229, rho_20, wf_13_36, wc_188, wc_205, w_cst, w_ldi, w_ldj, w_lda, w_ljk, w_ldk, w_ldw, w_ldk2, w_ldt, w_ldtw, w_neg, w_cvb, w_cvs, w_cvc, w_cvj, w_add, w_sub, w_mul, w_ban, w_bor, w_bxo, w_shl, w_shr, w_ush, w_dvi, w_rmi, w_aldi, w_aldj, w_aldz, w_aldc, w_alda, w_ite, w_cmp, w_cmj, w_cz, w_cnot, w_cand, w_cor, w_nil, w_cons, w_cvi, w_csta, w_cvt, w_cvv, w_csv, w_cpy, w_seq, w_sbr, w_sbn, w_brk, w_ifs, w_ifx, w_ife, w_wk, w_rets, w_rtv, w_thr, w_asi, w_asj, w_asa, w_inc, w_exs, w_asti, w_astj, w_astz, w_astc, w_aopadd, w_aopsub, w_sw, if_true, if_false, ↓reduceIte, hdl_c, S9_1, S9_m, bud9, live9, inb9, wrn, wr9_14, wr9_15, wr9_16, wr9_17, tq9_14, tq9_15, tq9_16, tq9_17, tq_0, tq_1, tq_3, upr_rl, rl_0, rl_1, rl_2, rl_3, rl_4, rl_5, rl_6, rl_7, rl_8, rl_9, rl_10, rl_11, rl_12, rl_13, sp_0, sp_1, sp_2, sp_3, sp_4, sp_5, sp_6, sp_7, sp_8, sp_9, sp_10, sp_11, sp_12, sp_13, se_0, se_1, se_2, se_3, se_4, se_5, se_6, se_7, se_8, se_9, se_10, se_11, se_12, se_13, sem_0, sem_1, sem_2, sem_3, sem_4, sem_5, sr_249_25, sr_249_41, sr_249_10, sr_249_16, sr_249_23, sr_249_61, sr_249_24, sr_249_69, sr_249_2, sr_249_54, kl9_249, sr_249_14, sr_249_11, sr_249_34, sr_249_12, sr_249_42, sr_249_8, sr_249_70, sr_249_50, sr_249_9, sr_249_13, sr_249_57, sr_249_55, sr_249_22, sr_249_68, sr_249_17, sr_249_40, sr_249_67, sr_249_31, sr_249_63, kc_249, sr_249_30, sr_249_43, sr_249_15, sr_249_35, sr_249_58, sr_249_51, sr_249_64, sr_249_52, sr_249_71, kl9_251, kc_251, kl9_252, kc_252, kl9_253, kc_253, kl9_254, kc_254, kl9_255, kc_255, kl9_256, kc_256, kc_257, kl9_257, kl9_258, kc_258, List.getD_cons_zero, List.getD_cons_succ, Bool.false_eq_true, wrn3, wrn1, cpmS, cpok9, upm_app, Int.reduceEq, and_self, and_true, true_and, and_false, false_and, if_true, if_false, ↓reduceIte, Int.reduceNe, ne_eq, not_false_eq_true, not_true_eq_false]
  (try simp (disch := omega) only [w15_0, w15_1, w15_3, w15_4, w15_5, w15_6, w3_0, w3_1, w3_2, upm_app, Int.reduceEq, and_self, and_true, true_and, and_false, false_and, if_true, if_false, ↓reduceIte])
  repeat' (first
    | (with_reducible exact True.intro)
    | (with_reducible exact False.elim)
    | omega
    | (with_reducible rfl)
    | (with_reducible contradiction)
    | (with_reducible refine And.intro ?_ ?_)
    | intro _
    | (with_reducible refine p_188 ?_ ?_; (next => first | omega | (with_reducible rfl) | decide | (unfold w32; omega) | (simp (disch := omega) only [w32_eq]; omega) | (simp [upm] <;> (first | omega | (unfold w32; omega)))); simp only [hdl_c, S9_1, S9_m, bud9, live9, inb9, wrn, wr9_14, wr9_15, wr9_16, wr9_17, tq9_14, tq9_15, tq9_16, tq9_17, tq_0, tq_1, tq_3, upr_rl, rl_0, rl_1, rl_2, rl_3, rl_4, rl_5, rl_6, rl_7, rl_8, rl_9, rl_10, rl_11, rl_12, rl_13, sp_0, sp_1, sp_2, sp_3, sp_4, sp_5, sp_6, sp_7, sp_8, sp_9, sp_10, sp_11, sp_12, sp_13, se_0, se_1, se_2, se_3, se_4, se_5, se_6, se_7, se_8, se_9, se_10, se_11, se_12, se_13, sem_0, sem_1, sem_2, sem_3, sem_4, sem_5, List.getD_cons_zero, List.getD_cons_succ, Bool.false_eq_true, wrn3, wrn1, cpmS, cpok9, if_true, if_false, ↓reduceIte, wc_188, wc_205, sr_249_25, sr_249_41, sr_249_10, sr_249_16, sr_249_23, sr_249_61, sr_249_24, sr_249_69, sr_249_2, sr_249_54, kl9_249, sr_249_14, sr_249_11, sr_249_34, sr_249_12, sr_249_42, sr_249_8, sr_249_70, sr_249_50, sr_249_9, sr_249_13, sr_249_57, sr_249_55, sr_249_22, sr_249_68, sr_249_17, sr_249_40, sr_249_67, sr_249_31, sr_249_63, kc_249, sr_249_30, sr_249_43, sr_249_15, sr_249_35, sr_249_58, sr_249_51, sr_249_64, sr_249_52, sr_249_71, kl9_251, kc_251, kl9_252, kc_252, kl9_253, kc_253, kl9_254, kc_254, kl9_255, kc_255, kl9_256, kc_256, kc_257, kl9_257, kl9_258, kc_258, upm_app, Int.reduceEq, and_self, and_true, true_and, and_false, false_and, if_true, if_false, ↓reduceIte, Int.reduceNe, ne_eq, not_false_eq_true, not_true_eq_false]; (try simp (disch := omega) only [w15_0, w15_1, w15_3, w15_4, w15_5, w15_6, w3_0, w3_1, w3_2, upm_app, Int.reduceEq, and_self, and_true, true_and, and_false, false_and, if_true, if_false, ↓reduceIte]))
    | (with_reducible refine p_205 ?_ (fun v9 h9 => ?_); (next => first | omega | (with_reducible rfl) | decide | (unfold w32; omega) | (simp (disch := omega) only [w32_eq]; omega) | (simp [upm] <;> (first | omega | (unfold w32; omega)))); simp only [hdl_c, S9_1, S9_m, bud9, live9, inb9, wrn, wr9_14, wr9_15, wr9_16, wr9_17, tq9_14, tq9_15, tq9_16, tq9_17, tq_0, tq_1, tq_3, upr_rl, rl_0, rl_1, rl_2, rl_3, rl_4, rl_5, rl_6, rl_7, rl_8, rl_9, rl_10, rl_11, rl_12, rl_13, sp_0, sp_1, sp_2, sp_3, sp_4, sp_5, sp_6, sp_7, sp_8, sp_9, sp_10, sp_11, sp_12, sp_13, se_0, se_1, se_2, se_3, se_4, se_5, se_6, se_7, se_8, se_9, se_10, se_11, se_12, se_13, sem_0, sem_1, sem_2, sem_3, sem_4, sem_5, List.getD_cons_zero, List.getD_cons_succ, Bool.false_eq_true, wrn3, wrn1, cpmS, cpok9, if_true, if_false, ↓reduceIte, wc_188, wc_205, sr_249_25, sr_249_41, sr_249_10, sr_249_16, sr_249_23, sr_249_61, sr_249_24, sr_249_69, sr_249_2, sr_249_54, kl9_249, sr_249_14, sr_249_11, sr_249_34, sr_249_12, sr_249_42, sr_249_8, sr_249_70, sr_249_50, sr_249_9, sr_249_13, sr_249_57, sr_249_55, sr_249_22, sr_249_68, sr_249_17, sr_249_40, sr_249_67, sr_249_31, sr_249_63, kc_249, sr_249_30, sr_249_43, sr_249_15, sr_249_35, sr_249_58, sr_249_51, sr_249_64, sr_249_52, sr_249_71, kl9_251, kc_251, kl9_252, kc_252, kl9_253, kc_253, kl9_254, kc_254, kl9_255, kc_255, kl9_256, kc_256, kc_257, kl9_257, kl9_258, kc_258, upm_app, Int.reduceEq, and_self, and_true, true_and, and_false, false_and, if_true, if_false, ↓reduceIte, Int.reduceNe, ne_eq, not_false_eq_true, not_true_eq_false]; (try simp (disch := omega) only [w15_0, w15_1, w15_3, w15_4, w15_5, w15_6, w3_0, w3_1, w3_2, upm_app, Int.reduceEq, and_self, and_true, true_and, and_false, false_and, if_true, if_false, ↓reduceIte]))
    | ((try simp (disch := omega) only [w32_eq]); (try rw [if_neg (by omega)]); (try rw [if_neg (by omega)]); (try rw [if_neg (by omega)]); ((with_reducible refine c0 ?_) <;> (first | omega | assumption | (unfold w32; omega) | (unfold w32 at *; omega) | (simp only [not_and_or]; omega))))
    | ((try simp (disch := omega) only [w32_eq]); (try rw [if_neg (by omega)]); (try rw [if_neg (by omega)]); (try rw [if_neg (by omega)]); ((with_reducible refine c1 ?_) <;> (first | omega | assumption | (unfold w32; omega) | (unfold w32 at *; omega) | (simp only [not_and_or]; omega))))
    | (unfold w32; omega)
    | (simp (disch := omega) only [w32_eq]; omega)
    | (with_reducible show (_ : Int) ≤ _; simp [upm] <;> (first | omega | (unfold w32; omega)))
    | (with_reducible show (_ : Int) < _; simp [upm] <;> (first | omega | (unfold w32; omega))))

set_option maxHeartbeats 4000000 in
theorem l_231 {d : Nat} {e : Int} {m : Mem} {Q : Int → Sto → Prop} {a b : Int} (hH : 0 ≤ m 249 6 ∧ m 249 6 ≤ 5) (hP : 0 ≤ m 249 5 ∧ m 249 5 ≤ 5) (hW : 0 ≤ m 249 4 ∧ m 249 4 ≤ 14) (hJp : ∀ p, 0 ≤ p → p ≤ 4 → 0 ≤ m 258 (15 + 7 * p) ∧ m 258 (15 + 7 * p) ≤ 9 ∧ 0 ≤ m 258 (18 + 7 * p) ∧ m 258 (18 + 7 * p) ≤ 1 ∧ -1 ≤ m 258 (20 + 7 * p) ∧ m 258 (20 + 7 * p) ≤ 4) (c0 : ¬ ((0 ≤ a ∧ a < m 249 6) ∧ (0 ≤ b ∧ b < m 249 6) ∧ a ≠ b) → Q (-1) (S9 e m)) (c1 : ((0 ≤ a ∧ a < m 249 6) ∧ (0 ≤ b ∧ b < m 249 6) ∧ a ≠ b) → ¬ (0 ≤ m 258 (20 + 7 * a) ∧ m 258 (20 + 7 * b) < 0) → Q (-2) (S9 e m)) (c2 : ((0 ≤ a ∧ a < m 249 6) ∧ (0 ≤ b ∧ b < m 249 6) ∧ a ≠ b) → (0 ≤ m 258 (20 + 7 * a) ∧ m 258 (20 + 7 * b) < 0) → m 258 (15 + 7 * a) ≠ m 258 (15 + 7 * b) → Q (-3) (S9 e m)) (c3 : ((0 ≤ a ∧ a < m 249 6) ∧ (0 ≤ b ∧ b < m 249 6) ∧ a ≠ b) → (0 ≤ m 258 (20 + 7 * a) ∧ m 258 (20 + 7 * b) < 0) → m 258 (15 + 7 * a) = m 258 (15 + 7 * b) → Q (m 258 (20 + 7 * a)) (S9 e (upm (upm m 258 (20 + 7 * a) (-1)) 258 (20 + 7 * b) (m 258 (20 + 7 * a))))) : Cl (d + 4) 231 [249, a, b] Q (S9 e m) := by
  have hx0 := hJp a
  have hx1 := hJp b
  simp only [cl_231, runB, B231, ma_231, rho_200, wf_13_36, wc_188, wc_203, wc_205, w_cst, w_ldi, w_ldj, w_lda, w_ljk, w_ldk, w_ldw, w_ldk2, w_ldt, w_ldtw, w_neg, w_cvb, w_cvs, w_cvc, w_cvj, w_add, w_sub, w_mul, w_ban, w_bor, w_bxo, w_shl, w_shr, w_ush, w_dvi, w_rmi, w_aldi, w_aldj, w_aldz, w_aldc, w_alda, w_ite, w_cmp, w_cmj, w_cz, w_cnot, w_cand, w_cor, w_nil, w_cons, w_cvi, w_csta, w_cvt, w_cvv, w_csv, w_cpy, w_seq, w_sbr, w_sbn, w_brk, w_ifs, w_ifx, w_ife, w_wk, w_rets, w_rtv, w_thr, w_asi, w_asj, w_asa, w_inc, w_exs, w_asti, w_astj, w_astz, w_astc, w_aopadd, w_aopsub, w_sw, if_true, if_false, ↓reduceIte, hdl_c, S9_1, S9_m, bud9, live9, inb9, wrn, wr9_14, wr9_15, wr9_16, wr9_17, tq9_14, tq9_15, tq9_16, tq9_17, tq_0, tq_1, tq_3, upr_rl, rl_0, rl_1, rl_2, rl_3, rl_4, rl_5, rl_6, rl_7, rl_8, rl_9, rl_10, rl_11, rl_12, rl_13, sp_0, sp_1, sp_2, sp_3, sp_4, sp_5, sp_6, sp_7, sp_8, sp_9, sp_10, sp_11, sp_12, sp_13, se_0, se_1, se_2, se_3, se_4, se_5, se_6, se_7, se_8, se_9, se_10, se_11, se_12, se_13, sem_0, sem_1, sem_2, sem_3, sem_4, sem_5, sr_249_25, sr_249_41, sr_249_10, sr_249_16, sr_249_23, sr_249_61, sr_249_24, sr_249_69, sr_249_2, sr_249_54, kl9_249, sr_249_14, sr_249_11, sr_249_34, sr_249_12, sr_249_42, sr_249_8, sr_249_70, sr_249_50, sr_249_9, sr_249_13, sr_249_57, sr_249_55, sr_249_22, sr_249_68, sr_249_17, sr_249_40, sr_249_67, sr_249_31, sr_249_63, kc_249, sr_249_30, sr_249_43, sr_249_15, sr_249_35, sr_249_58, sr_249_51, sr_249_64, sr_249_52, sr_249_71, kl9_251, kc_251, kl9_252, kc_252, kl9_253, kc_253, kl9_254, kc_254, kl9_255, kc_255, kl9_256, kc_256, kc_257, kl9_257, kl9_258, kc_258, List.getD_cons_zero, List.getD_cons_succ, Bool.false_eq_true, wrn3, wrn1, cpmS, cpok9, upm_app, Int.reduceEq, and_self, and_true, true_and, and_false, false_and, if_true, if_false, ↓reduceIte, Int.reduceNe, ne_eq, not_false_eq_true, not_true_eq_false]
  (try simp (disch := omega) only [w15_0, w15_1, w15_3, w15_4, w15_5, w15_6, w3_0, w3_1, w3_2, upm_app, Int.reduceEq, and_self, and_true, true_and, and_false, false_and, if_true, if_false, ↓reduceIte])
  repeat' (first
    | (with_reducible exact True.intro)
    | (with_reducible exact False.elim)
    | omega
    | (with_reducible rfl)
    | (with_reducible contradiction)
    | (with_reducible refine And.intro ?_ ?_)
    | intro _
    | (with_reducible refine p_188 ?_ ?_; (next => first | omega | (with_reducible rfl) | decide | (unfold w32; omega) | (simp (disch := omega) only [w32_eq]; omega) | (simp [upm] <;> (first | omega | (unfold w32; omega)))); simp only [hdl_c, S9_1, S9_m, bud9, live9, inb9, wrn, wr9_14, wr9_15, wr9_16, wr9_17, tq9_14, tq9_15, tq9_16, tq9_17, tq_0, tq_1, tq_3, upr_rl, rl_0, rl_1, rl_2, rl_3, rl_4, rl_5, rl_6, rl_7, rl_8, rl_9, rl_10, rl_11, rl_12, rl_13, sp_0, sp_1, sp_2, sp_3, sp_4, sp_5, sp_6, sp_7, sp_8, sp_9, sp_10, sp_11, sp_12, sp_13, se_0, se_1, se_2, se_3, se_4, se_5, se_6, se_7, se_8, se_9, se_10, se_11, se_12, se_13, sem_0, sem_1, sem_2, sem_3, sem_4, sem_5, List.getD_cons_zero, List.getD_cons_succ, Bool.false_eq_true, wrn3, wrn1, cpmS, cpok9, if_true, if_false, ↓reduceIte, wc_188, wc_203, wc_205, sr_249_25, sr_249_41, sr_249_10, sr_249_16, sr_249_23, sr_249_61, sr_249_24, sr_249_69, sr_249_2, sr_249_54, kl9_249, sr_249_14, sr_249_11, sr_249_34, sr_249_12, sr_249_42, sr_249_8, sr_249_70, sr_249_50, sr_249_9, sr_249_13, sr_249_57, sr_249_55, sr_249_22, sr_249_68, sr_249_17, sr_249_40, sr_249_67, sr_249_31, sr_249_63, kc_249, sr_249_30, sr_249_43, sr_249_15, sr_249_35, sr_249_58, sr_249_51, sr_249_64, sr_249_52, sr_249_71, kl9_251, kc_251, kl9_252, kc_252, kl9_253, kc_253, kl9_254, kc_254, kl9_255, kc_255, kl9_256, kc_256, kc_257, kl9_257, kl9_258, kc_258, upm_app, Int.reduceEq, and_self, and_true, true_and, and_false, false_and, if_true, if_false, ↓reduceIte, Int.reduceNe, ne_eq, not_false_eq_true, not_true_eq_false]; (try simp (disch := omega) only [w15_0, w15_1, w15_3, w15_4, w15_5, w15_6, w3_0, w3_1, w3_2, upm_app, Int.reduceEq, and_self, and_true, true_and, and_false, false_and, if_true, if_false, ↓reduceIte]))
    | (with_reducible refine p_203 ?_ ?_; (next => first | omega | (with_reducible rfl) | decide | (unfold w32; omega) | (simp (disch := omega) only [w32_eq]; omega) | (simp [upm] <;> (first | omega | (unfold w32; omega)))); simp only [hdl_c, S9_1, S9_m, bud9, live9, inb9, wrn, wr9_14, wr9_15, wr9_16, wr9_17, tq9_14, tq9_15, tq9_16, tq9_17, tq_0, tq_1, tq_3, upr_rl, rl_0, rl_1, rl_2, rl_3, rl_4, rl_5, rl_6, rl_7, rl_8, rl_9, rl_10, rl_11, rl_12, rl_13, sp_0, sp_1, sp_2, sp_3, sp_4, sp_5, sp_6, sp_7, sp_8, sp_9, sp_10, sp_11, sp_12, sp_13, se_0, se_1, se_2, se_3, se_4, se_5, se_6, se_7, se_8, se_9, se_10, se_11, se_12, se_13, sem_0, sem_1, sem_2, sem_3, sem_4, sem_5, List.getD_cons_zero, List.getD_cons_succ, Bool.false_eq_true, wrn3, wrn1, cpmS, cpok9, if_true, if_false, ↓reduceIte, wc_188, wc_203, wc_205, sr_249_25, sr_249_41, sr_249_10, sr_249_16, sr_249_23, sr_249_61, sr_249_24, sr_249_69, sr_249_2, sr_249_54, kl9_249, sr_249_14, sr_249_11, sr_249_34, sr_249_12, sr_249_42, sr_249_8, sr_249_70, sr_249_50, sr_249_9, sr_249_13, sr_249_57, sr_249_55, sr_249_22, sr_249_68, sr_249_17, sr_249_40, sr_249_67, sr_249_31, sr_249_63, kc_249, sr_249_30, sr_249_43, sr_249_15, sr_249_35, sr_249_58, sr_249_51, sr_249_64, sr_249_52, sr_249_71, kl9_251, kc_251, kl9_252, kc_252, kl9_253, kc_253, kl9_254, kc_254, kl9_255, kc_255, kl9_256, kc_256, kc_257, kl9_257, kl9_258, kc_258, upm_app, Int.reduceEq, and_self, and_true, true_and, and_false, false_and, if_true, if_false, ↓reduceIte, Int.reduceNe, ne_eq, not_false_eq_true, not_true_eq_false]; (try simp (disch := omega) only [w15_0, w15_1, w15_3, w15_4, w15_5, w15_6, w3_0, w3_1, w3_2, upm_app, Int.reduceEq, and_self, and_true, true_and, and_false, false_and, if_true, if_false, ↓reduceIte]))
    | (with_reducible refine p_205 ?_ (fun v9 h9 => ?_); (next => first | omega | (with_reducible rfl) | decide | (unfold w32; omega) | (simp (disch := omega) only [w32_eq]; omega) | (simp [upm] <;> (first | omega | (unfold w32; omega)))); simp only [hdl_c, S9_1, S9_m, bud9, live9, inb9, wrn, wr9_14, wr9_15, wr9_16, wr9_17, tq9_14, tq9_15, tq9_16, tq9_17, tq_0, tq_1, tq_3, upr_rl, rl_0, rl_1, rl_2, rl_3, rl_4, rl_5, rl_6, rl_7, rl_8, rl_9, rl_10, rl_11, rl_12, rl_13, sp_0, sp_1, sp_2, sp_3, sp_4, sp_5, sp_6, sp_7, sp_8, sp_9, sp_10, sp_11, sp_12, sp_13, se_0, se_1, se_2, se_3, se_4, se_5, se_6, se_7, se_8, se_9, se_10, se_11, se_12, se_13, sem_0, sem_1, sem_2, sem_3, sem_4, sem_5, List.getD_cons_zero, List.getD_cons_succ, Bool.false_eq_true, wrn3, wrn1, cpmS, cpok9, if_true, if_false, ↓reduceIte, wc_188, wc_203, wc_205, sr_249_25, sr_249_41, sr_249_10, sr_249_16, sr_249_23, sr_249_61, sr_249_24, sr_249_69, sr_249_2, sr_249_54, kl9_249, sr_249_14, sr_249_11, sr_249_34, sr_249_12, sr_249_42, sr_249_8, sr_249_70, sr_249_50, sr_249_9, sr_249_13, sr_249_57, sr_249_55, sr_249_22, sr_249_68, sr_249_17, sr_249_40, sr_249_67, sr_249_31, sr_249_63, kc_249, sr_249_30, sr_249_43, sr_249_15, sr_249_35, sr_249_58, sr_249_51, sr_249_64, sr_249_52, sr_249_71, kl9_251, kc_251, kl9_252, kc_252, kl9_253, kc_253, kl9_254, kc_254, kl9_255, kc_255, kl9_256, kc_256, kc_257, kl9_257, kl9_258, kc_258, upm_app, Int.reduceEq, and_self, and_true, true_and, and_false, false_and, if_true, if_false, ↓reduceIte, Int.reduceNe, ne_eq, not_false_eq_true, not_true_eq_false]; (try simp (disch := omega) only [w15_0, w15_1, w15_3, w15_4, w15_5, w15_6, w3_0, w3_1, w3_2, upm_app, Int.reduceEq, and_self, and_true, true_and, and_false, false_and, if_true, if_false, ↓reduceIte]))
    | ((try simp (disch := omega) only [w32_eq]); (try rw [if_neg (by omega)]); (try rw [if_neg (by omega)]); (try rw [if_neg (by omega)]); ((with_reducible refine c0 ?_) <;> (first | omega | assumption | (unfold w32; omega) | (unfold w32 at *; omega) | (simp only [not_and_or]; omega))))
    | ((try simp (disch := omega) only [w32_eq]); (try rw [if_neg (by omega)]); (try rw [if_neg (by omega)]); (try rw [if_neg (by omega)]); ((with_reducible refine c1 ?_ ?_) <;> (first | omega | assumption | (unfold w32; omega) | (unfold w32 at *; omega) | (simp only [not_and_or]; omega))))
    | ((try simp (disch := omega) only [w32_eq]); (try rw [if_neg (by omega)]); (try rw [if_neg (by omega)]); (try rw [if_neg (by omega)]); ((with_reducible refine c2 ?_ ?_ ?_) <;> (first | omega | assumption | (unfold w32; omega) | (unfold w32 at *; omega) | (simp only [not_and_or]; omega))))
    | ((try simp (disch := omega) only [w32_eq]); (try rw [if_neg (by omega)]); (try rw [if_neg (by omega)]); (try rw [if_neg (by omega)]); ((with_reducible refine c3 ?_ ?_ ?_) <;> (first | omega | assumption | (unfold w32; omega) | (unfold w32 at *; omega) | (simp only [not_and_or]; omega))))
    | (unfold w32; omega)
    | (simp (disch := omega) only [w32_eq]; omega)
    | (with_reducible show (_ : Int) ≤ _; simp [upm] <;> (first | omega | (unfold w32; omega)))
    | (with_reducible show (_ : Int) < _; simp [upm] <;> (first | omega | (unfold w32; omega))))

set_option maxHeartbeats 4000000 in
theorem l_234 {d : Nat} {e : Int} {m : Mem} {Q : Int → Sto → Prop} {a b : Int} (hH : 0 ≤ m 249 6 ∧ m 249 6 ≤ 5) (hP : 0 ≤ m 249 5 ∧ m 249 5 ≤ 5) (hW : 0 ≤ m 249 4 ∧ m 249 4 ≤ 14) (hJp : ∀ p, 0 ≤ p → p ≤ 4 → 0 ≤ m 258 (15 + 7 * p) ∧ m 258 (15 + 7 * p) ≤ 9 ∧ 0 ≤ m 258 (18 + 7 * p) ∧ m 258 (18 + 7 * p) ≤ 1 ∧ -1 ≤ m 258 (20 + 7 * p) ∧ m 258 (20 + 7 * p) ≤ 4) (c0 : ¬ ((0 ≤ a ∧ a < m 249 4) ∧ m 255 a ≠ 0 ∧ 0 ≤ b ∧ b ≤ 1) → Q (-1) (S9 e m)) (c1 : ((0 ≤ a ∧ a < m 249 4) ∧ m 255 a ≠ 0 ∧ 0 ≤ b ∧ b ≤ 1) → Q (bcf (ior (iand (m 258 50) (ixor (ishl 1 a) (-1))) (ishl b a))) (S9 e (upm m 258 50 (ior (iand (m 258 50) (ixor (ishl 1 a) (-1))) (ishl b a))))) : Cl (d + 3) 234 [249, a, b] Q (S9 e m) := by
  simp only [cl_234, runB, B234, ma_234, rho_200, wf_13_26, wf_13_36, wc_95, wc_169, wc_197, w_cst, w_ldi, w_ldj, w_lda, w_ljk, w_ldk, w_ldw, w_ldk2, w_ldt, w_ldtw, w_neg, w_cvb, w_cvs, w_cvc, w_cvj, w_add, w_sub, w_mul, w_ban, w_bor, w_bxo, w_shl, w_shr, w_ush, w_dvi, w_rmi, w_aldi, w_aldj, w_aldz, w_aldc, w_alda, w_ite, w_cmp, w_cmj, w_cz, w_cnot, w_cand, w_cor, w_nil, w_cons, w_cvi, w_csta, w_cvt, w_cvv, w_csv, w_cpy, w_seq, w_sbr, w_sbn, w_brk, w_ifs, w_ifx, w_ife, w_wk, w_rets, w_rtv, w_thr, w_asi, w_asj, w_asa, w_inc, w_exs, w_asti, w_astj, w_astz, w_astc, w_aopadd, w_aopsub, w_sw, if_true, if_false, ↓reduceIte, hdl_c, S9_1, S9_m, bud9, live9, inb9, wrn, wr9_14, wr9_15, wr9_16, wr9_17, tq9_14, tq9_15, tq9_16, tq9_17, tq_0, tq_1, tq_3, upr_rl, rl_0, rl_1, rl_2, rl_3, rl_4, rl_5, rl_6, rl_7, rl_8, rl_9, rl_10, rl_11, rl_12, rl_13, sp_0, sp_1, sp_2, sp_3, sp_4, sp_5, sp_6, sp_7, sp_8, sp_9, sp_10, sp_11, sp_12, sp_13, se_0, se_1, se_2, se_3, se_4, se_5, se_6, se_7, se_8, se_9, se_10, se_11, se_12, se_13, sem_0, sem_1, sem_2, sem_3, sem_4, sem_5, sr_249_25, sr_249_41, sr_249_10, sr_249_16, sr_249_23, sr_249_61, sr_249_24, sr_249_69, sr_249_2, sr_249_54, kl9_249, sr_249_14, sr_249_11, sr_249_34, sr_249_12, sr_249_42, sr_249_8, sr_249_70, sr_249_50, sr_249_9, sr_249_13, sr_249_57, sr_249_55, sr_249_22, sr_249_68, sr_249_17, sr_249_40, sr_249_67, sr_249_31, sr_249_63, kc_249, sr_249_30, sr_249_43, sr_249_15, sr_249_35, sr_249_58, sr_249_51, sr_249_64, sr_249_52, sr_249_71, kl9_251, kc_251, kl9_252, kc_252, kl9_253, kc_253, kl9_254, kc_254, kl9_255, kc_255, kl9_256, kc_256, kc_257, kl9_257, kl9_258, kc_258, List.getD_cons_zero, List.getD_cons_succ, Bool.false_eq_true, wrn3, wrn1, cpmS, cpok9, upm_app, Int.reduceEq, and_self, and_true, true_and, and_false, false_and, if_true, if_false, ↓reduceIte, Int.reduceNe, ne_eq, not_false_eq_true, not_true_eq_false]
  (try simp (disch := omega) only [w15_0, w15_1, w15_3, w15_4, w15_5, w15_6, w3_0, w3_1, w3_2, upm_app, Int.reduceEq, and_self, and_true, true_and, and_false, false_and, if_true, if_false, ↓reduceIte])
  repeat' (first
    | (with_reducible exact True.intro)
    | (with_reducible exact False.elim)
    | omega
    | (with_reducible rfl)
    | (with_reducible contradiction)
    | (with_reducible refine And.intro ?_ ?_)
    | intro _
    | ((with_reducible refine l_95 ?_); simp only [hdl_c, S9_1, S9_m, bud9, live9, inb9, wrn, wr9_14, wr9_15, wr9_16, wr9_17, tq9_14, tq9_15, tq9_16, tq9_17, tq_0, tq_1, tq_3, upr_rl, rl_0, rl_1, rl_2, rl_3, rl_4, rl_5, rl_6, rl_7, rl_8, rl_9, rl_10, rl_11, rl_12, rl_13, sp_0, sp_1, sp_2, sp_3, sp_4, sp_5, sp_6, sp_7, sp_8, sp_9, sp_10, sp_11, sp_12, sp_13, se_0, se_1, se_2, se_3, se_4, se_5, se_6, se_7, se_8, se_9, se_10, se_11, se_12, se_13, sem_0, sem_1, sem_2, sem_3, sem_4, sem_5, List.getD_cons_zero, List.getD_cons_succ, Bool.false_eq_true, wrn3, wrn1, cpmS, cpok9, if_true, if_false, ↓reduceIte, wc_95, wc_169, wc_197, sr_249_25, sr_249_41, sr_249_10, sr_249_16, sr_249_23, sr_249_61, sr_249_24, sr_249_69, sr_249_2, sr_249_54, kl9_249, sr_249_14, sr_249_11, sr_249_34, sr_249_12, sr_249_42, sr_249_8, sr_249_70, sr_249_50, sr_249_9, sr_249_13, sr_249_57, sr_249_55, sr_249_22, sr_249_68, sr_249_17, sr_249_40, sr_249_67, sr_249_31, sr_249_63, kc_249, sr_249_30, sr_249_43, sr_249_15, sr_249_35, sr_249_58, sr_249_51, sr_249_64, sr_249_52, sr_249_71, kl9_251, kc_251, kl9_252, kc_252, kl9_253, kc_253, kl9_254, kc_254, kl9_255, kc_255, kl9_256, kc_256, kc_257, kl9_257, kl9_258, kc_258, upm_app, Int.reduceEq, and_self, and_true, true_and, and_false, false_and, if_true, if_false, ↓reduceIte, Int.reduceNe, ne_eq, not_false_eq_true, not_true_eq_false])
    | (with_reducible refine p_169 (fun v9 h9 => ?_); simp only [hdl_c, S9_1, S9_m, bud9, live9, inb9, wrn, wr9_14, wr9_15, wr9_16, wr9_17, tq9_14, tq9_15, tq9_16, tq9_17, tq_0, tq_1, tq_3, upr_rl, rl_0, rl_1, rl_2, rl_3, rl_4, rl_5, rl_6, rl_7, rl_8, rl_9, rl_10, rl_11, rl_12, rl_13, sp_0, sp_1, sp_2, sp_3, sp_4, sp_5, sp_6, sp_7, sp_8, sp_9, sp_10, sp_11, sp_12, sp_13, se_0, se_1, se_2, se_3, se_4, se_5, se_6, se_7, se_8, se_9, se_10, se_11, se_12, se_13, sem_0, sem_1, sem_2, sem_3, sem_4, sem_5, List.getD_cons_zero, List.getD_cons_succ, Bool.false_eq_true, wrn3, wrn1, cpmS, cpok9, if_true, if_false, ↓reduceIte, wc_95, wc_169, wc_197, sr_249_25, sr_249_41, sr_249_10, sr_249_16, sr_249_23, sr_249_61, sr_249_24, sr_249_69, sr_249_2, sr_249_54, kl9_249, sr_249_14, sr_249_11, sr_249_34, sr_249_12, sr_249_42, sr_249_8, sr_249_70, sr_249_50, sr_249_9, sr_249_13, sr_249_57, sr_249_55, sr_249_22, sr_249_68, sr_249_17, sr_249_40, sr_249_67, sr_249_31, sr_249_63, kc_249, sr_249_30, sr_249_43, sr_249_15, sr_249_35, sr_249_58, sr_249_51, sr_249_64, sr_249_52, sr_249_71, kl9_251, kc_251, kl9_252, kc_252, kl9_253, kc_253, kl9_254, kc_254, kl9_255, kc_255, kl9_256, kc_256, kc_257, kl9_257, kl9_258, kc_258, upm_app, Int.reduceEq, and_self, and_true, true_and, and_false, false_and, if_true, if_false, ↓reduceIte, Int.reduceNe, ne_eq, not_false_eq_true, not_true_eq_false]; (try simp (disch := omega) only [w15_0, w15_1, w15_3, w15_4, w15_5, w15_6, w3_0, w3_1, w3_2, upm_app, Int.reduceEq, and_self, and_true, true_and, and_false, false_and, if_true, if_false, ↓reduceIte]))
    | (with_reducible refine p_197 ?_ (fun v9 h9 => ?_); (next => first | omega | (with_reducible rfl) | decide | (unfold w32; omega) | (simp (disch := omega) only [w32_eq]; omega) | (simp [upm] <;> (first | omega | (unfold w32; omega)))); simp only [hdl_c, S9_1, S9_m, bud9, live9, inb9, wrn, wr9_14, wr9_15, wr9_16, wr9_17, tq9_14, tq9_15, tq9_16, tq9_17, tq_0, tq_1, tq_3, upr_rl, rl_0, rl_1, rl_2, rl_3, rl_4, rl_5, rl_6, rl_7, rl_8, rl_9, rl_10, rl_11, rl_12, rl_13, sp_0, sp_1, sp_2, sp_3, sp_4, sp_5, sp_6, sp_7, sp_8, sp_9, sp_10, sp_11, sp_12, sp_13, se_0, se_1, se_2, se_3, se_4, se_5, se_6, se_7, se_8, se_9, se_10, se_11, se_12, se_13, sem_0, sem_1, sem_2, sem_3, sem_4, sem_5, List.getD_cons_zero, List.getD_cons_succ, Bool.false_eq_true, wrn3, wrn1, cpmS, cpok9, if_true, if_false, ↓reduceIte, wc_95, wc_169, wc_197, sr_249_25, sr_249_41, sr_249_10, sr_249_16, sr_249_23, sr_249_61, sr_249_24, sr_249_69, sr_249_2, sr_249_54, kl9_249, sr_249_14, sr_249_11, sr_249_34, sr_249_12, sr_249_42, sr_249_8, sr_249_70, sr_249_50, sr_249_9, sr_249_13, sr_249_57, sr_249_55, sr_249_22, sr_249_68, sr_249_17, sr_249_40, sr_249_67, sr_249_31, sr_249_63, kc_249, sr_249_30, sr_249_43, sr_249_15, sr_249_35, sr_249_58, sr_249_51, sr_249_64, sr_249_52, sr_249_71, kl9_251, kc_251, kl9_252, kc_252, kl9_253, kc_253, kl9_254, kc_254, kl9_255, kc_255, kl9_256, kc_256, kc_257, kl9_257, kl9_258, kc_258, upm_app, Int.reduceEq, and_self, and_true, true_and, and_false, false_and, if_true, if_false, ↓reduceIte, Int.reduceNe, ne_eq, not_false_eq_true, not_true_eq_false]; (try simp (disch := omega) only [w15_0, w15_1, w15_3, w15_4, w15_5, w15_6, w3_0, w3_1, w3_2, upm_app, Int.reduceEq, and_self, and_true, true_and, and_false, false_and, if_true, if_false, ↓reduceIte]))
    | ((try simp (disch := omega) only [w32_eq]); (try rw [if_neg (by omega)]); (try rw [if_neg (by omega)]); (try rw [if_neg (by omega)]); ((with_reducible refine c0 ?_) <;> (first | omega | assumption | (unfold w32; omega) | (unfold w32 at *; omega) | (simp only [not_and_or]; omega))))
    | ((try simp (disch := omega) only [w32_eq]); (try rw [if_neg (by omega)]); (try rw [if_neg (by omega)]); (try rw [if_neg (by omega)]); ((with_reducible refine c1 ?_) <;> (first | omega | assumption | (unfold w32; omega) | (unfold w32 at *; omega) | (simp only [not_and_or]; omega))))
    | (unfold w32; omega)
    | (simp (disch := omega) only [w32_eq]; omega)
    | (with_reducible show (_ : Int) ≤ _; simp [upm] <;> (first | omega | (unfold w32; omega)))
    | (with_reducible show (_ : Int) < _; simp [upm] <;> (first | omega | (unfold w32; omega))))

set_option maxHeartbeats 4000000 in
theorem l_210 {d : Nat} {e : Int} {m : Mem} {Q : Int → Sto → Prop} {a b : Int} (hH : 0 ≤ m 249 6 ∧ m 249 6 ≤ 5) (hP : 0 ≤ m 249 5 ∧ m 249 5 ≤ 5) (hW : 0 ≤ m 249 4 ∧ m 249 4 ≤ 14) (hJp : ∀ p, 0 ≤ p → p ≤ 4 → 0 ≤ m 258 (15 + 7 * p) ∧ m 258 (15 + 7 * p) ≤ 9 ∧ 0 ≤ m 258 (18 + 7 * p) ∧ m 258 (18 + 7 * p) ≤ 1 ∧ -1 ≤ m 258 (20 + 7 * p) ∧ m 258 (20 + 7 * p) ≤ 4) (c0 : ¬ ((0 ≤ a ∧ a < m 249 5) ∧ m 258 (3 * a + 2) = 0 ∧ 0 ≤ b ∧ b ≤ 999) → Q (-1) (S9 e (upm m 249 0 0))) (c1 : ((0 ≤ a ∧ a < m 249 5) ∧ m 258 (3 * a + 2) = 0 ∧ 0 ≤ b ∧ b ≤ 999) → Q (m 258 (3 * a)) (S9 e (upm (upm m 249 0 0) 258 (3 * a) b))) : Cl (d + 4) 210 [249, a, b] Q (S9 e m) := by
  simp only [cl_210, runB, B210, ma_210, rho_200, wf_13_36, wpf_13_126, wc_169, wc_211, cl_211, B211, ma_211, rho_20, wc_201, w_cst, w_ldi, w_ldj, w_lda, w_ljk, w_ldk, w_ldw, w_ldk2, w_ldt, w_ldtw, w_neg, w_cvb, w_cvs, w_cvc, w_cvj, w_add, w_sub, w_mul, w_ban, w_bor, w_bxo, w_shl, w_shr, w_ush, w_dvi, w_rmi, w_aldi, w_aldj, w_aldz, w_aldc, w_alda, w_ite, w_cmp, w_cmj, w_cz, w_cnot, w_cand, w_cor, w_nil, w_cons, w_cvi, w_csta, w_cvt, w_cvv, w_csv, w_cpy, w_seq, w_sbr, w_sbn, w_brk, w_ifs, w_ifx, w_ife, w_wk, w_rets, w_rtv, w_thr, w_asi, w_asj, w_asa, w_inc, w_exs, w_asti, w_astj, w_astz, w_astc, w_aopadd, w_aopsub, w_sw, if_true, if_false, ↓reduceIte, hdl_c, S9_1, S9_m, bud9, live9, inb9, wrn, wr9_14, wr9_15, wr9_16, wr9_17, tq9_14, tq9_15, tq9_16, tq9_17, tq_0, tq_1, tq_3, upr_rl, rl_0, rl_1, rl_2, rl_3, rl_4, rl_5, rl_6, rl_7, rl_8, rl_9, rl_10, rl_11, rl_12, rl_13, sp_0, sp_1, sp_2, sp_3, sp_4, sp_5, sp_6, sp_7, sp_8, sp_9, sp_10, sp_11, sp_12, sp_13, se_0, se_1, se_2, se_3, se_4, se_5, se_6, se_7, se_8, se_9, se_10, se_11, se_12, se_13, sem_0, sem_1, sem_2, sem_3, sem_4, sem_5, sr_249_25, sr_249_41, sr_249_10, sr_249_16, sr_249_23, sr_249_61, sr_249_24, sr_249_69, sr_249_2, sr_249_54, kl9_249, sr_249_14, sr_249_11, sr_249_34, sr_249_12, sr_249_42, sr_249_8, sr_249_70, sr_249_50, sr_249_9, sr_249_13, sr_249_57, sr_249_55, sr_249_22, sr_249_68, sr_249_17, sr_249_40, sr_249_67, sr_249_31, sr_249_63, kc_249, sr_249_30, sr_249_43, sr_249_15, sr_249_35, sr_249_58, sr_249_51, sr_249_64, sr_249_52, sr_249_71, kl9_251, kc_251, kl9_252, kc_252, kl9_253, kc_253, kl9_254, kc_254, kl9_255, kc_255, kl9_256, kc_256, kc_257, kl9_257, kl9_258, kc_258, List.getD_cons_zero, List.getD_cons_succ, Bool.false_eq_true, wrn3, wrn1, cpmS, cpok9, upm_app, Int.reduceEq, and_self, and_true, true_and, and_false, false_and, if_true, if_false, ↓reduceIte, Int.reduceNe, ne_eq, not_false_eq_true, not_true_eq_false]
  (try simp (disch := omega) only [w15_0, w15_1, w15_3, w15_4, w15_5, w15_6, w3_0, w3_1, w3_2, upm_app, Int.reduceEq, and_self, and_true, true_and, and_false, false_and, if_true, if_false, ↓reduceIte])
  repeat' (first
    | (with_reducible exact True.intro)
    | (with_reducible exact False.elim)
    | omega
    | (with_reducible rfl)
    | (with_reducible contradiction)
    | (with_reducible refine And.intro ?_ ?_)
    | intro _
    | (with_reducible refine p_169 (fun v9 h9 => ?_); (try simp only [upm_app, Int.reduceEq, and_self, and_true, true_and, and_false, false_and, if_true, if_false, ↓reduceIte, Int.reduceNe, ne_eq, not_false_eq_true, not_true_eq_false, upm_f, Int.reduceEq] at h9); simp only [hdl_c, S9_1, S9_m, bud9, live9, inb9, wrn, wr9_14, wr9_15, wr9_16, wr9_17, tq9_14, tq9_15, tq9_16, tq9_17, tq_0, tq_1, tq_3, upr_rl, rl_0, rl_1, rl_2, rl_3, rl_4, rl_5, rl_6, rl_7, rl_8, rl_9, rl_10, rl_11, rl_12, rl_13, sp_0, sp_1, sp_2, sp_3, sp_4, sp_5, sp_6, sp_7, sp_8, sp_9, sp_10, sp_11, sp_12, sp_13, se_0, se_1, se_2, se_3, se_4, se_5, se_6, se_7, se_8, se_9, se_10, se_11, se_12, se_13, sem_0, sem_1, sem_2, sem_3, sem_4, sem_5, List.getD_cons_zero, List.getD_cons_succ, Bool.false_eq_true, wrn3, wrn1, cpmS, cpok9, if_true, if_false, ↓reduceIte, wc_169, wc_201, wc_211, cl_211, runB, B211, ma_211, rho_20, wf_13_36, wc_201, w_cst, w_ldi, w_ldj, w_lda, w_ljk, w_ldk, w_ldw, w_ldk2, w_ldt, w_ldtw, w_neg, w_cvb, w_cvs, w_cvc, w_cvj, w_add, w_sub, w_mul, w_ban, w_bor, w_bxo, w_shl, w_shr, w_ush, w_dvi, w_rmi, w_aldi, w_aldj, w_aldz, w_aldc, w_alda, w_ite, w_cmp, w_cmj, w_cz, w_cnot, w_cand, w_cor, w_nil, w_cons, w_cvi, w_csta, w_cvt, w_cvv, w_csv, w_cpy, w_seq, w_sbr, w_sbn, w_brk, w_ifs, w_ifx, w_ife, w_wk, w_rets, w_rtv, w_thr, w_asi, w_asj, w_asa, w_inc, w_exs, w_asti, w_astj, w_astz, w_astc, w_aopadd, w_aopsub, w_sw, if_true, if_false, ↓reduceIte, sr_249_25, sr_249_41, sr_249_10, sr_249_16, sr_249_23, sr_249_61, sr_249_24, sr_249_69, sr_249_2, sr_249_54, kl9_249, sr_249_14, sr_249_11, sr_249_34, sr_249_12, sr_249_42, sr_249_8, sr_249_70, sr_249_50, sr_249_9, sr_249_13, sr_249_57, sr_249_55, sr_249_22, sr_249_68, sr_249_17, sr_249_40, sr_249_67, sr_249_31, sr_249_63, kc_249, sr_249_30, sr_249_43, sr_249_15, sr_249_35, sr_249_58, sr_249_51, sr_249_64, sr_249_52, sr_249_71, kl9_251, kc_251, kl9_252, kc_252, kl9_253, kc_253, kl9_254, kc_254, kl9_255, kc_255, kl9_256, kc_256, kc_257, kl9_257, kl9_258, kc_258, upm_app, Int.reduceEq, and_self, and_true, true_and, and_false, false_and, if_true, if_false, ↓reduceIte, Int.reduceNe, ne_eq, not_false_eq_true, not_true_eq_false]; (try simp (disch := omega) only [w15_0, w15_1, w15_3, w15_4, w15_5, w15_6, w3_0, w3_1, w3_2, upm_app, Int.reduceEq, and_self, and_true, true_and, and_false, false_and, if_true, if_false, ↓reduceIte]))
    | (with_reducible refine p_201 ?_ (fun v9 h9 => ?_); (next => first | omega | (with_reducible rfl) | decide | (unfold w32; omega) | (simp (disch := omega) only [w32_eq]; omega) | (simp [upm] <;> (first | omega | (unfold w32; omega)))); (try simp only [upm_app, Int.reduceEq, and_self, and_true, true_and, and_false, false_and, if_true, if_false, ↓reduceIte, Int.reduceNe, ne_eq, not_false_eq_true, not_true_eq_false, upm_f, Int.reduceEq] at h9); simp only [hdl_c, S9_1, S9_m, bud9, live9, inb9, wrn, wr9_14, wr9_15, wr9_16, wr9_17, tq9_14, tq9_15, tq9_16, tq9_17, tq_0, tq_1, tq_3, upr_rl, rl_0, rl_1, rl_2, rl_3, rl_4, rl_5, rl_6, rl_7, rl_8, rl_9, rl_10, rl_11, rl_12, rl_13, sp_0, sp_1, sp_2, sp_3, sp_4, sp_5, sp_6, sp_7, sp_8, sp_9, sp_10, sp_11, sp_12, sp_13, se_0, se_1, se_2, se_3, se_4, se_5, se_6, se_7, se_8, se_9, se_10, se_11, se_12, se_13, sem_0, sem_1, sem_2, sem_3, sem_4, sem_5, List.getD_cons_zero, List.getD_cons_succ, Bool.false_eq_true, wrn3, wrn1, cpmS, cpok9, if_true, if_false, ↓reduceIte, wc_169, wc_201, wc_211, cl_211, runB, B211, ma_211, rho_20, wf_13_36, wc_201, w_cst, w_ldi, w_ldj, w_lda, w_ljk, w_ldk, w_ldw, w_ldk2, w_ldt, w_ldtw, w_neg, w_cvb, w_cvs, w_cvc, w_cvj, w_add, w_sub, w_mul, w_ban, w_bor, w_bxo, w_shl, w_shr, w_ush, w_dvi, w_rmi, w_aldi, w_aldj, w_aldz, w_aldc, w_alda, w_ite, w_cmp, w_cmj, w_cz, w_cnot, w_cand, w_cor, w_nil, w_cons, w_cvi, w_csta, w_cvt, w_cvv, w_csv, w_cpy, w_seq, w_sbr, w_sbn, w_brk, w_ifs, w_ifx, w_ife, w_wk, w_rets, w_rtv, w_thr, w_asi, w_asj, w_asa, w_inc, w_exs, w_asti, w_astj, w_astz, w_astc, w_aopadd, w_aopsub, w_sw, if_true, if_false, ↓reduceIte, sr_249_25, sr_249_41, sr_249_10, sr_249_16, sr_249_23, sr_249_61, sr_249_24, sr_249_69, sr_249_2, sr_249_54, kl9_249, sr_249_14, sr_249_11, sr_249_34, sr_249_12, sr_249_42, sr_249_8, sr_249_70, sr_249_50, sr_249_9, sr_249_13, sr_249_57, sr_249_55, sr_249_22, sr_249_68, sr_249_17, sr_249_40, sr_249_67, sr_249_31, sr_249_63, kc_249, sr_249_30, sr_249_43, sr_249_15, sr_249_35, sr_249_58, sr_249_51, sr_249_64, sr_249_52, sr_249_71, kl9_251, kc_251, kl9_252, kc_252, kl9_253, kc_253, kl9_254, kc_254, kl9_255, kc_255, kl9_256, kc_256, kc_257, kl9_257, kl9_258, kc_258, upm_app, Int.reduceEq, and_self, and_true, true_and, and_false, false_and, if_true, if_false, ↓reduceIte, Int.reduceNe, ne_eq, not_false_eq_true, not_true_eq_false]; (try simp (disch := omega) only [w15_0, w15_1, w15_3, w15_4, w15_5, w15_6, w3_0, w3_1, w3_2, upm_app, Int.reduceEq, and_self, and_true, true_and, and_false, false_and, if_true, if_false, ↓reduceIte]))
    | ((try simp (disch := omega) only [w3a, w3b] at *); (try simp (disch := omega) only [w32_eq]); (try rw [if_neg (by omega)]); (try rw [if_neg (by omega)]); (try rw [if_neg (by omega)]); ((with_reducible refine c0 ?_) <;> (first | omega | assumption | (unfold w32; omega) | (unfold w32 at *; omega) | (simp only [not_and_or]; omega))))
    | ((try simp (disch := omega) only [w3a, w3b] at *); (try simp (disch := omega) only [w32_eq]); (try rw [if_neg (by omega)]); (try rw [if_neg (by omega)]); (try rw [if_neg (by omega)]); ((with_reducible refine c1 ?_) <;> (first | omega | assumption | (unfold w32; omega) | (unfold w32 at *; omega) | (simp only [not_and_or]; omega))))
    | (unfold w32; omega)
    | (simp (disch := omega) only [w32_eq]; omega)
    | (with_reducible show (_ : Int) ≤ _; simp [upm] <;> (first | omega | (unfold w32; omega)))
    | (with_reducible show (_ : Int) < _; simp [upm] <;> (first | omega | (unfold w32; omega))))

theorem FB_rf (m : Mem) : FB m m := fun _ _ _ => rfl
theorem FB_up {m m' : Mem} {j v : Int} (h : FB m m') : FB m (upm m' 258 j v) := fun x y q => by
  rw [upm_app, if_neg (by omega)]; exact h x y q
theorem f_216 {d : Nat} {tc pl e : Int} {g : Fg} {m : Mem} {Q : Int → Sto → Prop} {L : Int} {a b : Int} (hJ : JR 3 g tc pl m) (hI : IV L (m 249 5) (m 249 6) (asR m 258 0)) (hq : ∀ v m', JR 3 g tc pl m' → FB m m' → (v, asR m' 258 0) = aTake (m 249 5) (m 249 6) (asR m 258 0) a b → Q v (S9 e m')) : Cl (d + 4) 216 [249, a, b] Q (S9 e m) := by
  have hs := JR_s hJ
  have hH : 0 ≤ m 249 6 ∧ m 249 6 ≤ 5 := by omega
  have hP : 0 ≤ m 249 5 ∧ m 249 5 ≤ 5 := by omega
  have hW : 0 ≤ m 249 4 ∧ m 249 4 ≤ 14 := by omega
  have hJp : ∀ p, 0 ≤ p → p ≤ 4 → 0 ≤ m 258 (15 + 7 * p) ∧ m 258 (15 + 7 * p) ≤ 9 ∧ 0 ≤ m 258 (18 + 7 * p) ∧ m 258 (18 + 7 * p) ≤ 1 ∧ -1 ≤ m 258 (20 + 7 * p) ∧ m 258 (20 + 7 * p) ≤ 4 := fun p p0 p1 => by
    have := JW_p (JW_mk hJ) p p0 p1
    omega
  refine l_216 hH hP hW hJp (fun z => hq _ _ hJ (FB_rf m) ?_) (fun z w => hq _ _ hJ (FB_rf m) ?_) (fun z w y => hq _ _ hJ (FB_rf m) ?_) (fun z w y => ?_)
  · unfold aTake; rw [if_pos z]
  · unfold aTake; rw [if_neg (not_not_intro z), if_pos (by rw [r_8 m (by omega)]; omega)]
  · have i8 := (hJp a z.1 (by omega))
    unfold aTake; rw [if_neg (not_not_intro z), if_neg (by rw [r_8 m (by omega)]; omega)]
    rw [if_pos (fun q => y ⟨q.1.1, q.1.2, by obtain ⟨⟨q0, q1⟩, q2⟩ := q; rw [r_1 m (by omega), r_3 m (by omega)] at q2; exact q2⟩)]
  · have e1 : asR m 258 0 1 b = m 258 (3 * b + 1) := r_1 m (by omega)
    have e3 : asR m 258 0 3 a = m 258 (15 + 7 * a) := r_3 m (by omega)
    have e8 : asR m 258 0 8 a = m 258 (20 + 7 * a) := r_8 m (by omega)
    have i8 := (hJp a z.1 (by omega))
    have ex : asR (upm (upm m 258 (20 + 7 * a) b) 258 (3 * b + 1) (-1)) 258 0 = asU (asU (asR m 258 0) 1 b (-1)) 8 a b := by
      rw [asR_p (f := 1) (j := b) _ (by decide) (by decide) (by omega) (by omega), asR_h (f := 8) (j := a) _ (by decide) (by decide) (by omega) (by omega), asU_c (Or.inl (by decide))]
    refine hq _ _ (by refine JR_of (JR_l hJ) ?_ (by decide); repeat (first | assumption | (refine JR_up ?_ (by first | decide | (unfold frR; omega)) (by first | decide | simp [frc]) (by first | (simp [BdR]; done) | (refine BdR_n (by simp) ?_; first | (refine rb_at ?_ ?_ <;> omega) | (refine rb_us ?_ ?_ <;> omega) | (refine rb_ho ?_ ?_ <;> omega) | (refine rb_on ?_ ?_ <;> omega) | (refine (rb_i ?_ ?_).2 ?_ <;> omega)))))) (FB_up (FB_up (FB_rf m))) ?_
    rw [ex]
    unfold aTake
    rw [if_neg (not_not_intro z), if_neg (by rw [e8]; omega), if_neg (not_not_intro ⟨⟨y.1, y.2.1⟩, by rw [e1, e3]; exact y.2.2⟩), r_0 m (by omega)]
theorem f_220 {d : Nat} {tc pl e : Int} {g : Fg} {m : Mem} {Q : Int → Sto → Prop} {L : Int} {a : Int} (hJ : JR 3 g tc pl m) (hI : IV L (m 249 5) (m 249 6) (asR m 258 0)) (hq : ∀ v m', JR 3 g tc pl m' → FB m m' → (v, asR m' 258 0) = aDown (m 249 6) (m 251) (asR m 258 0) a → Q v (S9 e m')) : Cl (d + 4) 220 [249, a] Q (S9 e m) := by
  have hs := JR_s hJ
  have hH : 0 ≤ m 249 6 ∧ m 249 6 ≤ 5 := by omega
  have hP : 0 ≤ m 249 5 ∧ m 249 5 ≤ 5 := by omega
  have hW : 0 ≤ m 249 4 ∧ m 249 4 ≤ 14 := by omega
  have hJp : ∀ p, 0 ≤ p → p ≤ 4 → 0 ≤ m 258 (15 + 7 * p) ∧ m 258 (15 + 7 * p) ≤ 9 ∧ 0 ≤ m 258 (18 + 7 * p) ∧ m 258 (18 + 7 * p) ≤ 1 ∧ -1 ≤ m 258 (20 + 7 * p) ∧ m 258 (20 + 7 * p) ≤ 4 := fun p p0 p1 => by
    have := JW_p (JW_mk hJ) p p0 p1
    omega
  refine l_220 hH hP hW hJp (fun z => hq _ _ hJ (FB_rf m) ?_) (fun z w => hq _ _ hJ (FB_rf m) ?_) (fun z w y => hq _ _ hJ (FB_rf m) ?_) (fun z w y => ?_)
  · unfold aDown; rw [if_pos z]
  · unfold aDown; rw [if_neg (not_not_intro z), if_pos (by rw [r_8 m (by omega)]; exact w)]
  · unfold aDown; rw [if_neg (not_not_intro z), if_neg (by rw [r_8 m (by omega)]; omega), if_pos (by rw [r_3 m (by omega)]; exact y)]
  · have e3 : asR m 258 0 3 a = m 258 (15 + 7 * a) := r_3 m (by omega)
    have e8 : asR m 258 0 8 a = m 258 (20 + 7 * a) := r_8 m (by omega)
    have i8 := (hJp a z.1 (by omega))
    have i9 := JW_p (JW_mk hJ) a z.1 (by omega)
    have ex : asR (upm (upm m 258 (20 + 7 * a) (-1)) 258 (3 * m 258 (20 + 7 * a) + 1) (m 258 (15 + 7 * a))) 258 0 = asU (asU (asR m 258 0) 8 a (-1)) 1 (m 258 (20 + 7 * a)) (m 258 (15 + 7 * a)) := by
      rw [asR_p (f := 1) (j := m 258 (20 + 7 * a)) _ (by decide) (by decide) (by omega) (by omega), asR_h (f := 8) (j := a) _ (by decide) (by decide) (by omega) (by omega)]
    refine hq _ _ (by refine JR_of (JR_l hJ) ?_ (by decide); repeat (first | assumption | (refine JR_up ?_ (by first | decide | (unfold frR; omega)) (by first | decide | simp [frc]) (by first | (simp [BdR]; done) | (refine BdR_n (by simp) ?_; first | (refine rb_at ?_ ?_ <;> omega) | (refine rb_us ?_ ?_ <;> omega) | (refine rb_ho ?_ ?_ <;> omega) | (refine rb_on ?_ ?_ <;> omega) | (refine (rb_i ?_ ?_).2 ?_ <;> omega)))))) (FB_up (FB_up (FB_rf m))) ?_
    rw [ex]
    unfold aDown
    rw [if_neg (not_not_intro z), if_neg (by rw [e8]; omega), if_neg (by rw [e3]; exact y), e8, e3]
theorem f_229 {d : Nat} {tc pl e : Int} {g : Fg} {m : Mem} {Q : Int → Sto → Prop} {L : Int} {a : Int} (hJ : JR 3 g tc pl m) (hI : IV L (m 249 5) (m 249 6) (asR m 258 0)) (hq : ∀ v m', JR 3 g tc pl m' → FB m m' → (v, asR m' 258 0) = aChange (m 249 6) (asR m 258 0) a → Q v (S9 e m')) : Cl (d + 3) 229 [249, a] Q (S9 e m) := by
  have hs := JR_s hJ
  have hH : 0 ≤ m 249 6 ∧ m 249 6 ≤ 5 := by omega
  have hP : 0 ≤ m 249 5 ∧ m 249 5 ≤ 5 := by omega
  have hW : 0 ≤ m 249 4 ∧ m 249 4 ≤ 14 := by omega
  have hJp : ∀ p, 0 ≤ p → p ≤ 4 → 0 ≤ m 258 (15 + 7 * p) ∧ m 258 (15 + 7 * p) ≤ 9 ∧ 0 ≤ m 258 (18 + 7 * p) ∧ m 258 (18 + 7 * p) ≤ 1 ∧ -1 ≤ m 258 (20 + 7 * p) ∧ m 258 (20 + 7 * p) ≤ 4 := fun p p0 p1 => by
    have := JW_p (JW_mk hJ) p p0 p1
    omega
  refine l_229 hH hP hW hJp (fun z => hq _ _ hJ (FB_rf m) ?_) (fun z => ?_)
  · unfold aChange; rw [if_pos z]
  · have i8 := (hJp a z.1 (by omega))
    have ex : asR (upm m 258 (18 + 7 * a) (1 - m 258 (18 + 7 * a))) 258 0 = asU (asR m 258 0) 6 a (1 - m 258 (18 + 7 * a)) := asR_h (f := 6) (j := a) _ (by decide) (by decide) (by omega) (by omega)
    refine hq _ _ (by refine JR_of (JR_l hJ) ?_ (by decide); repeat (first | assumption | (refine JR_up ?_ (by first | decide | (unfold frR; omega)) (by first | decide | simp [frc]) (by first | (simp [BdR]; done) | (refine BdR_n (by simp) ?_; first | (refine rb_at ?_ ?_ <;> omega) | (refine rb_us ?_ ?_ <;> omega) | (refine rb_ho ?_ ?_ <;> omega) | (refine rb_on ?_ ?_ <;> omega) | (refine (rb_i ?_ ?_).2 ?_ <;> omega)))))) (FB_up (FB_rf m)) ?_
    rw [ex]
    unfold aChange
    rw [if_neg (not_not_intro z), r_6 m (by omega)]
theorem f_231 {d : Nat} {tc pl e : Int} {g : Fg} {m : Mem} {Q : Int → Sto → Prop} {L : Int} {a b : Int} (hJ : JR 3 g tc pl m) (hI : IV L (m 249 5) (m 249 6) (asR m 258 0)) (hq : ∀ v m', JR 3 g tc pl m' → FB m m' → (v, asR m' 258 0) = aGive (m 249 6) (asR m 258 0) a b → Q v (S9 e m')) : Cl (d + 4) 231 [249, a, b] Q (S9 e m) := by
  have hs := JR_s hJ
  have hH : 0 ≤ m 249 6 ∧ m 249 6 ≤ 5 := by omega
  have hP : 0 ≤ m 249 5 ∧ m 249 5 ≤ 5 := by omega
  have hW : 0 ≤ m 249 4 ∧ m 249 4 ≤ 14 := by omega
  have hJp : ∀ p, 0 ≤ p → p ≤ 4 → 0 ≤ m 258 (15 + 7 * p) ∧ m 258 (15 + 7 * p) ≤ 9 ∧ 0 ≤ m 258 (18 + 7 * p) ∧ m 258 (18 + 7 * p) ≤ 1 ∧ -1 ≤ m 258 (20 + 7 * p) ∧ m 258 (20 + 7 * p) ≤ 4 := fun p p0 p1 => by
    have := JW_p (JW_mk hJ) p p0 p1
    omega
  refine l_231 hH hP hW hJp (fun z => hq _ _ hJ (FB_rf m) ?_) (fun z w => hq _ _ hJ (FB_rf m) ?_) (fun z w y => hq _ _ hJ (FB_rf m) ?_) (fun z w y => ?_)
  · unfold aGive; rw [if_pos z]
  · unfold aGive; rw [if_neg (not_not_intro z), if_pos (fun q => w (by rw [r_8 m (by omega), r_8 m (by omega)] at q; exact ⟨q.1, by omega⟩))]
  · have i8 := (hJp b z.2.1.1 (by omega))
    unfold aGive; rw [if_neg (not_not_intro z), if_neg (not_not_intro (by rw [r_8 m (by omega), r_8 m (by omega)]; exact ⟨w.1, by omega⟩)), if_pos (by rw [r_3 m (by omega), r_3 m (by omega)]; exact y)]
  · have ea : asR m 258 0 8 a = m 258 (20 + 7 * a) := r_8 m (by omega)
    have eb : asR m 258 0 8 b = m 258 (20 + 7 * b) := r_8 m (by omega)
    have i8 := (hJp a z.1.1 (by omega))
    have i9 := (hJp b z.2.1.1 (by omega))
    have ex : asR (upm (upm m 258 (20 + 7 * a) (-1)) 258 (20 + 7 * b) (m 258 (20 + 7 * a))) 258 0 = asU (asU (asR m 258 0) 8 a (-1)) 8 b (m 258 (20 + 7 * a)) := by
      rw [asR_h (f := 8) (j := b) _ (by decide) (by decide) (by omega) (by omega), asR_h (f := 8) (j := a) _ (by decide) (by decide) (by omega) (by omega)]
    refine hq _ _ (by refine JR_of (JR_l hJ) ?_ (by decide); repeat (first | assumption | (refine JR_up ?_ (by first | decide | (unfold frR; omega)) (by first | decide | simp [frc]) (by first | (simp [BdR]; done) | (refine BdR_n (by simp) ?_; first | (refine rb_at ?_ ?_ <;> omega) | (refine rb_us ?_ ?_ <;> omega) | (refine rb_ho ?_ ?_ <;> omega) | (refine rb_on ?_ ?_ <;> omega) | (refine (rb_i ?_ ?_).2 ?_ <;> omega)))))) (FB_up (FB_up (FB_rf m))) ?_
    rw [ex]
    unfold aGive
    rw [if_neg (not_not_intro z), if_neg (not_not_intro (by rw [ea, eb]; exact ⟨w.1, by omega⟩)), if_neg (not_not_intro (by rw [r_3 m (by omega), r_3 m (by omega)]; exact y)), ea]
theorem f_234 {d : Nat} {tc pl e : Int} {g : Fg} {m : Mem} {Q : Int → Sto → Prop} {L : Int} {a b : Int} (hJ : JR 3 g tc pl m) (hI : IV L (m 249 5) (m 249 6) (asR m 258 0)) (hq : ∀ v m', JR 3 g tc pl m' → FB m m' → (v, asR m' 258 0) = aDoor bcf (m 249 4) (m 255) (asR m 258 0) a b → Q v (S9 e m')) : Cl (d + 3) 234 [249, a, b] Q (S9 e m) := by
  have hs := JR_s hJ
  have hH : 0 ≤ m 249 6 ∧ m 249 6 ≤ 5 := by omega
  have hP : 0 ≤ m 249 5 ∧ m 249 5 ≤ 5 := by omega
  have hW : 0 ≤ m 249 4 ∧ m 249 4 ≤ 14 := by omega
  have hJp : ∀ p, 0 ≤ p → p ≤ 4 → 0 ≤ m 258 (15 + 7 * p) ∧ m 258 (15 + 7 * p) ≤ 9 ∧ 0 ≤ m 258 (18 + 7 * p) ∧ m 258 (18 + 7 * p) ≤ 1 ∧ -1 ≤ m 258 (20 + 7 * p) ∧ m 258 (20 + 7 * p) ≤ 4 := fun p p0 p1 => by
    have := JW_p (JW_mk hJ) p p0 p1
    omega
  refine l_234 hH hP hW hJp (fun z => hq _ _ hJ (FB_rf m) ?_) (fun z => ?_)
  · unfold aDoor; rw [if_pos z]
  · have ex : ∀ v, asR (upm m 258 50 v) 258 0 = asU (asR m 258 0) 10 0 v := fun v => asR_o (j := 0) _ (by decide) (by decide) (by decide)
    refine hq _ _ (by refine JR_of (JR_l hJ) ?_ (by decide); repeat (first | assumption | (refine JR_up ?_ (by first | decide | (unfold frR; omega)) (by first | decide | simp [frc]) (by first | (simp [BdR]; done) | (refine BdR_n (by simp) ?_; first | (refine rb_at ?_ ?_ <;> omega) | (refine rb_us ?_ ?_ <;> omega) | (refine rb_ho ?_ ?_ <;> omega) | (refine rb_on ?_ ?_ <;> omega) | (refine (rb_i ?_ ?_).2 ?_ <;> omega)))))) (FB_up (FB_rf m)) ?_
    rw [ex]
    unfold aDoor
    rw [if_neg (not_not_intro z), r_op]
theorem asR_0 (m : Mem) (v : Int) : asR (upm m 249 0 v) 258 0 = asR m 258 0 := asR_x _ (by decide) (by decide)

theorem f_210 {d : Nat} {tc pl e : Int} {g : Fg} {m : Mem} {Q : Int → Sto → Prop} {L : Int} {a b : Int} (hJ : JR 3 g tc pl m) (hI : IV L (m 249 5) (m 249 6) (asR m 258 0)) (hq : ∀ v m', JR 3 g tc pl m' → (∀ x j, ¬ ((x = 258 ∨ x = 267 ∨ x = 268 ∨ (x = 249 ∧ 36 ≤ j ∧ j ≤ 38)) ∨ x = 249 ∧ j = 0) → m' x j = m x j) → (v, asR m' 258 0) = aHeat (m 249 5) (asR m 258 0) a b → Q v (S9 e m')) : Cl (d + 4) 210 [249, a, b] Q (S9 e m) := by
  have hs := JR_s hJ
  have hH : 0 ≤ m 249 6 ∧ m 249 6 ≤ 5 := by omega
  have hP : 0 ≤ m 249 5 ∧ m 249 5 ≤ 5 := by omega
  have hW : 0 ≤ m 249 4 ∧ m 249 4 ≤ 14 := by omega
  have hJp : ∀ p, 0 ≤ p → p ≤ 4 → 0 ≤ m 258 (15 + 7 * p) ∧ m 258 (15 + 7 * p) ≤ 9 ∧ 0 ≤ m 258 (18 + 7 * p) ∧ m 258 (18 + 7 * p) ≤ 1 ∧ -1 ≤ m 258 (20 + 7 * p) ∧ m 258 (20 + 7 * p) ≤ 4 := fun p p0 p1 => by
    have := JW_p (JW_mk hJ) p p0 p1
    omega
  refine l_210 hH hP hW hJp (fun z => hq _ _ (by refine JR_of (JR_l hJ) ?_ (by decide); repeat (first | assumption | (refine JR_up ?_ (by first | decide | (unfold frR; omega)) (by first | decide | simp [frc]) (by first | (simp [BdR]; done) | (refine BdR_n (by simp) ?_; first | (refine rb_at ?_ ?_ <;> omega) | (refine rb_us ?_ ?_ <;> omega) | (refine rb_ho ?_ ?_ <;> omega) | (refine rb_on ?_ ?_ <;> omega) | (refine (rb_i ?_ ?_).2 ?_ <;> omega)))))) (fun x y q => by rw [upm_app, if_neg (fun w => q (Or.inr w))]) ?_) (fun z => ?_)
  · rw [asR_0]
    unfold aHeat
    rw [if_pos (fun q => z ⟨q.1, by obtain ⟨⟨q0, q1⟩, q2, -⟩ := q; rw [r_2 m (by omega)] at q2; exact q2, q.2.2⟩)]
  · have ex : asR (upm (upm m 249 0 0) 258 (3 * a) b) 258 0 = asU (asR m 258 0) 0 a b := by
      rw [asR_p (f := 0) (j := a) _ (by decide) (by decide) (by omega) (by omega), asR_0]
    refine hq _ _ (by refine JR_of (JR_l hJ) ?_ (by decide); repeat (first | assumption | (refine JR_up ?_ (by first | decide | (unfold frR; omega)) (by first | decide | simp [frc]) (by first | (simp [BdR]; done) | (refine BdR_n (by simp) ?_; first | (refine rb_at ?_ ?_ <;> omega) | (refine rb_us ?_ ?_ <;> omega) | (refine rb_ho ?_ ?_ <;> omega) | (refine rb_on ?_ ?_ <;> omega) | (refine (rb_i ?_ ?_).2 ?_ <;> omega)))))) (fun x y q => by rw [upm_app, if_neg (fun w => q (Or.inl (Or.inl w.1))), upm_app, if_neg (fun w => q (Or.inr w))]) ?_
    rw [ex]
    unfold aHeat
    rw [if_neg (not_not_intro ⟨z.1, by rw [r_2 m (by omega)]; exact z.2.1, z.2.2⟩), r_0 m (by omega)]
end
section
/-! states copied and noted, to the letter -/
theorem cpf_app (m : Mem) (a i b j n x y : Int) : cpf m a i b j n x y = if x = b ∧ j ≤ y ∧ y < j + n then m a (y - j + i) else m x y := rfl
/-- State object t is as State object s was; all else stands -/
def CPY (m m' : Mem) (t s : Int) : Prop := (∀ x y, x < t ∨ t + 9 < x → m' x y = m x y) ∧ (∀ k j, 1 ≤ k → k ≤ 9 → 0 ≤ j → (j < 5 ∨ k = 5 ∧ j < 10) → m' (t + k) j = m (s + k) j) ∧ m' t 3 = m s 3 ∧ m' t 10 = m s 10 ∧ m' t 11 = m s 11
section
variable (m : Mem) {s j : Int}
theorem k_0 (hj : 0 ≤ j ∧ j < 5) : asC m s 0 j = m (s + 1) j := by simp [asC, hj]
theorem k_1 (hj : 0 ≤ j ∧ j < 5) : asC m s 1 j = m (s + 2) j := by simp [asC, hj]
theorem k_2 (hj : 0 ≤ j ∧ j < 5) : asC m s 2 j = iand (ishr (m s 3) j) 1 := by simp [asC, hj]
theorem k_3 (hj : 0 ≤ j ∧ j < 5) : asC m s 3 j = m (s + 4) j := by simp [asC, hj]
theorem k_4 (hj : 0 ≤ j ∧ j < 5) : asC m s 4 j = m (s + 5) (2 * j) := by simp [asC, hj]
theorem k_5 (hj : 0 ≤ j ∧ j < 5) : asC m s 5 j = m (s + 5) (2 * j + 1) := by simp [asC, hj]
theorem k_6 (hj : 0 ≤ j ∧ j < 5) : asC m s 6 j = m (s + 6) j := by simp [asC, hj]
theorem k_7 (hj : 0 ≤ j ∧ j < 5) : asC m s 7 j = m (s + 7) j := by simp [asC, hj]
theorem k_8 (hj : 0 ≤ j ∧ j < 5) : asC m s 8 j = m (s + 8) j := by simp [asC, hj]
theorem k_9 (hj : 0 ≤ j ∧ j < 5) : asC m s 9 j = m (s + 9) j := by simp [asC, hj]
end
theorem k_op (m : Mem) (s : Int) : asC m s 10 0 = m s 10 := by simp [asC]
theorem k_no (m : Mem) (s : Int) : asC m s 10 1 = m s 11 := by simp [asC]
theorem CPY_SE {m m' : Mem} {t s : Int} (h : CPY m m' t s) : SE 5 5 (asC m' t) (asC m s) := by
  obtain ⟨-, hk, h3, h10, h11⟩ := h
  refine ⟨fun f j f0 f1 j0 j1 => ?_, fun f j f0 f1 j0 j1 => ?_, ?_, ?_⟩
  · have : f = 0 ∨ f = 1 ∨ f = 2 := by omega
    rcases this with rfl | rfl | rfl
    · rw [k_0 m' ⟨j0, j1⟩, k_0 m ⟨j0, j1⟩]; exact hk 1 j (by decide) (by decide) j0 (Or.inl j1)
    · rw [k_1 m' ⟨j0, j1⟩, k_1 m ⟨j0, j1⟩]; exact hk 2 j (by decide) (by decide) j0 (Or.inl j1)
    · rw [k_2 m' ⟨j0, j1⟩, k_2 m ⟨j0, j1⟩, h3]
  · have : f = 3 ∨ f = 4 ∨ f = 5 ∨ f = 6 ∨ f = 7 ∨ f = 8 ∨ f = 9 := by omega
    rcases this with rfl | rfl | rfl | rfl | rfl | rfl | rfl
    · rw [k_3 m' ⟨j0, j1⟩, k_3 m ⟨j0, j1⟩]; exact hk 4 j (by decide) (by decide) j0 (Or.inl j1)
    · rw [k_4 m' ⟨j0, j1⟩, k_4 m ⟨j0, j1⟩]; exact hk 5 (2 * j) (by decide) (by decide) (by omega) (Or.inr ⟨rfl, by omega⟩)
    · rw [k_5 m' ⟨j0, j1⟩, k_5 m ⟨j0, j1⟩]; exact hk 5 (2 * j + 1) (by decide) (by decide) (by omega) (Or.inr ⟨rfl, by omega⟩)
    · rw [k_6 m' ⟨j0, j1⟩, k_6 m ⟨j0, j1⟩]; exact hk 6 j (by decide) (by decide) j0 (Or.inl j1)
    · rw [k_7 m' ⟨j0, j1⟩, k_7 m ⟨j0, j1⟩]; exact hk 7 j (by decide) (by decide) j0 (Or.inl j1)
    · rw [k_8 m' ⟨j0, j1⟩, k_8 m ⟨j0, j1⟩]; exact hk 8 j (by decide) (by decide) j0 (Or.inl j1)
    · rw [k_9 m' ⟨j0, j1⟩, k_9 m ⟨j0, j1⟩]; exact hk 9 j (by decide) (by decide) j0 (Or.inl j1)
  · rw [k_op, k_op]; exact h10
  · rw [k_no, k_no]; exact h11
theorem CPY_hold {m m' : Mem} {t s j : Int} (h : CPY m m' t s) (h0 : 0 ≤ j) (h1 : j < 5) : m' (t + 3) j = m (s + 3) j := h.2.1 3 j (by decide) (by decide) h0 (Or.inl h1)
set_option maxHeartbeats 8000000 in
theorem f_61 {d : Nat} {tc e : Int} {g : Fg} {m : Mem} {Q : Int → Sto → Prop} {t s : Int} (ht : t ∈ [(15 : Int), 15, 31, 41, 51, 61, 71, 81, 91, 101, 111, 121, 131, 141, 151, 161, 171, 181, 219, 229, 239]) (hs9 : s ∈ [(15 : Int), 15, 31, 41, 51, 61, 71, 81, 91, 101, 111, 121, 131, 141, 151, 161, 171, 181, 219, 229, 239]) (hd : t + 9 < s ∨ s + 9 < t) (hJ : JC 3 g tc m) (hq : ∀ v m', JC 3 g tc m' → CPY m m' t s → Q v (S9 e m')) : Cl (d + 1) 61 [t, s] Q (S9 e m) := by
  have hL := JC_l hJ
  obtain ⟨a1, a2, a3, a4, a5, a6, a7, a8, a9, a10, a11, a12⟩ := st_sr t ht
  obtain ⟨b1, b2, b3, b4, b5, b6, b7, b8, b9, b10, b11, b12⟩ := st_sr s hs9
  obtain ⟨c1, c2, c3, c4, c5, c6, c7, c8, c9, c10, c11, c12, c13, c14, c15, c16, c17, c18⟩ := st_kc t ht
  obtain ⟨e1, e2, e3, e4, e5, e6, e7, e8, e9, e10, e11, e12, e13, e14, e15, e16, e17, e18⟩ := st_kc s hs9
  have f1 := st_sc t ht
  have f2 := st_sc s hs9
  simp only [cl_61, runB, B61, ma_61, rho_22, wf_5_15, wf_5_18, wf_5_21, wf_5_24, wf_5_27, wf_5_30, wf_5_33, wf_5_36, wf_5_45, wf_5_49, wf_5_52, wf_5_9, wpf_5_45, wpopand_pf_5_45, wpf_5_49, wpf_5_52, w_cst, w_ldi, w_ldj, w_lda, w_ljk, w_ldk, w_ldw, w_ldk2, w_ldt, w_ldtw, w_neg, w_cvb, w_cvs, w_cvc, w_cvj, w_add, w_sub, w_mul, w_ban, w_bor, w_bxo, w_shl, w_shr, w_ush, w_dvi, w_rmi, w_aldi, w_aldj, w_aldz, w_aldc, w_alda, w_ite, w_cmp, w_cmj, w_cz, w_cnot, w_cand, w_cor, w_nil, w_cons, w_cvi, w_csta, w_cvt, w_cvv, w_csv, w_cpy, w_seq, w_sbr, w_sbn, w_brk, w_ifs, w_ifx, w_ife, w_wk, w_rets, w_rtv, w_thr, w_asi, w_asj, w_asa, w_inc, w_exs, w_asti, w_astj, w_astz, w_astc, w_aopadd, w_aopsub, w_sw, if_true, if_false, ↓reduceIte, hdl_c, S9_1, S9_m, bud9, live9, inb9, wrn, wr9_14, wr9_15, wr9_16, wr9_17, tq9_14, tq9_15, tq9_16, tq9_17, tq_0, tq_1, tq_3, upr_rl, rl_0, rl_1, rl_2, rl_3, rl_4, rl_5, rl_6, rl_7, rl_8, rl_9, rl_10, rl_11, rl_12, rl_13, sp_0, sp_1, sp_2, sp_3, sp_4, sp_5, sp_6, sp_7, sp_8, sp_9, sp_10, sp_11, sp_12, sp_13, se_0, se_1, se_2, se_3, se_4, se_5, se_6, se_7, se_8, se_9, se_10, se_11, se_12, se_13, sem_0, sem_1, sem_2, sem_3, sem_4, sem_5, List.getD_cons_zero, List.getD_cons_succ, wrn3, wrn1, cpmS, cpok9, a4, a5, a6, a7, a8, a9, a10, a11, a12, b4, b5, b6, b7, b8, b9, b10, b11, b12, c1, c2, c3, c4, c5, c6, c7, c8, c9, c10, c11, c12, c13, c14, c15, c16, c17, c18, e1, e2, e3, e4, e5, e6, e7, e8, e9, e10, e11, e12, e13, e14, e15, e16, e17, e18]
  clear a4 a5 a6 a7 a8 a9 a10 a11 a12 b4 b5 b6 b7 b8 b9 b10 b11 b12 c1 c2 c3 c4 c5 c6 c7 c8 c9 c10 c11 c12 c13 c14 c15 c16 c17 c18 e1 e2 e3 e4 e5 e6 e7 e8 e9 e10 e11 e12 e13 e14 e15 e16 e17 e18
  repeat' (first
    | (with_reducible exact True.intro)
    | (with_reducible exact False.elim)
    | assumption
    | (with_reducible rfl)
    | omega
    | (with_reducible refine And.intro ?_ ?_)
    | intro _
    | ((with_reducible refine hq _ _ ?_ ?_); (next => refine JC_of hL ?_ (by decide); repeat (first | assumption | (refine JC_up ?_ (by first | decide | (unfold frC; omega)) (BdC_s (by unfold hnd; omega))) | (refine JC_cp ?_ (fun _ => by unfold frC; omega) (fun _ _ => BdC_s (by unfold hnd; omega))) | (refine JC_cph ?_ (fun _ => by unfold frC; omega) (by unfold hnd; omega) (by unfold hnd; omega)))); (next => refine ⟨fun x y hx => ?_, fun k j k0 k1 j0 j1 => ?_, ?_, ?_, ?_⟩; (next => (repeat (first | rw [upm_app, if_neg (by omega)] | rw [cpf_app, if_neg (by omega)] | rw [cpf_app, if_pos (by omega)] | rw [upm_app, if_pos (by omega)])); first | done | rfl | (congr 1; omega)); (next => rcases (show k = 1 ∨ k = 2 ∨ k = 3 ∨ k = 4 ∨ k = 5 ∨ k = 6 ∨ k = 7 ∨ k = 8 ∨ k = 9 from by omega) with rfl | rfl | rfl | rfl | rfl | rfl | rfl | rfl | rfl <;> ((repeat (first | rw [upm_app, if_neg (by omega)] | rw [cpf_app, if_neg (by omega)] | rw [cpf_app, if_pos (by omega)] | rw [upm_app, if_pos (by omega)])); first | done | rfl | (congr 1; omega))); (next => (repeat (first | rw [upm_app, if_neg (by omega)] | rw [cpf_app, if_neg (by omega)] | rw [cpf_app, if_pos (by omega)] | rw [upm_app, if_pos (by omega)])); first | done | rfl | (congr 1; omega)); (next => (repeat (first | rw [upm_app, if_neg (by omega)] | rw [cpf_app, if_neg (by omega)] | rw [cpf_app, if_pos (by omega)] | rw [upm_app, if_pos (by omega)])); first | done | rfl | (congr 1; omega)); (next => (repeat (first | rw [upm_app, if_neg (by omega)] | rw [cpf_app, if_neg (by omega)] | rw [cpf_app, if_pos (by omega)] | rw [upm_app, if_pos (by omega)])); first | done | rfl | (congr 1; omega)))))

theorem p_60x {d : Nat} {e a : Int} {m : Mem} {Q : Int → Sto → Prop} (ha : 0 ≤ a ∧ a ≤ 1000) (hq : Q (a % 16) (S9 e m)) : Cl (d + 1) 60 [a, 16] Q (S9 e m) := by
  have hi : inI a := by unfold inI; omega
  have h1 : irm a 16 = a % 16 := by
    rw [irm_eq hi (by unfold inI; omega) (by decide) (by decide)]
    exact (Int.tmod_eq_emod_of_nonneg ha.1)
  have h5 := ixneg (a := irm a 16) (by rw [h1]; unfold inI; omega)
  rw [h1] at h5
  have h6 := ixneg hi
  simp only [cl_60, runB, B60, ma_60, rho_00, w_cst, w_ldi, w_ldj, w_lda, w_ljk, w_ldk, w_ldw, w_ldk2, w_ldt, w_ldtw, w_neg, w_cvb, w_cvs, w_cvc, w_cvj, w_add, w_sub, w_mul, w_ban, w_bor, w_bxo, w_shl, w_shr, w_ush, w_dvi, w_rmi, w_aldi, w_aldj, w_aldz, w_aldc, w_alda, w_ite, w_cmp, w_cmj, w_cz, w_cnot, w_cand, w_cor, w_nil, w_cons, w_cvi, w_csta, w_cvt, w_cvv, w_csv, w_cpy, w_seq, w_sbr, w_sbn, w_brk, w_ifs, w_ifx, w_ife, w_wk, w_rets, w_rtv, w_thr, w_asi, w_asj, w_asa, w_inc, w_exs, w_asti, w_astj, w_astz, w_astc, w_aopadd, w_aopsub, w_sw, if_true, if_false, ↓reduceIte, hdl_c, S9_1, S9_m, bud9, live9, inb9, wrn, wr9_14, wr9_15, wr9_16, wr9_17, tq9_14, tq9_15, tq9_16, tq9_17, tq_0, tq_1, tq_3, upr_rl, rl_0, rl_1, rl_2, rl_3, rl_4, rl_5, rl_6, rl_7, rl_8, rl_9, rl_10, rl_11, rl_12, rl_13, sp_0, sp_1, sp_2, sp_3, sp_4, sp_5, sp_6, sp_7, sp_8, sp_9, sp_10, sp_11, sp_12, sp_13, se_0, se_1, se_2, se_3, se_4, se_5, se_6, se_7, se_8, se_9, se_10, se_11, se_12, se_13, sem_0, sem_1, sem_2, sem_3, sem_4, sem_5, h1]
  repeat' (first
    | (with_reducible exact True.intro)
    | (with_reducible exact False.elim)
    | omega
    | (with_reducible refine And.intro ?_ ?_)
    | (with_reducible contradiction)
    | intro _
    | (with_reducible exact hq)
    | (exfalso; omega))
theorem sr27v {v : Int} (h0 : 0 ≤ v) (h1 : v ≤ 15) : SR 27 v = 31 + 10 * v := by
  obtain ⟨k, rfl⟩ : ∃ k : Nat, v = k := ⟨v.toNat, by omega⟩
  exact (sr27 k (by omega)).1
theorem p_59x {d : Nat} {e a : Int} {m : Mem} {Q : Int → Sto → Prop} (ho : 0 ≤ m 26 8 ∧ m 26 8 ≤ 15) (ha : 0 ≤ a ∧ a ≤ 16) (hq : Q ((m 26 8 + a) % 16) (S9 e m)) : Cl (d + 2) 59 [26, a] Q (S9 e m) := by
  have ew : w32 (m 26 8 + a) = m 26 8 + a := by unfold w32; omega
  simp only [cl_59, runB, B59, ma_59, rho_20, wf_7_44, wc_60, w_cst, w_ldi, w_ldj, w_lda, w_ljk, w_ldk, w_ldw, w_ldk2, w_ldt, w_ldtw, w_neg, w_cvb, w_cvs, w_cvc, w_cvj, w_add, w_sub, w_mul, w_ban, w_bor, w_bxo, w_shl, w_shr, w_ush, w_dvi, w_rmi, w_aldi, w_aldj, w_aldz, w_aldc, w_alda, w_ite, w_cmp, w_cmj, w_cz, w_cnot, w_cand, w_cor, w_nil, w_cons, w_cvi, w_csta, w_cvt, w_cvv, w_csv, w_cpy, w_seq, w_sbr, w_sbn, w_brk, w_ifs, w_ifx, w_ife, w_wk, w_rets, w_rtv, w_thr, w_asi, w_asj, w_asa, w_inc, w_exs, w_asti, w_astj, w_astz, w_astc, w_aopadd, w_aopsub, w_sw, if_true, if_false, ↓reduceIte, hdl_c, S9_1, S9_m, bud9, live9, inb9, wrn, wr9_14, wr9_15, wr9_16, wr9_17, tq9_14, tq9_15, tq9_16, tq9_17, tq_0, tq_1, tq_3, upr_rl, rl_0, rl_1, rl_2, rl_3, rl_4, rl_5, rl_6, rl_7, rl_8, rl_9, rl_10, rl_11, rl_12, rl_13, sp_0, sp_1, sp_2, sp_3, sp_4, sp_5, sp_6, sp_7, sp_8, sp_9, sp_10, sp_11, sp_12, sp_13, se_0, se_1, se_2, se_3, se_4, se_5, se_6, se_7, se_8, se_9, se_10, se_11, se_12, se_13, sem_0, sem_1, sem_2, sem_3, sem_4, sem_5, sr_26_3, sr_26_0, kl9_26, sr_26_10, sr_26_7, sr_26_12, sr_26_1, sr_26_2, kc_26, sr_26_11, ew]
  repeat' (first
    | (with_reducible exact True.intro)
    | (with_reducible exact False.elim)
    | (with_reducible rfl)
    | (with_reducible refine And.intro ?_ ?_)
    | intro _
    | ((with_reducible refine p_60x ?_ ?_); (next => omega); simp only [hdl_c, S9_1, S9_m, bud9, live9, inb9, wrn, wr9_14, wr9_15, wr9_16, wr9_17, tq9_14, tq9_15, tq9_16, tq9_17, tq_0, tq_1, tq_3, upr_rl, rl_0, rl_1, rl_2, rl_3, rl_4, rl_5, rl_6, rl_7, rl_8, rl_9, rl_10, rl_11, rl_12, rl_13, sp_0, sp_1, sp_2, sp_3, sp_4, sp_5, sp_6, sp_7, sp_8, sp_9, sp_10, sp_11, sp_12, sp_13, se_0, se_1, se_2, se_3, se_4, se_5, se_6, se_7, se_8, se_9, se_10, se_11, se_12, se_13, sem_0, sem_1, sem_2, sem_3, sem_4, sem_5, List.getD_cons_zero, List.getD_cons_succ, Bool.false_eq_true, wrn3, wrn1, cpmS, cpok9, if_true, if_false, ↓reduceIte, sr_15_1, sr_15_4, sr_15_6, sr_15_0, sr_15_2, sr_15_7, sr_15_5, kc_15, kl9_15, sr_15_8, sr_15_9, sr_26_3, sr_26_0, kl9_26, sr_26_10, sr_26_7, sr_26_12, sr_26_1, sr_26_2, kc_26, sr_26_11, kl9_27, sr_27_0, sr_27_15, sr_27_14, sr_27_6, sr_27_7, sr_27_3, sr_27_11, sr_27_9, sr_27_10, kc_27, sr_27_13, sr_27_8, sr_27_2, sr_27_12, sr_27_1, sr_27_4, sr_27_5, wc_59, wc_61, upm_app, Int.reduceEq, and_self, and_true, true_and, and_false, false_and, if_true, if_false, ↓reduceIte])
    | (with_reducible exact hq)
    | omega)
set_option maxHeartbeats 8000000 in
theorem f_58 {d : Nat} {tc e : Int} {g : Fg} {m : Mem} {Q : Int → Sto → Prop} (hJ : JC 3 g tc m) (ho : 0 ≤ m 26 8 ∧ m 26 8 ≤ 15) (hu : 0 ≤ m 26 9 ∧ m 26 9 ≤ 15) (hq : ∀ v m1, JC 3 g tc m1 → CPY m m1 (31 + 10 * ((m 26 8 + m 26 9) % 16)) 15 → Q v (S9 e (upm (upm (upm m1 26 4 0) 26 5 0) 26 6 0))) : Cl (d + 3) 58 [26] Q (S9 e m) := by
  have hL := JC_l hJ
  have b0 : 0 ≤ (m 26 8 + m 26 9) % 16 := by omega
  have b1 : (m 26 8 + m 26 9) % 16 ≤ 15 := by omega
  simp only [cl_58, runB, B58, ma_58, rho_2, wf_7_11, wf_7_31, wf_7_54, wpf_7_65, wpopadd_pf_7_65, wpf_7_68, wpopor_pf_7_68, wpf_7_71, wpopor_pf_7_71, wc_59, wc_61, w_cst, w_ldi, w_ldj, w_lda, w_ljk, w_ldk, w_ldw, w_ldk2, w_ldt, w_ldtw, w_neg, w_cvb, w_cvs, w_cvc, w_cvj, w_add, w_sub, w_mul, w_ban, w_bor, w_bxo, w_shl, w_shr, w_ush, w_dvi, w_rmi, w_aldi, w_aldj, w_aldz, w_aldc, w_alda, w_ite, w_cmp, w_cmj, w_cz, w_cnot, w_cand, w_cor, w_nil, w_cons, w_cvi, w_csta, w_cvt, w_cvv, w_csv, w_cpy, w_seq, w_sbr, w_sbn, w_brk, w_ifs, w_ifx, w_ife, w_wk, w_rets, w_rtv, w_thr, w_asi, w_asj, w_asa, w_inc, w_exs, w_asti, w_astj, w_astz, w_astc, w_aopadd, w_aopsub, w_sw, if_true, if_false, ↓reduceIte, hdl_c, S9_1, S9_m, bud9, live9, inb9, wrn, wr9_14, wr9_15, wr9_16, wr9_17, tq9_14, tq9_15, tq9_16, tq9_17, tq_0, tq_1, tq_3, upr_rl, rl_0, rl_1, rl_2, rl_3, rl_4, rl_5, rl_6, rl_7, rl_8, rl_9, rl_10, rl_11, rl_12, rl_13, sp_0, sp_1, sp_2, sp_3, sp_4, sp_5, sp_6, sp_7, sp_8, sp_9, sp_10, sp_11, sp_12, sp_13, se_0, se_1, se_2, se_3, se_4, se_5, se_6, se_7, se_8, se_9, se_10, se_11, se_12, se_13, sem_0, sem_1, sem_2, sem_3, sem_4, sem_5, sr_15_1, sr_15_4, sr_15_6, sr_15_0, sr_15_2, sr_15_7, sr_15_5, kc_15, kl9_15, sr_15_8, sr_15_9, sr_26_3, sr_26_0, kl9_26, sr_26_10, sr_26_7, sr_26_12, sr_26_1, sr_26_2, kc_26, sr_26_11, kl9_27, sr_27_0, sr_27_15, sr_27_14, sr_27_6, sr_27_7, sr_27_3, sr_27_11, sr_27_9, sr_27_10, kc_27, sr_27_13, sr_27_8, sr_27_2, sr_27_12, sr_27_1, sr_27_4, sr_27_5, List.getD_cons_zero, List.getD_cons_succ, Bool.false_eq_true, wrn3, wrn1, cpmS, cpok9, upm_app, Int.reduceEq, and_self, and_true, true_and, and_false, false_and, if_true, if_false, ↓reduceIte]
  repeat' (first
    | (with_reducible exact True.intro)
    | (with_reducible exact False.elim)
    | (with_reducible rfl)
    | (with_reducible contradiction)
    | (with_reducible refine And.intro ?_ ?_)
    | intro _
    | ((with_reducible refine p_59x ?_ ?_ ?_); (next => (try simp only [upm_app, Int.reduceEq, and_self, and_true, true_and, and_false, false_and, if_true, if_false, ↓reduceIte]); omega); (next => (try simp only [upm_app, Int.reduceEq, and_self, and_true, true_and, and_false, false_and, if_true, if_false, ↓reduceIte]); omega); simp only [hdl_c, S9_1, S9_m, bud9, live9, inb9, wrn, wr9_14, wr9_15, wr9_16, wr9_17, tq9_14, tq9_15, tq9_16, tq9_17, tq_0, tq_1, tq_3, upr_rl, rl_0, rl_1, rl_2, rl_3, rl_4, rl_5, rl_6, rl_7, rl_8, rl_9, rl_10, rl_11, rl_12, rl_13, sp_0, sp_1, sp_2, sp_3, sp_4, sp_5, sp_6, sp_7, sp_8, sp_9, sp_10, sp_11, sp_12, sp_13, se_0, se_1, se_2, se_3, se_4, se_5, se_6, se_7, se_8, se_9, se_10, se_11, se_12, se_13, sem_0, sem_1, sem_2, sem_3, sem_4, sem_5, List.getD_cons_zero, List.getD_cons_succ, Bool.false_eq_true, wrn3, wrn1, cpmS, cpok9, if_true, if_false, ↓reduceIte, sr_15_1, sr_15_4, sr_15_6, sr_15_0, sr_15_2, sr_15_7, sr_15_5, kc_15, kl9_15, sr_15_8, sr_15_9, sr_26_3, sr_26_0, kl9_26, sr_26_10, sr_26_7, sr_26_12, sr_26_1, sr_26_2, kc_26, sr_26_11, kl9_27, sr_27_0, sr_27_15, sr_27_14, sr_27_6, sr_27_7, sr_27_3, sr_27_11, sr_27_9, sr_27_10, kc_27, sr_27_13, sr_27_8, sr_27_2, sr_27_12, sr_27_1, sr_27_4, sr_27_5, wc_59, wc_61, upm_app, Int.reduceEq, and_self, and_true, true_and, and_false, false_and, if_true, if_false, ↓reduceIte])
    | ((with_reducible refine f_61 (g := g) (tc := tc) ?_ ?_ ?_ ?_ (fun v9 m9 hJ9 h9 => ?_)); (next => exact (sr27i b0 b1).2); (next => decide); (next => rw [sr27v b0 b1]; omega); (next => refine JC_of hL ?_ (by decide); repeat (first | assumption | (refine JC_up ?_ (by first | decide | (unfold frC; omega)) (by first | (simp [BdC, hnd]; done) | (simp [BdC, hnd, upm, cpf] <;> first | omega | (unfold w32; omega)))))); rw [sr27v b0 b1] at h9; simp only [hdl_c, S9_1, S9_m, bud9, live9, inb9, wrn, wr9_14, wr9_15, wr9_16, wr9_17, tq9_14, tq9_15, tq9_16, tq9_17, tq_0, tq_1, tq_3, upr_rl, rl_0, rl_1, rl_2, rl_3, rl_4, rl_5, rl_6, rl_7, rl_8, rl_9, rl_10, rl_11, rl_12, rl_13, sp_0, sp_1, sp_2, sp_3, sp_4, sp_5, sp_6, sp_7, sp_8, sp_9, sp_10, sp_11, sp_12, sp_13, se_0, se_1, se_2, se_3, se_4, se_5, se_6, se_7, se_8, se_9, se_10, se_11, se_12, se_13, sem_0, sem_1, sem_2, sem_3, sem_4, sem_5, List.getD_cons_zero, List.getD_cons_succ, Bool.false_eq_true, wrn3, wrn1, cpmS, cpok9, if_true, if_false, ↓reduceIte, sr_15_1, sr_15_4, sr_15_6, sr_15_0, sr_15_2, sr_15_7, sr_15_5, kc_15, kl9_15, sr_15_8, sr_15_9, sr_26_3, sr_26_0, kl9_26, sr_26_10, sr_26_7, sr_26_12, sr_26_1, sr_26_2, kc_26, sr_26_11, kl9_27, sr_27_0, sr_27_15, sr_27_14, sr_27_6, sr_27_7, sr_27_3, sr_27_11, sr_27_9, sr_27_10, kc_27, sr_27_13, sr_27_8, sr_27_2, sr_27_12, sr_27_1, sr_27_4, sr_27_5, wc_59, wc_61, upm_app, Int.reduceEq, and_self, and_true, true_and, and_false, false_and, if_true, if_false, ↓reduceIte])
    | (with_reducible refine (sr27i ?_ ?_).1.1 <;> omega)
    | (with_reducible refine (sr27i ?_ ?_).1.2.1 <;> omega)
    | (with_reducible refine (sr27i ?_ ?_).1.2.2 <;> omega)
    | (with_reducible exact hq _ _ hJ9 h9)
    | omega
    | decide)

set_option maxHeartbeats 8000000 in
theorem f_64 {d : Nat} {tc e : Int} {g : Fg} {m : Mem} {Q : Int → Sto → Prop} {a : Int} (hJ : JC 3 g tc m) (ho : 0 ≤ m 26 8 ∧ m 26 8 ≤ 15) (hu : 0 ≤ m 26 9 ∧ m 26 9 ≤ 15) (h0 : a < 0 → Q a (S9 e m)) (h1 : 0 ≤ a → m 26 9 < 15 → Q a (S9 e (upm m 26 9 (m 26 9 + 1)))) (h2 : 0 ≤ a → m 26 9 = 15 → Q a (S9 e (upm m 26 8 ((m 26 8 + 1) % 16)))) : Cl (d + 3) 64 [26, a] Q (S9 e m) := by
  have hL := JC_l hJ
  have ew : w32 (m 26 9 + 1) = m 26 9 + 1 := by unfold w32; omega
  simp only [cl_64, runB, B64, ma_64, rho_20, wf_7_54, wpf_7_44, wpf_7_54, wpopadd_pf_7_54, wpopsub_pf_7_54, wc_59, w_cst, w_ldi, w_ldj, w_lda, w_ljk, w_ldk, w_ldw, w_ldk2, w_ldt, w_ldtw, w_neg, w_cvb, w_cvs, w_cvc, w_cvj, w_add, w_sub, w_mul, w_ban, w_bor, w_bxo, w_shl, w_shr, w_ush, w_dvi, w_rmi, w_aldi, w_aldj, w_aldz, w_aldc, w_alda, w_ite, w_cmp, w_cmj, w_cz, w_cnot, w_cand, w_cor, w_nil, w_cons, w_cvi, w_csta, w_cvt, w_cvv, w_csv, w_cpy, w_seq, w_sbr, w_sbn, w_brk, w_ifs, w_ifx, w_ife, w_wk, w_rets, w_rtv, w_thr, w_asi, w_asj, w_asa, w_inc, w_exs, w_asti, w_astj, w_astz, w_astc, w_aopadd, w_aopsub, w_sw, if_true, if_false, ↓reduceIte, hdl_c, S9_1, S9_m, bud9, live9, inb9, wrn, wr9_14, wr9_15, wr9_16, wr9_17, tq9_14, tq9_15, tq9_16, tq9_17, tq_0, tq_1, tq_3, upr_rl, rl_0, rl_1, rl_2, rl_3, rl_4, rl_5, rl_6, rl_7, rl_8, rl_9, rl_10, rl_11, rl_12, rl_13, sp_0, sp_1, sp_2, sp_3, sp_4, sp_5, sp_6, sp_7, sp_8, sp_9, sp_10, sp_11, sp_12, sp_13, se_0, se_1, se_2, se_3, se_4, se_5, se_6, se_7, se_8, se_9, se_10, se_11, se_12, se_13, sem_0, sem_1, sem_2, sem_3, sem_4, sem_5, sr_15_1, sr_15_4, sr_15_6, sr_15_0, sr_15_2, sr_15_7, sr_15_5, kc_15, kl9_15, sr_15_8, sr_15_9, sr_26_3, sr_26_0, kl9_26, sr_26_10, sr_26_7, sr_26_12, sr_26_1, sr_26_2, kc_26, sr_26_11, kl9_27, sr_27_0, sr_27_15, sr_27_14, sr_27_6, sr_27_7, sr_27_3, sr_27_11, sr_27_9, sr_27_10, kc_27, sr_27_13, sr_27_8, sr_27_2, sr_27_12, sr_27_1, sr_27_4, sr_27_5, List.getD_cons_zero, List.getD_cons_succ, Bool.false_eq_true, wrn3, wrn1, cpmS, cpok9, upm_app, Int.reduceEq, and_self, and_true, true_and, and_false, false_and, if_true, if_false, ↓reduceIte, ew]
  repeat' (first
    | (with_reducible exact True.intro)
    | (with_reducible exact False.elim)
    | (with_reducible rfl)
    | (with_reducible contradiction)
    | (with_reducible refine And.intro ?_ ?_)
    | intro _
    | ((with_reducible refine p_59x ?_ ?_ ?_); (next => (try simp only [upm_app, Int.reduceEq, and_self, and_true, true_and, and_false, false_and, if_true, if_false, ↓reduceIte]); omega); (next => (try simp only [upm_app, Int.reduceEq, and_self, and_true, true_and, and_false, false_and, if_true, if_false, ↓reduceIte]); omega); simp only [hdl_c, S9_1, S9_m, bud9, live9, inb9, wrn, wr9_14, wr9_15, wr9_16, wr9_17, tq9_14, tq9_15, tq9_16, tq9_17, tq_0, tq_1, tq_3, upr_rl, rl_0, rl_1, rl_2, rl_3, rl_4, rl_5, rl_6, rl_7, rl_8, rl_9, rl_10, rl_11, rl_12, rl_13, sp_0, sp_1, sp_2, sp_3, sp_4, sp_5, sp_6, sp_7, sp_8, sp_9, sp_10, sp_11, sp_12, sp_13, se_0, se_1, se_2, se_3, se_4, se_5, se_6, se_7, se_8, se_9, se_10, se_11, se_12, se_13, sem_0, sem_1, sem_2, sem_3, sem_4, sem_5, List.getD_cons_zero, List.getD_cons_succ, Bool.false_eq_true, wrn3, wrn1, cpmS, cpok9, if_true, if_false, ↓reduceIte, sr_15_1, sr_15_4, sr_15_6, sr_15_0, sr_15_2, sr_15_7, sr_15_5, kc_15, kl9_15, sr_15_8, sr_15_9, sr_26_3, sr_26_0, kl9_26, sr_26_10, sr_26_7, sr_26_12, sr_26_1, sr_26_2, kc_26, sr_26_11, kl9_27, sr_27_0, sr_27_15, sr_27_14, sr_27_6, sr_27_7, sr_27_3, sr_27_11, sr_27_9, sr_27_10, kc_27, sr_27_13, sr_27_8, sr_27_2, sr_27_12, sr_27_1, sr_27_4, sr_27_5, wc_59, wc_61, upm_app, Int.reduceEq, and_self, and_true, true_and, and_false, false_and, if_true, if_false, ↓reduceIte])
    | ((with_reducible refine h0 ?_); omega)
    | ((with_reducible refine h1 ?_ ?_) <;> omega)
    | ((with_reducible refine h2 ?_ ?_) <;> omega)
    | omega)

set_option maxHeartbeats 8000000 in
theorem f_102 {d : Nat} {tc e : Int} {g : Fg} {m : Mem} {Q : Int → Sto → Prop} (hJ : JC 3 g tc m) (ho : 0 ≤ m 26 8 ∧ m 26 8 ≤ 15) (hu : 0 ≤ m 26 9 ∧ m 26 9 ≤ 15) (h0 : m 26 9 = 0 → Q (-1) (S9 e m)) (hq : ∀ m1, 0 < m 26 9 → JC 3 g tc m1 → CPY (upm m 26 9 (m 26 9 - 1)) m1 15 (31 + 10 * ((m 26 8 + (m 26 9 - 1)) % 16)) → Q (m1 26 9) (S9 e m1)) : Cl (d + 3) 102 [26] Q (S9 e m) := by
  have hL := JC_l hJ
  have b0 : 0 ≤ (m 26 8 + (m 26 9 - 1)) % 16 := by omega
  have b1 : (m 26 8 + (m 26 9 - 1)) % 16 ≤ 15 := by omega
  have ew : w32 (m 26 9 - 1) = m 26 9 - 1 := by unfold w32; omega
  simp only [cl_102, runB, B102, ma_102, rho_2, wf_7_11, wf_7_31, wf_7_54, wpf_7_54, wpopadd_pf_7_54, wpopsub_pf_7_54, wc_59, wc_61, w_cst, w_ldi, w_ldj, w_lda, w_ljk, w_ldk, w_ldw, w_ldk2, w_ldt, w_ldtw, w_neg, w_cvb, w_cvs, w_cvc, w_cvj, w_add, w_sub, w_mul, w_ban, w_bor, w_bxo, w_shl, w_shr, w_ush, w_dvi, w_rmi, w_aldi, w_aldj, w_aldz, w_aldc, w_alda, w_ite, w_cmp, w_cmj, w_cz, w_cnot, w_cand, w_cor, w_nil, w_cons, w_cvi, w_csta, w_cvt, w_cvv, w_csv, w_cpy, w_seq, w_sbr, w_sbn, w_brk, w_ifs, w_ifx, w_ife, w_wk, w_rets, w_rtv, w_thr, w_asi, w_asj, w_asa, w_inc, w_exs, w_asti, w_astj, w_astz, w_astc, w_aopadd, w_aopsub, w_sw, if_true, if_false, ↓reduceIte, hdl_c, S9_1, S9_m, bud9, live9, inb9, wrn, wr9_14, wr9_15, wr9_16, wr9_17, tq9_14, tq9_15, tq9_16, tq9_17, tq_0, tq_1, tq_3, upr_rl, rl_0, rl_1, rl_2, rl_3, rl_4, rl_5, rl_6, rl_7, rl_8, rl_9, rl_10, rl_11, rl_12, rl_13, sp_0, sp_1, sp_2, sp_3, sp_4, sp_5, sp_6, sp_7, sp_8, sp_9, sp_10, sp_11, sp_12, sp_13, se_0, se_1, se_2, se_3, se_4, se_5, se_6, se_7, se_8, se_9, se_10, se_11, se_12, se_13, sem_0, sem_1, sem_2, sem_3, sem_4, sem_5, sr_15_1, sr_15_4, sr_15_6, sr_15_0, sr_15_2, sr_15_7, sr_15_5, kc_15, kl9_15, sr_15_8, sr_15_9, sr_26_3, sr_26_0, kl9_26, sr_26_10, sr_26_7, sr_26_12, sr_26_1, sr_26_2, kc_26, sr_26_11, kl9_27, sr_27_0, sr_27_15, sr_27_14, sr_27_6, sr_27_7, sr_27_3, sr_27_11, sr_27_9, sr_27_10, kc_27, sr_27_13, sr_27_8, sr_27_2, sr_27_12, sr_27_1, sr_27_4, sr_27_5, List.getD_cons_zero, List.getD_cons_succ, Bool.false_eq_true, wrn3, wrn1, cpmS, cpok9, upm_app, Int.reduceEq, and_self, and_true, true_and, and_false, false_and, if_true, if_false, ↓reduceIte, ew]
  repeat' (first
    | (with_reducible exact True.intro)
    | (with_reducible exact False.elim)
    | (with_reducible rfl)
    | (with_reducible contradiction)
    | (with_reducible refine And.intro ?_ ?_)
    | intro _
    | ((with_reducible refine p_59x ?_ ?_ ?_); (next => (try simp only [upm_app, Int.reduceEq, and_self, and_true, true_and, and_false, false_and, if_true, if_false, ↓reduceIte]); omega); (next => (try simp only [upm_app, Int.reduceEq, and_self, and_true, true_and, and_false, false_and, if_true, if_false, ↓reduceIte]); omega); simp only [hdl_c, S9_1, S9_m, bud9, live9, inb9, wrn, wr9_14, wr9_15, wr9_16, wr9_17, tq9_14, tq9_15, tq9_16, tq9_17, tq_0, tq_1, tq_3, upr_rl, rl_0, rl_1, rl_2, rl_3, rl_4, rl_5, rl_6, rl_7, rl_8, rl_9, rl_10, rl_11, rl_12, rl_13, sp_0, sp_1, sp_2, sp_3, sp_4, sp_5, sp_6, sp_7, sp_8, sp_9, sp_10, sp_11, sp_12, sp_13, se_0, se_1, se_2, se_3, se_4, se_5, se_6, se_7, se_8, se_9, se_10, se_11, se_12, se_13, sem_0, sem_1, sem_2, sem_3, sem_4, sem_5, List.getD_cons_zero, List.getD_cons_succ, Bool.false_eq_true, wrn3, wrn1, cpmS, cpok9, if_true, if_false, ↓reduceIte, sr_15_1, sr_15_4, sr_15_6, sr_15_0, sr_15_2, sr_15_7, sr_15_5, kc_15, kl9_15, sr_15_8, sr_15_9, sr_26_3, sr_26_0, kl9_26, sr_26_10, sr_26_7, sr_26_12, sr_26_1, sr_26_2, kc_26, sr_26_11, kl9_27, sr_27_0, sr_27_15, sr_27_14, sr_27_6, sr_27_7, sr_27_3, sr_27_11, sr_27_9, sr_27_10, kc_27, sr_27_13, sr_27_8, sr_27_2, sr_27_12, sr_27_1, sr_27_4, sr_27_5, wc_59, wc_61, upm_app, Int.reduceEq, and_self, and_true, true_and, and_false, false_and, if_true, if_false, ↓reduceIte])
    | ((with_reducible refine f_61 (g := g) (tc := tc) ?_ ?_ ?_ ?_ (fun v9 m9 hJ9 h9 => ?_)); (next => decide); (next => exact (sr27i b0 b1).2); (next => rw [sr27v b0 b1]; omega); (next => refine JC_of hL ?_ (by decide); repeat (first | assumption | (refine JC_up ?_ (by first | decide | (unfold frC; omega)) (by first | (simp [BdC, hnd]; done) | (simp [BdC, hnd, upm, cpf] <;> first | omega | (unfold w32; omega)))))); rw [sr27v b0 b1] at h9; simp only [hdl_c, S9_1, S9_m, bud9, live9, inb9, wrn, wr9_14, wr9_15, wr9_16, wr9_17, tq9_14, tq9_15, tq9_16, tq9_17, tq_0, tq_1, tq_3, upr_rl, rl_0, rl_1, rl_2, rl_3, rl_4, rl_5, rl_6, rl_7, rl_8, rl_9, rl_10, rl_11, rl_12, rl_13, sp_0, sp_1, sp_2, sp_3, sp_4, sp_5, sp_6, sp_7, sp_8, sp_9, sp_10, sp_11, sp_12, sp_13, se_0, se_1, se_2, se_3, se_4, se_5, se_6, se_7, se_8, se_9, se_10, se_11, se_12, se_13, sem_0, sem_1, sem_2, sem_3, sem_4, sem_5, List.getD_cons_zero, List.getD_cons_succ, Bool.false_eq_true, wrn3, wrn1, cpmS, cpok9, if_true, if_false, ↓reduceIte, sr_15_1, sr_15_4, sr_15_6, sr_15_0, sr_15_2, sr_15_7, sr_15_5, kc_15, kl9_15, sr_15_8, sr_15_9, sr_26_3, sr_26_0, kl9_26, sr_26_10, sr_26_7, sr_26_12, sr_26_1, sr_26_2, kc_26, sr_26_11, kl9_27, sr_27_0, sr_27_15, sr_27_14, sr_27_6, sr_27_7, sr_27_3, sr_27_11, sr_27_9, sr_27_10, kc_27, sr_27_13, sr_27_8, sr_27_2, sr_27_12, sr_27_1, sr_27_4, sr_27_5, wc_59, wc_61, upm_app, Int.reduceEq, and_self, and_true, true_and, and_false, false_and, if_true, if_false, ↓reduceIte])
    | (with_reducible refine (sr27i ?_ ?_).1.1 <;> omega)
    | (with_reducible refine (sr27i ?_ ?_).1.2.1 <;> omega)
    | (with_reducible refine (sr27i ?_ ?_).1.2.2 <;> omega)
    | ((with_reducible refine h0 ?_); omega)
    | ((with_reducible refine hq _ ?_ hJ9 h9); omega)
    | omega
    | decide)
end
section
/-! the reference's rows copied, to the letter -/
theorem cpf_0 (m : Mem) (a i b j : Int) : cpf m a i b j 0 = m := by
  funext x y
  unfold cpf
  rw [if_neg (by omega)]
theorem cpf_s {m : Mem} {a i b j n p v n1 : Int} (hn : 0 ≤ n) (hp : p = j + n) (hv : v = m a (i + n)) (h1 : n1 = n + 1) : upm (cpf m a i b j n) b p v = cpf m a i b j n1 := by
  subst hp hv h1
  funext x y
  unfold upm cpf
  by_cases h : x = b ∧ y = j + n
  · obtain ⟨rfl, rfl⟩ := h
    rw [if_pos ⟨rfl, rfl⟩, if_pos ⟨rfl, by omega, by omega⟩]
    congr 1; omega
  · rw [if_neg h]
    by_cases h2 : x = b ∧ j ≤ y ∧ y < j + n
    · rw [if_pos h2, if_pos ⟨h2.1, h2.2.1, by omega⟩]
    · rw [if_neg h2, if_neg (by rintro ⟨q1, q2, q3⟩; by_cases z : y = j + n; exact h ⟨q1, z⟩; exact h2 ⟨q1, q2, by omega⟩)]
theorem cpf_n {m : Mem} {a i b j n x : Int} (h : x ≠ b) : cpf m a i b j n x = m x := by
  funext y
  unfold cpf
  rw [if_neg (fun q => h q.1)]
theorem cpf_hi {m : Mem} {a i b j n x y : Int} (h : x = b → y < j ∨ j + n ≤ y) : cpf m a i b j n x y = m x y := by
  unfold cpf
  rw [if_neg (fun q => by have := h q.1; omega)]
theorem BdR_cpf {tc pl a i b j n : Int} {m : Mem} (h : ∀ a j, BdR tc pl a j (m a j)) (hv : ∀ y, j ≤ y → y < j + n → BdR tc pl b y (m a (y - j + i))) (x y : Int) : BdR tc pl x y (cpf m a i b j n x y) := by
  unfold cpf
  by_cases q : x = b ∧ j ≤ y ∧ y < j + n
  · rw [if_pos q]; rw [q.1]; exact hv y q.2.1 q.2.2
  · rw [if_neg q]; exact h x y
theorem p_215x {d : Nat} {e : Int} {m : Mem} {Q : Int → Sto → Prop} (hu : 0 ≤ m 249 39 ∧ m 249 39 ≤ 15) (hq : ∀ v, Q v (S9 e (cpf m 258 0 269 (52 * m 249 39) 52))) : Cl (d + 1) 215 [249] Q (S9 e m) := by
  simp only [cl_215, runB, B215, ma_215, rho_2, wf_13_260, wf_13_36, wf_13_69, w_cst, w_ldi, w_ldj, w_lda, w_ljk, w_ldk, w_ldw, w_ldk2, w_ldt, w_ldtw, w_neg, w_cvb, w_cvs, w_cvc, w_cvj, w_add, w_sub, w_mul, w_ban, w_bor, w_bxo, w_shl, w_shr, w_ush, w_dvi, w_rmi, w_aldi, w_aldj, w_aldz, w_aldc, w_alda, w_ite, w_cmp, w_cmj, w_cz, w_cnot, w_cand, w_cor, w_nil, w_cons, w_cvi, w_csta, w_cvt, w_cvv, w_csv, w_cpy, w_seq, w_sbr, w_sbn, w_brk, w_ifs, w_ifx, w_ife, w_wk, w_rets, w_rtv, w_thr, w_asi, w_asj, w_asa, w_inc, w_exs, w_asti, w_astj, w_astz, w_astc, w_aopadd, w_aopsub, w_sw, if_true, if_false, ↓reduceIte, hdl_c, S9_1, S9_m, bud9, live9, inb9, wrn, wr9_14, wr9_15, wr9_16, wr9_17, tq9_14, tq9_15, tq9_16, tq9_17, tq_0, tq_1, tq_3, upr_rl, rl_0, rl_1, rl_2, rl_3, rl_4, rl_5, rl_6, rl_7, rl_8, rl_9, rl_10, rl_11, rl_12, rl_13, sp_0, sp_1, sp_2, sp_3, sp_4, sp_5, sp_6, sp_7, sp_8, sp_9, sp_10, sp_11, sp_12, sp_13, se_0, se_1, se_2, se_3, se_4, se_5, se_6, se_7, se_8, se_9, se_10, se_11, se_12, se_13, sem_0, sem_1, sem_2, sem_3, sem_4, sem_5, sr_249_14, sr_249_57, sr_249_51, sr_249_16, sr_249_34, sr_249_40, sr_249_55, sr_249_42, sr_249_71, sr_249_58, sr_249_70, sr_249_23, sr_249_9, sr_249_8, sr_249_25, sr_249_64, sr_249_2, sr_249_50, sr_249_63, sr_249_13, sr_249_15, sr_249_35, sr_249_22, sr_249_67, sr_249_54, sr_249_41, sr_249_10, sr_249_17, sr_249_12, sr_249_61, sr_249_31, sr_249_69, sr_249_30, sr_249_11, sr_249_24, kl9_249, kc_249, sr_249_68, sr_249_52, sr_249_43, kc_258, kl9_258, kl9_269, kc_269, List.getD_cons_zero, List.getD_cons_succ, Bool.false_eq_true, wrn3, wrn1, cpmS, cpok9, upm_app, Int.reduceEq, and_self, and_true, true_and, and_false, false_and, if_true, if_false, ↓reduceIte, Int.reduceNe, ne_eq, not_false_eq_true, cpf_n]
  repeat' (first
    | (with_reducible exact True.intro)
    | (with_reducible exact False.elim)
    | omega
    | (with_reducible rfl)
    | (with_reducible contradiction)
    | (with_reducible refine And.intro ?_ ?_)
    | intro _
    | ((with_reducible refine whl_i (fun k r u => ∃ (i : Int), r = rl [249, i] ∧ u = S9 e (cpf m 258 0 269 (52 * m 249 39) i) ∧ 0 ≤ i ∧ i + k = 52) 52 ?_ ?_); (next => exact ⟨0, rfl, by rw [cpf_0], by decide, by decide⟩); (rintro k r u ⟨i, rfl, rfl, h9a, h9b⟩); simp only [cl_215, runB, B215, ma_215, rho_2, wf_13_260, wf_13_36, wf_13_69, w_cst, w_ldi, w_ldj, w_lda, w_ljk, w_ldk, w_ldw, w_ldk2, w_ldt, w_ldtw, w_neg, w_cvb, w_cvs, w_cvc, w_cvj, w_add, w_sub, w_mul, w_ban, w_bor, w_bxo, w_shl, w_shr, w_ush, w_dvi, w_rmi, w_aldi, w_aldj, w_aldz, w_aldc, w_alda, w_ite, w_cmp, w_cmj, w_cz, w_cnot, w_cand, w_cor, w_nil, w_cons, w_cvi, w_csta, w_cvt, w_cvv, w_csv, w_cpy, w_seq, w_sbr, w_sbn, w_brk, w_ifs, w_ifx, w_ife, w_wk, w_rets, w_rtv, w_thr, w_asi, w_asj, w_asa, w_inc, w_exs, w_asti, w_astj, w_astz, w_astc, w_aopadd, w_aopsub, w_sw, if_true, if_false, ↓reduceIte, hdl_c, S9_1, S9_m, bud9, live9, inb9, wrn, wr9_14, wr9_15, wr9_16, wr9_17, tq9_14, tq9_15, tq9_16, tq9_17, tq_0, tq_1, tq_3, upr_rl, rl_0, rl_1, rl_2, rl_3, rl_4, rl_5, rl_6, rl_7, rl_8, rl_9, rl_10, rl_11, rl_12, rl_13, sp_0, sp_1, sp_2, sp_3, sp_4, sp_5, sp_6, sp_7, sp_8, sp_9, sp_10, sp_11, sp_12, sp_13, se_0, se_1, se_2, se_3, se_4, se_5, se_6, se_7, se_8, se_9, se_10, se_11, se_12, se_13, sem_0, sem_1, sem_2, sem_3, sem_4, sem_5, sr_249_14, sr_249_57, sr_249_51, sr_249_16, sr_249_34, sr_249_40, sr_249_55, sr_249_42, sr_249_71, sr_249_58, sr_249_70, sr_249_23, sr_249_9, sr_249_8, sr_249_25, sr_249_64, sr_249_2, sr_249_50, sr_249_63, sr_249_13, sr_249_15, sr_249_35, sr_249_22, sr_249_67, sr_249_54, sr_249_41, sr_249_10, sr_249_17, sr_249_12, sr_249_61, sr_249_31, sr_249_69, sr_249_30, sr_249_11, sr_249_24, kl9_249, kc_249, sr_249_68, sr_249_52, sr_249_43, kc_258, kl9_258, kl9_269, kc_269, List.getD_cons_zero, List.getD_cons_succ, Bool.false_eq_true, wrn3, wrn1, cpmS, cpok9, upm_app, Int.reduceEq, and_self, and_true, true_and, and_false, false_and, if_true, if_false, ↓reduceIte, Int.reduceNe, ne_eq, not_false_eq_true, cpf_n])
    | ((obtain rfl : i = 52 := (by omega)); exact hq _)
    | ((refine ⟨k - 1, ?_, w32 (i + 1), rfl, ?_, ?_, ?_⟩); (next => omega); (next => exact congrArg (S9 e) (cpf_s h9a (by unfold w32; omega) (by congr 1; omega) (by unfold w32; omega))); (next => unfold w32; omega); (next => unfold w32; omega))
    | (unfold w32; omega)
    | (simp (disch := omega) only [w32_eq]; omega)
    | (with_reducible show (_ : Int) ≤ _; simp [upm] <;> (first | omega | (unfold w32; omega)))
    | (with_reducible show (_ : Int) < _; simp [upm] <;> (first | omega | (unfold w32; omega))))

theorem p_213x {d : Nat} {e : Int} {m : Mem} {Q : Int → Sto → Prop} (hu : 0 ≤ m 249 39 ∧ m 249 39 ≤ 15) (h0 : m 249 39 = 0 → Q (-1) (S9 e (upm m 249 0 0))) (hq : 0 < m 249 39 → Q (m 249 39 - 1) (S9 e (cpf (upm (upm m 249 0 0) 249 39 (m 249 39 - 1)) 269 (52 * (m 249 39 - 1)) 258 0 52))) : Cl (d + 1) 213 [249] Q (S9 e m) := by
  have ew : w32 (m 249 39 - 1) = m 249 39 - 1 := by unfold w32; omega
  simp only [cl_213, runB, B213, ma_213, rho_2, wf_13_260, wf_13_36, wf_13_69, wpf_13_126, wpf_13_260, wpopadd_pf_13_260, wpopsub_pf_13_260, w_cst, w_ldi, w_ldj, w_lda, w_ljk, w_ldk, w_ldw, w_ldk2, w_ldt, w_ldtw, w_neg, w_cvb, w_cvs, w_cvc, w_cvj, w_add, w_sub, w_mul, w_ban, w_bor, w_bxo, w_shl, w_shr, w_ush, w_dvi, w_rmi, w_aldi, w_aldj, w_aldz, w_aldc, w_alda, w_ite, w_cmp, w_cmj, w_cz, w_cnot, w_cand, w_cor, w_nil, w_cons, w_cvi, w_csta, w_cvt, w_cvv, w_csv, w_cpy, w_seq, w_sbr, w_sbn, w_brk, w_ifs, w_ifx, w_ife, w_wk, w_rets, w_rtv, w_thr, w_asi, w_asj, w_asa, w_inc, w_exs, w_asti, w_astj, w_astz, w_astc, w_aopadd, w_aopsub, w_sw, if_true, if_false, ↓reduceIte, hdl_c, S9_1, S9_m, bud9, live9, inb9, wrn, wr9_14, wr9_15, wr9_16, wr9_17, tq9_14, tq9_15, tq9_16, tq9_17, tq_0, tq_1, tq_3, upr_rl, rl_0, rl_1, rl_2, rl_3, rl_4, rl_5, rl_6, rl_7, rl_8, rl_9, rl_10, rl_11, rl_12, rl_13, sp_0, sp_1, sp_2, sp_3, sp_4, sp_5, sp_6, sp_7, sp_8, sp_9, sp_10, sp_11, sp_12, sp_13, se_0, se_1, se_2, se_3, se_4, se_5, se_6, se_7, se_8, se_9, se_10, se_11, se_12, se_13, sem_0, sem_1, sem_2, sem_3, sem_4, sem_5, sr_249_14, sr_249_57, sr_249_51, sr_249_16, sr_249_34, sr_249_40, sr_249_55, sr_249_42, sr_249_71, sr_249_58, sr_249_70, sr_249_23, sr_249_9, sr_249_8, sr_249_25, sr_249_64, sr_249_2, sr_249_50, sr_249_63, sr_249_13, sr_249_15, sr_249_35, sr_249_22, sr_249_67, sr_249_54, sr_249_41, sr_249_10, sr_249_17, sr_249_12, sr_249_61, sr_249_31, sr_249_69, sr_249_30, sr_249_11, sr_249_24, kl9_249, kc_249, sr_249_68, sr_249_52, sr_249_43, kc_258, kl9_258, kl9_269, kc_269, List.getD_cons_zero, List.getD_cons_succ, Bool.false_eq_true, wrn3, wrn1, cpmS, cpok9, upm_app, Int.reduceEq, and_self, and_true, true_and, and_false, false_and, if_true, if_false, ↓reduceIte, Int.reduceNe, ne_eq, not_false_eq_true, cpf_n, ew]
  repeat' (first
    | (with_reducible exact True.intro)
    | (with_reducible exact False.elim)
    | omega
    | (with_reducible rfl)
    | (with_reducible contradiction)
    | (with_reducible refine And.intro ?_ ?_)
    | intro _
    | ((with_reducible refine whl_i (fun k r u => ∃ (i : Int), r = rl [249, i] ∧ u = S9 e (cpf (upm (upm m 249 0 0) 249 39 (m 249 39 - 1)) 269 (52 * (m 249 39 - 1)) 258 0 i) ∧ 0 ≤ i ∧ i + k = 52) 52 ?_ ?_); (next => exact ⟨0, rfl, by rw [cpf_0], by decide, by decide⟩); (rintro k r u ⟨i, rfl, rfl, h9a, h9b⟩); simp only [cl_213, runB, B213, ma_213, rho_2, wf_13_260, wf_13_36, wf_13_69, wpf_13_126, wpf_13_260, wpopadd_pf_13_260, wpopsub_pf_13_260, w_cst, w_ldi, w_ldj, w_lda, w_ljk, w_ldk, w_ldw, w_ldk2, w_ldt, w_ldtw, w_neg, w_cvb, w_cvs, w_cvc, w_cvj, w_add, w_sub, w_mul, w_ban, w_bor, w_bxo, w_shl, w_shr, w_ush, w_dvi, w_rmi, w_aldi, w_aldj, w_aldz, w_aldc, w_alda, w_ite, w_cmp, w_cmj, w_cz, w_cnot, w_cand, w_cor, w_nil, w_cons, w_cvi, w_csta, w_cvt, w_cvv, w_csv, w_cpy, w_seq, w_sbr, w_sbn, w_brk, w_ifs, w_ifx, w_ife, w_wk, w_rets, w_rtv, w_thr, w_asi, w_asj, w_asa, w_inc, w_exs, w_asti, w_astj, w_astz, w_astc, w_aopadd, w_aopsub, w_sw, if_true, if_false, ↓reduceIte, hdl_c, S9_1, S9_m, bud9, live9, inb9, wrn, wr9_14, wr9_15, wr9_16, wr9_17, tq9_14, tq9_15, tq9_16, tq9_17, tq_0, tq_1, tq_3, upr_rl, rl_0, rl_1, rl_2, rl_3, rl_4, rl_5, rl_6, rl_7, rl_8, rl_9, rl_10, rl_11, rl_12, rl_13, sp_0, sp_1, sp_2, sp_3, sp_4, sp_5, sp_6, sp_7, sp_8, sp_9, sp_10, sp_11, sp_12, sp_13, se_0, se_1, se_2, se_3, se_4, se_5, se_6, se_7, se_8, se_9, se_10, se_11, se_12, se_13, sem_0, sem_1, sem_2, sem_3, sem_4, sem_5, sr_249_14, sr_249_57, sr_249_51, sr_249_16, sr_249_34, sr_249_40, sr_249_55, sr_249_42, sr_249_71, sr_249_58, sr_249_70, sr_249_23, sr_249_9, sr_249_8, sr_249_25, sr_249_64, sr_249_2, sr_249_50, sr_249_63, sr_249_13, sr_249_15, sr_249_35, sr_249_22, sr_249_67, sr_249_54, sr_249_41, sr_249_10, sr_249_17, sr_249_12, sr_249_61, sr_249_31, sr_249_69, sr_249_30, sr_249_11, sr_249_24, kl9_249, kc_249, sr_249_68, sr_249_52, sr_249_43, kc_258, kl9_258, kl9_269, kc_269, List.getD_cons_zero, List.getD_cons_succ, Bool.false_eq_true, wrn3, wrn1, cpmS, cpok9, upm_app, Int.reduceEq, and_self, and_true, true_and, and_false, false_and, if_true, if_false, ↓reduceIte, Int.reduceNe, ne_eq, not_false_eq_true, cpf_n, ew])
    | ((with_reducible refine h0 ?_); omega)
    | ((obtain rfl : i = 52 := (by omega)); exact hq (by omega))
    | ((refine ⟨k - 1, ?_, w32 (i + 1), rfl, ?_, ?_, ?_⟩); (next => omega); (next => exact congrArg (S9 e) (cpf_s h9a (by omega) (by simp only [upm_app, Int.reduceEq, and_self, and_true, true_and, and_false, false_and, if_true, if_false, ↓reduceIte, Int.reduceNe, ne_eq, not_false_eq_true]; congr 1; unfold w32; omega) (by unfold w32; omega))); (next => unfold w32; omega); (next => unfold w32; omega))
    | (unfold w32; omega)
    | (simp (disch := omega) only [w32_eq]; omega)
    | (with_reducible show (_ : Int) ≤ _; simp [upm] <;> (first | omega | (unfold w32; omega)))
    | (with_reducible show (_ : Int) < _; simp [upm] <;> (first | omega | (unfold w32; omega))))
end
section
/-! seconds that go by in a walk and in pass -/
def aWalk (R : ENV → Int) (BE CO : Int → Int) (P H : Nat) (W : Int) (O T S D : Int → Int) (x : AS) (a b : Int) : AR := if ¬ per H a then (-1, x) else if ¬ (per W b ∧ (O b = x 3 a ∨ T b = x 3 a)) then (-2, x) else if ¬ (D b = 0 ∨ iand (ishr (x 10 0) b) 1 ≠ 0) then (-3, x) else (S b, asU (secs R BE CO P H (S b).toNat x) 3 a (if O b = x 3 a then T b else O b))
theorem sec_3 {R : ENV → Int} {BE CO : Int → Int} {P H : Nat} {x : AS} {f p : Int} (hf : f = 3 ∨ f = 7 ∨ (f = 10 ∧ p = 0)) (h6 : ∀ p : Int, 0 ≤ p → p < H → 0 ≤ x 6 p ∧ x 6 p ≤ 1) : sec R BE CO P H x f p = x f p := by
  have e1 : ∀ n : Nat, (n : Int) ≤ H → hlds R BE n x f p = x f p := by
    intro n
    induction n with
    | zero => intro _; rfl
    | succ n ih =>
      intro hn
      have h6n := hlds_6 (R := R) (BE := BE) (x := x) n n (fun p h0 h1 => h6 p h0 (by omega))
      have hh := h6 n (by omega) (by omega)
      show holdS R BE n (hlds R BE n x) f p = _
      have key : ∀ y : AS, 0 ≤ y 6 n ∧ y 6 n ≤ 1 → holdS R BE n y f p = y f p := fun y hy => by
        unfold holdS
        split
        · split
          · rw [asU_app, if_neg (by omega), asU_app, if_neg (by omega), asU_app, if_neg (by omega), asU_app, if_neg (by omega), asU_app, if_neg (by omega), asU_app, if_neg (by omega), asU_app, if_neg (by omega), asU_app, if_neg (by omega)]
          · rw [asU_app, if_neg (by omega)]
        · rfl
      rw [key _ (by rw [h6n]; exact hh)]
      exact ih (by omega)
  have e2 : ∀ (n : Nat) (y : AS), clds n y f p = y f p := by
    intro n
    induction n with
    | zero => intro _; rfl
    | succ n ih => intro y; show coolS n (clds n y) f p = _; rw [coolS_n (Or.inr (by omega)), ih]
  have e3 : ∀ (n : Nat) (y : AS), ptds CO n y f p = y f p := by
    intro n
    induction n with
    | zero => intro _; rfl
    | succ n ih => intro y; show asU (ptds CO n y) 0 n _ f p = _; rw [asU_app, if_neg (by omega), ih]
  show asU (ptds CO P (clds H (hlds R BE H x))) 10 1 _ f p = _
  rw [asU_app, if_neg (by omega), e3, e2, e1 H (Int.le_refl _)]
theorem secs_3 {R : ENV → Int} {BE CO : Int → Int} {L : Int} {P H : Nat} {f p : Int} (hf : f = 3 ∨ f = 7 ∨ (f = 10 ∧ p = 0)) (hc : ∀ q : Int, 0 ≤ q → q < P → 0 ≤ CO q ∧ CO q ≤ 9) : ∀ (n : Nat) (x : AS), IV L P H x → secs R BE CO P H n x f p = x f p
  | 0, _, _ => rfl
  | n + 1, x, h => by
    show secs R BE CO P H n (sec R BE CO P H x) f p = _
    rw [secs_3 hf hc n _ (IV_sec h hc), sec_3 hf (fun p p0 p1 => (h.1 p p0 p1).2.2.1)]
theorem walk_e {R : ENV → Int} {BE BE' CO CO' : Int → Int} {L W : Int} {P H : Nat} {O T S D O' T' S' D' : Int → Int} {x y : AS} {a b : Int} (h : IV L P H x) (e : SE P H x y) (n : SN x y) (hb : ∀ p : Int, 0 ≤ p → p < H → BE p = BE' p) (hc : ∀ q : Int, 0 ≤ q → q < P → CO q = CO' q) (hk : ∀ q : Int, 0 ≤ q → q < P → 0 ≤ CO q ∧ CO q ≤ 9) (hw : ∀ w, 0 ≤ w → w < W → O w = O' w ∧ T w = T' w ∧ S w = S' w ∧ (D w = 0 ↔ D' w = 0)) : AE P H (aWalk R BE CO P H W O T S D x a b) (aWalk R BE' CO' P H W O' T' S' D' y a b) := by
  unfold aWalk
  refine AE_if Iff.rfl (fun _ => ⟨rfl, e, n⟩) (fun z => ?_)
  have ha : per H a := Decidable.not_not.mp z
  have e3 := e.2.1 3 a (by decide) (by decide) ha.1 ha.2
  rw [← e3, ← e.2.2.1]
  refine AE_if ?_ (fun _ => ⟨rfl, e, n⟩) (fun w => ?_)
  · by_cases q : per W b
    · obtain ⟨w1, w2, -⟩ := hw b q.1 q.2
      rw [w1, w2]
    · constructor <;> (intro _ r; exact q r.1)
  · have q := (Decidable.not_not.mp w).1
    obtain ⟨w1, w2, w3, w4⟩ := hw b q.1 q.2
    refine AE_if (by rw [w4]) (fun _ => ⟨rfl, e, n⟩) (fun _ => ?_)
    obtain ⟨s1, s2⟩ := SE_secs (R := R) hb hc hk (S b).toNat x y h e n
    refine ⟨w3, ?_, ?_⟩
    · rw [← w3, ← w1, ← w2]; exact SE_U _ _ s1 rfl
    · rw [← w3, ← w1, ← w2]; exact SN_U _ _ s2 rfl
theorem walk_i {R : ENV → Int} {BE CO : Int → Int} {L W : Int} {P H : Nat} {O T S D : Int → Int} {x : AS} {a b : Int} (h : IV L P H x) (hk : ∀ q : Int, 0 ≤ q → q < P → 0 ≤ CO q ∧ CO q ≤ 9) (hw : ∀ w, 0 ≤ w → w < W → (0 ≤ O w ∧ O w < L) ∧ (0 ≤ T w ∧ T w < L)) : IV L P H (aWalk R BE CO P H W O T S D x a b).2 := by
  unfold aWalk
  split
  · exact h
  · split
    · exact h
    · split
      · exact h
      · rename_i z1 z2 z3
        have q := (Decidable.not_not.mp z2).1
        obtain ⟨w1, w2⟩ := hw b q.1 q.2
        exact IV_6 (IV_secs hk _ _ h) (Or.inr ⟨rfl, by split <;> omega, by split <;> omega⟩)
set_option maxHeartbeats 4000000 in
theorem p_69x {d : Nat} {e : Int} {m : Mem} {Q : Int → Sto → Prop} {a b : Int} (hW : 0 ≤ m 8 1 ∧ m 8 1 ≤ 14) (c0 : ¬ (0 ≤ a ∧ a < m 8 1) → Q (-1) (S9 e m)) (c1 : (0 ≤ a ∧ a < m 8 1) → ∀ v, v = (if m 10 a = b then m 11 a else if m 11 a = b then m 10 a else -1) → Q v (S9 e m)) : Cl (d + 2) 69 [8, a, b] Q (S9 e m) := by
  simp only [cl_69, runB, B69, ma_69, rho_200, wf_4_15, wf_4_18, wc_70, cl_70, B70, ma_70, rho_20, wf_4_34, w_cst, w_ldi, w_ldj, w_lda, w_ljk, w_ldk, w_ldw, w_ldk2, w_ldt, w_ldtw, w_neg, w_cvb, w_cvs, w_cvc, w_cvj, w_add, w_sub, w_mul, w_ban, w_bor, w_bxo, w_shl, w_shr, w_ush, w_dvi, w_rmi, w_aldi, w_aldj, w_aldz, w_aldc, w_alda, w_ite, w_cmp, w_cmj, w_cz, w_cnot, w_cand, w_cor, w_nil, w_cons, w_cvi, w_csta, w_cvt, w_cvv, w_csv, w_cpy, w_seq, w_sbr, w_sbn, w_brk, w_ifs, w_ifx, w_ife, w_wk, w_rets, w_rtv, w_thr, w_asi, w_asj, w_asa, w_inc, w_exs, w_asti, w_astj, w_astz, w_astc, w_aopadd, w_aopsub, w_sw, if_true, if_false, ↓reduceIte, hdl_c, S9_1, S9_m, bud9, live9, inb9, wrn, wr9_14, wr9_15, wr9_16, wr9_17, tq9_14, tq9_15, tq9_16, tq9_17, tq_0, tq_1, tq_3, upr_rl, rl_0, rl_1, rl_2, rl_3, rl_4, rl_5, rl_6, rl_7, rl_8, rl_9, rl_10, rl_11, rl_12, rl_13, sp_0, sp_1, sp_2, sp_3, sp_4, sp_5, sp_6, sp_7, sp_8, sp_9, sp_10, sp_11, sp_12, sp_13, se_0, se_1, se_2, se_3, se_4, se_5, se_6, se_7, se_8, se_9, se_10, se_11, se_12, se_13, sem_0, sem_1, sem_2, sem_3, sem_4, sem_5, kc_10, kl9_10, kl9_11, kc_11, sr_8_10, sr_8_5, sr_8_4, kl9_8, sr_8_7, sr_8_6, sr_8_9, kc_8, kl9_13, kc_13, kc_14, kl9_14, sr_15_4, sr_15_0, kc_15, sr_15_9, sr_15_5, sr_15_2, sr_15_1, sr_15_7, kl9_15, sr_15_6, sr_15_8, kc_16, kl9_16, kl9_17, kc_17, kl9_18, kc_18, kl9_19, kc_19, kl9_20, kc_20, kc_21, kl9_21, kl9_22, kc_22, kc_23, kl9_23, kc_24, kl9_24, kl9_25, sr_25_2, sr_25_0, sr_25_1, kc_25, sr_26_10, sr_26_2, sr_26_0, sr_26_11, sr_26_3, kl9_26, sr_26_7, sr_26_1, kc_26, sr_26_12, sr_4_4, sr_4_0, kl9_4, sr_4_2, kc_4, List.getD_cons_zero, List.getD_cons_succ, Bool.false_eq_true, wrn3, wrn1, cpmS, cpok9, upm_app, Int.reduceEq, and_self, and_true, true_and, and_false, false_and, if_true, if_false, ↓reduceIte, Int.reduceToNat, upm_f, Int.reduceEq, Int.reduceNe, ne_eq, not_false_eq_true, not_true_eq_false]
  repeat' (first
    | (with_reducible exact True.intro)
    | (with_reducible exact False.elim)
    | omega
    | (with_reducible rfl)
    | (with_reducible contradiction)
    | (with_reducible refine And.intro ?_ ?_)
    | intro _
    | ((with_reducible refine c0 ?_); omega)
    | ((with_reducible refine c1 ?_ _ ?_); (next => omega); (next => (repeat' split) <;> first | rfl | omega))
    | (unfold w32; omega)
    | (simp (disch := omega) only [w32_eq]; omega)
    | (with_reducible show (_ : Int) ≤ _; simp [upm] <;> (first | omega | (unfold w32; omega)))
    | (with_reducible show (_ : Int) < _; simp [upm] <;> (first | omega | (unfold w32; omega))))
end
section
set_option maxHeartbeats 8000000 in
theorem f_86 {d : Nat} {tc e : Int} {g : Fg} {m : Mem} {Q : Int → Sto → Prop} {R : ENV → Int} {L : Int} {a : Int} (hJ : JC 3 g tc m) (hI : IV L (m 8 2) (m 8 3) (asC m 15)) (hD : HD (m 8 2) (m 8 3) (asC m 15) (m 18)) (hK : KB m) (hR : RuC m R) (h0 : ¬ (0 ≤ a ∧ a ≤ 99) → Q (-1) (S9 e m)) (hq : 0 ≤ a ∧ a ≤ 99 → ∀ v m', JC 3 g tc m' → FA m m' → HD (m 8 2) (m 8 3) (asC m' 15) (m' 18) → IV L (m 8 2) (m 8 3) (asC m' 15) → asC m' 15 = secs R (m 14) (m 13) (m 8 2).toNat (m 8 3).toNat a.toNat (asC m 15) → v = asC m' 15 11 0 → Q v (S9 e m')) : Cl (d + 7) 86 [26, a] Q (S9 e m) := by
  have hL := JC_l hJ
  have hs := JC_s hJ
  have eH : ((m 8 3).toNat : Int) = m 8 3 := by omega
  have eP : ((m 8 2).toNat : Int) = m 8 2 := by omega
  have hc : ∀ q : Int, 0 ≤ q → q < (m 8 2).toNat → 0 ≤ m 13 q ∧ m 13 q ≤ 9 := fun q q0 q1 => hK.2 q q0 (by omega)
  have hI0 : IV L (m 8 2).toNat (m 8 3).toNat (asC m 15) := by rw [eP, eH]; exact hI
  simp only [cl_86, runB, B86, ma_86, rho_20, wf_7_65, wc_73, w_cst, w_ldi, w_ldj, w_lda, w_ljk, w_ldk, w_ldw, w_ldk2, w_ldt, w_ldtw, w_neg, w_cvb, w_cvs, w_cvc, w_cvj, w_add, w_sub, w_mul, w_ban, w_bor, w_bxo, w_shl, w_shr, w_ush, w_dvi, w_rmi, w_aldi, w_aldj, w_aldz, w_aldc, w_alda, w_ite, w_cmp, w_cmj, w_cz, w_cnot, w_cand, w_cor, w_nil, w_cons, w_cvi, w_csta, w_cvt, w_cvv, w_csv, w_cpy, w_seq, w_sbr, w_sbn, w_brk, w_ifs, w_ifx, w_ife, w_wk, w_rets, w_rtv, w_thr, w_asi, w_asj, w_asa, w_inc, w_exs, w_asti, w_astj, w_astz, w_astc, w_aopadd, w_aopsub, w_sw, if_true, if_false, ↓reduceIte, hdl_c, S9_1, S9_m, bud9, live9, inb9, wrn, wr9_14, wr9_15, wr9_16, wr9_17, tq9_14, tq9_15, tq9_16, tq9_17, tq_0, tq_1, tq_3, upr_rl, rl_0, rl_1, rl_2, rl_3, rl_4, rl_5, rl_6, rl_7, rl_8, rl_9, rl_10, rl_11, rl_12, rl_13, sp_0, sp_1, sp_2, sp_3, sp_4, sp_5, sp_6, sp_7, sp_8, sp_9, sp_10, sp_11, sp_12, sp_13, se_0, se_1, se_2, se_3, se_4, se_5, se_6, se_7, se_8, se_9, se_10, se_11, se_12, se_13, sem_0, sem_1, sem_2, sem_3, sem_4, sem_5, sr_8_10, sr_8_5, sr_8_4, kl9_8, sr_8_7, sr_8_6, sr_8_9, kc_8, kl9_13, kc_13, kc_14, kl9_14, sr_15_4, sr_15_0, kc_15, sr_15_9, sr_15_5, sr_15_2, sr_15_1, sr_15_7, kl9_15, sr_15_6, sr_15_8, kc_16, kl9_16, kl9_17, kc_17, kl9_18, kc_18, kl9_19, kc_19, kl9_20, kc_20, kc_21, kl9_21, kl9_22, kc_22, kc_23, kl9_23, kc_24, kl9_24, kl9_25, sr_25_2, sr_25_0, sr_25_1, kc_25, sr_26_10, sr_26_2, sr_26_0, sr_26_11, sr_26_3, kl9_26, sr_26_7, sr_26_1, kc_26, sr_26_12, sr_4_4, sr_4_0, kl9_4, sr_4_2, kc_4, List.getD_cons_zero, List.getD_cons_succ, Bool.false_eq_true, wrn3, wrn1, cpmS, cpok9, upm_app, Int.reduceEq, and_self, and_true, true_and, and_false, false_and, if_true, if_false, ↓reduceIte, Int.reduceToNat, upm_f, Int.reduceEq, Int.reduceNe, ne_eq, not_false_eq_true, not_true_eq_false]
  repeat' (first
    | (with_reducible exact True.intro)
    | (with_reducible exact False.elim)
    | (with_reducible rfl)
    | (with_reducible refine And.intro ?_ ?_)
    | intro _
    | ((with_reducible refine f_73 (g := g) (tc := tc) (R := R) (L := L) hJ9 (by rw [hF8, hF8]; exact hI9) (by rw [hF8, hF8]; exact hD9) (KB_fr hK hF8 hF13 hF14) (RuC_fr hR (hF9 4 1 (by omega)) (fun j => hF9 5 j (by omega))) (fun v8 m8 hJ8 hG8 hA8 hD8 => ?_)); (rw [hF8, hF8] at hA8 hD8); (rw [show m9 14 = m 14 from funext hF14, show m9 13 = m 13 from funext hF13, hA9] at hA8); have hs8 := JC_s hJ8; have hG88 : ∀ j, m8 8 j = m 8 j := (fun j => (hG8 8 j (by omega)).trans (hF8 j)); have hG12 : ∀ j, m8 12 j = m 12 j := (fun j => (hG8 12 j (by omega)).trans (hF12 j)); simp only [hdl_c, S9_1, S9_m, bud9, live9, inb9, wrn, wr9_14, wr9_15, wr9_16, wr9_17, tq9_14, tq9_15, tq9_16, tq9_17, tq_0, tq_1, tq_3, upr_rl, rl_0, rl_1, rl_2, rl_3, rl_4, rl_5, rl_6, rl_7, rl_8, rl_9, rl_10, rl_11, rl_12, rl_13, sp_0, sp_1, sp_2, sp_3, sp_4, sp_5, sp_6, sp_7, sp_8, sp_9, sp_10, sp_11, sp_12, sp_13, se_0, se_1, se_2, se_3, se_4, se_5, se_6, se_7, se_8, se_9, se_10, se_11, se_12, se_13, sem_0, sem_1, sem_2, sem_3, sem_4, sem_5, List.getD_cons_zero, List.getD_cons_succ, Bool.false_eq_true, wrn3, wrn1, cpmS, cpok9, if_true, if_false, ↓reduceIte, wc_73, sr_8_10, sr_8_5, sr_8_4, kl9_8, sr_8_7, sr_8_6, sr_8_9, kc_8, kl9_13, kc_13, kc_14, kl9_14, sr_15_4, sr_15_0, kc_15, sr_15_9, sr_15_5, sr_15_2, sr_15_1, sr_15_7, kl9_15, sr_15_6, sr_15_8, kc_16, kl9_16, kl9_17, kc_17, kl9_18, kc_18, kl9_19, kc_19, kl9_20, kc_20, kc_21, kl9_21, kl9_22, kc_22, kc_23, kl9_23, kc_24, kl9_24, kl9_25, sr_25_2, sr_25_0, sr_25_1, kc_25, sr_26_10, sr_26_2, sr_26_0, sr_26_11, sr_26_3, kl9_26, sr_26_7, sr_26_1, kc_26, sr_26_12, sr_4_4, sr_4_0, kl9_4, sr_4_2, kc_4, upm_app, Int.reduceEq, and_self, and_true, true_and, and_false, false_and, if_true, if_false, ↓reduceIte, Int.reduceToNat, upm_f, Int.reduceEq, Int.reduceNe, ne_eq, not_false_eq_true, not_true_eq_false, ew3, hG88, hG12])
    | ((with_reducible refine whl_i (fun k r u => ∃ (i : Int) (n : Nat) (m9 : Mem), r = rl [26, a, i] ∧ u = S9 e m9 ∧ JC 3 g tc m9 ∧ FA m m9 ∧ (i = n ∧ i ≤ a ∧ i + k = a + 1) ∧ asC m9 15 = secs R (m 14) (m 13) (m 8 2).toNat (m 8 3).toNat n (asC m 15) ∧ IV L (m 8 2) (m 8 3) (asC m9 15) ∧ HD (m 8 2) (m 8 3) (asC m9 15) (m9 18)) (a.toNat + 1) ?_ ?_); (next => exact ⟨0, 0, m, (by first | rfl | exact rlp2), rfl, hJ, fun _ _ _ => rfl, ⟨rfl, by omega, by omega⟩, rfl, hI, hD⟩); rintro k r u ⟨i, n, m9, rfl, rfl, hJ9, hF9, ⟨hi, hn, hk⟩, hA9, hI9, hD9⟩; have hs9 := JC_s hJ9; have hF8 : ∀ j, m9 8 j = m 8 j := (fun j => hF9 8 j (by omega)); have hF13 : ∀ j, m9 13 j = m 13 j := (fun j => hF9 13 j (by omega)); have hF14 : ∀ j, m9 14 j = m 14 j := (fun j => hF9 14 j (by omega)); have hF10 : ∀ j, m9 10 j = m 10 j := (fun j => hF9 10 j (by omega)); have hF11 : ∀ j, m9 11 j = m 11 j := (fun j => hF9 11 j (by omega)); have hF12 : ∀ j, m9 12 j = m 12 j := (fun j => hF9 12 j (by omega)); have i0 : 0 ≤ i := (by omega); have ew3 : w32 (i + 1) = i + 1 := w32_eq (by omega) (by omega); simp only [cl_86, runB, B86, ma_86, rho_20, wf_7_65, wc_73, w_cst, w_ldi, w_ldj, w_lda, w_ljk, w_ldk, w_ldw, w_ldk2, w_ldt, w_ldtw, w_neg, w_cvb, w_cvs, w_cvc, w_cvj, w_add, w_sub, w_mul, w_ban, w_bor, w_bxo, w_shl, w_shr, w_ush, w_dvi, w_rmi, w_aldi, w_aldj, w_aldz, w_aldc, w_alda, w_ite, w_cmp, w_cmj, w_cz, w_cnot, w_cand, w_cor, w_nil, w_cons, w_cvi, w_csta, w_cvt, w_cvv, w_csv, w_cpy, w_seq, w_sbr, w_sbn, w_brk, w_ifs, w_ifx, w_ife, w_wk, w_rets, w_rtv, w_thr, w_asi, w_asj, w_asa, w_inc, w_exs, w_asti, w_astj, w_astz, w_astc, w_aopadd, w_aopsub, w_sw, if_true, if_false, ↓reduceIte, hdl_c, S9_1, S9_m, bud9, live9, inb9, wrn, wr9_14, wr9_15, wr9_16, wr9_17, tq9_14, tq9_15, tq9_16, tq9_17, tq_0, tq_1, tq_3, upr_rl, rl_0, rl_1, rl_2, rl_3, rl_4, rl_5, rl_6, rl_7, rl_8, rl_9, rl_10, rl_11, rl_12, rl_13, sp_0, sp_1, sp_2, sp_3, sp_4, sp_5, sp_6, sp_7, sp_8, sp_9, sp_10, sp_11, sp_12, sp_13, se_0, se_1, se_2, se_3, se_4, se_5, se_6, se_7, se_8, se_9, se_10, se_11, se_12, se_13, sem_0, sem_1, sem_2, sem_3, sem_4, sem_5, sr_8_10, sr_8_5, sr_8_4, kl9_8, sr_8_7, sr_8_6, sr_8_9, kc_8, kl9_13, kc_13, kc_14, kl9_14, sr_15_4, sr_15_0, kc_15, sr_15_9, sr_15_5, sr_15_2, sr_15_1, sr_15_7, kl9_15, sr_15_6, sr_15_8, kc_16, kl9_16, kl9_17, kc_17, kl9_18, kc_18, kl9_19, kc_19, kl9_20, kc_20, kc_21, kl9_21, kl9_22, kc_22, kc_23, kl9_23, kc_24, kl9_24, kl9_25, sr_25_2, sr_25_0, sr_25_1, kc_25, sr_26_10, sr_26_2, sr_26_0, sr_26_11, sr_26_3, kl9_26, sr_26_7, sr_26_1, kc_26, sr_26_12, sr_4_4, sr_4_0, kl9_4, sr_4_2, kc_4, List.getD_cons_zero, List.getD_cons_succ, Bool.false_eq_true, wrn3, wrn1, cpmS, cpok9, upm_app, Int.reduceEq, and_self, and_true, true_and, and_false, false_and, if_true, if_false, ↓reduceIte, Int.reduceToNat, upm_f, Int.reduceEq, Int.reduceNe, ne_eq, not_false_eq_true, not_true_eq_false])
    | ((with_reducible refine hq ⟨?_, ?_⟩ _ _ hJ9 hF9 hD9 hI9 ?_ ?_); (next => omega); (next => omega); (next => rw [hA9, show a.toNat = n by omega]); (next => rw [c_c0]))
    | ((with_reducible refine h0 ?_); omega)
    | ((with_reducible refine ⟨k - 1, ?_, i + 1, n + 1, m8, rfl, rfl, hJ8, ?_, ⟨?_, ?_, ?_⟩, ?_, ?_, hD8⟩); (next => omega); (next => exact FA_tr hF9 hG8); (next => omega); (next => omega); (next => omega); (next => rw [hA8, ← secs_r]); (next => rw [hA8, ← secs_r, ← eP, ← eH]; exact IV_secs hc _ _ hI0))
    | omega
    | (with_reducible contradiction)
    | (exfalso; omega)
    | (unfold w32; omega)
    | (simp (disch := omega) only [w32_eq]; omega)
    | (with_reducible show (_ : Int) ≤ _; simp [upm] <;> (first | omega | (unfold w32; omega)))
    | (with_reducible show (_ : Int) < _; simp [upm] <;> (first | omega | (unfold w32; omega))))
end
