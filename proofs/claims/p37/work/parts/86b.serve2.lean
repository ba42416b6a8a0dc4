section
/-! dishes are asked for -/
theorem sv1 : ∀ k : Nat, k ≤ 5 → (1 ≤ ishl 1 (k : Int) ∧ ishl 1 (k : Int) ≤ 32) ∧ ∀ b : Nat, b < 32 → (b : Int) < ishl 1 (k : Int) → ∀ r : Nat, r < 5 → iand (ishr (b : Int) (r : Int)) 1 = 1 → r < k := by decide +kernel
theorem sv1i {w b : Int} (hw : 0 ≤ w ∧ w ≤ 5) (hb : 1 ≤ b ∧ b ≤ w32 (ishl 1 w - 1)) : b < 32 ∧ ∀ r, 0 ≤ r → r < 5 → iand (ishr b r) 1 = 1 → r < w := by
  obtain ⟨k, rfl⟩ : ∃ k : Nat, w = k := ⟨w.toNat, by omega⟩
  obtain ⟨p, rfl⟩ : ∃ p : Nat, b = p := ⟨b.toNat, by omega⟩
  obtain ⟨⟨s1, s2⟩, s3⟩ := sv1 k (by omega)
  rw [w32_eq (by omega) (by omega)] at hb
  refine ⟨by omega, fun r h0 h1 h2 => ?_⟩
  obtain ⟨q, rfl⟩ : ∃ q : Nat, r = q := ⟨r.toNat, by omega⟩
  have := s3 p (by omega) (by omega) q (by omega) h2
  omega
set_option maxHeartbeats 8000000 in
theorem l266a {d : Nat} {tc pl e W a b c f : Int} {g : Fg} {m : Mem} {N : Int → Int} {Kn Kb : Rho → Sto → Prop} {Kr : Int → Sto → Prop} (hJ : JW 4 g tc pl N W m) (hr : ∀ m', JW 4 g tc pl N W m' → Kr (-1) (S9 e m')) (hq : ∀ m' i, JW 4 g tc pl N W m' → (∀ r, 0 ≤ r → r < m 249 5 → iand (ishr b r) 1 = 1 → 0 ≤ N (3 * r + 1)) → Kn (rl [249, a, b, c, f, i]) (S9 e m')) : ((whl true 127 (cmp 2 (by decide) (ldi 5) (get f_13_140 (lda 0))) (seq 109 (ifs (cand 0 (cz 1 (by decide) (csta s_13_156 (acons (ldi 2) (acons (ldi 5) (anil))))) (cz 2 (by decide) (aldi (get f_13_36 (lda 0)) (add (mul (cst 3) (ldi 5)) (cst 1))))) (rets 0 (cst (-1)))) (asti (get f_13_102 (lda 0)) (ldi 5) (aldi (get f_13_36 (lda 0)) (add (mul (cst 3) (ldi 5)) (cst 0))))) (inc 5 1)) : SX 13).1.2 (Cl (d + 13)) Kn Kb Kr (rl [249, a, b, c, f, 0]) (S9 e m) := by
  have hL := JW_l hJ
  have hs := JW_s hJ
  refine whl_i (fun k r u => ∃ (i : Int) (m9 : Mem), r = rl [249, a, b, c, f, i] ∧ u = S9 e m9 ∧ JW 4 g tc pl N W m9 ∧ m9 249 5 = m 249 5 ∧ 0 ≤ i ∧ i + k = 6 ∧ (∀ r, 0 ≤ r → r < i → iand (ishr b r) 1 = 1 → 0 ≤ N (3 * r + 1))) 6 ?_ ?_
  next => exact ⟨0, m, rfl, rfl, hJ, rfl, by omega, by omega, fun r h0 h1 => absurd h1 (by omega)⟩
  rintro k r u ⟨i, m9, rfl, rfl, hJ9, h5, hi0, hik, hA⟩
  have hJ9 := JW_dn hL hJ9; have hs9 := JW_s hJ9
  have h58 := JW_2 hJ9
  by_cases hlt : i < m9 249 5
  next =>
    have e0 : w32 (w32 (3 * i) + 1) = 3 * i + 1 := w3_1 hi0 (by omega)
    have e1 : w32 (w32 (3 * i) + 0) = 3 * i := w3_0 hi0 (by omega)
    have e2 : w32 (i + 1) = i + 1 := by unfold w32; omega
    simp only [runB, B266, ma_266, rho_20000, wf_13_102, wf_13_13, wf_13_140, wf_13_36, wf_13_492, wf_13_495, wf_13_99, wpf_13_126, wpf_13_130, wpopadd_pf_13_130, wpf_13_492, wc_95, wc_169, wc_188, wc_194, wc_199, wc_203, wc_205, wc_225, wc_251, wc_267, w_cst, w_ldi, w_ldj, w_lda, w_ljk, w_ldk, w_ldw, w_ldk2, w_ldt, w_ldtw, w_neg, w_cvb, w_cvs, w_cvc, w_cvj, w_add, w_sub, w_mul, w_ban, w_bor, w_bxo, w_shl, w_shr, w_ush, w_dvi, w_rmi, w_aldi, w_aldj, w_aldz, w_aldc, w_alda, w_ite, w_cmp, w_cmj, w_cz, w_cnot, w_cand, w_cor, w_nil, w_cons, w_cvi, w_csta, w_cvt, w_cvv, w_csv, w_cpy, w_seq, w_sbr, w_sbn, w_brk, w_ifs, w_ifx, w_ife, w_wk, w_rets, w_rtv, w_thr, w_asi, w_asj, w_asa, w_inc, w_exs, w_asti, w_astj, w_astz, w_astc, w_aopadd, w_aopsub, w_sw, if_true, if_false, ↓reduceIte, hdl_c, S9_1, S9_m, bud9, live9, inb9, wrn, wr9_14, wr9_15, wr9_16, wr9_17, tq9_14, tq9_15, tq9_16, tq9_17, tq_0, tq_1, tq_3, upr_rl, rl_0, rl_1, rl_2, rl_3, rl_4, rl_5, rl_6, rl_7, rl_8, rl_9, rl_10, rl_11, rl_12, rl_13, sp_0, sp_1, sp_2, sp_3, sp_4, sp_5, sp_6, sp_7, sp_8, sp_9, sp_10, sp_11, sp_12, sp_13, se_0, se_1, se_2, se_3, se_4, se_5, se_6, se_7, se_8, se_9, se_10, se_11, se_12, se_13, sem_0, sem_1, sem_2, sem_3, sem_4, sem_5, sr_249_14, sr_249_35, kl9_249, sr_249_30, sr_249_57, sr_249_9, sr_249_23, sr_249_58, sr_249_61, kc_249, sr_249_63, sr_249_12, sr_249_64, sr_249_17, sr_249_67, sr_249_52, sr_249_41, sr_249_24, sr_249_34, sr_249_70, sr_249_51, sr_249_22, sr_249_25, sr_249_50, sr_249_13, sr_249_42, sr_249_68, sr_249_71, sr_249_43, sr_249_15, sr_249_8, sr_249_55, sr_249_69, sr_249_2, sr_249_16, sr_249_40, sr_249_11, sr_249_10, sr_249_54, sr_249_31, kl9_251, kc_251, kc_258, kl9_258, kl9_279, kc_279, kc_280, kl9_280, List.getD_cons_zero, List.getD_cons_succ, Bool.false_eq_true, wrn3, wrn1, cpmS, cpok9, h58, e0, e1, e2]
    repeat' (first
      | (with_reducible exact True.intro)
      | omega
      | (with_reducible rfl)
      | (with_reducible contradiction)
      | (with_reducible refine And.intro ?_ ?_)
      | intro _
      | (with_reducible refine p_95 (fun v9 h9 => ?_); (try simp only [h58] at h9); simp only [hdl_c, S9_1, S9_m, bud9, live9, inb9, wrn, wr9_14, wr9_15, wr9_16, wr9_17, tq9_14, tq9_15, tq9_16, tq9_17, tq_0, tq_1, tq_3, upr_rl, rl_0, rl_1, rl_2, rl_3, rl_4, rl_5, rl_6, rl_7, rl_8, rl_9, rl_10, rl_11, rl_12, rl_13, sp_0, sp_1, sp_2, sp_3, sp_4, sp_5, sp_6, sp_7, sp_8, sp_9, sp_10, sp_11, sp_12, sp_13, se_0, se_1, se_2, se_3, se_4, se_5, se_6, se_7, se_8, se_9, se_10, se_11, se_12, se_13, sem_0, sem_1, sem_2, sem_3, sem_4, sem_5, List.getD_cons_zero, List.getD_cons_succ, Bool.false_eq_true, wrn3, wrn1, cpmS, cpok9, if_true, if_false, ↓reduceIte, wc_95, wc_169, wc_188, wc_194, wc_199, wc_203, wc_205, wc_225, wc_251, wc_267, sr_249_14, sr_249_35, kl9_249, sr_249_30, sr_249_57, sr_249_9, sr_249_23, sr_249_58, sr_249_61, kc_249, sr_249_63, sr_249_12, sr_249_64, sr_249_17, sr_249_67, sr_249_52, sr_249_41, sr_249_24, sr_249_34, sr_249_70, sr_249_51, sr_249_22, sr_249_25, sr_249_50, sr_249_13, sr_249_42, sr_249_68, sr_249_71, sr_249_43, sr_249_15, sr_249_8, sr_249_55, sr_249_69, sr_249_2, sr_249_16, sr_249_40, sr_249_11, sr_249_10, sr_249_54, sr_249_31, kl9_251, kc_251, kc_258, kl9_258, kl9_279, kc_279, kc_280, kl9_280, h58]; (try simp (disch := omega) only [w15_0, w15_1, w15_3, w15_4, w15_5, w15_6, w3_0, w3_1, w3_2, upm_app, Int.reduceEq, and_self, and_true, true_and, and_false, false_and, if_true, if_false, ↓reduceIte, h58]))
      | (with_reducible refine p_169 (fun v9 h9 => ?_); (try simp only [h58] at h9); simp only [hdl_c, S9_1, S9_m, bud9, live9, inb9, wrn, wr9_14, wr9_15, wr9_16, wr9_17, tq9_14, tq9_15, tq9_16, tq9_17, tq_0, tq_1, tq_3, upr_rl, rl_0, rl_1, rl_2, rl_3, rl_4, rl_5, rl_6, rl_7, rl_8, rl_9, rl_10, rl_11, rl_12, rl_13, sp_0, sp_1, sp_2, sp_3, sp_4, sp_5, sp_6, sp_7, sp_8, sp_9, sp_10, sp_11, sp_12, sp_13, se_0, se_1, se_2, se_3, se_4, se_5, se_6, se_7, se_8, se_9, se_10, se_11, se_12, se_13, sem_0, sem_1, sem_2, sem_3, sem_4, sem_5, List.getD_cons_zero, List.getD_cons_succ, Bool.false_eq_true, wrn3, wrn1, cpmS, cpok9, if_true, if_false, ↓reduceIte, wc_95, wc_169, wc_188, wc_194, wc_199, wc_203, wc_205, wc_225, wc_251, wc_267, sr_249_14, sr_249_35, kl9_249, sr_249_30, sr_249_57, sr_249_9, sr_249_23, sr_249_58, sr_249_61, kc_249, sr_249_63, sr_249_12, sr_249_64, sr_249_17, sr_249_67, sr_249_52, sr_249_41, sr_249_24, sr_249_34, sr_249_70, sr_249_51, sr_249_22, sr_249_25, sr_249_50, sr_249_13, sr_249_42, sr_249_68, sr_249_71, sr_249_43, sr_249_15, sr_249_8, sr_249_55, sr_249_69, sr_249_2, sr_249_16, sr_249_40, sr_249_11, sr_249_10, sr_249_54, sr_249_31, kl9_251, kc_251, kc_258, kl9_258, kl9_279, kc_279, kc_280, kl9_280, h58]; (try simp (disch := omega) only [w15_0, w15_1, w15_3, w15_4, w15_5, w15_6, w3_0, w3_1, w3_2, upm_app, Int.reduceEq, and_self, and_true, true_and, and_false, false_and, if_true, if_false, ↓reduceIte, h58]))
      | (with_reducible refine p_188 ?_ ?_; (next => first | omega | (with_reducible rfl) | decide | (unfold w32; omega) | (simp (disch := omega) only [w32_eq]; omega) | (simp [upm] <;> (first | omega | (unfold w32; omega)))); simp only [hdl_c, S9_1, S9_m, bud9, live9, inb9, wrn, wr9_14, wr9_15, wr9_16, wr9_17, tq9_14, tq9_15, tq9_16, tq9_17, tq_0, tq_1, tq_3, upr_rl, rl_0, rl_1, rl_2, rl_3, rl_4, rl_5, rl_6, rl_7, rl_8, rl_9, rl_10, rl_11, rl_12, rl_13, sp_0, sp_1, sp_2, sp_3, sp_4, sp_5, sp_6, sp_7, sp_8, sp_9, sp_10, sp_11, sp_12, sp_13, se_0, se_1, se_2, se_3, se_4, se_5, se_6, se_7, se_8, se_9, se_10, se_11, se_12, se_13, sem_0, sem_1, sem_2, sem_3, sem_4, sem_5, List.getD_cons_zero, List.getD_cons_succ, Bool.false_eq_true, wrn3, wrn1, cpmS, cpok9, if_true, if_false, ↓reduceIte, wc_95, wc_169, wc_188, wc_194, wc_199, wc_203, wc_205, wc_225, wc_251, wc_267, sr_249_14, sr_249_35, kl9_249, sr_249_30, sr_249_57, sr_249_9, sr_249_23, sr_249_58, sr_249_61, kc_249, sr_249_63, sr_249_12, sr_249_64, sr_249_17, sr_249_67, sr_249_52, sr_249_41, sr_249_24, sr_249_34, sr_249_70, sr_249_51, sr_249_22, sr_249_25, sr_249_50, sr_249_13, sr_249_42, sr_249_68, sr_249_71, sr_249_43, sr_249_15, sr_249_8, sr_249_55, sr_249_69, sr_249_2, sr_249_16, sr_249_40, sr_249_11, sr_249_10, sr_249_54, sr_249_31, kl9_251, kc_251, kc_258, kl9_258, kl9_279, kc_279, kc_280, kl9_280, h58]; (try simp (disch := omega) only [w15_0, w15_1, w15_3, w15_4, w15_5, w15_6, w3_0, w3_1, w3_2, upm_app, Int.reduceEq, and_self, and_true, true_and, and_false, false_and, if_true, if_false, ↓reduceIte, h58]))
      | (with_reducible refine p_194 ?_ (fun v9 h9 => ?_); (next => first | omega | (with_reducible rfl) | decide | (unfold w32; omega) | (simp (disch := omega) only [w32_eq]; omega) | (simp [upm] <;> (first | omega | (unfold w32; omega)))); (try simp only [h58] at h9); simp only [hdl_c, S9_1, S9_m, bud9, live9, inb9, wrn, wr9_14, wr9_15, wr9_16, wr9_17, tq9_14, tq9_15, tq9_16, tq9_17, tq_0, tq_1, tq_3, upr_rl, rl_0, rl_1, rl_2, rl_3, rl_4, rl_5, rl_6, rl_7, rl_8, rl_9, rl_10, rl_11, rl_12, rl_13, sp_0, sp_1, sp_2, sp_3, sp_4, sp_5, sp_6, sp_7, sp_8, sp_9, sp_10, sp_11, sp_12, sp_13, se_0, se_1, se_2, se_3, se_4, se_5, se_6, se_7, se_8, se_9, se_10, se_11, se_12, se_13, sem_0, sem_1, sem_2, sem_3, sem_4, sem_5, List.getD_cons_zero, List.getD_cons_succ, Bool.false_eq_true, wrn3, wrn1, cpmS, cpok9, if_true, if_false, ↓reduceIte, wc_95, wc_169, wc_188, wc_194, wc_199, wc_203, wc_205, wc_225, wc_251, wc_267, sr_249_14, sr_249_35, kl9_249, sr_249_30, sr_249_57, sr_249_9, sr_249_23, sr_249_58, sr_249_61, kc_249, sr_249_63, sr_249_12, sr_249_64, sr_249_17, sr_249_67, sr_249_52, sr_249_41, sr_249_24, sr_249_34, sr_249_70, sr_249_51, sr_249_22, sr_249_25, sr_249_50, sr_249_13, sr_249_42, sr_249_68, sr_249_71, sr_249_43, sr_249_15, sr_249_8, sr_249_55, sr_249_69, sr_249_2, sr_249_16, sr_249_40, sr_249_11, sr_249_10, sr_249_54, sr_249_31, kl9_251, kc_251, kc_258, kl9_258, kl9_279, kc_279, kc_280, kl9_280, h58]; (try simp (disch := omega) only [w15_0, w15_1, w15_3, w15_4, w15_5, w15_6, w3_0, w3_1, w3_2, upm_app, Int.reduceEq, and_self, and_true, true_and, and_false, false_and, if_true, if_false, ↓reduceIte, h58]))
      | (with_reducible refine p_199 (fun v9 h9 => ?_); (try simp only [h58] at h9); simp only [hdl_c, S9_1, S9_m, bud9, live9, inb9, wrn, wr9_14, wr9_15, wr9_16, wr9_17, tq9_14, tq9_15, tq9_16, tq9_17, tq_0, tq_1, tq_3, upr_rl, rl_0, rl_1, rl_2, rl_3, rl_4, rl_5, rl_6, rl_7, rl_8, rl_9, rl_10, rl_11, rl_12, rl_13, sp_0, sp_1, sp_2, sp_3, sp_4, sp_5, sp_6, sp_7, sp_8, sp_9, sp_10, sp_11, sp_12, sp_13, se_0, se_1, se_2, se_3, se_4, se_5, se_6, se_7, se_8, se_9, se_10, se_11, se_12, se_13, sem_0, sem_1, sem_2, sem_3, sem_4, sem_5, List.getD_cons_zero, List.getD_cons_succ, Bool.false_eq_true, wrn3, wrn1, cpmS, cpok9, if_true, if_false, ↓reduceIte, wc_95, wc_169, wc_188, wc_194, wc_199, wc_203, wc_205, wc_225, wc_251, wc_267, sr_249_14, sr_249_35, kl9_249, sr_249_30, sr_249_57, sr_249_9, sr_249_23, sr_249_58, sr_249_61, kc_249, sr_249_63, sr_249_12, sr_249_64, sr_249_17, sr_249_67, sr_249_52, sr_249_41, sr_249_24, sr_249_34, sr_249_70, sr_249_51, sr_249_22, sr_249_25, sr_249_50, sr_249_13, sr_249_42, sr_249_68, sr_249_71, sr_249_43, sr_249_15, sr_249_8, sr_249_55, sr_249_69, sr_249_2, sr_249_16, sr_249_40, sr_249_11, sr_249_10, sr_249_54, sr_249_31, kl9_251, kc_251, kc_258, kl9_258, kl9_279, kc_279, kc_280, kl9_280, h58]; (try simp (disch := omega) only [w15_0, w15_1, w15_3, w15_4, w15_5, w15_6, w3_0, w3_1, w3_2, upm_app, Int.reduceEq, and_self, and_true, true_and, and_false, false_and, if_true, if_false, ↓reduceIte, h58]))
      | (with_reducible refine p_203 ?_ ?_; (next => first | omega | (with_reducible rfl) | decide | (unfold w32; omega) | (simp (disch := omega) only [w32_eq]; omega) | (simp [upm] <;> (first | omega | (unfold w32; omega)))); simp only [hdl_c, S9_1, S9_m, bud9, live9, inb9, wrn, wr9_14, wr9_15, wr9_16, wr9_17, tq9_14, tq9_15, tq9_16, tq9_17, tq_0, tq_1, tq_3, upr_rl, rl_0, rl_1, rl_2, rl_3, rl_4, rl_5, rl_6, rl_7, rl_8, rl_9, rl_10, rl_11, rl_12, rl_13, sp_0, sp_1, sp_2, sp_3, sp_4, sp_5, sp_6, sp_7, sp_8, sp_9, sp_10, sp_11, sp_12, sp_13, se_0, se_1, se_2, se_3, se_4, se_5, se_6, se_7, se_8, se_9, se_10, se_11, se_12, se_13, sem_0, sem_1, sem_2, sem_3, sem_4, sem_5, List.getD_cons_zero, List.getD_cons_succ, Bool.false_eq_true, wrn3, wrn1, cpmS, cpok9, if_true, if_false, ↓reduceIte, wc_95, wc_169, wc_188, wc_194, wc_199, wc_203, wc_205, wc_225, wc_251, wc_267, sr_249_14, sr_249_35, kl9_249, sr_249_30, sr_249_57, sr_249_9, sr_249_23, sr_249_58, sr_249_61, kc_249, sr_249_63, sr_249_12, sr_249_64, sr_249_17, sr_249_67, sr_249_52, sr_249_41, sr_249_24, sr_249_34, sr_249_70, sr_249_51, sr_249_22, sr_249_25, sr_249_50, sr_249_13, sr_249_42, sr_249_68, sr_249_71, sr_249_43, sr_249_15, sr_249_8, sr_249_55, sr_249_69, sr_249_2, sr_249_16, sr_249_40, sr_249_11, sr_249_10, sr_249_54, sr_249_31, kl9_251, kc_251, kc_258, kl9_258, kl9_279, kc_279, kc_280, kl9_280, h58]; (try simp (disch := omega) only [w15_0, w15_1, w15_3, w15_4, w15_5, w15_6, w3_0, w3_1, w3_2, upm_app, Int.reduceEq, and_self, and_true, true_and, and_false, false_and, if_true, if_false, ↓reduceIte, h58]))
      | (with_reducible refine p_205 ?_ (fun v9 h9 => ?_); (next => first | omega | (with_reducible rfl) | decide | (unfold w32; omega) | (simp (disch := omega) only [w32_eq]; omega) | (simp [upm] <;> (first | omega | (unfold w32; omega)))); (try simp only [h58] at h9); simp only [hdl_c, S9_1, S9_m, bud9, live9, inb9, wrn, wr9_14, wr9_15, wr9_16, wr9_17, tq9_14, tq9_15, tq9_16, tq9_17, tq_0, tq_1, tq_3, upr_rl, rl_0, rl_1, rl_2, rl_3, rl_4, rl_5, rl_6, rl_7, rl_8, rl_9, rl_10, rl_11, rl_12, rl_13, sp_0, sp_1, sp_2, sp_3, sp_4, sp_5, sp_6, sp_7, sp_8, sp_9, sp_10, sp_11, sp_12, sp_13, se_0, se_1, se_2, se_3, se_4, se_5, se_6, se_7, se_8, se_9, se_10, se_11, se_12, se_13, sem_0, sem_1, sem_2, sem_3, sem_4, sem_5, List.getD_cons_zero, List.getD_cons_succ, Bool.false_eq_true, wrn3, wrn1, cpmS, cpok9, if_true, if_false, ↓reduceIte, wc_95, wc_169, wc_188, wc_194, wc_199, wc_203, wc_205, wc_225, wc_251, wc_267, sr_249_14, sr_249_35, kl9_249, sr_249_30, sr_249_57, sr_249_9, sr_249_23, sr_249_58, sr_249_61, kc_249, sr_249_63, sr_249_12, sr_249_64, sr_249_17, sr_249_67, sr_249_52, sr_249_41, sr_249_24, sr_249_34, sr_249_70, sr_249_51, sr_249_22, sr_249_25, sr_249_50, sr_249_13, sr_249_42, sr_249_68, sr_249_71, sr_249_43, sr_249_15, sr_249_8, sr_249_55, sr_249_69, sr_249_2, sr_249_16, sr_249_40, sr_249_11, sr_249_10, sr_249_54, sr_249_31, kl9_251, kc_251, kc_258, kl9_258, kl9_279, kc_279, kc_280, kl9_280, h58]; (try simp (disch := omega) only [w15_0, w15_1, w15_3, w15_4, w15_5, w15_6, w3_0, w3_1, w3_2, upm_app, Int.reduceEq, and_self, and_true, true_and, and_false, false_and, if_true, if_false, ↓reduceIte, h58]))
      | (with_reducible refine s_225 (g := g) (tc := tc) (pl := pl) (N := N) (W := W) ?_ ?_ (fun v9 m9 hJ9 p9 => ?_); (next => first | omega | (with_reducible rfl) | decide | (unfold w32; omega) | (simp (disch := omega) only [w32_eq]; omega) | (simp [upm] <;> (first | omega | (unfold w32; omega)))); (next => refine JW_of hL ?_ (by decide); repeat (first | assumption | (exact JW_len0 (by assumption)) | (refine JW_up ?_ (by first | decide | (unfold frR; omega)) (by first | decide | simp [frc]) (by first | decide | simp [frw]) (by first | (simp [BdR]; done) | (simp [BdR] <;> first | omega | (unfold w32; omega)) | (simp [BdR, upm] <;> first | omega | (unfold w32; omega)) | (refine BdR_n (by simp) ?_; (first | (refine rb_at ?_ ?_ <;> first | omega | (simp only [upm_app]; (repeat' split) <;> omega)) | (refine rb_us ?_ ?_ <;> first | omega | (simp only [upm_app]; (repeat' split) <;> omega)) | (refine rb_ho ?_ ?_ <;> first | omega | (simp only [upm_app]; (repeat' split) <;> omega)) | (refine rb_on ?_ ?_ <;> first | omega | (simp only [upm_app]; (repeat' split) <;> omega)) | ((try simp (disch := omega) only [w32_eq]); (refine (rb_i ?_ ?_).2 ?_ <;> omega)) | (refine rb_us ?_ ?_ <;> first | omega | (unfold w32; omega)))))))); (try simp [upm] at p9); (try clear hs9); have hJ9 := JW_dn hL hJ9; have hs9 := JW_s hJ9; (try clear h58); have h58 := JW_2 hJ9; (try clear h5e); have h5e := JW_53e hJ9; simp only [hdl_c, S9_1, S9_m, bud9, live9, inb9, wrn, wr9_14, wr9_15, wr9_16, wr9_17, tq9_14, tq9_15, tq9_16, tq9_17, tq_0, tq_1, tq_3, upr_rl, rl_0, rl_1, rl_2, rl_3, rl_4, rl_5, rl_6, rl_7, rl_8, rl_9, rl_10, rl_11, rl_12, rl_13, sp_0, sp_1, sp_2, sp_3, sp_4, sp_5, sp_6, sp_7, sp_8, sp_9, sp_10, sp_11, sp_12, sp_13, se_0, se_1, se_2, se_3, se_4, se_5, se_6, se_7, se_8, se_9, se_10, se_11, se_12, se_13, sem_0, sem_1, sem_2, sem_3, sem_4, sem_5, List.getD_cons_zero, List.getD_cons_succ, Bool.false_eq_true, wrn3, wrn1, cpmS, cpok9, if_true, if_false, ↓reduceIte, wc_95, wc_169, wc_188, wc_194, wc_199, wc_203, wc_205, wc_225, wc_251, wc_267, sr_249_14, sr_249_35, kl9_249, sr_249_30, sr_249_57, sr_249_9, sr_249_23, sr_249_58, sr_249_61, kc_249, sr_249_63, sr_249_12, sr_249_64, sr_249_17, sr_249_67, sr_249_52, sr_249_41, sr_249_24, sr_249_34, sr_249_70, sr_249_51, sr_249_22, sr_249_25, sr_249_50, sr_249_13, sr_249_42, sr_249_68, sr_249_71, sr_249_43, sr_249_15, sr_249_8, sr_249_55, sr_249_69, sr_249_2, sr_249_16, sr_249_40, sr_249_11, sr_249_10, sr_249_54, sr_249_31, kl9_251, kc_251, kc_258, kl9_258, kl9_279, kc_279, kc_280, kl9_280, h58]; (try simp (disch := omega) only [w15_0, w15_1, w15_3, w15_4, w15_5, w15_6, w3_0, w3_1, w3_2, upm_app, Int.reduceEq, and_self, and_true, true_and, and_false, false_and, if_true, if_false, ↓reduceIte, h58]))
      | (exact hr _ hJ9)
      | (exact hq _ _ hJ9 (fun r h0 h1 => hA r h0 (by omega)))
      | (with_reducible refine ⟨k - 1, ?_, _, _, rfl, rfl, ?_, ?_, ?_, ?_, fun r h0 h1 h2 => ?_⟩; (next => omega); (next => with_reducible (refine JW_of hL ?_ (by decide); repeat (first | assumption | (exact JW_len0 (by assumption)) | (refine JW_up ?_ (by first | decide | (unfold frR; omega)) (by first | decide | simp [frc]) (by first | decide | simp [frw]) (by first | (simp [BdR]; done) | (simp [BdR] <;> first | omega | (unfold w32; omega)) | (simp [BdR, upm] <;> first | omega | (unfold w32; omega)) | (refine BdR_n (by simp) ?_; (first | (refine rb_at ?_ ?_ <;> first | omega | (simp only [upm_app]; (repeat' split) <;> omega)) | (refine rb_us ?_ ?_ <;> first | omega | (simp only [upm_app]; (repeat' split) <;> omega)) | (refine rb_ho ?_ ?_ <;> first | omega | (simp only [upm_app]; (repeat' split) <;> omega)) | (refine rb_on ?_ ?_ <;> first | omega | (simp only [upm_app]; (repeat' split) <;> omega)) | ((try simp (disch := omega) only [w32_eq]); (refine (rb_i ?_ ?_).2 ?_ <;> omega)) | (refine rb_us ?_ ?_ <;> first | omega | (unfold w32; omega)))))))); done); (next => first | assumption | (simp only [upm_app, Int.reduceEq, and_self, and_true, true_and, and_false, false_and, if_true, if_false, ↓reduceIte]; assumption)); (next => omega); (next => omega); (next => by_cases hri : r = i; (next => subst hri; omega); (next => exact hA r h0 (by omega) h2)))
      | (unfold w32; omega)
      | (simp (disch := omega) only [w32_eq]; omega)
      | (with_reducible show (_ : Int) ≤ _; simp [upm] <;> (first | omega | (unfold w32; omega)))
      | (with_reducible show (_ : Int) < _; simp [upm] <;> (first | omega | (unfold w32; omega))))
  next =>
    simp only [runB, B266, ma_266, rho_20000, wf_13_102, wf_13_13, wf_13_140, wf_13_36, wf_13_492, wf_13_495, wf_13_99, wpf_13_126, wpf_13_130, wpopadd_pf_13_130, wpf_13_492, wc_95, wc_169, wc_188, wc_194, wc_199, wc_203, wc_205, wc_225, wc_251, wc_267, w_cst, w_ldi, w_ldj, w_lda, w_ljk, w_ldk, w_ldw, w_ldk2, w_ldt, w_ldtw, w_neg, w_cvb, w_cvs, w_cvc, w_cvj, w_add, w_sub, w_mul, w_ban, w_bor, w_bxo, w_shl, w_shr, w_ush, w_dvi, w_rmi, w_aldi, w_aldj, w_aldz, w_aldc, w_alda, w_ite, w_cmp, w_cmj, w_cz, w_cnot, w_cand, w_cor, w_nil, w_cons, w_cvi, w_csta, w_cvt, w_cvv, w_csv, w_cpy, w_seq, w_sbr, w_sbn, w_brk, w_ifs, w_ifx, w_ife, w_wk, w_rets, w_rtv, w_thr, w_asi, w_asj, w_asa, w_inc, w_exs, w_asti, w_astj, w_astz, w_astc, w_aopadd, w_aopsub, w_sw, if_true, if_false, ↓reduceIte, hdl_c, S9_1, S9_m, bud9, live9, inb9, wrn, wr9_14, wr9_15, wr9_16, wr9_17, tq9_14, tq9_15, tq9_16, tq9_17, tq_0, tq_1, tq_3, upr_rl, rl_0, rl_1, rl_2, rl_3, rl_4, rl_5, rl_6, rl_7, rl_8, rl_9, rl_10, rl_11, rl_12, rl_13, sp_0, sp_1, sp_2, sp_3, sp_4, sp_5, sp_6, sp_7, sp_8, sp_9, sp_10, sp_11, sp_12, sp_13, se_0, se_1, se_2, se_3, se_4, se_5, se_6, se_7, se_8, se_9, se_10, se_11, se_12, se_13, sem_0, sem_1, sem_2, sem_3, sem_4, sem_5, sr_249_14, sr_249_35, kl9_249, sr_249_30, sr_249_57, sr_249_9, sr_249_23, sr_249_58, sr_249_61, kc_249, sr_249_63, sr_249_12, sr_249_64, sr_249_17, sr_249_67, sr_249_52, sr_249_41, sr_249_24, sr_249_34, sr_249_70, sr_249_51, sr_249_22, sr_249_25, sr_249_50, sr_249_13, sr_249_42, sr_249_68, sr_249_71, sr_249_43, sr_249_15, sr_249_8, sr_249_55, sr_249_69, sr_249_2, sr_249_16, sr_249_40, sr_249_11, sr_249_10, sr_249_54, sr_249_31, kl9_251, kc_251, kc_258, kl9_258, kl9_279, kc_279, kc_280, kl9_280, List.getD_cons_zero, List.getD_cons_succ, Bool.false_eq_true, wrn3, wrn1, cpmS, cpok9, h58]
    repeat' (first
      | (with_reducible exact True.intro)
      | omega
      | (with_reducible rfl)
      | (with_reducible contradiction)
      | (with_reducible refine And.intro ?_ ?_)
      | intro _
      | (with_reducible refine p_95 (fun v9 h9 => ?_); (try simp only [h58] at h9); simp only [hdl_c, S9_1, S9_m, bud9, live9, inb9, wrn, wr9_14, wr9_15, wr9_16, wr9_17, tq9_14, tq9_15, tq9_16, tq9_17, tq_0, tq_1, tq_3, upr_rl, rl_0, rl_1, rl_2, rl_3, rl_4, rl_5, rl_6, rl_7, rl_8, rl_9, rl_10, rl_11, rl_12, rl_13, sp_0, sp_1, sp_2, sp_3, sp_4, sp_5, sp_6, sp_7, sp_8, sp_9, sp_10, sp_11, sp_12, sp_13, se_0, se_1, se_2, se_3, se_4, se_5, se_6, se_7, se_8, se_9, se_10, se_11, se_12, se_13, sem_0, sem_1, sem_2, sem_3, sem_4, sem_5, List.getD_cons_zero, List.getD_cons_succ, Bool.false_eq_true, wrn3, wrn1, cpmS, cpok9, if_true, if_false, ↓reduceIte, wc_95, wc_169, wc_188, wc_194, wc_199, wc_203, wc_205, wc_225, wc_251, wc_267, sr_249_14, sr_249_35, kl9_249, sr_249_30, sr_249_57, sr_249_9, sr_249_23, sr_249_58, sr_249_61, kc_249, sr_249_63, sr_249_12, sr_249_64, sr_249_17, sr_249_67, sr_249_52, sr_249_41, sr_249_24, sr_249_34, sr_249_70, sr_249_51, sr_249_22, sr_249_25, sr_249_50, sr_249_13, sr_249_42, sr_249_68, sr_249_71, sr_249_43, sr_249_15, sr_249_8, sr_249_55, sr_249_69, sr_249_2, sr_249_16, sr_249_40, sr_249_11, sr_249_10, sr_249_54, sr_249_31, kl9_251, kc_251, kc_258, kl9_258, kl9_279, kc_279, kc_280, kl9_280, h58]; (try simp (disch := omega) only [w15_0, w15_1, w15_3, w15_4, w15_5, w15_6, w3_0, w3_1, w3_2, upm_app, Int.reduceEq, and_self, and_true, true_and, and_false, false_and, if_true, if_false, ↓reduceIte, h58]))
      | (with_reducible refine p_169 (fun v9 h9 => ?_); (try simp only [h58] at h9); simp only [hdl_c, S9_1, S9_m, bud9, live9, inb9, wrn, wr9_14, wr9_15, wr9_16, wr9_17, tq9_14, tq9_15, tq9_16, tq9_17, tq_0, tq_1, tq_3, upr_rl, rl_0, rl_1, rl_2, rl_3, rl_4, rl_5, rl_6, rl_7, rl_8, rl_9, rl_10, rl_11, rl_12, rl_13, sp_0, sp_1, sp_2, sp_3, sp_4, sp_5, sp_6, sp_7, sp_8, sp_9, sp_10, sp_11, sp_12, sp_13, se_0, se_1, se_2, se_3, se_4, se_5, se_6, se_7, se_8, se_9, se_10, se_11, se_12, se_13, sem_0, sem_1, sem_2, sem_3, sem_4, sem_5, List.getD_cons_zero, List.getD_cons_succ, Bool.false_eq_true, wrn3, wrn1, cpmS, cpok9, if_true, if_false, ↓reduceIte, wc_95, wc_169, wc_188, wc_194, wc_199, wc_203, wc_205, wc_225, wc_251, wc_267, sr_249_14, sr_249_35, kl9_249, sr_249_30, sr_249_57, sr_249_9, sr_249_23, sr_249_58, sr_249_61, kc_249, sr_249_63, sr_249_12, sr_249_64, sr_249_17, sr_249_67, sr_249_52, sr_249_41, sr_249_24, sr_249_34, sr_249_70, sr_249_51, sr_249_22, sr_249_25, sr_249_50, sr_249_13, sr_249_42, sr_249_68, sr_249_71, sr_249_43, sr_249_15, sr_249_8, sr_249_55, sr_249_69, sr_249_2, sr_249_16, sr_249_40, sr_249_11, sr_249_10, sr_249_54, sr_249_31, kl9_251, kc_251, kc_258, kl9_258, kl9_279, kc_279, kc_280, kl9_280, h58]; (try simp (disch := omega) only [w15_0, w15_1, w15_3, w15_4, w15_5, w15_6, w3_0, w3_1, w3_2, upm_app, Int.reduceEq, and_self, and_true, true_and, and_false, false_and, if_true, if_false, ↓reduceIte, h58]))
      | (with_reducible refine p_188 ?_ ?_; (next => first | omega | (with_reducible rfl) | decide | (unfold w32; omega) | (simp (disch := omega) only [w32_eq]; omega) | (simp [upm] <;> (first | omega | (unfold w32; omega)))); simp only [hdl_c, S9_1, S9_m, bud9, live9, inb9, wrn, wr9_14, wr9_15, wr9_16, wr9_17, tq9_14, tq9_15, tq9_16, tq9_17, tq_0, tq_1, tq_3, upr_rl, rl_0, rl_1, rl_2, rl_3, rl_4, rl_5, rl_6, rl_7, rl_8, rl_9, rl_10, rl_11, rl_12, rl_13, sp_0, sp_1, sp_2, sp_3, sp_4, sp_5, sp_6, sp_7, sp_8, sp_9, sp_10, sp_11, sp_12, sp_13, se_0, se_1, se_2, se_3, se_4, se_5, se_6, se_7, se_8, se_9, se_10, se_11, se_12, se_13, sem_0, sem_1, sem_2, sem_3, sem_4, sem_5, List.getD_cons_zero, List.getD_cons_succ, Bool.false_eq_true, wrn3, wrn1, cpmS, cpok9, if_true, if_false, ↓reduceIte, wc_95, wc_169, wc_188, wc_194, wc_199, wc_203, wc_205, wc_225, wc_251, wc_267, sr_249_14, sr_249_35, kl9_249, sr_249_30, sr_249_57, sr_249_9, sr_249_23, sr_249_58, sr_249_61, kc_249, sr_249_63, sr_249_12, sr_249_64, sr_249_17, sr_249_67, sr_249_52, sr_249_41, sr_249_24, sr_249_34, sr_249_70, sr_249_51, sr_249_22, sr_249_25, sr_249_50, sr_249_13, sr_249_42, sr_249_68, sr_249_71, sr_249_43, sr_249_15, sr_249_8, sr_249_55, sr_249_69, sr_249_2, sr_249_16, sr_249_40, sr_249_11, sr_249_10, sr_249_54, sr_249_31, kl9_251, kc_251, kc_258, kl9_258, kl9_279, kc_279, kc_280, kl9_280, h58]; (try simp (disch := omega) only [w15_0, w15_1, w15_3, w15_4, w15_5, w15_6, w3_0, w3_1, w3_2, upm_app, Int.reduceEq, and_self, and_true, true_and, and_false, false_and, if_true, if_false, ↓reduceIte, h58]))
      | (with_reducible refine p_194 ?_ (fun v9 h9 => ?_); (next => first | omega | (with_reducible rfl) | decide | (unfold w32; omega) | (simp (disch := omega) only [w32_eq]; omega) | (simp [upm] <;> (first | omega | (unfold w32; omega)))); (try simp only [h58] at h9); simp only [hdl_c, S9_1, S9_m, bud9, live9, inb9, wrn, wr9_14, wr9_15, wr9_16, wr9_17, tq9_14, tq9_15, tq9_16, tq9_17, tq_0, tq_1, tq_3, upr_rl, rl_0, rl_1, rl_2, rl_3, rl_4, rl_5, rl_6, rl_7, rl_8, rl_9, rl_10, rl_11, rl_12, rl_13, sp_0, sp_1, sp_2, sp_3, sp_4, sp_5, sp_6, sp_7, sp_8, sp_9, sp_10, sp_11, sp_12, sp_13, se_0, se_1, se_2, se_3, se_4, se_5, se_6, se_7, se_8, se_9, se_10, se_11, se_12, se_13, sem_0, sem_1, sem_2, sem_3, sem_4, sem_5, List.getD_cons_zero, List.getD_cons_succ, Bool.false_eq_true, wrn3, wrn1, cpmS, cpok9, if_true, if_false, ↓reduceIte, wc_95, wc_169, wc_188, wc_194, wc_199, wc_203, wc_205, wc_225, wc_251, wc_267, sr_249_14, sr_249_35, kl9_249, sr_249_30, sr_249_57, sr_249_9, sr_249_23, sr_249_58, sr_249_61, kc_249, sr_249_63, sr_249_12, sr_249_64, sr_249_17, sr_249_67, sr_249_52, sr_249_41, sr_249_24, sr_249_34, sr_249_70, sr_249_51, sr_249_22, sr_249_25, sr_249_50, sr_249_13, sr_249_42, sr_249_68, sr_249_71, sr_249_43, sr_249_15, sr_249_8, sr_249_55, sr_249_69, sr_249_2, sr_249_16, sr_249_40, sr_249_11, sr_249_10, sr_249_54, sr_249_31, kl9_251, kc_251, kc_258, kl9_258, kl9_279, kc_279, kc_280, kl9_280, h58]; (try simp (disch := omega) only [w15_0, w15_1, w15_3, w15_4, w15_5, w15_6, w3_0, w3_1, w3_2, upm_app, Int.reduceEq, and_self, and_true, true_and, and_false, false_and, if_true, if_false, ↓reduceIte, h58]))
      | (with_reducible refine p_199 (fun v9 h9 => ?_); (try simp only [h58] at h9); simp only [hdl_c, S9_1, S9_m, bud9, live9, inb9, wrn, wr9_14, wr9_15, wr9_16, wr9_17, tq9_14, tq9_15, tq9_16, tq9_17, tq_0, tq_1, tq_3, upr_rl, rl_0, rl_1, rl_2, rl_3, rl_4, rl_5, rl_6, rl_7, rl_8, rl_9, rl_10, rl_11, rl_12, rl_13, sp_0, sp_1, sp_2, sp_3, sp_4, sp_5, sp_6, sp_7, sp_8, sp_9, sp_10, sp_11, sp_12, sp_13, se_0, se_1, se_2, se_3, se_4, se_5, se_6, se_7, se_8, se_9, se_10, se_11, se_12, se_13, sem_0, sem_1, sem_2, sem_3, sem_4, sem_5, List.getD_cons_zero, List.getD_cons_succ, Bool.false_eq_true, wrn3, wrn1, cpmS, cpok9, if_true, if_false, ↓reduceIte, wc_95, wc_169, wc_188, wc_194, wc_199, wc_203, wc_205, wc_225, wc_251, wc_267, sr_249_14, sr_249_35, kl9_249, sr_249_30, sr_249_57, sr_249_9, sr_249_23, sr_249_58, sr_249_61, kc_249, sr_249_63, sr_249_12, sr_249_64, sr_249_17, sr_249_67, sr_249_52, sr_249_41, sr_249_24, sr_249_34, sr_249_70, sr_249_51, sr_249_22, sr_249_25, sr_249_50, sr_249_13, sr_249_42, sr_249_68, sr_249_71, sr_249_43, sr_249_15, sr_249_8, sr_249_55, sr_249_69, sr_249_2, sr_249_16, sr_249_40, sr_249_11, sr_249_10, sr_249_54, sr_249_31, kl9_251, kc_251, kc_258, kl9_258, kl9_279, kc_279, kc_280, kl9_280, h58]; (try simp (disch := omega) only [w15_0, w15_1, w15_3, w15_4, w15_5, w15_6, w3_0, w3_1, w3_2, upm_app, Int.reduceEq, and_self, and_true, true_and, and_false, false_and, if_true, if_false, ↓reduceIte, h58]))
      | (with_reducible refine p_203 ?_ ?_; (next => first | omega | (with_reducible rfl) | decide | (unfold w32; omega) | (simp (disch := omega) only [w32_eq]; omega) | (simp [upm] <;> (first | omega | (unfold w32; omega)))); simp only [hdl_c, S9_1, S9_m, bud9, live9, inb9, wrn, wr9_14, wr9_15, wr9_16, wr9_17, tq9_14, tq9_15, tq9_16, tq9_17, tq_0, tq_1, tq_3, upr_rl, rl_0, rl_1, rl_2, rl_3, rl_4, rl_5, rl_6, rl_7, rl_8, rl_9, rl_10, rl_11, rl_12, rl_13, sp_0, sp_1, sp_2, sp_3, sp_4, sp_5, sp_6, sp_7, sp_8, sp_9, sp_10, sp_11, sp_12, sp_13, se_0, se_1, se_2, se_3, se_4, se_5, se_6, se_7, se_8, se_9, se_10, se_11, se_12, se_13, sem_0, sem_1, sem_2, sem_3, sem_4, sem_5, List.getD_cons_zero, List.getD_cons_succ, Bool.false_eq_true, wrn3, wrn1, cpmS, cpok9, if_true, if_false, ↓reduceIte, wc_95, wc_169, wc_188, wc_194, wc_199, wc_203, wc_205, wc_225, wc_251, wc_267, sr_249_14, sr_249_35, kl9_249, sr_249_30, sr_249_57, sr_249_9, sr_249_23, sr_249_58, sr_249_61, kc_249, sr_249_63, sr_249_12, sr_249_64, sr_249_17, sr_249_67, sr_249_52, sr_249_41, sr_249_24, sr_249_34, sr_249_70, sr_249_51, sr_249_22, sr_249_25, sr_249_50, sr_249_13, sr_249_42, sr_249_68, sr_249_71, sr_249_43, sr_249_15, sr_249_8, sr_249_55, sr_249_69, sr_249_2, sr_249_16, sr_249_40, sr_249_11, sr_249_10, sr_249_54, sr_249_31, kl9_251, kc_251, kc_258, kl9_258, kl9_279, kc_279, kc_280, kl9_280, h58]; (try simp (disch := omega) only [w15_0, w15_1, w15_3, w15_4, w15_5, w15_6, w3_0, w3_1, w3_2, upm_app, Int.reduceEq, and_self, and_true, true_and, and_false, false_and, if_true, if_false, ↓reduceIte, h58]))
      | (with_reducible refine p_205 ?_ (fun v9 h9 => ?_); (next => first | omega | (with_reducible rfl) | decide | (unfold w32; omega) | (simp (disch := omega) only [w32_eq]; omega) | (simp [upm] <;> (first | omega | (unfold w32; omega)))); (try simp only [h58] at h9); simp only [hdl_c, S9_1, S9_m, bud9, live9, inb9, wrn, wr9_14, wr9_15, wr9_16, wr9_17, tq9_14, tq9_15, tq9_16, tq9_17, tq_0, tq_1, tq_3, upr_rl, rl_0, rl_1, rl_2, rl_3, rl_4, rl_5, rl_6, rl_7, rl_8, rl_9, rl_10, rl_11, rl_12, rl_13, sp_0, sp_1, sp_2, sp_3, sp_4, sp_5, sp_6, sp_7, sp_8, sp_9, sp_10, sp_11, sp_12, sp_13, se_0, se_1, se_2, se_3, se_4, se_5, se_6, se_7, se_8, se_9, se_10, se_11, se_12, se_13, sem_0, sem_1, sem_2, sem_3, sem_4, sem_5, List.getD_cons_zero, List.getD_cons_succ, Bool.false_eq_true, wrn3, wrn1, cpmS, cpok9, if_true, if_false, ↓reduceIte, wc_95, wc_169, wc_188, wc_194, wc_199, wc_203, wc_205, wc_225, wc_251, wc_267, sr_249_14, sr_249_35, kl9_249, sr_249_30, sr_249_57, sr_249_9, sr_249_23, sr_249_58, sr_249_61, kc_249, sr_249_63, sr_249_12, sr_249_64, sr_249_17, sr_249_67, sr_249_52, sr_249_41, sr_249_24, sr_249_34, sr_249_70, sr_249_51, sr_249_22, sr_249_25, sr_249_50, sr_249_13, sr_249_42, sr_249_68, sr_249_71, sr_249_43, sr_249_15, sr_249_8, sr_249_55, sr_249_69, sr_249_2, sr_249_16, sr_249_40, sr_249_11, sr_249_10, sr_249_54, sr_249_31, kl9_251, kc_251, kc_258, kl9_258, kl9_279, kc_279, kc_280, kl9_280, h58]; (try simp (disch := omega) only [w15_0, w15_1, w15_3, w15_4, w15_5, w15_6, w3_0, w3_1, w3_2, upm_app, Int.reduceEq, and_self, and_true, true_and, and_false, false_and, if_true, if_false, ↓reduceIte, h58]))
      | (with_reducible refine s_225 (g := g) (tc := tc) (pl := pl) (N := N) (W := W) ?_ ?_ (fun v9 m9 hJ9 p9 => ?_); (next => first | omega | (with_reducible rfl) | decide | (unfold w32; omega) | (simp (disch := omega) only [w32_eq]; omega) | (simp [upm] <;> (first | omega | (unfold w32; omega)))); (next => refine JW_of hL ?_ (by decide); repeat (first | assumption | (exact JW_len0 (by assumption)) | (refine JW_up ?_ (by first | decide | (unfold frR; omega)) (by first | decide | simp [frc]) (by first | decide | simp [frw]) (by first | (simp [BdR]; done) | (simp [BdR] <;> first | omega | (unfold w32; omega)) | (simp [BdR, upm] <;> first | omega | (unfold w32; omega)) | (refine BdR_n (by simp) ?_; (first | (refine rb_at ?_ ?_ <;> first | omega | (simp only [upm_app]; (repeat' split) <;> omega)) | (refine rb_us ?_ ?_ <;> first | omega | (simp only [upm_app]; (repeat' split) <;> omega)) | (refine rb_ho ?_ ?_ <;> first | omega | (simp only [upm_app]; (repeat' split) <;> omega)) | (refine rb_on ?_ ?_ <;> first | omega | (simp only [upm_app]; (repeat' split) <;> omega)) | ((try simp (disch := omega) only [w32_eq]); (refine (rb_i ?_ ?_).2 ?_ <;> omega)) | (refine rb_us ?_ ?_ <;> first | omega | (unfold w32; omega)))))))); (try simp [upm] at p9); (try clear hs9); have hJ9 := JW_dn hL hJ9; have hs9 := JW_s hJ9; (try clear h58); have h58 := JW_2 hJ9; (try clear h5e); have h5e := JW_53e hJ9; simp only [hdl_c, S9_1, S9_m, bud9, live9, inb9, wrn, wr9_14, wr9_15, wr9_16, wr9_17, tq9_14, tq9_15, tq9_16, tq9_17, tq_0, tq_1, tq_3, upr_rl, rl_0, rl_1, rl_2, rl_3, rl_4, rl_5, rl_6, rl_7, rl_8, rl_9, rl_10, rl_11, rl_12, rl_13, sp_0, sp_1, sp_2, sp_3, sp_4, sp_5, sp_6, sp_7, sp_8, sp_9, sp_10, sp_11, sp_12, sp_13, se_0, se_1, se_2, se_3, se_4, se_5, se_6, se_7, se_8, se_9, se_10, se_11, se_12, se_13, sem_0, sem_1, sem_2, sem_3, sem_4, sem_5, List.getD_cons_zero, List.getD_cons_succ, Bool.false_eq_true, wrn3, wrn1, cpmS, cpok9, if_true, if_false, ↓reduceIte, wc_95, wc_169, wc_188, wc_194, wc_199, wc_203, wc_205, wc_225, wc_251, wc_267, sr_249_14, sr_249_35, kl9_249, sr_249_30, sr_249_57, sr_249_9, sr_249_23, sr_249_58, sr_249_61, kc_249, sr_249_63, sr_249_12, sr_249_64, sr_249_17, sr_249_67, sr_249_52, sr_249_41, sr_249_24, sr_249_34, sr_249_70, sr_249_51, sr_249_22, sr_249_25, sr_249_50, sr_249_13, sr_249_42, sr_249_68, sr_249_71, sr_249_43, sr_249_15, sr_249_8, sr_249_55, sr_249_69, sr_249_2, sr_249_16, sr_249_40, sr_249_11, sr_249_10, sr_249_54, sr_249_31, kl9_251, kc_251, kc_258, kl9_258, kl9_279, kc_279, kc_280, kl9_280, h58]; (try simp (disch := omega) only [w15_0, w15_1, w15_3, w15_4, w15_5, w15_6, w3_0, w3_1, w3_2, upm_app, Int.reduceEq, and_self, and_true, true_and, and_false, false_and, if_true, if_false, ↓reduceIte, h58]))
      | (exact hr _ hJ9)
      | (exact hq _ _ hJ9 (fun r h0 h1 => hA r h0 (by omega)))
      | (with_reducible refine ⟨k - 1, ?_, _, _, rfl, rfl, ?_, ?_, ?_, ?_, fun r h0 h1 h2 => ?_⟩; (next => omega); (next => with_reducible (refine JW_of hL ?_ (by decide); repeat (first | assumption | (exact JW_len0 (by assumption)) | (refine JW_up ?_ (by first | decide | (unfold frR; omega)) (by first | decide | simp [frc]) (by first | decide | simp [frw]) (by first | (simp [BdR]; done) | (simp [BdR] <;> first | omega | (unfold w32; omega)) | (simp [BdR, upm] <;> first | omega | (unfold w32; omega)) | (refine BdR_n (by simp) ?_; (first | (refine rb_at ?_ ?_ <;> first | omega | (simp only [upm_app]; (repeat' split) <;> omega)) | (refine rb_us ?_ ?_ <;> first | omega | (simp only [upm_app]; (repeat' split) <;> omega)) | (refine rb_ho ?_ ?_ <;> first | omega | (simp only [upm_app]; (repeat' split) <;> omega)) | (refine rb_on ?_ ?_ <;> first | omega | (simp only [upm_app]; (repeat' split) <;> omega)) | ((try simp (disch := omega) only [w32_eq]); (refine (rb_i ?_ ?_).2 ?_ <;> omega)) | (refine rb_us ?_ ?_ <;> first | omega | (unfold w32; omega)))))))); done); (next => first | assumption | (simp only [upm_app, Int.reduceEq, and_self, and_true, true_and, and_false, false_and, if_true, if_false, ↓reduceIte]; assumption)); (next => omega); (next => omega); (next => by_cases hri : r = i; (next => subst hri; omega); (next => exact hA r h0 (by omega) h2)))
      | (unfold w32; omega)
      | (simp (disch := omega) only [w32_eq]; omega)
      | (with_reducible show (_ : Int) ≤ _; simp [upm] <;> (first | omega | (unfold w32; omega)))
      | (with_reducible show (_ : Int) < _; simp [upm] <;> (first | omega | (unfold w32; omega))))

set_option maxHeartbeats 8000000 in
theorem s_266 {d : Nat} {tc pl e : Int} {g : Fg} {m : Mem} {Q : Int → Sto → Prop} {a b c f : Int} (hJ : JR 4 g tc pl m) (hq : ∀ v m', JR 4 g tc pl m' → Q v (S9 e m')) : Cl (d + 14) 266 [249, a, b, c, f] Q (S9 e m) := by
  have hL := JR_l hJ
  obtain ⟨N, W, hJ0⟩ : ∃ N W, JW 4 g tc pl N W m := ⟨_, _, JW_mk hJ⟩
  have hJ1 : JW 4 g tc pl N W (upm m 249 0 0) := by refine JW_of hL ?_ (by decide); repeat (first | assumption | (exact JW_len0 (by assumption)) | (refine JW_up ?_ (by first | decide | (unfold frR; omega)) (by first | decide | simp [frc]) (by first | decide | simp [frw]) (by first | (simp [BdR]; done) | (simp [BdR] <;> first | omega | (unfold w32; omega)) | (simp [BdR, upm] <;> first | omega | (unfold w32; omega)) | (refine BdR_n (by simp) ?_; (first | (refine rb_at ?_ ?_ <;> first | omega | (simp only [upm_app]; (repeat' split) <;> omega)) | (refine rb_us ?_ ?_ <;> first | omega | (simp only [upm_app]; (repeat' split) <;> omega)) | (refine rb_ho ?_ ?_ <;> first | omega | (simp only [upm_app]; (repeat' split) <;> omega)) | (refine rb_on ?_ ?_ <;> first | omega | (simp only [upm_app]; (repeat' split) <;> omega)) | ((try simp (disch := omega) only [w32_eq]); (refine (rb_i ?_ ?_).2 ?_ <;> omega)) | (refine rb_us ?_ ?_ <;> first | omega | (unfold w32; omega)))))))
  simp only [cl_266, runB, B266, ma_266, rho_20000, wf_13_102, wf_13_13, wf_13_140, wf_13_36, wf_13_492, wf_13_495, wf_13_99, wpf_13_126, wpf_13_130, wpopadd_pf_13_130, wpf_13_492, wc_95, wc_169, wc_188, wc_194, wc_199, wc_203, wc_205, wc_225, wc_251, wc_267, w_cst, w_ldi, w_ldj, w_lda, w_ljk, w_ldk, w_ldw, w_ldk2, w_ldt, w_ldtw, w_neg, w_cvb, w_cvs, w_cvc, w_cvj, w_add, w_sub, w_mul, w_ban, w_bor, w_bxo, w_shl, w_shr, w_ush, w_dvi, w_rmi, w_aldi, w_aldj, w_aldz, w_aldc, w_alda, w_ite, w_cmp, w_cmj, w_cz, w_cnot, w_cand, w_cor, w_nil, w_cons, w_cvi, w_csta, w_cvt, w_cvv, w_csv, w_cpy, w_seq, w_sbr, w_sbn, w_brk, w_ifs, w_ifx, w_ife, w_wk, w_rets, w_rtv, w_thr, w_asi, w_asj, w_asa, w_inc, w_exs, w_asti, w_astj, w_astz, w_astc, w_aopadd, w_aopsub, w_sw, if_true, if_false, ↓reduceIte, hdl_c, S9_1, S9_m, bud9, live9, inb9, wrn, wr9_14, wr9_15, wr9_16, wr9_17, tq9_14, tq9_15, tq9_16, tq9_17, tq_0, tq_1, tq_3, upr_rl, rl_0, rl_1, rl_2, rl_3, rl_4, rl_5, rl_6, rl_7, rl_8, rl_9, rl_10, rl_11, rl_12, rl_13, sp_0, sp_1, sp_2, sp_3, sp_4, sp_5, sp_6, sp_7, sp_8, sp_9, sp_10, sp_11, sp_12, sp_13, se_0, se_1, se_2, se_3, se_4, se_5, se_6, se_7, se_8, se_9, se_10, se_11, se_12, se_13, sem_0, sem_1, sem_2, sem_3, sem_4, sem_5, sr_249_14, sr_249_35, kl9_249, sr_249_30, sr_249_57, sr_249_9, sr_249_23, sr_249_58, sr_249_61, kc_249, sr_249_63, sr_249_12, sr_249_64, sr_249_17, sr_249_67, sr_249_52, sr_249_41, sr_249_24, sr_249_34, sr_249_70, sr_249_51, sr_249_22, sr_249_25, sr_249_50, sr_249_13, sr_249_42, sr_249_68, sr_249_71, sr_249_43, sr_249_15, sr_249_8, sr_249_55, sr_249_69, sr_249_2, sr_249_16, sr_249_40, sr_249_11, sr_249_10, sr_249_54, sr_249_31, kl9_251, kc_251, kc_258, kl9_258, kl9_279, kc_279, kc_280, kl9_280, List.getD_cons_zero, List.getD_cons_succ, Bool.false_eq_true, wrn3, wrn1, cpmS, cpok9]
  generalize upm m 249 0 0 = m1 at hJ1 ⊢
  have hs := JW_s hJ1
  have h58 := JW_2 hJ1
  have hx0 := JW_p hJ1 a
  (try simp (disch := omega) only [w15_0, w15_1, w15_3, w15_4, w15_5, w15_6, w3_0, w3_1, w3_2, upm_app, Int.reduceEq, and_self, and_true, true_and, and_false, false_and, if_true, if_false, ↓reduceIte, h58])
  repeat' (first
    | (with_reducible exact True.intro)
    | omega
    | (with_reducible rfl)
    | (with_reducible contradiction)
    | (with_reducible refine And.intro ?_ ?_)
    | intro _
    | (with_reducible refine p_169 (fun v9 h9 => ?_); (try simp only [h58] at h9); simp only [hdl_c, S9_1, S9_m, bud9, live9, inb9, wrn, wr9_14, wr9_15, wr9_16, wr9_17, tq9_14, tq9_15, tq9_16, tq9_17, tq_0, tq_1, tq_3, upr_rl, rl_0, rl_1, rl_2, rl_3, rl_4, rl_5, rl_6, rl_7, rl_8, rl_9, rl_10, rl_11, rl_12, rl_13, sp_0, sp_1, sp_2, sp_3, sp_4, sp_5, sp_6, sp_7, sp_8, sp_9, sp_10, sp_11, sp_12, sp_13, se_0, se_1, se_2, se_3, se_4, se_5, se_6, se_7, se_8, se_9, se_10, se_11, se_12, se_13, sem_0, sem_1, sem_2, sem_3, sem_4, sem_5, List.getD_cons_zero, List.getD_cons_succ, Bool.false_eq_true, wrn3, wrn1, cpmS, cpok9, if_true, if_false, ↓reduceIte, wc_95, wc_169, wc_188, wc_194, wc_199, wc_203, wc_205, wc_225, wc_251, wc_267, sr_249_14, sr_249_35, kl9_249, sr_249_30, sr_249_57, sr_249_9, sr_249_23, sr_249_58, sr_249_61, kc_249, sr_249_63, sr_249_12, sr_249_64, sr_249_17, sr_249_67, sr_249_52, sr_249_41, sr_249_24, sr_249_34, sr_249_70, sr_249_51, sr_249_22, sr_249_25, sr_249_50, sr_249_13, sr_249_42, sr_249_68, sr_249_71, sr_249_43, sr_249_15, sr_249_8, sr_249_55, sr_249_69, sr_249_2, sr_249_16, sr_249_40, sr_249_11, sr_249_10, sr_249_54, sr_249_31, kl9_251, kc_251, kc_258, kl9_258, kl9_279, kc_279, kc_280, kl9_280, h58]; (try simp (disch := omega) only [w15_0, w15_1, w15_3, w15_4, w15_5, w15_6, w3_0, w3_1, w3_2, upm_app, Int.reduceEq, and_self, and_true, true_and, and_false, false_and, if_true, if_false, ↓reduceIte, h58]))
    | (with_reducible refine p_188 ?_ ?_; (next => first | omega | (with_reducible rfl) | decide | (unfold w32; omega) | (simp (disch := omega) only [w32_eq]; omega) | (simp [upm] <;> (first | omega | (unfold w32; omega)))); simp only [hdl_c, S9_1, S9_m, bud9, live9, inb9, wrn, wr9_14, wr9_15, wr9_16, wr9_17, tq9_14, tq9_15, tq9_16, tq9_17, tq_0, tq_1, tq_3, upr_rl, rl_0, rl_1, rl_2, rl_3, rl_4, rl_5, rl_6, rl_7, rl_8, rl_9, rl_10, rl_11, rl_12, rl_13, sp_0, sp_1, sp_2, sp_3, sp_4, sp_5, sp_6, sp_7, sp_8, sp_9, sp_10, sp_11, sp_12, sp_13, se_0, se_1, se_2, se_3, se_4, se_5, se_6, se_7, se_8, se_9, se_10, se_11, se_12, se_13, sem_0, sem_1, sem_2, sem_3, sem_4, sem_5, List.getD_cons_zero, List.getD_cons_succ, Bool.false_eq_true, wrn3, wrn1, cpmS, cpok9, if_true, if_false, ↓reduceIte, wc_95, wc_169, wc_188, wc_194, wc_199, wc_203, wc_205, wc_225, wc_251, wc_267, sr_249_14, sr_249_35, kl9_249, sr_249_30, sr_249_57, sr_249_9, sr_249_23, sr_249_58, sr_249_61, kc_249, sr_249_63, sr_249_12, sr_249_64, sr_249_17, sr_249_67, sr_249_52, sr_249_41, sr_249_24, sr_249_34, sr_249_70, sr_249_51, sr_249_22, sr_249_25, sr_249_50, sr_249_13, sr_249_42, sr_249_68, sr_249_71, sr_249_43, sr_249_15, sr_249_8, sr_249_55, sr_249_69, sr_249_2, sr_249_16, sr_249_40, sr_249_11, sr_249_10, sr_249_54, sr_249_31, kl9_251, kc_251, kc_258, kl9_258, kl9_279, kc_279, kc_280, kl9_280, h58]; (try simp (disch := omega) only [w15_0, w15_1, w15_3, w15_4, w15_5, w15_6, w3_0, w3_1, w3_2, upm_app, Int.reduceEq, and_self, and_true, true_and, and_false, false_and, if_true, if_false, ↓reduceIte, h58]))
    | (with_reducible refine p_194 ?_ (fun v9 h9 => ?_); (next => first | omega | (with_reducible rfl) | decide | (unfold w32; omega) | (simp (disch := omega) only [w32_eq]; omega) | (simp [upm] <;> (first | omega | (unfold w32; omega)))); (try simp only [h58] at h9); simp only [hdl_c, S9_1, S9_m, bud9, live9, inb9, wrn, wr9_14, wr9_15, wr9_16, wr9_17, tq9_14, tq9_15, tq9_16, tq9_17, tq_0, tq_1, tq_3, upr_rl, rl_0, rl_1, rl_2, rl_3, rl_4, rl_5, rl_6, rl_7, rl_8, rl_9, rl_10, rl_11, rl_12, rl_13, sp_0, sp_1, sp_2, sp_3, sp_4, sp_5, sp_6, sp_7, sp_8, sp_9, sp_10, sp_11, sp_12, sp_13, se_0, se_1, se_2, se_3, se_4, se_5, se_6, se_7, se_8, se_9, se_10, se_11, se_12, se_13, sem_0, sem_1, sem_2, sem_3, sem_4, sem_5, List.getD_cons_zero, List.getD_cons_succ, Bool.false_eq_true, wrn3, wrn1, cpmS, cpok9, if_true, if_false, ↓reduceIte, wc_95, wc_169, wc_188, wc_194, wc_199, wc_203, wc_205, wc_225, wc_251, wc_267, sr_249_14, sr_249_35, kl9_249, sr_249_30, sr_249_57, sr_249_9, sr_249_23, sr_249_58, sr_249_61, kc_249, sr_249_63, sr_249_12, sr_249_64, sr_249_17, sr_249_67, sr_249_52, sr_249_41, sr_249_24, sr_249_34, sr_249_70, sr_249_51, sr_249_22, sr_249_25, sr_249_50, sr_249_13, sr_249_42, sr_249_68, sr_249_71, sr_249_43, sr_249_15, sr_249_8, sr_249_55, sr_249_69, sr_249_2, sr_249_16, sr_249_40, sr_249_11, sr_249_10, sr_249_54, sr_249_31, kl9_251, kc_251, kc_258, kl9_258, kl9_279, kc_279, kc_280, kl9_280, h58]; (try simp (disch := omega) only [w15_0, w15_1, w15_3, w15_4, w15_5, w15_6, w3_0, w3_1, w3_2, upm_app, Int.reduceEq, and_self, and_true, true_and, and_false, false_and, if_true, if_false, ↓reduceIte, h58]))
    | (with_reducible refine p_199 (fun v9 h9 => ?_); (try simp only [h58] at h9); simp only [hdl_c, S9_1, S9_m, bud9, live9, inb9, wrn, wr9_14, wr9_15, wr9_16, wr9_17, tq9_14, tq9_15, tq9_16, tq9_17, tq_0, tq_1, tq_3, upr_rl, rl_0, rl_1, rl_2, rl_3, rl_4, rl_5, rl_6, rl_7, rl_8, rl_9, rl_10, rl_11, rl_12, rl_13, sp_0, sp_1, sp_2, sp_3, sp_4, sp_5, sp_6, sp_7, sp_8, sp_9, sp_10, sp_11, sp_12, sp_13, se_0, se_1, se_2, se_3, se_4, se_5, se_6, se_7, se_8, se_9, se_10, se_11, se_12, se_13, sem_0, sem_1, sem_2, sem_3, sem_4, sem_5, List.getD_cons_zero, List.getD_cons_succ, Bool.false_eq_true, wrn3, wrn1, cpmS, cpok9, if_true, if_false, ↓reduceIte, wc_95, wc_169, wc_188, wc_194, wc_199, wc_203, wc_205, wc_225, wc_251, wc_267, sr_249_14, sr_249_35, kl9_249, sr_249_30, sr_249_57, sr_249_9, sr_249_23, sr_249_58, sr_249_61, kc_249, sr_249_63, sr_249_12, sr_249_64, sr_249_17, sr_249_67, sr_249_52, sr_249_41, sr_249_24, sr_249_34, sr_249_70, sr_249_51, sr_249_22, sr_249_25, sr_249_50, sr_249_13, sr_249_42, sr_249_68, sr_249_71, sr_249_43, sr_249_15, sr_249_8, sr_249_55, sr_249_69, sr_249_2, sr_249_16, sr_249_40, sr_249_11, sr_249_10, sr_249_54, sr_249_31, kl9_251, kc_251, kc_258, kl9_258, kl9_279, kc_279, kc_280, kl9_280, h58]; (try simp (disch := omega) only [w15_0, w15_1, w15_3, w15_4, w15_5, w15_6, w3_0, w3_1, w3_2, upm_app, Int.reduceEq, and_self, and_true, true_and, and_false, false_and, if_true, if_false, ↓reduceIte, h58]))
    | (with_reducible refine p_203 ?_ ?_; (next => first | omega | (with_reducible rfl) | decide | (unfold w32; omega) | (simp (disch := omega) only [w32_eq]; omega) | (simp [upm] <;> (first | omega | (unfold w32; omega)))); simp only [hdl_c, S9_1, S9_m, bud9, live9, inb9, wrn, wr9_14, wr9_15, wr9_16, wr9_17, tq9_14, tq9_15, tq9_16, tq9_17, tq_0, tq_1, tq_3, upr_rl, rl_0, rl_1, rl_2, rl_3, rl_4, rl_5, rl_6, rl_7, rl_8, rl_9, rl_10, rl_11, rl_12, rl_13, sp_0, sp_1, sp_2, sp_3, sp_4, sp_5, sp_6, sp_7, sp_8, sp_9, sp_10, sp_11, sp_12, sp_13, se_0, se_1, se_2, se_3, se_4, se_5, se_6, se_7, se_8, se_9, se_10, se_11, se_12, se_13, sem_0, sem_1, sem_2, sem_3, sem_4, sem_5, List.getD_cons_zero, List.getD_cons_succ, Bool.false_eq_true, wrn3, wrn1, cpmS, cpok9, if_true, if_false, ↓reduceIte, wc_95, wc_169, wc_188, wc_194, wc_199, wc_203, wc_205, wc_225, wc_251, wc_267, sr_249_14, sr_249_35, kl9_249, sr_249_30, sr_249_57, sr_249_9, sr_249_23, sr_249_58, sr_249_61, kc_249, sr_249_63, sr_249_12, sr_249_64, sr_249_17, sr_249_67, sr_249_52, sr_249_41, sr_249_24, sr_249_34, sr_249_70, sr_249_51, sr_249_22, sr_249_25, sr_249_50, sr_249_13, sr_249_42, sr_249_68, sr_249_71, sr_249_43, sr_249_15, sr_249_8, sr_249_55, sr_249_69, sr_249_2, sr_249_16, sr_249_40, sr_249_11, sr_249_10, sr_249_54, sr_249_31, kl9_251, kc_251, kc_258, kl9_258, kl9_279, kc_279, kc_280, kl9_280, h58]; (try simp (disch := omega) only [w15_0, w15_1, w15_3, w15_4, w15_5, w15_6, w3_0, w3_1, w3_2, upm_app, Int.reduceEq, and_self, and_true, true_and, and_false, false_and, if_true, if_false, ↓reduceIte, h58]))
    | (with_reducible refine p_205 ?_ (fun v9 h9 => ?_); (next => first | omega | (with_reducible rfl) | decide | (unfold w32; omega) | (simp (disch := omega) only [w32_eq]; omega) | (simp [upm] <;> (first | omega | (unfold w32; omega)))); (try simp only [h58] at h9); simp only [hdl_c, S9_1, S9_m, bud9, live9, inb9, wrn, wr9_14, wr9_15, wr9_16, wr9_17, tq9_14, tq9_15, tq9_16, tq9_17, tq_0, tq_1, tq_3, upr_rl, rl_0, rl_1, rl_2, rl_3, rl_4, rl_5, rl_6, rl_7, rl_8, rl_9, rl_10, rl_11, rl_12, rl_13, sp_0, sp_1, sp_2, sp_3, sp_4, sp_5, sp_6, sp_7, sp_8, sp_9, sp_10, sp_11, sp_12, sp_13, se_0, se_1, se_2, se_3, se_4, se_5, se_6, se_7, se_8, se_9, se_10, se_11, se_12, se_13, sem_0, sem_1, sem_2, sem_3, sem_4, sem_5, List.getD_cons_zero, List.getD_cons_succ, Bool.false_eq_true, wrn3, wrn1, cpmS, cpok9, if_true, if_false, ↓reduceIte, wc_95, wc_169, wc_188, wc_194, wc_199, wc_203, wc_205, wc_225, wc_251, wc_267, sr_249_14, sr_249_35, kl9_249, sr_249_30, sr_249_57, sr_249_9, sr_249_23, sr_249_58, sr_249_61, kc_249, sr_249_63, sr_249_12, sr_249_64, sr_249_17, sr_249_67, sr_249_52, sr_249_41, sr_249_24, sr_249_34, sr_249_70, sr_249_51, sr_249_22, sr_249_25, sr_249_50, sr_249_13, sr_249_42, sr_249_68, sr_249_71, sr_249_43, sr_249_15, sr_249_8, sr_249_55, sr_249_69, sr_249_2, sr_249_16, sr_249_40, sr_249_11, sr_249_10, sr_249_54, sr_249_31, kl9_251, kc_251, kc_258, kl9_258, kl9_279, kc_279, kc_280, kl9_280, h58]; (try simp (disch := omega) only [w15_0, w15_1, w15_3, w15_4, w15_5, w15_6, w3_0, w3_1, w3_2, upm_app, Int.reduceEq, and_self, and_true, true_and, and_false, false_and, if_true, if_false, ↓reduceIte, h58]))
    | (with_reducible refine s_225 (g := g) (tc := tc) (pl := pl) (N := N) (W := W) ?_ ?_ (fun v9 m9 hJ9 p9 => ?_); (next => first | omega | (with_reducible rfl) | decide | (unfold w32; omega) | (simp (disch := omega) only [w32_eq]; omega) | (simp [upm] <;> (first | omega | (unfold w32; omega)))); (next => refine JW_of hL ?_ (by decide); repeat (first | assumption | (exact JW_len0 (by assumption)) | (refine JW_up ?_ (by first | decide | (unfold frR; omega)) (by first | decide | simp [frc]) (by first | decide | simp [frw]) (by first | (simp [BdR]; done) | (simp [BdR] <;> first | omega | (unfold w32; omega)) | (simp [BdR, upm] <;> first | omega | (unfold w32; omega)) | (refine BdR_n (by simp) ?_; (first | (refine rb_at ?_ ?_ <;> first | omega | (simp only [upm_app]; (repeat' split) <;> omega)) | (refine rb_us ?_ ?_ <;> first | omega | (simp only [upm_app]; (repeat' split) <;> omega)) | (refine rb_ho ?_ ?_ <;> first | omega | (simp only [upm_app]; (repeat' split) <;> omega)) | (refine rb_on ?_ ?_ <;> first | omega | (simp only [upm_app]; (repeat' split) <;> omega)) | ((try simp (disch := omega) only [w32_eq]); (refine (rb_i ?_ ?_).2 ?_ <;> omega)) | (refine rb_us ?_ ?_ <;> first | omega | (unfold w32; omega)))))))); (try simp [upm] at p9); (try clear hs9); have hJ9 := JW_dn hL hJ9; have hs9 := JW_s hJ9; (try clear h58); have h58 := JW_2 hJ9; (try clear h5e); have h5e := JW_53e hJ9; simp only [hdl_c, S9_1, S9_m, bud9, live9, inb9, wrn, wr9_14, wr9_15, wr9_16, wr9_17, tq9_14, tq9_15, tq9_16, tq9_17, tq_0, tq_1, tq_3, upr_rl, rl_0, rl_1, rl_2, rl_3, rl_4, rl_5, rl_6, rl_7, rl_8, rl_9, rl_10, rl_11, rl_12, rl_13, sp_0, sp_1, sp_2, sp_3, sp_4, sp_5, sp_6, sp_7, sp_8, sp_9, sp_10, sp_11, sp_12, sp_13, se_0, se_1, se_2, se_3, se_4, se_5, se_6, se_7, se_8, se_9, se_10, se_11, se_12, se_13, sem_0, sem_1, sem_2, sem_3, sem_4, sem_5, List.getD_cons_zero, List.getD_cons_succ, Bool.false_eq_true, wrn3, wrn1, cpmS, cpok9, if_true, if_false, ↓reduceIte, wc_95, wc_169, wc_188, wc_194, wc_199, wc_203, wc_205, wc_225, wc_251, wc_267, sr_249_14, sr_249_35, kl9_249, sr_249_30, sr_249_57, sr_249_9, sr_249_23, sr_249_58, sr_249_61, kc_249, sr_249_63, sr_249_12, sr_249_64, sr_249_17, sr_249_67, sr_249_52, sr_249_41, sr_249_24, sr_249_34, sr_249_70, sr_249_51, sr_249_22, sr_249_25, sr_249_50, sr_249_13, sr_249_42, sr_249_68, sr_249_71, sr_249_43, sr_249_15, sr_249_8, sr_249_55, sr_249_69, sr_249_2, sr_249_16, sr_249_40, sr_249_11, sr_249_10, sr_249_54, sr_249_31, kl9_251, kc_251, kc_258, kl9_258, kl9_279, kc_279, kc_280, kl9_280, h58]; (try simp (disch := omega) only [w15_0, w15_1, w15_3, w15_4, w15_5, w15_6, w3_0, w3_1, w3_2, upm_app, Int.reduceEq, and_self, and_true, true_and, and_false, false_and, if_true, if_false, ↓reduceIte, h58]))
    | (with_reducible refine s_225 (g := g) (tc := tc) (pl := pl) (N := N) (W := w9) ?_ ?_ (fun v9 m9 hJ9 p9 => ?_); (next => first | omega | (with_reducible rfl) | decide | (unfold w32; omega) | (simp (disch := omega) only [w32_eq]; omega) | (simp [upm] <;> (first | omega | (unfold w32; omega)))); (next => refine JW_of hL ?_ (by decide); repeat (first | assumption | (exact JW_len0 (by assumption)) | (refine JW_up ?_ (by first | decide | (unfold frR; omega)) (by first | decide | simp [frc]) (by first | decide | simp [frw]) (by first | (simp [BdR]; done) | (simp [BdR] <;> first | omega | (unfold w32; omega)) | (simp [BdR, upm] <;> first | omega | (unfold w32; omega)) | (refine BdR_n (by simp) ?_; (first | (refine rb_at ?_ ?_ <;> first | omega | (simp only [upm_app]; (repeat' split) <;> omega)) | (refine rb_us ?_ ?_ <;> first | omega | (simp only [upm_app]; (repeat' split) <;> omega)) | (refine rb_ho ?_ ?_ <;> first | omega | (simp only [upm_app]; (repeat' split) <;> omega)) | (refine rb_on ?_ ?_ <;> first | omega | (simp only [upm_app]; (repeat' split) <;> omega)) | ((try simp (disch := omega) only [w32_eq]); (refine (rb_i ?_ ?_).2 ?_ <;> omega)) | (refine rb_us ?_ ?_ <;> first | omega | (unfold w32; omega)))))))); (try simp [upm] at p9); (try clear hs9); have hJ9 := JW_dn hL hJ9; have hs9 := JW_s hJ9; (try clear h58); have h58 := JW_2 hJ9; (try clear h5e); have h5e := JW_53e hJ9; simp only [hdl_c, S9_1, S9_m, bud9, live9, inb9, wrn, wr9_14, wr9_15, wr9_16, wr9_17, tq9_14, tq9_15, tq9_16, tq9_17, tq_0, tq_1, tq_3, upr_rl, rl_0, rl_1, rl_2, rl_3, rl_4, rl_5, rl_6, rl_7, rl_8, rl_9, rl_10, rl_11, rl_12, rl_13, sp_0, sp_1, sp_2, sp_3, sp_4, sp_5, sp_6, sp_7, sp_8, sp_9, sp_10, sp_11, sp_12, sp_13, se_0, se_1, se_2, se_3, se_4, se_5, se_6, se_7, se_8, se_9, se_10, se_11, se_12, se_13, sem_0, sem_1, sem_2, sem_3, sem_4, sem_5, List.getD_cons_zero, List.getD_cons_succ, Bool.false_eq_true, wrn3, wrn1, cpmS, cpok9, if_true, if_false, ↓reduceIte, wc_95, wc_169, wc_188, wc_194, wc_199, wc_203, wc_205, wc_225, wc_251, wc_267, sr_249_14, sr_249_35, kl9_249, sr_249_30, sr_249_57, sr_249_9, sr_249_23, sr_249_58, sr_249_61, kc_249, sr_249_63, sr_249_12, sr_249_64, sr_249_17, sr_249_67, sr_249_52, sr_249_41, sr_249_24, sr_249_34, sr_249_70, sr_249_51, sr_249_22, sr_249_25, sr_249_50, sr_249_13, sr_249_42, sr_249_68, sr_249_71, sr_249_43, sr_249_15, sr_249_8, sr_249_55, sr_249_69, sr_249_2, sr_249_16, sr_249_40, sr_249_11, sr_249_10, sr_249_54, sr_249_31, kl9_251, kc_251, kc_258, kl9_258, kl9_279, kc_279, kc_280, kl9_280, h58]; (try simp (disch := omega) only [w15_0, w15_1, w15_3, w15_4, w15_5, w15_6, w3_0, w3_1, w3_2, upm_app, Int.reduceEq, and_self, and_true, true_and, and_false, false_and, if_true, if_false, ↓reduceIte, h58]))
    | ((with_reducible refine l266a (g := g) (tc := tc) (pl := pl) (N := N) (W := W) ?_ (fun m9 hJ9 => ?_) (fun m9 i9 hJ9 hA9 => ?_)); (next => with_reducible (refine JW_of hL ?_ (by decide); repeat (first | assumption | (exact JW_len0 (by assumption)) | (refine JW_up ?_ (by first | decide | (unfold frR; omega)) (by first | decide | simp [frc]) (by first | decide | simp [frw]) (by first | (simp [BdR]; done) | (simp [BdR] <;> first | omega | (unfold w32; omega)) | (simp [BdR, upm] <;> first | omega | (unfold w32; omega)) | (refine BdR_n (by simp) ?_; (first | (refine rb_at ?_ ?_ <;> first | omega | (simp only [upm_app]; (repeat' split) <;> omega)) | (refine rb_us ?_ ?_ <;> first | omega | (simp only [upm_app]; (repeat' split) <;> omega)) | (refine rb_ho ?_ ?_ <;> first | omega | (simp only [upm_app]; (repeat' split) <;> omega)) | (refine rb_on ?_ ?_ <;> first | omega | (simp only [upm_app]; (repeat' split) <;> omega)) | ((try simp (disch := omega) only [w32_eq]); (refine (rb_i ?_ ?_).2 ?_ <;> omega)) | (refine rb_us ?_ ?_ <;> first | omega | (unfold w32; omega)))))))); done); all_goals ((try clear hs9); have hJ9 := JW_dn hL hJ9; have hs9 := JW_s hJ9; (try clear h58); have h58 := JW_2 hJ9; (try clear h5e); have h5e := JW_53e hJ9; (try simp only [hdl_c, S9_1, S9_m, bud9, live9, inb9, wrn, wr9_14, wr9_15, wr9_16, wr9_17, tq9_14, tq9_15, tq9_16, tq9_17, tq_0, tq_1, tq_3, upr_rl, rl_0, rl_1, rl_2, rl_3, rl_4, rl_5, rl_6, rl_7, rl_8, rl_9, rl_10, rl_11, rl_12, rl_13, sp_0, sp_1, sp_2, sp_3, sp_4, sp_5, sp_6, sp_7, sp_8, sp_9, sp_10, sp_11, sp_12, sp_13, se_0, se_1, se_2, se_3, se_4, se_5, se_6, se_7, se_8, se_9, se_10, se_11, se_12, se_13, sem_0, sem_1, sem_2, sem_3, sem_4, sem_5, List.getD_cons_zero, List.getD_cons_succ, Bool.false_eq_true, wrn3, wrn1, cpmS, cpok9, if_true, if_false, ↓reduceIte, wc_95, wc_169, wc_188, wc_194, wc_199, wc_203, wc_205, wc_225, wc_251, wc_267, sr_249_14, sr_249_35, kl9_249, sr_249_30, sr_249_57, sr_249_9, sr_249_23, sr_249_58, sr_249_61, kc_249, sr_249_63, sr_249_12, sr_249_64, sr_249_17, sr_249_67, sr_249_52, sr_249_41, sr_249_24, sr_249_34, sr_249_70, sr_249_51, sr_249_22, sr_249_25, sr_249_50, sr_249_13, sr_249_42, sr_249_68, sr_249_71, sr_249_43, sr_249_15, sr_249_8, sr_249_55, sr_249_69, sr_249_2, sr_249_16, sr_249_40, sr_249_11, sr_249_10, sr_249_54, sr_249_31, kl9_251, kc_251, kc_258, kl9_258, kl9_279, kc_279, kc_280, kl9_280, h58]); (try simp (disch := omega) only [w15_0, w15_1, w15_3, w15_4, w15_5, w15_6, w3_0, w3_1, w3_2, upm_app, Int.reduceEq, and_self, and_true, true_and, and_false, false_and, if_true, if_false, ↓reduceIte, h58])))
    | (with_reducible refine s_251 (g := g) (tc := tc) (pl := pl) (N := N) (W := W) ?_ (fun v9 m9 hJ9 e9 hF9 => ?_); (next => refine JW_of hL ?_ (by decide); repeat (first | assumption | (exact JW_len0 (by assumption)) | (refine JW_up ?_ (by first | decide | (unfold frR; omega)) (by first | decide | simp [frc]) (by first | decide | simp [frw]) (by first | (simp [BdR]; done) | (simp [BdR] <;> first | omega | (unfold w32; omega)) | (simp [BdR, upm] <;> first | omega | (unfold w32; omega)) | (refine BdR_n (by simp) ?_; (first | (refine rb_at ?_ ?_ <;> first | omega | (simp only [upm_app]; (repeat' split) <;> omega)) | (refine rb_us ?_ ?_ <;> first | omega | (simp only [upm_app]; (repeat' split) <;> omega)) | (refine rb_ho ?_ ?_ <;> first | omega | (simp only [upm_app]; (repeat' split) <;> omega)) | (refine rb_on ?_ ?_ <;> first | omega | (simp only [upm_app]; (repeat' split) <;> omega)) | ((try simp (disch := omega) only [w32_eq]); (refine (rb_i ?_ ?_).2 ?_ <;> omega)) | (refine rb_us ?_ ?_ <;> first | omega | (unfold w32; omega))))))); done); clear hF9; (try clear hs9); have hJ9 := JW_dn hL hJ9; have hs9 := JW_s hJ9; (try clear h58); have h58 := JW_2 hJ9; (try clear h5e); have h5e := JW_53e hJ9; (try simp only [hdl_c, S9_1, S9_m, bud9, live9, inb9, wrn, wr9_14, wr9_15, wr9_16, wr9_17, tq9_14, tq9_15, tq9_16, tq9_17, tq_0, tq_1, tq_3, upr_rl, rl_0, rl_1, rl_2, rl_3, rl_4, rl_5, rl_6, rl_7, rl_8, rl_9, rl_10, rl_11, rl_12, rl_13, sp_0, sp_1, sp_2, sp_3, sp_4, sp_5, sp_6, sp_7, sp_8, sp_9, sp_10, sp_11, sp_12, sp_13, se_0, se_1, se_2, se_3, se_4, se_5, se_6, se_7, se_8, se_9, se_10, se_11, se_12, se_13, sem_0, sem_1, sem_2, sem_3, sem_4, sem_5, List.getD_cons_zero, List.getD_cons_succ, Bool.false_eq_true, wrn3, wrn1, cpmS, cpok9, if_true, if_false, ↓reduceIte, wc_95, wc_169, wc_188, wc_194, wc_199, wc_203, wc_205, wc_225, wc_251, wc_267, sr_249_14, sr_249_35, kl9_249, sr_249_30, sr_249_57, sr_249_9, sr_249_23, sr_249_58, sr_249_61, kc_249, sr_249_63, sr_249_12, sr_249_64, sr_249_17, sr_249_67, sr_249_52, sr_249_41, sr_249_24, sr_249_34, sr_249_70, sr_249_51, sr_249_22, sr_249_25, sr_249_50, sr_249_13, sr_249_42, sr_249_68, sr_249_71, sr_249_43, sr_249_15, sr_249_8, sr_249_55, sr_249_69, sr_249_2, sr_249_16, sr_249_40, sr_249_11, sr_249_10, sr_249_54, sr_249_31, kl9_251, kc_251, kc_258, kl9_258, kl9_279, kc_279, kc_280, kl9_280, h58]); (try simp (disch := omega) only [w15_0, w15_1, w15_3, w15_4, w15_5, w15_6, w3_0, w3_1, w3_2, upm_app, Int.reduceEq, and_self, and_true, true_and, and_false, false_and, if_true, if_false, ↓reduceIte, h58]))
    | (with_reducible refine t_267 5 (d := d) (g := g) (tc := tc) (pl := pl) (N := N) (W := W) ?_ ?_ ?_ ?_ ?_ ?_ ?_ ?_ ?_ ?_ (fun v9 m9 hJ9 => ?_); (next => omega); (next => omega); (next => decide); (next => decide); (next => have := sv1i (w := m1 249 5) (b := b) (by omega) (by omega); omega); (next => have := sv1i (w := m1 249 5) (b := b) (by omega) (by omega); have := br0i (h := b) (by omega); omega); (next => first | omega | (have := JW_p hJ1 a; omega)); (next => decide); (next => have hsv := sv1i (w := m1 249 5) (b := b) (by omega) (by omega); exact fun r h0 h1 h2 => hA9 r h0 (hsv.2 r h0 h1 h2) h2); (next => with_reducible (refine JW_of hL ?_ (by decide); repeat (first | assumption | (exact JW_len0 (by assumption)) | (refine JW_up ?_ (by first | decide | (unfold frR; omega)) (by first | decide | simp [frc]) (by first | decide | simp [frw]) (by first | (simp [BdR]; done) | (simp [BdR] <;> first | omega | (unfold w32; omega)) | (simp [BdR, upm] <;> first | omega | (unfold w32; omega)) | (refine BdR_n (by simp) ?_; (first | (refine rb_at ?_ ?_ <;> first | omega | (simp only [upm_app]; (repeat' split) <;> omega)) | (refine rb_us ?_ ?_ <;> first | omega | (simp only [upm_app]; (repeat' split) <;> omega)) | (refine rb_ho ?_ ?_ <;> first | omega | (simp only [upm_app]; (repeat' split) <;> omega)) | (refine rb_on ?_ ?_ <;> first | omega | (simp only [upm_app]; (repeat' split) <;> omega)) | ((try simp (disch := omega) only [w32_eq]); (refine (rb_i ?_ ?_).2 ?_ <;> omega)) | (refine rb_us ?_ ?_ <;> first | omega | (unfold w32; omega)))))))); done); (try clear hs9); have hJ9 := JW_dn hL hJ9; have hs9 := JW_s hJ9; (try clear h58); have h58 := JW_2 hJ9; (try clear h5e); have h5e := JW_53e hJ9; (try simp only [hdl_c, S9_1, S9_m, bud9, live9, inb9, wrn, wr9_14, wr9_15, wr9_16, wr9_17, tq9_14, tq9_15, tq9_16, tq9_17, tq_0, tq_1, tq_3, upr_rl, rl_0, rl_1, rl_2, rl_3, rl_4, rl_5, rl_6, rl_7, rl_8, rl_9, rl_10, rl_11, rl_12, rl_13, sp_0, sp_1, sp_2, sp_3, sp_4, sp_5, sp_6, sp_7, sp_8, sp_9, sp_10, sp_11, sp_12, sp_13, se_0, se_1, se_2, se_3, se_4, se_5, se_6, se_7, se_8, se_9, se_10, se_11, se_12, se_13, sem_0, sem_1, sem_2, sem_3, sem_4, sem_5, List.getD_cons_zero, List.getD_cons_succ, Bool.false_eq_true, wrn3, wrn1, cpmS, cpok9, if_true, if_false, ↓reduceIte, wc_95, wc_169, wc_188, wc_194, wc_199, wc_203, wc_205, wc_225, wc_251, wc_267, sr_249_14, sr_249_35, kl9_249, sr_249_30, sr_249_57, sr_249_9, sr_249_23, sr_249_58, sr_249_61, kc_249, sr_249_63, sr_249_12, sr_249_64, sr_249_17, sr_249_67, sr_249_52, sr_249_41, sr_249_24, sr_249_34, sr_249_70, sr_249_51, sr_249_22, sr_249_25, sr_249_50, sr_249_13, sr_249_42, sr_249_68, sr_249_71, sr_249_43, sr_249_15, sr_249_8, sr_249_55, sr_249_69, sr_249_2, sr_249_16, sr_249_40, sr_249_11, sr_249_10, sr_249_54, sr_249_31, kl9_251, kc_251, kc_258, kl9_258, kl9_279, kc_279, kc_280, kl9_280, h58]); (try simp (disch := omega) only [w15_0, w15_1, w15_3, w15_4, w15_5, w15_6, w3_0, w3_1, w3_2, upm_app, Int.reduceEq, and_self, and_true, true_and, and_false, false_and, if_true, if_false, ↓reduceIte, h58]))
    | ((with_reducible refine s_95b ?_ (fun v9 h90 h91 => ?_)); (next => have := sv1i (w := m1 249 5) (b := b) (by omega) (by omega); omega); (try simp only [hdl_c, S9_1, S9_m, bud9, live9, inb9, wrn, wr9_14, wr9_15, wr9_16, wr9_17, tq9_14, tq9_15, tq9_16, tq9_17, tq_0, tq_1, tq_3, upr_rl, rl_0, rl_1, rl_2, rl_3, rl_4, rl_5, rl_6, rl_7, rl_8, rl_9, rl_10, rl_11, rl_12, rl_13, sp_0, sp_1, sp_2, sp_3, sp_4, sp_5, sp_6, sp_7, sp_8, sp_9, sp_10, sp_11, sp_12, sp_13, se_0, se_1, se_2, se_3, se_4, se_5, se_6, se_7, se_8, se_9, se_10, se_11, se_12, se_13, sem_0, sem_1, sem_2, sem_3, sem_4, sem_5, List.getD_cons_zero, List.getD_cons_succ, Bool.false_eq_true, wrn3, wrn1, cpmS, cpok9, if_true, if_false, ↓reduceIte, wc_95, wc_169, wc_188, wc_194, wc_199, wc_203, wc_205, wc_225, wc_251, wc_267, sr_249_14, sr_249_35, kl9_249, sr_249_30, sr_249_57, sr_249_9, sr_249_23, sr_249_58, sr_249_61, kc_249, sr_249_63, sr_249_12, sr_249_64, sr_249_17, sr_249_67, sr_249_52, sr_249_41, sr_249_24, sr_249_34, sr_249_70, sr_249_51, sr_249_22, sr_249_25, sr_249_50, sr_249_13, sr_249_42, sr_249_68, sr_249_71, sr_249_43, sr_249_15, sr_249_8, sr_249_55, sr_249_69, sr_249_2, sr_249_16, sr_249_40, sr_249_11, sr_249_10, sr_249_54, sr_249_31, kl9_251, kc_251, kc_258, kl9_258, kl9_279, kc_279, kc_280, kl9_280, h58]); (try simp (disch := omega) only [w15_0, w15_1, w15_3, w15_4, w15_5, w15_6, w3_0, w3_1, w3_2, upm_app, Int.reduceEq, and_self, and_true, true_and, and_false, false_and, if_true, if_false, ↓reduceIte, h58]))
    | (with_reducible refine whl_i (fun k r u => ∃ (i : Int) (m9 : Mem), r = rl [249, a, b, c, f, i] ∧ u = S9 e m9 ∧ JW 4 g tc pl N W m9 ∧ (0 ≤ i) ∧ (i + k = 6) ∧ (m9 249 1 ≤ i)) 6 ?_ ?_; (next => refine ⟨_, _, rfl, rfl, ?_, ?_, ?_, ?_⟩; (next => refine JW_of hL ?_ (by decide); repeat (first | assumption | (exact JW_len0 (by assumption)) | (refine JW_up ?_ (by first | decide | (unfold frR; omega)) (by first | decide | simp [frc]) (by first | decide | simp [frw]) (by first | (simp [BdR]; done) | (simp [BdR] <;> first | omega | (unfold w32; omega)) | (simp [BdR, upm] <;> first | omega | (unfold w32; omega)) | (refine BdR_n (by simp) ?_; (first | (refine rb_at ?_ ?_ <;> first | omega | (simp only [upm_app]; (repeat' split) <;> omega)) | (refine rb_us ?_ ?_ <;> first | omega | (simp only [upm_app]; (repeat' split) <;> omega)) | (refine rb_ho ?_ ?_ <;> first | omega | (simp only [upm_app]; (repeat' split) <;> omega)) | (refine rb_on ?_ ?_ <;> first | omega | (simp only [upm_app]; (repeat' split) <;> omega)) | ((try simp (disch := omega) only [w32_eq]); (refine (rb_i ?_ ?_).2 ?_ <;> omega)) | (refine rb_us ?_ ?_ <;> first | omega | (unfold w32; omega)))))))); (next => first | (with_reducible exact True.intro) | assumption | omega | (with_reducible rfl) | (unfold w32; omega) | (simp [upm]; done) | (simp [upm] <;> (first | omega | (unfold w32; omega)))); (next => first | (with_reducible exact True.intro) | assumption | omega | (with_reducible rfl) | (unfold w32; omega) | (simp [upm]; done) | (simp [upm] <;> (first | omega | (unfold w32; omega)))); (next => first | (with_reducible exact True.intro) | assumption | omega | (with_reducible rfl) | (unfold w32; omega) | (simp [upm]; done) | (simp [upm] <;> (first | omega | (unfold w32; omega))))); rintro k r u ⟨i, m9, rfl, rfl, hJ9, h9a, h9b, h9c⟩; (try clear hs9); have hJ9 := JW_dn hL hJ9; have hs9 := JW_s hJ9; (try clear h58); have h58 := JW_2 hJ9; (try clear h5e); have h5e := JW_53e hJ9; have hl9 := JW_s hJ9; have hl5 := JW_53e hJ9; simp only [cl_266, runB, B266, ma_266, rho_20000, wf_13_102, wf_13_13, wf_13_140, wf_13_36, wf_13_492, wf_13_495, wf_13_99, wpf_13_126, wpf_13_130, wpopadd_pf_13_130, wpf_13_492, wc_95, wc_169, wc_188, wc_194, wc_199, wc_203, wc_205, wc_225, wc_251, wc_267, w_cst, w_ldi, w_ldj, w_lda, w_ljk, w_ldk, w_ldw, w_ldk2, w_ldt, w_ldtw, w_neg, w_cvb, w_cvs, w_cvc, w_cvj, w_add, w_sub, w_mul, w_ban, w_bor, w_bxo, w_shl, w_shr, w_ush, w_dvi, w_rmi, w_aldi, w_aldj, w_aldz, w_aldc, w_alda, w_ite, w_cmp, w_cmj, w_cz, w_cnot, w_cand, w_cor, w_nil, w_cons, w_cvi, w_csta, w_cvt, w_cvv, w_csv, w_cpy, w_seq, w_sbr, w_sbn, w_brk, w_ifs, w_ifx, w_ife, w_wk, w_rets, w_rtv, w_thr, w_asi, w_asj, w_asa, w_inc, w_exs, w_asti, w_astj, w_astz, w_astc, w_aopadd, w_aopsub, w_sw, if_true, if_false, ↓reduceIte, hdl_c, S9_1, S9_m, bud9, live9, inb9, wrn, wr9_14, wr9_15, wr9_16, wr9_17, tq9_14, tq9_15, tq9_16, tq9_17, tq_0, tq_1, tq_3, upr_rl, rl_0, rl_1, rl_2, rl_3, rl_4, rl_5, rl_6, rl_7, rl_8, rl_9, rl_10, rl_11, rl_12, rl_13, sp_0, sp_1, sp_2, sp_3, sp_4, sp_5, sp_6, sp_7, sp_8, sp_9, sp_10, sp_11, sp_12, sp_13, se_0, se_1, se_2, se_3, se_4, se_5, se_6, se_7, se_8, se_9, se_10, se_11, se_12, se_13, sem_0, sem_1, sem_2, sem_3, sem_4, sem_5, sr_249_14, sr_249_35, kl9_249, sr_249_30, sr_249_57, sr_249_9, sr_249_23, sr_249_58, sr_249_61, kc_249, sr_249_63, sr_249_12, sr_249_64, sr_249_17, sr_249_67, sr_249_52, sr_249_41, sr_249_24, sr_249_34, sr_249_70, sr_249_51, sr_249_22, sr_249_25, sr_249_50, sr_249_13, sr_249_42, sr_249_68, sr_249_71, sr_249_43, sr_249_15, sr_249_8, sr_249_55, sr_249_69, sr_249_2, sr_249_16, sr_249_40, sr_249_11, sr_249_10, sr_249_54, sr_249_31, kl9_251, kc_251, kc_258, kl9_258, kl9_279, kc_279, kc_280, kl9_280, List.getD_cons_zero, List.getD_cons_succ, Bool.false_eq_true, wrn3, wrn1, cpmS, cpok9, h58]; (try simp (disch := omega) only [w15_0, w15_1, w15_3, w15_4, w15_5, w15_6, w3_0, w3_1, w3_2, upm_app, Int.reduceEq, and_self, and_true, true_and, and_false, false_and, if_true, if_false, ↓reduceIte, h58]))
    | (with_reducible refine hq _ _ (JW_1 (N := N) (W := W) ?_); (next => refine JW_of hL ?_ (by decide); repeat (first | assumption | (exact JW_len0 (by assumption)) | (refine JW_up ?_ (by first | decide | (unfold frR; omega)) (by first | decide | simp [frc]) (by first | decide | simp [frw]) (by first | (simp [BdR]; done) | (simp [BdR] <;> first | omega | (unfold w32; omega)) | (simp [BdR, upm] <;> first | omega | (unfold w32; omega)) | (refine BdR_n (by simp) ?_; (first | (refine rb_at ?_ ?_ <;> first | omega | (simp only [upm_app]; (repeat' split) <;> omega)) | (refine rb_us ?_ ?_ <;> first | omega | (simp only [upm_app]; (repeat' split) <;> omega)) | (refine rb_ho ?_ ?_ <;> first | omega | (simp only [upm_app]; (repeat' split) <;> omega)) | (refine rb_on ?_ ?_ <;> first | omega | (simp only [upm_app]; (repeat' split) <;> omega)) | ((try simp (disch := omega) only [w32_eq]); (refine (rb_i ?_ ?_).2 ?_ <;> omega)) | (refine rb_us ?_ ?_ <;> first | omega | (unfold w32; omega))))))); done))
    | (with_reducible refine hq _ _ (JW_1 (N := N) (W := w9) ?_); (next => refine JW_of hL ?_ (by decide); repeat (first | assumption | (exact JW_len0 (by assumption)) | (refine JW_up ?_ (by first | decide | (unfold frR; omega)) (by first | decide | simp [frc]) (by first | decide | simp [frw]) (by first | (simp [BdR]; done) | (simp [BdR] <;> first | omega | (unfold w32; omega)) | (simp [BdR, upm] <;> first | omega | (unfold w32; omega)) | (refine BdR_n (by simp) ?_; (first | (refine rb_at ?_ ?_ <;> first | omega | (simp only [upm_app]; (repeat' split) <;> omega)) | (refine rb_us ?_ ?_ <;> first | omega | (simp only [upm_app]; (repeat' split) <;> omega)) | (refine rb_ho ?_ ?_ <;> first | omega | (simp only [upm_app]; (repeat' split) <;> omega)) | (refine rb_on ?_ ?_ <;> first | omega | (simp only [upm_app]; (repeat' split) <;> omega)) | ((try simp (disch := omega) only [w32_eq]); (refine (rb_i ?_ ?_).2 ?_ <;> omega)) | (refine rb_us ?_ ?_ <;> first | omega | (unfold w32; omega))))))); done))
    | (with_reducible refine ⟨k - 1, ?_, _, _, rfl, rfl, ?_, ?_, ?_, ?_⟩; (next => omega); (next => refine JW_of hL ?_ (by decide); repeat (first | assumption | (exact JW_len0 (by assumption)) | (refine JW_up ?_ (by first | decide | (unfold frR; omega)) (by first | decide | simp [frc]) (by first | decide | simp [frw]) (by first | (simp [BdR]; done) | (simp [BdR] <;> first | omega | (unfold w32; omega)) | (simp [BdR, upm] <;> first | omega | (unfold w32; omega)) | (refine BdR_n (by simp) ?_; (first | (refine rb_at ?_ ?_ <;> first | omega | (simp only [upm_app]; (repeat' split) <;> omega)) | (refine rb_us ?_ ?_ <;> first | omega | (simp only [upm_app]; (repeat' split) <;> omega)) | (refine rb_ho ?_ ?_ <;> first | omega | (simp only [upm_app]; (repeat' split) <;> omega)) | (refine rb_on ?_ ?_ <;> first | omega | (simp only [upm_app]; (repeat' split) <;> omega)) | ((try simp (disch := omega) only [w32_eq]); (refine (rb_i ?_ ?_).2 ?_ <;> omega)) | (refine rb_us ?_ ?_ <;> first | omega | (unfold w32; omega)))))))); (next => first | (with_reducible exact True.intro) | assumption | omega | (with_reducible rfl) | (unfold w32; omega) | (simp [upm]; done) | (simp [upm] <;> (first | omega | (unfold w32; omega)))); (next => first | (with_reducible exact True.intro) | assumption | omega | (with_reducible rfl) | (unfold w32; omega) | (simp [upm]; done) | (simp [upm] <;> (first | omega | (unfold w32; omega)))); (next => first | (with_reducible exact True.intro) | assumption | omega | (with_reducible rfl) | (unfold w32; omega) | (simp [upm]; done) | (simp [upm] <;> (first | omega | (unfold w32; omega)))))
    | (unfold w32; omega)
    | (simp (disch := omega) only [w32_eq]; omega)
    | (with_reducible show (_ : Int) ≤ _; simp [upm] <;> (first | omega | (unfold w32; omega)))
    | (with_reducible show (_ : Int) < _; simp [upm] <;> (first | omega | (unfold w32; omega))))
end
section
/-! the rule's call of the reference -/
def JV (pl : Int) (m : Mem) : Prop := (m 249 3 = pl ∨ m 249 3 = 0 ∧ pl = 1) ∧ (∀ w, 0 ≤ w → w < m 249 4 → 1 ≤ m 254 w)
theorem COK_eq {c c' : Int → Int} {n : Int} (h : COK c n) (e : ∀ j, 0 ≤ j → j < n → c' j = c j) : COK c' n := by
  intro k hk
  rw [hgt_eq (c := c') (c' := c) k (fun q hq => e q (by omega) (by omega)), e k (by omega) hk]
  exact h k hk
theorem RC_0 {m : Mem} : RC (upm m 249 33 0) 0 := by
  refine ⟨by rw [upm_v]; decide, ?_, ?_⟩
  · rw [upm_v]; intro k hk; omega
  · rw [upm_v]; rfl
theorem JV_up {pl : Int} {m : Mem} {a j v : Int} (h : JV pl m) (h1 : a = 249 → j ≠ 3 ∧ j ≠ 4) (h2 : 254 ≠ a) : JV pl (upm m a j v) := by
  have e3 : upm m a j v 249 3 = m 249 3 := upn (fun q => by have := h1 q.symm; omega)
  have e4 : upm m a j v 249 4 = m 249 4 := upn (fun q => by have := h1 q.symm; omega)
  have e5 : upm m a j v 254 = m 254 := by funext y; exact upm_a _ _ _ _ _ _ h2
  unfold JV; rw [e3, e4, e5]; exact h
end
section
/-! keep and again, to the letter -/
theorem JC_re {l l' : Nat} {g : Fg} {tc tc' : Int} {m m' : Mem} (hl : l ≤ l') (h : JC l g tc m) (h' : JC l' (gC l' m) tc' m') : JC l g tc' m' :=
  ⟨⟨h'.1.1, h.1.2⟩, fun x j q => (h'.2.1 x j (frC_le hl (h.1.2 x j q))).trans (h.2.1 x j q), h'.2.2⟩
theorem kbit {x a i : Int} (ha : 0 ≤ a ∧ a < 3) (hi : 0 ≤ i ∧ i < 3) : iand (ishr (ior x (ishl 1 a)) i) 1 ≠ 0 ↔ (i = a ∨ iand (ishr x i) 1 ≠ 0) := by
  obtain ⟨a, rfl⟩ := Int.eq_ofNat_of_zero_le ha.1
  obtain ⟨i, rfl⟩ := Int.eq_ofNat_of_zero_le hi.1
  rw [bit_ask (by omega), bit_ask (by omega), tb_or, tb_bit (by omega) (by omega)]
  by_cases h : i = a
  · subst h; simp
  · have h2 : ¬ (i : Int) = a := by omega
    simp [h, h2]
theorem kbit0 (i : Int) : iand (ishr 0 i) 1 = 0 ∨ i < 0 ∨ 3 ≤ i := by
  by_cases h : i < 0 ∨ 3 ≤ i
  · exact Or.inr h
  · left
    have : i = 0 ∨ i = 1 ∨ i = 2 := by omega
    rcases this with rfl | rfl | rfl <;> decide
/-- which rows are kept, and how often THE KITCHEN has changed (n calls are still to come) -/
def RB (n : Nat) (m : Mem) : Prop := (0 ≤ m 249 7 ∧ m 249 7 + n ≤ 512) ∧ ∀ i, 0 ≤ i → i < 3 → m 286 i ≤ m 249 7 ∧ (iand (ishr (m 1 12) i) 1 ≠ 0 ↔ m 285 i ≠ 0 ∧ m 286 i = m 249 7)
theorem RB_fr {n k : Nat} {m m' : Mem} (hk : k ≤ n) (e1 : m' 1 12 = m 1 12) (e7 : m' 249 7 = m 249 7) (e85 : ∀ j, m' 285 j = m 285 j) (e86 : ∀ j, m' 286 j = m 286 j) (h : RB n m) : RB k m' := by
  obtain ⟨⟨h0, h1⟩, h2⟩ := h
  refine ⟨⟨by omega, by omega⟩, fun i i0 i1 => ?_⟩
  rw [e1, e7, e85, e86]
  exact h2 i i0 i1
theorem RB_keep {n : Nat} {m m' : Mem} {a : Int} (ha : 0 ≤ a ∧ a < 3) (e1 : m' 1 12 = ior (m 1 12) (ishl 1 a)) (e7 : m' 249 7 = m 249 7) (e85 : ∀ j, m' 285 j = if j = a then 1 else m 285 j) (e86 : ∀ j, m' 286 j = if j = a then m 249 7 else m 286 j) (h : RB (n + 1) m) : RB n m' := by
  obtain ⟨⟨h0, h1⟩, h2⟩ := h
  refine ⟨⟨by omega, by omega⟩, fun i i0 i1 => ?_⟩
  obtain ⟨h3, h4⟩ := h2 i i0 i1
  rw [e1, e7, e85, e86, kbit ha ⟨i0, i1⟩]
  by_cases q : i = a
  · rw [if_pos q, if_pos q]; exact ⟨Int.le_refl _, fun _ => ⟨by decide, rfl⟩, fun _ => Or.inl q⟩
  · rw [if_neg q, if_neg q]; exact ⟨h3, fun z => h4.1 (z.resolve_left q), fun z => Or.inr (h4.2 z)⟩
theorem RB_kit {n : Nat} {m m' : Mem} (e1 : m' 1 12 = 0) (e7 : m' 249 7 = w32 (m 249 7 + 1)) (e85 : ∀ j, m' 285 j = m 285 j) (e86 : ∀ j, m' 286 j = m 286 j) (h : RB (n + 1) m) : RB n m' := by
  obtain ⟨⟨h0, h1⟩, h2⟩ := h
  have e : w32 (m 249 7 + 1) = m 249 7 + 1 := by unfold w32; omega
  rw [e] at e7
  refine ⟨⟨by omega, by omega⟩, fun i i0 i1 => ?_⟩
  obtain ⟨h3, -⟩ := h2 i i0 i1
  rw [e1, e7, e85, e86]
  refine ⟨by omega, fun z => absurd ((kbit0 i).resolve_right (by omega)) z, fun z => absurd z.2 (by omega)⟩
end
section
/-! THE RULE's text, by one pure reading: whether it can be read (1 or 0), how far, what it is worth -/
abbrev ENV : Type := Int → Int
abbrev DEN : Type := ENV → Int
abbrev RD : Type := Int × Int × DEN
def RgE (s : ENV) : Prop := ∀ k, inI (s k)
def dz : DEN := fun _ => 0
abbrev isc (c : Int) : Prop := c = 60 ∨ c = 62 ∨ c = 61
abbrev isp (c : Int) : Prop := c = 43 ∨ c = 45
abbrev ism (c : Int) : Prop := c = 42 ∨ c = 47
abbrev nam (c : Int) : Prop := c = 104 ∨ c = 102 ∨ c = 110 ∨ c = 98 ∨ c = 115 ∨ c = 105 ∨ c = 112 ∨ c = 114
def nmi (c : Int) : Int := if c = 104 then 0 else if c = 102 then 1 else if c = 110 then 2 else if c = 98 then 3 else if c = 115 then 4 else if c = 105 then 5 else if c = 112 then 6 else 7
def cmb (c a b : Int) : Int := if c = 60 then (if a < b then 1 else 0) else if c = 62 then (if b < a then 1 else 0) else if c = 61 then (if a = b then 1 else 0) else if c = 43 then w32 (a + b) else if c = 45 then w32 (a - b) else if c = 42 then w32 (a * b) else if b = 0 then 0 else idv a b
def cmbD (c : Int) (f g : DEN) : DEN := fun s => cmb c (f s) (g s)
def ngD (n : Int) (f : DEN) : DEN := if n % 2 = 1 then (fun s => w32 (-(f s))) else f
def mns (T : Int → Int) (L : Int) : Nat → Int → Int
  | 0, p => p
  | n + 1, p => if p < L ∧ T p = 45 then mns T L n (p + 1) else p
def repT (T : Int → Int) (L : Int) (f : Int → RD) (S : Int → Prop) [DecidablePred S] : Nat → Int → DEN → RD
  | 0, q, _ => (0, q, dz)
  | n + 1, q, acc => if q < L ∧ S (T q) then (if (f (q + 1)).1 = 1 then repT T L f S n (f (q + 1)).2.1 (cmbD (T q) acc (f (q + 1)).2.2) else (0, (f (q + 1)).2.1, dz)) else (1, q, acc)
def rep (T : Int → Int) (L : Int) (f : Int → RD) (S : Int → Prop) [DecidablePred S] (p : Int) : RD := if (f p).1 = 1 then repT T L f S 41 (f p).2.1 (f p).2.2 else (0, (f p).2.1, dz)
def thg (T : Int → Int) (L : Int) (d : Nat) (E : Int → RD) (p : Int) : RD :=
  if p < L ∧ T p = 40 then (if d = 0 then (0, p, dz) else if (E (p + 1)).1 = 1 then (if (E (p + 1)).2.1 < L ∧ T (E (p + 1)).2.1 = 41 then (1, (E (p + 1)).2.1 + 1, (E (p + 1)).2.2) else (0, (E (p + 1)).2.1, dz)) else (0, (E (p + 1)).2.1, dz))
  else if dgt T L p then (1, (nv T L 3 0 p).2, fun _ => (nv T L 3 0 p).1) else if p < L ∧ nam (T p) then (1, p + 1, fun s => s (nmi (T p))) else (0, p, dz)
def fctF (T : Int → Int) (L : Int) (d : Nat) (E : Int → RD) (p : Int) : RD := ((thg T L d E (mns T L 41 p)).1, (thg T L d E (mns T L 41 p)).2.1, ngD (mns T L 41 p - p) (thg T L d E (mns T L 41 p)).2.2)
def prdF (T : Int → Int) (L : Int) (d : Nat) (E : Int → RD) (p : Int) : RD := rep T L (fctF T L d E) ism p
def smmF (T : Int → Int) (L : Int) (d : Nat) (E : Int → RD) (p : Int) : RD := rep T L (prdF T L d E) isp p
def exqF (T : Int → Int) (L : Int) (d : Nat) (E : Int → RD) (p : Int) : RD := if (smmF T L d E p).1 = 1 ∧ (smmF T L d E p).2.1 < L ∧ isc (T (smmF T L d E p).2.1) then (if (smmF T L d E ((smmF T L d E p).2.1 + 1)).1 = 1 then (1, (smmF T L d E ((smmF T L d E p).2.1 + 1)).2.1, cmbD (T (smmF T L d E p).2.1) (smmF T L d E p).2.2 (smmF T L d E ((smmF T L d E p).2.1 + 1)).2.2) else (0, (smmF T L d E ((smmF T L d E p).2.1 + 1)).2.1, dz)) else smmF T L d E p
def EXp (T : Int → Int) (L : Int) : Nat → Int → RD
  | 0 => exqF T L 0 (fun p => (0, p, dz))
  | d + 1 => exqF T L (d + 1) (EXp T L d)
/-- what stands in brackets when d may still be opened -/
def INN (T : Int → Int) (L : Int) : Nat → Int → RD
  | 0 => fun p => (0, p, dz)
  | d + 1 => EXp T L d
theorem EX_I (T : Int → Int) (L : Int) (d : Nat) : EXp T L d = exqF T L d (INN T L d) := by cases d <;> rfl
theorem INN_s (T : Int → Int) (L : Int) (n : Nat) : INN T L (n + 1) = EXp T L n := rfl
section
variable {T T' : Int → Int} {L : Int}
theorem mns_y {p : Int} (n : Nat) (h : p < L ∧ T p = 45) : mns T L (n + 1) p = mns T L n (p + 1) := by
  show (if p < L ∧ T p = 45 then _ else _) = _
  rw [if_pos h]
theorem mns_n {p : Int} (n : Nat) (h : ¬ (p < L ∧ T p = 45)) : mns T L n p = p := by
  cases n with
  | zero => rfl
  | succ n => show (if p < L ∧ T p = 45 then _ else _) = _; rw [if_neg h]
theorem mns_r : ∀ (n : Nat) (p : Int), p ≤ mns T L n p ∧ (p ≤ L → mns T L n p ≤ L)
  | 0, p => ⟨Int.le_refl _, fun h => h⟩
  | n + 1, p => by
    by_cases h : p < L ∧ T p = 45
    · rw [mns_y n h]
      obtain ⟨a, b⟩ := mns_r n (p + 1)
      exact ⟨by omega, fun _ => b (by omega)⟩
    · rw [mns_n _ h]; exact ⟨Int.le_refl _, fun h => h⟩
theorem mns_x : ∀ (n k : Nat) (p : Int), L - p < n → L - p < k → mns T L n p = mns T L k p
  | 0, k, p, h, h2 => by rw [mns_n _ (fun q => by omega), mns_n _ (fun q => by omega)]
  | n + 1, 0, p, h, h2 => by rw [mns_n _ (fun q => by omega), mns_n _ (fun q => by omega)]
  | n + 1, k + 1, p, h, h2 => by
    by_cases q : p < L ∧ T p = 45
    · rw [mns_y n q, mns_y k q]; exact mns_x n k _ (by omega) (by omega)
    · rw [mns_n _ q, mns_n _ q]
theorem repT_y {f : Int → RD} {S : Int → Prop} [DecidablePred S] {q : Int} {acc : DEN} (n : Nat) (h : q < L ∧ S (T q)) (h1 : (f (q + 1)).1 = 1) : repT T L f S (n + 1) q acc = repT T L f S n (f (q + 1)).2.1 (cmbD (T q) acc (f (q + 1)).2.2) := by
  show (if _ then _ else _) = _
  rw [if_pos h, if_pos h1]
theorem repT_x {f : Int → RD} {S : Int → Prop} [DecidablePred S] {q : Int} {acc : DEN} (n : Nat) (h : q < L ∧ S (T q)) (h1 : (f (q + 1)).1 ≠ 1) : repT T L f S (n + 1) q acc = (0, (f (q + 1)).2.1, dz) := by
  show (if _ then _ else _) = _
  rw [if_pos h, if_neg h1]
theorem repT_z {f : Int → RD} {S : Int → Prop} [DecidablePred S] {q : Int} {acc : DEN} (n : Nat) (h : ¬ (q < L ∧ S (T q))) : repT T L f S (n + 1) q acc = (1, q, acc) := by
  show (if _ then _ else _) = _
  rw [if_neg h]
theorem rep_y {f : Int → RD} {S : Int → Prop} [DecidablePred S] {p : Int} (h : (f p).1 = 1) : rep T L f S p = repT T L f S 41 (f p).2.1 (f p).2.2 := if_pos h
theorem rep_x {f : Int → RD} {S : Int → Prop} [DecidablePred S] {p : Int} (h : (f p).1 ≠ 1) : rep T L f S p = (0, (f p).2.1, dz) := if_neg h
/-- it reads on, and not beyond the end -/
def Rng (L : Int) (f : Int → RD) : Prop := ∀ p, ((f p).1 = 0 ∨ (f p).1 = 1) ∧ p ≤ (f p).2.1 ∧ (p ≤ L → (f p).2.1 ≤ L)
theorem repT_r {f : Int → RD} {S : Int → Prop} [DecidablePred S] (hf : Rng L f) : ∀ (n : Nat) (q : Int) (acc : DEN), ((repT T L f S n q acc).1 = 0 ∨ (repT T L f S n q acc).1 = 1) ∧ q ≤ (repT T L f S n q acc).2.1 ∧ (q ≤ L → (repT T L f S n q acc).2.1 ≤ L)
  | 0, q, acc => ⟨Or.inl rfl, Int.le_refl _, fun h => h⟩
  | n + 1, q, acc => by
    by_cases h : q < L ∧ S (T q)
    · obtain ⟨a, b, c⟩ := hf (q + 1)
      by_cases h1 : (f (q + 1)).1 = 1
      · rw [repT_y n h h1]
        obtain ⟨a2, b2, c2⟩ := repT_r (S := S) hf n (f (q + 1)).2.1 (cmbD (T q) acc (f (q + 1)).2.2)
        exact ⟨a2, by omega, fun _ => c2 (c (by omega))⟩
      · rw [repT_x n h h1]; exact ⟨Or.inl rfl, (by show q ≤ (f (q + 1)).2.1; omega), fun _ => c (by omega)⟩
    · rw [repT_z n h]; exact ⟨Or.inr rfl, Int.le_refl _, fun h => h⟩
theorem rep_r {f : Int → RD} {S : Int → Prop} [DecidablePred S] (hf : Rng L f) : Rng L (rep T L f S) := fun p => by
  obtain ⟨a, b, c⟩ := hf p
  by_cases h : (f p).1 = 1
  · rw [rep_y h]
    obtain ⟨a2, b2, c2⟩ := repT_r (T := T) (S := S) hf 41 (f p).2.1 (f p).2.2
    exact ⟨a2, by omega, fun z => c2 (c z)⟩
  · rw [rep_x h]; exact ⟨Or.inl rfl, b, c⟩
theorem thg_r {d : Nat} {E : Int → RD} (hE : Rng L E) : Rng L (thg T L d E) := fun p => by
  obtain ⟨a, b, c⟩ := hE (p + 1)
  obtain ⟨n1, n2, n3, n4⟩ := nv_r (T := T) (L := L) 3 0 p (by decide)
  unfold thg
  repeat' split
  all_goals (refine ⟨?_, ?_, fun hp => ?_⟩ <;> ((try dsimp only); omega))
theorem fct_r {d : Nat} {E : Int → RD} (hE : Rng L E) : Rng L (fctF T L d E) := fun p => by
  obtain ⟨a, b⟩ := mns_r (T := T) (L := L) 41 p
  obtain ⟨a2, b2, c2⟩ := thg_r (T := T) (d := d) hE (mns T L 41 p)
  exact ⟨a2, Int.le_trans a b2, fun h => c2 (b h)⟩
theorem prd_r {d : Nat} {E : Int → RD} (hE : Rng L E) : Rng L (prdF T L d E) := rep_r (fct_r hE)
theorem smm_r {d : Nat} {E : Int → RD} (hE : Rng L E) : Rng L (smmF T L d E) := rep_r (prd_r hE)
theorem exq_r {d : Nat} {E : Int → RD} (hE : Rng L E) : Rng L (exqF T L d E) := fun p => by
  have h1 := smm_r (T := T) (d := d) hE p
  have h2 := smm_r (T := T) (d := d) hE ((smmF T L d E p).2.1 + 1)
  obtain ⟨a1, b1, c1⟩ := h1
  obtain ⟨a2, b2, c2⟩ := h2
  unfold exqF
  split
  · split
    · refine ⟨Or.inr rfl, ?_, fun _ => ?_⟩ <;> (dsimp only; omega)
    · refine ⟨Or.inl rfl, ?_, fun _ => ?_⟩ <;> (dsimp only; omega)
  · exact ⟨a1, b1, c1⟩
theorem rng_0 : Rng L (fun p => (0, p, dz)) := fun p => ⟨Or.inl rfl, Int.le_refl _, fun h => h⟩
theorem EX_r : ∀ d, Rng L (EXp T L d)
  | 0 => exq_r rng_0
  | d + 1 => exq_r (EX_r d)
theorem INN_r : ∀ d, Rng L (INN T L d)
  | 0 => rng_0
  | d + 1 => EX_r d
/-- two texts that are alike as far as one may read -/
def FE (_ : Int) (f f' : Int → RD) : Prop := ∀ p, 0 ≤ p → f' p = f p
theorem mns_e (hT : ∀ j, 0 ≤ j → j < L → T' j = T j) : ∀ (n : Nat) (p : Int), 0 ≤ p → mns T' L n p = mns T L n p
  | 0, _, _ => rfl
  | n + 1, p, h => by
    by_cases q : p < L ∧ T p = 45
    · rw [mns_y n q, mns_y (T := T') n ⟨q.1, by rw [hT p h q.1]; exact q.2⟩]; exact mns_e hT n _ (by omega)
    · rw [mns_n _ q, mns_n (T := T') _ (fun z => q ⟨z.1, by rw [← hT p h z.1]; exact z.2⟩)]
theorem repT_e (hT : ∀ j, 0 ≤ j → j < L → T' j = T j) {f f' : Int → RD} {S : Int → Prop} [DecidablePred S] (hf : FE L f f') (hr : Rng L f) : ∀ (n : Nat) (q : Int) (acc : DEN), 0 ≤ q → repT T' L f' S n q acc = repT T L f S n q acc
  | 0, _, _, _ => rfl
  | n + 1, q, acc, hq => by
    have e := hf (q + 1) (by omega)
    obtain ⟨a, b, c⟩ := hr (q + 1)
    by_cases h : q < L ∧ S (T q)
    · have e1 : T' q = T q := hT q hq h.1
      have h' : q < L ∧ S (T' q) := ⟨h.1, by rw [e1]; exact h.2⟩
      by_cases h1 : (f (q + 1)).1 = 1
      · rw [repT_y n h h1, repT_y (T := T') n h' (by rw [e]; exact h1), e, e1]
        exact repT_e hT hf hr n _ _ (by omega)
      · rw [repT_x n h h1, repT_x (T := T') n h' (by rw [e]; exact h1), e]
    · rw [repT_z n h, repT_z (T := T') n (fun z => h ⟨z.1, by rw [← hT q hq z.1]; exact z.2⟩)]
theorem rep_e (hT : ∀ j, 0 ≤ j → j < L → T' j = T j) {f f' : Int → RD} {S : Int → Prop} [DecidablePred S] (hf : FE L f f') (hr : Rng L f) : FE L (rep T L f S) (rep T' L f' S) := fun p hp => by
  have e := hf p hp
  obtain ⟨a, b, c⟩ := hr p
  by_cases h : (f p).1 = 1
  · rw [rep_y h, rep_y (T := T') (f := f') (by rw [e]; exact h), e]
    exact repT_e hT hf hr 41 _ _ (by omega)
  · rw [rep_x h, rep_x (T := T') (f := f') (by rw [e]; exact h), e]
theorem dgt_e (hT : ∀ j, 0 ≤ j → j < L → T' j = T j) {p : Int} (hp : 0 ≤ p) : dgt T' L p ↔ dgt T L p := by
  unfold dgt
  by_cases q : p < L
  · rw [hT p hp q]
  · constructor <;> (intro z; exact absurd z.1 q)
theorem thg_e (hT : ∀ j, 0 ≤ j → j < L → T' j = T j) {d : Nat} {E E' : Int → RD} (hE : FE L E E') (hr : Rng L E) : FE L (thg T L d E) (thg T' L d E') := fun p hp => by
  have e := hE (p + 1) (by omega)
  obtain ⟨a, b, c⟩ := hr (p + 1)
  by_cases q : p < L
  · have e1 : T' p = T p := hT p hp q
    have g : ((E (p + 1)).2.1 < L ∧ T' (E (p + 1)).2.1 = 41) ↔ ((E (p + 1)).2.1 < L ∧ T (E (p + 1)).2.1 = 41) := by
      by_cases z : (E (p + 1)).2.1 < L
      · rw [hT _ (by omega) z]
      · constructor <;> (intro y; exact absurd y.1 z)
    unfold thg
    rw [e, nv_e hT 3 0 p hp]
    simp only [dgt_e hT hp, g, e1]
  · unfold thg
    simp only [dgt, q, false_and, if_false]
theorem fct_e (hT : ∀ j, 0 ≤ j → j < L → T' j = T j) {d : Nat} {E E' : Int → RD} (hE : FE L E E') (hr : Rng L E) : FE L (fctF T L d E) (fctF T' L d E') := fun p hp => by
  have h := thg_e hT (d := d) hE hr (mns T L 41 p) (by have := (mns_r (T := T) (L := L) 41 p).1; omega)
  unfold fctF
  rw [mns_e hT 41 p hp, h]
theorem exq_e (hT : ∀ j, 0 ≤ j → j < L → T' j = T j) {d : Nat} {E E' : Int → RD} (hE : FE L E E') (hr : Rng L E) : FE L (exqF T L d E) (exqF T' L d E') := fun p hp => by
  have h1 : FE L (smmF T L d E) (smmF T' L d E') := rep_e hT (rep_e hT (fct_e hT hE hr) (fct_r hr)) (prd_r hr)
  have e := h1 p hp
  obtain ⟨a, b, c⟩ := smm_r (T := T) (d := d) hr p
  have e2 := h1 ((smmF T L d E p).2.1 + 1) (by omega)
  by_cases q : (smmF T L d E p).2.1 < L
  · have e1 : T' (smmF T L d E p).2.1 = T (smmF T L d E p).2.1 := hT _ (by omega) q
    unfold exqF
    rw [e, e2, e1]
  · unfold exqF
    rw [e]
    simp only [q, false_and, and_false, if_false]
theorem EX_e (hT : ∀ j, 0 ≤ j → j < L → T' j = T j) : ∀ d, FE L (EXp T L d) (EXp T' L d)
  | 0 => exq_e hT (fun _ _ => rfl) rng_0
  | d + 1 => exq_e hT (EX_e hT d) (EX_r d)
theorem nv_p {p : Int} (h : dgt T L p) : p + 1 ≤ (nv T L 3 0 p).2 := by
  rw [nv_y 2 h]; exact (nv_r 2 _ _ (by unfold dgt at h; omega)).1
/-- a thing, case by case -/
theorem thg_d {d : Nat} {E : Int → RD} {p : Int} (h : dgt T L p) : thg T L d E p = (1, (nv T L 3 0 p).2, fun _ => (nv T L 3 0 p).1) := by
  unfold thg; rw [if_neg (by unfold dgt at h; omega), if_pos h]
theorem thg_n {d : Nat} {E : Int → RD} {p : Int} (h : p < L) (h1 : nam (T p)) : thg T L d E p = (1, p + 1, fun s => s (nmi (T p))) := by
  unfold thg; rw [if_neg (by unfold nam at h1; omega), if_neg (by unfold nam at h1; unfold dgt; omega), if_pos ⟨h, h1⟩]
theorem thg_0 {E : Int → RD} {p : Int} (h : p < L) (h1 : T p = 40) : thg T L 0 E p = (0, p, dz) := by
  unfold thg; rw [if_pos ⟨h, h1⟩, if_pos rfl]
theorem thg_z {E : Int → RD} {p : Int} (h1 : ¬ dgt T L p) (h2 : ¬ (p < L ∧ nam (T p))) : thg T L 0 E p = (0, p, dz) := by
  unfold thg
  by_cases h : p < L ∧ T p = 40
  · rw [if_pos h, if_pos rfl]
  · rw [if_neg h, if_neg h1, if_neg h2]
theorem thg_y {d : Nat} {E : Int → RD} {p : Int} (h : p < L) (h1 : T p = 40) (h2 : (E (p + 1)).1 = 1) (h3 : (E (p + 1)).2.1 < L) (h4 : T (E (p + 1)).2.1 = 41) : thg T L (d + 1) E p = (1, (E (p + 1)).2.1 + 1, (E (p + 1)).2.2) := by
  unfold thg; rw [if_pos ⟨h, h1⟩, if_neg (Nat.succ_ne_zero d), if_pos h2, if_pos ⟨h3, h4⟩]
theorem thg_f {d : Nat} {E : Int → RD} {p : Int} (h : p < L) (h1 : T p = 40) (h2 : ¬ ((E (p + 1)).1 = 1 ∧ (E (p + 1)).2.1 < L ∧ T (E (p + 1)).2.1 = 41)) : thg T L (d + 1) E p = (0, (E (p + 1)).2.1, dz) := by
  unfold thg; rw [if_pos ⟨h, h1⟩, if_neg (Nat.succ_ne_zero d)]
  by_cases z : (E (p + 1)).1 = 1
  · rw [if_pos z, if_neg (fun y => h2 ⟨z, y⟩)]
  · rw [if_neg z]
theorem thg_x {d : Nat} {E : Int → RD} {p : Int} (h : ¬ (p < L ∧ T p = 40)) (h1 : ¬ dgt T L p) (h2 : ¬ (p < L ∧ nam (T p))) : thg T L d E p = (0, p, dz) := by
  unfold thg; rw [if_neg h, if_neg h1, if_neg h2]
theorem exq_n {d : Nat} {E : Int → RD} {p : Int} (h : ¬ ((smmF T L d E p).1 = 1 ∧ (smmF T L d E p).2.1 < L ∧ isc (T (smmF T L d E p).2.1))) : exqF T L d E p = smmF T L d E p := if_neg h
theorem exq_y {d : Nat} {E : Int → RD} {p : Int} (h : (smmF T L d E p).1 = 1 ∧ (smmF T L d E p).2.1 < L ∧ isc (T (smmF T L d E p).2.1)) (h1 : (smmF T L d E ((smmF T L d E p).2.1 + 1)).1 = 1) : exqF T L d E p = (1, (smmF T L d E ((smmF T L d E p).2.1 + 1)).2.1, cmbD (T (smmF T L d E p).2.1) (smmF T L d E p).2.2 (smmF T L d E ((smmF T L d E p).2.1 + 1)).2.2) := by
  unfold exqF; rw [if_pos h, if_pos h1]
theorem exq_x {d : Nat} {E : Int → RD} {p : Int} (h : (smmF T L d E p).1 = 1 ∧ (smmF T L d E p).2.1 < L ∧ isc (T (smmF T L d E p).2.1)) (h1 : (smmF T L d E ((smmF T L d E p).2.1 + 1)).1 ≠ 1) : exqF T L d E p = (0, (smmF T L d E ((smmF T L d E p).2.1 + 1)).2.1, dz) := by
  unfold exqF; rw [if_pos h, if_neg h1]
/-- what things are worth is an int -/
def DI (f : Int → RD) : Prop := ∀ p s, RgE s → inI ((f p).2.2 s)
theorem cmb_in {c a b : Int} : inI (cmb c a b) := by
  have h0 : inI 0 := by unfold inI; omega
  have h1 : inI 1 := by unfold inI; omega
  unfold cmb
  repeat' split
  all_goals (first | exact h0 | exact h1 | exact w32_in _ | exact toInt_in _)
theorem dz_in (s : ENV) : inI (dz s) := by show inI 0; unfold inI; omega
theorem ng_in {n : Int} {f : DEN} {s : ENV} (h : inI (f s)) : inI (ngD n f s) := by
  unfold ngD
  split
  · exact w32_in _
  · exact h
theorem repT_i {f : Int → RD} {S : Int → Prop} [DecidablePred S] : ∀ (n : Nat) (q : Int) (acc : DEN) (s : ENV), inI (acc s) → inI ((repT T L f S n q acc).2.2 s)
  | 0, _, _, s, _ => dz_in s
  | n + 1, q, acc, s, h => by
    by_cases z : q < L ∧ S (T q)
    · by_cases h1 : (f (q + 1)).1 = 1
      · rw [repT_y n z h1]; exact repT_i n _ _ s cmb_in
      · rw [repT_x n z h1]; exact dz_in s
    · rw [repT_z n z]; exact h
theorem rep_i {f : Int → RD} {S : Int → Prop} [DecidablePred S] (hf : DI f) : DI (rep T L f S) := fun p s hs => by
  by_cases h : (f p).1 = 1
  · rw [rep_y h]; exact repT_i 41 _ _ s (hf p s hs)
  · rw [rep_x h]; exact dz_in s
theorem nv_3 {p : Int} : inI (nv T L 3 0 p).1 := by
  have key : ∀ (n : Nat) (v q : Int), 0 ≤ v → (nv T L n v q).1 < (v + 1) * 10 ^ n ∧ 0 ≤ (nv T L n v q).1 := by
    intro n
    induction n with
    | zero => intro v q h; rw [nv_0]; constructor <;> simp <;> omega
    | succ n ih =>
      intro v q h
      by_cases z : dgt T L q
      · rw [nv_y n z]
        obtain ⟨a, b⟩ := ih (10 * v + T q - 48) (q + 1) (by unfold dgt at z; omega)
        refine ⟨Int.lt_of_lt_of_le a ?_, b⟩
        rw [Int.pow_succ, Int.mul_comm (10 ^ n) 10, ← Int.mul_assoc]
        exact Int.mul_le_mul_of_nonneg_right (by unfold dgt at z; omega) (Int.pow_nonneg (by decide))
      · rw [nv_n _ z]
        refine ⟨?_, h⟩
        have h1 : (v + 1) * 1 ≤ (v + 1) * 10 ^ (n + 1) := Int.mul_le_mul_of_nonneg_left (Int.add_one_le_of_lt (Int.pow_pos (by decide))) (by omega)
        show v < _
        omega
  obtain ⟨a, b⟩ := key 3 0 p (by decide)
  have h3 : ((0 : Int) + 1) * 10 ^ 3 = 1000 := by decide
  rw [h3] at a
  unfold inI
  omega
theorem thg_i {d : Nat} {E : Int → RD} (hE : DI E) : DI (thg T L d E) := fun p s hs => by
  have h := hE (p + 1) s hs
  have h3 := nv_3 (T := T) (L := L) (p := p)
  have h4 := hs (nmi (T p))
  unfold thg
  repeat' split
  all_goals (first | exact dz_in s | exact h | exact h3 | exact h4)
theorem fct_i {d : Nat} {E : Int → RD} (hE : DI E) : DI (fctF T L d E) := fun p s hs => ng_in (thg_i hE _ s hs)
theorem smm_i {d : Nat} {E : Int → RD} (hE : DI E) : DI (smmF T L d E) := rep_i (rep_i (fct_i hE))
theorem exq_i {d : Nat} {E : Int → RD} (hE : DI E) : DI (exqF T L d E) := fun p s hs => by
  have h1 := smm_i (T := T) (L := L) (d := d) hE p s hs
  unfold exqF
  split
  · split
    · exact cmb_in
    · exact dz_in s
  · exact h1
theorem EX_i : ∀ d, DI (EXp T L d)
  | 0 => exq_i (fun _ s _ => dz_in s)
  | d + 1 => exq_i (EX_i d)
theorem INN_i : ∀ d, DI (INN T L d)
  | 0 => fun _ s _ => dz_in s
  | d + 1 => EX_i d
end
/-- what rule answers -/
def RV (T : Int → Int) (tc : Int) : Int := if tc = 0 then 0 else if (EXp T (min tc 40) 4 0).1 = 1 ∧ (EXp T (min tc 40) 4 0).2.1 = min tc 40 then (if tc ≤ 40 then 0 else -41) else -1 - (EXp T (min tc 40) 4 0).2.1
theorem RV_e {T T' : Int → Int} {tc : Int} (hT : ∀ j, 0 ≤ j → j < tc → T' j = T j) : RV T' tc = RV T tc := by
  unfold RV
  rw [EX_e (T := T) (T' := T') (fun j h0 h1 => hT j h0 (by omega)) 4 0 (by decide)]
/-! codes worked off a stack -/
def rn (st : ENV → Int → List Int → List Int) (A : Int → Int) (s : ENV) : Nat → Int → List Int → List Int
  | 0, _, k => k
  | n + 1, i, k => rn st A s n (i + 1) (st s (A i) k)
def Co (st : ENV → Int → List Int → List Int) (A : Int → Int) (i j : Int) (f : DEN) : Prop := i ≤ j ∧ ∀ s, RgE s → ∀ k, rn st A s (j - i).toNat i k = f s :: k
section
variable {st : ENV → Int → List Int → List Int} {A A1 A2 : Int → Int} {s : ENV} {i j l l1 : Int} {f g : DEN}
theorem rn_add (n' : Nat) : ∀ (n : Nat) (i : Int) (k : List Int), rn st A s (n + n') i k = rn st A s n' (i + n) (rn st A s n i k)
  | 0, i, k => by rw [Nat.zero_add]; show _ = rn st A s n' (i + ((0 : Nat) : Int)) k; rw [show i + ((0 : Nat) : Int) = i by omega]
  | n + 1, i, k => by
    rw [show n + 1 + n' = (n + n') + 1 by omega]
    show rn st A s (n + n') (i + 1) (st s (A i) k) = rn st A s n' (i + ((n + 1 : Nat) : Int)) (rn st A s n (i + 1) (st s (A i) k))
    rw [rn_add n' n (i + 1), show i + 1 + (n : Int) = i + ((n + 1 : Nat) : Int) by omega]
theorem rn_e : ∀ (n : Nat) (i : Int) (k : List Int), (∀ x, i ≤ x → x < i + n → A1 x = A x) → rn st A1 s n i k = rn st A s n i k
  | 0, _, _, _ => rfl
  | n + 1, i, k, h => by
    show rn st A1 s n (i + 1) (st s (A1 i) k) = rn st A s n (i + 1) (st s (A i) k)
    rw [h i (by omega) (by omega), rn_e n (i + 1) _ (fun x h0 h1 => h x (by omega) (by omega))]
theorem Co_fr (h : Co st A i j f) (e : ∀ x, x < j → A1 x = A x) : Co st A1 i j f := by
  refine ⟨h.1, fun s hs k => ?_⟩
  rw [rn_e _ _ _ (fun x h0 h1 => e x (by have := h.1; omega))]
  exact h.2 s hs k
theorem Co_1 (hj : j = i + 1) (h : ∀ s, RgE s → ∀ k, st s (A i) k = f s :: k) : Co st A i j f := by
  subst hj
  refine ⟨by omega, fun s hs k => ?_⟩
  rw [show (i + 1 - i).toNat = 1 by omega]
  exact h s hs k
theorem Co_u {u : Int → Int} (hf : Co st A i j f) (e : ∀ x, x < j → A1 x = A x) (hl : l = j + 1) (h : ∀ s a k, st s (A1 j) (a :: k) = u a :: k) : Co st A1 i l (fun s => u (f s)) := by
  have hf := Co_fr hf e
  refine ⟨by have := hf.1; omega, fun s hs k => ?_⟩
  have := hf.1
  rw [show (l - i).toNat = (j - i).toNat + 1 by omega, rn_add, hf.2 s hs, show i + ((j - i).toNat : Int) = j by omega]
  exact h s _ _
theorem Co_b {o : Int → Int → Int} (hf : Co st A i j f) (hg : Co st A1 j l g) (e1 : ∀ x, x < j → A1 x = A x) (e2 : ∀ x, x < l → A2 x = A1 x) (hl : l1 = l + 1) (h : ∀ s a b k, st s (A2 l) (b :: a :: k) = o a b :: k) : Co st A2 i l1 (fun s => o (f s) (g s)) := by
  have b1 := hf.1
  have b2 := hg.1
  have hf := Co_fr (A1 := A2) hf (fun x hx => (e2 x (by omega)).trans (e1 x hx))
  have hg := Co_fr hg e2
  refine ⟨by omega, fun s hs k => ?_⟩
  rw [show (l1 - i).toNat = (j - i).toNat + ((l - j).toNat + 1) by omega, rn_add, hf.2 s hs, show i + ((j - i).toNat : Int) = j by omega, rn_add, hg.2 s hs, show j + ((l - j).toNat : Int) = l by omega]
  exact h s _ _ _
end
/-- the component's code -/
def stC (s : ENV) (c : Int) (k : List Int) : List Int := if 0 ≤ c then c :: k else if nam (w32 (-c)) then s (nmi (w32 (-c))) :: k else if c = -33 then (match k with | a :: t => w32 (-a) :: t | [] => []) else (match k with | b :: a :: t => cmb (w32 (-c)) a b :: t | q => q)
abbrev CoC (A : Int → Int) (i j : Int) (f : DEN) : Prop := Co stC A i j f
theorem C_num {A : Int → Int} {i j v : Int} (h0 : 0 ≤ v) (h : A i = v) (hj : j = i + 1) : CoC A i j (fun _ => v) := Co_1 hj (fun s _ k => by rw [h]; unfold stC; rw [if_pos h0])
theorem C_nam {A : Int → Int} {i j c : Int} (hc : nam c) (h : A i = -c) (hj : j = i + 1) : CoC A i j (fun s => s (nmi c)) := Co_1 hj (fun s _ k => by
  have : 0 < c ∧ c < 200 := by unfold nam at hc; omega
  have e : w32 (-(-c)) = c := by unfold w32; omega
  rw [h]; unfold stC; rw [if_neg (by omega), e, if_pos hc])
theorem C_neg {A A1 : Int → Int} {i j l n : Int} {f : DEN} (hf : CoC A i j f) (e : ∀ x, x < j → A1 x = A x) (hv : A1 j = -33) (hl : l = j + 1) (hn : n % 2 = 1) : CoC A1 i l (ngD n f) := by
  have h := Co_u (u := fun a => w32 (-a)) hf e hl (fun s a k => by rw [hv]; rfl)
  unfold ngD; rw [if_pos hn]; exact h
theorem C_ng0 {A : Int → Int} {i j n : Int} {f : DEN} (hf : CoC A i j f) (hn : n % 2 ≠ 1) : CoC A i j (ngD n f) := by
  unfold ngD; rw [if_neg hn]; exact hf
theorem C_op {A A1 A2 : Int → Int} {i j l l1 c : Int} {f g : DEN} (hf : CoC A i j f) (hg : CoC A1 j l g) (e1 : ∀ x, x < j → A1 x = A x) (e2 : ∀ x, x < l → A2 x = A1 x) (hv : A2 l = -c) (hc : isc c ∨ isp c ∨ ism c) (hl : l1 = l + 1) : CoC A2 i l1 (cmbD c f g) :=
  Co_b (o := cmb c) hf hg e1 e2 hl (fun s a b k => by
    have h0 : 0 < c ∧ c < 200 := by unfold isc isp ism at hc; omega
    have e : w32 (-(-c)) = c := by unfold w32; omega
    have h1 : ¬ (0 ≤ -c) := by omega
    have h2 : ¬ nam c := by unfold isc isp ism at hc; unfold nam; omega
    have h3 : ¬ (-c = -33) := by unfold isc isp ism at hc; omega
    rw [hv]; unfold stC; rw [if_neg h1, e, if_neg h2, if_neg h3])
/-- the reference's code -/
def wrk (o a b : Int) : Int := if o = 0 then (if a < b then 1 else 0) else if o = 1 then (if b < a then 1 else 0) else if o = 2 then (if a = b then 1 else 0) else if o = 3 then w32 (a + b) else if o = 4 then w32 (a - b) else if o = 5 then w32 (a * b) else if b = 0 then 0 else idv a b
def stR (s : ENV) (c : Int) (k : List Int) : List Int := if c = 3000 then (match k with | a :: t => w32 (-a) :: t | [] => []) else if 2000 ≤ c then (match k with | b :: a :: t => wrk (w32 (c - 2000)) a b :: t | q => q) else if 1000 ≤ c then s (c - 1000) :: k else c :: k
abbrev CoR (A : Int → Int) (i j : Int) (f : DEN) : Prop := Co stR A i j f
theorem R_num {A : Int → Int} {i j v : Int} (h0 : v < 1000) (h : A i = v) (hj : j = i + 1) : CoR A i j (fun _ => v) := Co_1 hj (fun s _ k => by rw [h]; unfold stR; rw [if_neg (by omega), if_neg (by omega), if_neg (by omega)])
theorem R_nam {A : Int → Int} {i j c v : Int} (hc : nmi c = v) (hv : 0 ≤ v ∧ v < 8) (h : A i = 1000 + v) (hj : j = i + 1) : CoR A i j (fun s => s (nmi c)) := Co_1 hj (fun s _ k => by
  rw [h, hc]; unfold stR; rw [if_neg (by omega), if_neg (by omega), if_pos (by omega), show 1000 + v - 1000 = v by omega])
theorem R_neg {A A1 : Int → Int} {i j l n n1 : Int} {f : DEN} (hf : CoR A i j (ngD n f)) (hi : ∀ s, RgE s → inI (f s)) (e : ∀ x, x < j → A1 x = A x) (hv : A1 j = 3000) (hl : l = j + 1) (hn : n1 = n + 1) : CoR A1 i l (ngD n1 f) := by
  have h := Co_u (u := fun a => w32 (-a)) hf e hl (fun s a k => by rw [hv]; rfl)
  refine ⟨h.1, fun s hs k => ?_⟩
  rw [h.2 s hs k]
  congr 1
  unfold ngD
  subst hn
  by_cases z : n % 2 = 1
  · rw [if_pos z, if_neg (by omega)]
    have := hi s hs
    show w32 (-(w32 (-(f s)))) = f s
    unfold inI at this
    unfold w32
    omega
  · rw [if_neg z, if_pos (by omega)]
theorem ngD_0 {f : DEN} : ngD 0 f = f := by unfold ngD; rw [if_neg (by decide)]
def opi (c : Int) : Int := if c = 60 then 0 else if c = 62 then 1 else if c = 61 then 2 else if c = 43 then 3 else if c = 45 then 4 else if c = 42 then 5 else 6
theorem R_op {A A1 A2 : Int → Int} {i j l l1 c : Int} {f g : DEN} (hf : CoR A i j f) (hg : CoR A1 j l g) (e1 : ∀ x, x < j → A1 x = A x) (e2 : ∀ x, x < l → A2 x = A1 x) (hv : A2 l = 2000 + opi c) (hc : isc c ∨ isp c ∨ ism c) (hl : l1 = l + 1) : CoR A2 i l1 (cmbD c f g) :=
  Co_b (o := cmb c) hf hg e1 e2 hl (fun s a b k => by
    rw [hv]
    unfold isc isp ism at hc
    rcases hc with (rfl | rfl | rfl) | (rfl | rfl) | (rfl | rfl) <;> rfl)
end
