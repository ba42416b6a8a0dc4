/-! the component's second: one who holds a pot, hands that cool, pots -/
theorem ia1 {h : Int} (h0 : 0 ≤ h ∧ h ≤ 1) : iand h 1 = h := by
  have : h = 0 ∨ h = 1 := by omega
  rcases this with rfl | rfl <;> decide
theorem w32_0 : w32 0 = 0 := by decide
/-- bears and cools, as they are told -/
def KB (m : Mem) : Prop := (∀ p, 0 ≤ p → p < m 8 3 → inI (m 14 p)) ∧ (∀ q, 0 ≤ q → q < m 8 2 → 0 ≤ m 13 q ∧ m 13 q ≤ 9)
theorem KB_fr {m m' : Mem} (h : KB m) (e8 : ∀ j, m' 8 j = m 8 j) (e13 : ∀ j, m' 13 j = m 13 j) (e14 : ∀ j, m' 14 j = m 14 j) : KB m' :=
  ⟨fun p p0 p1 => by rw [e14]; exact h.1 p p0 (by rw [← e8]; exact p1), fun q q0 q1 => by rw [e13]; exact h.2 q q0 (by rw [← e8]; exact q1)⟩
theorem RuC_fr {m m' : Mem} {R : ENV → Int} (h : RuC m R) (e4 : m' 4 1 = m 4 1) (e5 : ∀ j, m' 5 j = m 5 j) : RuC m' R := by
  have e : m' 5 = m 5 := by funext j; exact e5 j
  unfold RuC at h ⊢
  rw [e4, e]; exact h
/-- a carrier who stands there as it is now -/
abbrev CA (m m' : Mem) (a : Int) : Prop := (∀ x, x ≠ 25 → m' x = m x) ∧ m' 25 3 = a ∧ m' 25 5 = m 14 a ∧ m' 25 6 = m 22 a ∧ m' 25 7 = m 21 a ∧ m' 25 8 = m 20 (2 * a + m 21 a) ∧ m' 25 12 = m 15 11
/-- with a pot -/
abbrev CBg (m m' : Mem) (a b : Int) : Prop := (∀ x, x ≠ 25 → m' x = m x) ∧ m' 25 7 = m 21 a ∧ m' 25 8 = m 20 (2 * a + m 21 a) ∧ evC m' = ev8 (m 16 b) (m 22 a) (m 20 (2 * a + m 21 a)) (m 14 a) (m 15 11) a b (m 21 a)
set_option maxHeartbeats 4000000 in
theorem p_76x {d : Nat} {e : Int} {tc : Int} {g : Fg} {m : Mem} {Q : Int → Sto → Prop} {a : Int} (hJ : JC 3 g tc m) (c0 : ¬ (0 ≤ a ∧ a < m 8 3) → Q 0 (S9 e m)) (c1 : (0 ≤ a ∧ a < m 8 3) → ∀ m', JC 3 g tc m' → CA m m' a → Q 1 (S9 e m')) : Cl (d + 2) 76 [25, a] Q (S9 e m) := by
  have hL := JC_l hJ
  have hs := JC_s hJ
  have h6 := JC_h hJ a
  have ia := ia1 ⟨h6.1, h6.2⟩
  simp only [cl_76, runB, B76, ma_76, rho_20, wf_6_15, wf_6_33, wf_6_39, wf_6_46, wf_6_49, wf_6_51, wf_6_59, wf_6_9, wpf_6_29, wpf_6_37, wpf_6_44, wpf_6_49, wpf_6_54, wpopsub_pf_6_54, wpf_6_56, wpopsub_pf_6_56, wpf_6_62, wpopadd_pf_6_62, wc_63, cl_63, B63, ma_63, wf_4_40, w_cst, w_ldi, w_ldj, w_lda, w_ljk, w_ldk, w_ldw, w_ldk2, w_ldt, w_ldtw, w_neg, w_cvb, w_cvs, w_cvc, w_cvj, w_add, w_sub, w_mul, w_ban, w_bor, w_bxo, w_shl, w_shr, w_ush, w_dvi, w_rmi, w_aldi, w_aldj, w_aldz, w_aldc, w_alda, w_ite, w_cmp, w_cmj, w_cz, w_cnot, w_cand, w_cor, w_nil, w_cons, w_cvi, w_csta, w_cvt, w_cvv, w_csv, w_cpy, w_seq, w_sbr, w_sbn, w_brk, w_ifs, w_ifx, w_ife, w_wk, w_rets, w_rtv, w_thr, w_asi, w_asj, w_asa, w_inc, w_exs, w_asti, w_astj, w_astz, w_astc, w_aopadd, w_aopsub, w_sw, if_true, if_false, ↓reduceIte, hdl_c, S9_1, S9_m, bud9, live9, inb9, wrn, wr9_14, wr9_15, wr9_16, wr9_17, tq9_14, tq9_15, tq9_16, tq9_17, tq_0, tq_1, tq_3, upr_rl, rl_0, rl_1, rl_2, rl_3, rl_4, rl_5, rl_6, rl_7, rl_8, rl_9, rl_10, rl_11, rl_12, rl_13, sp_0, sp_1, sp_2, sp_3, sp_4, sp_5, sp_6, sp_7, sp_8, sp_9, sp_10, sp_11, sp_12, sp_13, se_0, se_1, se_2, se_3, se_4, se_5, se_6, se_7, se_8, se_9, se_10, se_11, se_12, se_13, sem_0, sem_1, sem_2, sem_3, sem_4, sem_5, sr_8_9, sr_8_4, sr_8_6, sr_8_10, kl9_8, sr_8_7, kc_8, sr_8_5, kc_13, kl9_13, kc_14, kl9_14, sr_15_9, sr_15_7, sr_15_0, sr_15_2, sr_15_5, kc_15, sr_15_4, sr_15_6, sr_15_1, sr_15_8, kl9_15, kl9_16, kc_16, kc_17, kl9_17, kl9_18, kc_18, kc_19, kl9_19, kc_20, kl9_20, kc_21, kl9_21, kl9_22, kc_22, kc_23, kl9_23, kc_24, kl9_24, kl9_25, sr_25_1, sr_25_0, kc_25, sr_25_2, sr_26_12, sr_26_2, sr_26_11, sr_26_10, sr_26_0, sr_26_7, kl9_26, sr_26_3, kc_26, sr_26_1, sr_4_4, kl9_4, sr_4_2, sr_4_0, kc_4, List.getD_cons_zero, List.getD_cons_succ, Bool.false_eq_true, wrn3, wrn1, cpmS, cpok9, upm_app, Int.reduceEq, and_self, and_true, true_and, and_false, false_and, if_true, if_false, ↓reduceIte, Int.reduceToNat, upm_f, Int.reduceEq, Int.reduceNe, ne_eq, not_false_eq_true, not_true_eq_false, ia]
  repeat' (first
    | (with_reducible exact True.intro)
    | omega
    | (with_reducible rfl)
    | (with_reducible contradiction)
    | (with_reducible refine And.intro ?_ ?_)
    | intro _
    | ((with_reducible refine c0 ?_); omega)
    | ((with_reducible refine c1 ?_ _ ?_ ⟨?_, ?_, ?_, ?_, ?_, ?_, ?_⟩); (next => omega); (next => with_reducible (refine JC_of hL ?_ (by decide); repeat (first | assumption | (refine JC_up ?_ (by first | decide | (unfold frC; omega)) (by first | (simp [BdC, hnd]; done) | (simp [BdC, hnd, upm, cpf] <;> first | omega | (unfold w32; omega)))))); done); (next => intro x hx; simp only [upm_f _ _ _ _ _ hx]); (next => (try simp only [upm_app, Int.reduceEq, and_self, and_true, true_and, and_false, false_and, if_true, if_false, ↓reduceIte, Int.reduceToNat, upm_f, Int.reduceEq, Int.reduceNe, ne_eq, not_false_eq_true, not_true_eq_false]); first | done | rfl | omega | (congr 1; first | done | omega | (unfold w32; omega))); (next => (try simp only [upm_app, Int.reduceEq, and_self, and_true, true_and, and_false, false_and, if_true, if_false, ↓reduceIte, Int.reduceToNat, upm_f, Int.reduceEq, Int.reduceNe, ne_eq, not_false_eq_true, not_true_eq_false]); first | done | rfl | omega | (congr 1; first | done | omega | (unfold w32; omega))); (next => (try simp only [upm_app, Int.reduceEq, and_self, and_true, true_and, and_false, false_and, if_true, if_false, ↓reduceIte, Int.reduceToNat, upm_f, Int.reduceEq, Int.reduceNe, ne_eq, not_false_eq_true, not_true_eq_false]); first | done | rfl | omega | (congr 1; first | done | omega | (unfold w32; omega))); (next => (try simp only [upm_app, Int.reduceEq, and_self, and_true, true_and, and_false, false_and, if_true, if_false, ↓reduceIte, Int.reduceToNat, upm_f, Int.reduceEq, Int.reduceNe, ne_eq, not_false_eq_true, not_true_eq_false]); first | done | rfl | omega | (congr 1; first | done | omega | (unfold w32; omega))); (next => (try simp only [upm_app, Int.reduceEq, and_self, and_true, true_and, and_false, false_and, if_true, if_false, ↓reduceIte, Int.reduceToNat, upm_f, Int.reduceEq, Int.reduceNe, ne_eq, not_false_eq_true, not_true_eq_false]); first | done | rfl | omega | (congr 1; first | done | omega | (unfold w32; omega))); (next => (try simp only [upm_app, Int.reduceEq, and_self, and_true, true_and, and_false, false_and, if_true, if_false, ↓reduceIte, Int.reduceToNat, upm_f, Int.reduceEq, Int.reduceNe, ne_eq, not_false_eq_true, not_true_eq_false]); first | done | rfl | omega | (congr 1; first | done | omega | (unfold w32; omega))))
    | (unfold w32; omega)
    | (unfold w32; omega)
    | (simp (disch := omega) only [w32_eq]; omega)
    | (with_reducible show (_ : Int) ≤ _; simp [upm] <;> (first | omega | (unfold w32; omega)))
    | (with_reducible show (_ : Int) < _; simp [upm] <;> (first | omega | (unfold w32; omega))))

set_option maxHeartbeats 4000000 in
theorem p_77x {d : Nat} {e : Int} {tc : Int} {g : Fg} {m : Mem} {Q : Int → Sto → Prop} {b : Int} (hJ : JC 3 g tc m) (hn : m 25 12 = m 15 11) (hh : 0 ≤ b → b < m 8 2 → 0 ≤ m 16 b ∧ m 16 b ≤ 999) (c0 : ¬ (0 ≤ b ∧ b < m 8 2) → Q 0 (S9 e m)) (c1 : (0 ≤ b ∧ b < m 8 2) → ∀ v m', JC 3 g tc m' → m' = upm (upm (upm m 25 4 b) 25 11 (m 13 b)) 25 10 v → v = m 16 b → Q 1 (S9 e m')) : Cl (d + 2) 77 [25, b] Q (S9 e m) := by
  have hL := JC_l hJ
  have hs := JC_s hJ
  simp only [cl_77, runB, B77, ma_77, rho_20, wf_6_15, wf_6_59, wf_6_62, wf_6_69, wf_6_72, wf_6_74, wf_6_9, wpf_6_66, wpf_6_72, wpf_6_83, wc_52, wc_56, cl_52, B52, ma_52, wf_4_37, cl_56, B56, ma_56, rho_00, w_cst, w_ldi, w_ldj, w_lda, w_ljk, w_ldk, w_ldw, w_ldk2, w_ldt, w_ldtw, w_neg, w_cvb, w_cvs, w_cvc, w_cvj, w_add, w_sub, w_mul, w_ban, w_bor, w_bxo, w_shl, w_shr, w_ush, w_dvi, w_rmi, w_aldi, w_aldj, w_aldz, w_aldc, w_alda, w_ite, w_cmp, w_cmj, w_cz, w_cnot, w_cand, w_cor, w_nil, w_cons, w_cvi, w_csta, w_cvt, w_cvv, w_csv, w_cpy, w_seq, w_sbr, w_sbn, w_brk, w_ifs, w_ifx, w_ife, w_wk, w_rets, w_rtv, w_thr, w_asi, w_asj, w_asa, w_inc, w_exs, w_asti, w_astj, w_astz, w_astc, w_aopadd, w_aopsub, w_sw, if_true, if_false, ↓reduceIte, hdl_c, S9_1, S9_m, bud9, live9, inb9, wrn, wr9_14, wr9_15, wr9_16, wr9_17, tq9_14, tq9_15, tq9_16, tq9_17, tq_0, tq_1, tq_3, upr_rl, rl_0, rl_1, rl_2, rl_3, rl_4, rl_5, rl_6, rl_7, rl_8, rl_9, rl_10, rl_11, rl_12, rl_13, sp_0, sp_1, sp_2, sp_3, sp_4, sp_5, sp_6, sp_7, sp_8, sp_9, sp_10, sp_11, sp_12, sp_13, se_0, se_1, se_2, se_3, se_4, se_5, se_6, se_7, se_8, se_9, se_10, se_11, se_12, se_13, sem_0, sem_1, sem_2, sem_3, sem_4, sem_5, sr_8_9, sr_8_4, sr_8_6, sr_8_10, kl9_8, sr_8_7, kc_8, sr_8_5, kc_13, kl9_13, kc_14, kl9_14, sr_15_9, sr_15_7, sr_15_0, sr_15_2, sr_15_5, kc_15, sr_15_4, sr_15_6, sr_15_1, sr_15_8, kl9_15, kl9_16, kc_16, kc_17, kl9_17, kl9_18, kc_18, kc_19, kl9_19, kc_20, kl9_20, kc_21, kl9_21, kl9_22, kc_22, kc_23, kl9_23, kc_24, kl9_24, kl9_25, sr_25_1, sr_25_0, kc_25, sr_25_2, sr_26_12, sr_26_2, sr_26_11, sr_26_10, sr_26_0, sr_26_7, kl9_26, sr_26_3, kc_26, sr_26_1, sr_4_4, kl9_4, sr_4_2, sr_4_0, kc_4, List.getD_cons_zero, List.getD_cons_succ, Bool.false_eq_true, wrn3, wrn1, cpmS, cpok9, upm_app, Int.reduceEq, and_self, and_true, true_and, and_false, false_and, if_true, if_false, ↓reduceIte, Int.reduceToNat, upm_f, Int.reduceEq, Int.reduceNe, ne_eq, not_false_eq_true, not_true_eq_false, hn, Int.sub_self, w32_0, Int.mul_zero, Int.sub_zero]
  repeat' (first
    | (with_reducible exact True.intro)
    | omega
    | (with_reducible rfl)
    | (with_reducible contradiction)
    | (with_reducible refine And.intro ?_ ?_)
    | intro _
    | ((with_reducible refine c0 ?_); omega)
    | ((with_reducible refine c1 ?_ _ _ ?_ rfl ?_); (next => omega); (next => with_reducible (refine JC_of hL ?_ (by decide); repeat (first | assumption | (refine JC_up ?_ (by first | decide | (unfold frC; omega)) (by first | (simp [BdC, hnd]; done) | (simp [BdC, hnd, upm, cpf] <;> first | omega | (unfold w32; omega)))))); done); (next => first | omega | (unfold w32; omega) | (unfold w32 at *; omega)))
    | (unfold w32; omega)
    | (unfold w32; omega)
    | (simp (disch := omega) only [w32_eq]; omega)
    | (with_reducible show (_ : Int) ≤ _; simp [upm] <;> (first | omega | (unfold w32; omega)))
    | (with_reducible show (_ : Int) < _; simp [upm] <;> (first | omega | (unfold w32; omega))))

set_option maxHeartbeats 4000000 in
theorem p_75x {d : Nat} {e : Int} {tc : Int} {g : Fg} {m : Mem} {Q : Int → Sto → Prop} {a b : Int} (hJ : JC 3 g tc m) (hh : 0 ≤ b → b < m 8 2 → 0 ≤ m 16 b ∧ m 16 b ≤ 999) (c0 : ¬ ((0 ≤ a ∧ a < m 8 3) ∧ (0 ≤ b ∧ b < m 8 2)) → ∀ m', JC 3 g tc m' → (∀ x, x ≠ 25 → m' x = m x) → Q 0 (S9 e m')) (c1 : ((0 ≤ a ∧ a < m 8 3) ∧ (0 ≤ b ∧ b < m 8 2)) → ∀ m', JC 3 g tc m' → CBg m m' a b → Q 1 (S9 e m')) : Cl (d + 3) 75 [25, a, b] Q (S9 e m) := by
  have hL := JC_l hJ
  have hs := JC_s hJ
  simp only [cl_75, runB, B75, ma_75, rho_200, wc_76, wc_77, w_cst, w_ldi, w_ldj, w_lda, w_ljk, w_ldk, w_ldw, w_ldk2, w_ldt, w_ldtw, w_neg, w_cvb, w_cvs, w_cvc, w_cvj, w_add, w_sub, w_mul, w_ban, w_bor, w_bxo, w_shl, w_shr, w_ush, w_dvi, w_rmi, w_aldi, w_aldj, w_aldz, w_aldc, w_alda, w_ite, w_cmp, w_cmj, w_cz, w_cnot, w_cand, w_cor, w_nil, w_cons, w_cvi, w_csta, w_cvt, w_cvv, w_csv, w_cpy, w_seq, w_sbr, w_sbn, w_brk, w_ifs, w_ifx, w_ife, w_wk, w_rets, w_rtv, w_thr, w_asi, w_asj, w_asa, w_inc, w_exs, w_asti, w_astj, w_astz, w_astc, w_aopadd, w_aopsub, w_sw, if_true, if_false, ↓reduceIte, hdl_c, S9_1, S9_m, bud9, live9, inb9, wrn, wr9_14, wr9_15, wr9_16, wr9_17, tq9_14, tq9_15, tq9_16, tq9_17, tq_0, tq_1, tq_3, upr_rl, rl_0, rl_1, rl_2, rl_3, rl_4, rl_5, rl_6, rl_7, rl_8, rl_9, rl_10, rl_11, rl_12, rl_13, sp_0, sp_1, sp_2, sp_3, sp_4, sp_5, sp_6, sp_7, sp_8, sp_9, sp_10, sp_11, sp_12, sp_13, se_0, se_1, se_2, se_3, se_4, se_5, se_6, se_7, se_8, se_9, se_10, se_11, se_12, se_13, sem_0, sem_1, sem_2, sem_3, sem_4, sem_5, sr_8_9, sr_8_4, sr_8_6, sr_8_10, kl9_8, sr_8_7, kc_8, sr_8_5, kc_13, kl9_13, kc_14, kl9_14, sr_15_9, sr_15_7, sr_15_0, sr_15_2, sr_15_5, kc_15, sr_15_4, sr_15_6, sr_15_1, sr_15_8, kl9_15, kl9_16, kc_16, kc_17, kl9_17, kl9_18, kc_18, kc_19, kl9_19, kc_20, kl9_20, kc_21, kl9_21, kl9_22, kc_22, kc_23, kl9_23, kc_24, kl9_24, kl9_25, sr_25_1, sr_25_0, kc_25, sr_25_2, sr_26_12, sr_26_2, sr_26_11, sr_26_10, sr_26_0, sr_26_7, kl9_26, sr_26_3, kc_26, sr_26_1, sr_4_4, kl9_4, sr_4_2, sr_4_0, kc_4, List.getD_cons_zero, List.getD_cons_succ, Bool.false_eq_true, wrn3, wrn1, cpmS, cpok9, upm_app, Int.reduceEq, and_self, and_true, true_and, and_false, false_and, if_true, if_false, ↓reduceIte, Int.reduceToNat, upm_f, Int.reduceEq, Int.reduceNe, ne_eq, not_false_eq_true, not_true_eq_false]
  repeat' (first
    | (with_reducible exact True.intro)
    | omega
    | (with_reducible rfl)
    | (with_reducible contradiction)
    | (with_reducible refine And.intro ?_ ?_)
    | intro _
    | ((with_reducible refine p_76x (g := g) (tc := tc) hJ (fun h9 => ?_) (fun h9 m9 hJ9 q9 => ?_)); all_goals ((try obtain ⟨qf, q3, q5, q6, q7, q8, q12⟩ := q9); (try have qf8 := qf 8 (by decide)); (try have qf16 := qf 16 (by decide)); (try have qf15 := qf 15 (by decide)); (try have qf13 := qf 13 (by decide)); simp only [hdl_c, S9_1, S9_m, bud9, live9, inb9, wrn, wr9_14, wr9_15, wr9_16, wr9_17, tq9_14, tq9_15, tq9_16, tq9_17, tq_0, tq_1, tq_3, upr_rl, rl_0, rl_1, rl_2, rl_3, rl_4, rl_5, rl_6, rl_7, rl_8, rl_9, rl_10, rl_11, rl_12, rl_13, sp_0, sp_1, sp_2, sp_3, sp_4, sp_5, sp_6, sp_7, sp_8, sp_9, sp_10, sp_11, sp_12, sp_13, se_0, se_1, se_2, se_3, se_4, se_5, se_6, se_7, se_8, se_9, se_10, se_11, se_12, se_13, sem_0, sem_1, sem_2, sem_3, sem_4, sem_5, List.getD_cons_zero, List.getD_cons_succ, Bool.false_eq_true, wrn3, wrn1, cpmS, cpok9, if_true, if_false, ↓reduceIte, wc_76, wc_77, sr_8_9, sr_8_4, sr_8_6, sr_8_10, kl9_8, sr_8_7, kc_8, sr_8_5, kc_13, kl9_13, kc_14, kl9_14, sr_15_9, sr_15_7, sr_15_0, sr_15_2, sr_15_5, kc_15, sr_15_4, sr_15_6, sr_15_1, sr_15_8, kl9_15, kl9_16, kc_16, kc_17, kl9_17, kl9_18, kc_18, kc_19, kl9_19, kc_20, kl9_20, kc_21, kl9_21, kl9_22, kc_22, kc_23, kl9_23, kc_24, kl9_24, kl9_25, sr_25_1, sr_25_0, kc_25, sr_25_2, sr_26_12, sr_26_2, sr_26_11, sr_26_10, sr_26_0, sr_26_7, kl9_26, sr_26_3, kc_26, sr_26_1, sr_4_4, kl9_4, sr_4_2, sr_4_0, kc_4, upm_app, Int.reduceEq, and_self, and_true, true_and, and_false, false_and, if_true, if_false, ↓reduceIte, Int.reduceToNat, upm_f, Int.reduceEq, Int.reduceNe, ne_eq, not_false_eq_true, not_true_eq_false]))
    | ((with_reducible refine p_77x (g := g) (tc := tc) hJ9 ?_ ?_ (fun f9 => ?_) (fun f9 v8 m8 hJ8 e8 w8 => ?_)); (next => rw [qf15]; exact q12); (next => rw [qf8, qf16]; exact hh); all_goals ((try rw [qf8] at f9); (try rw [qf13] at e8); (try rw [qf16] at w8); (try subst e8); simp only [hdl_c, S9_1, S9_m, bud9, live9, inb9, wrn, wr9_14, wr9_15, wr9_16, wr9_17, tq9_14, tq9_15, tq9_16, tq9_17, tq_0, tq_1, tq_3, upr_rl, rl_0, rl_1, rl_2, rl_3, rl_4, rl_5, rl_6, rl_7, rl_8, rl_9, rl_10, rl_11, rl_12, rl_13, sp_0, sp_1, sp_2, sp_3, sp_4, sp_5, sp_6, sp_7, sp_8, sp_9, sp_10, sp_11, sp_12, sp_13, se_0, se_1, se_2, se_3, se_4, se_5, se_6, se_7, se_8, se_9, se_10, se_11, se_12, se_13, sem_0, sem_1, sem_2, sem_3, sem_4, sem_5, List.getD_cons_zero, List.getD_cons_succ, Bool.false_eq_true, wrn3, wrn1, cpmS, cpok9, if_true, if_false, ↓reduceIte, wc_76, wc_77, sr_8_9, sr_8_4, sr_8_6, sr_8_10, kl9_8, sr_8_7, kc_8, sr_8_5, kc_13, kl9_13, kc_14, kl9_14, sr_15_9, sr_15_7, sr_15_0, sr_15_2, sr_15_5, kc_15, sr_15_4, sr_15_6, sr_15_1, sr_15_8, kl9_15, kl9_16, kc_16, kc_17, kl9_17, kl9_18, kc_18, kc_19, kl9_19, kc_20, kl9_20, kc_21, kl9_21, kl9_22, kc_22, kc_23, kl9_23, kc_24, kl9_24, kl9_25, sr_25_1, sr_25_0, kc_25, sr_25_2, sr_26_12, sr_26_2, sr_26_11, sr_26_10, sr_26_0, sr_26_7, kl9_26, sr_26_3, kc_26, sr_26_1, sr_4_4, kl9_4, sr_4_2, sr_4_0, kc_4, upm_app, Int.reduceEq, and_self, and_true, true_and, and_false, false_and, if_true, if_false, ↓reduceIte, Int.reduceToNat, upm_f, Int.reduceEq, Int.reduceNe, ne_eq, not_false_eq_true, not_true_eq_false]))
    | ((with_reducible refine c0 ?_ _ hJ (fun _ _ => rfl)); omega)
    | ((with_reducible refine c0 ?_ _ hJ9 qf); omega)
    | ((with_reducible refine c1 ?_ _ hJ8 ⟨?_, ?_, ?_, ?_⟩); (next => omega); (next => intro x hx; simp only [upm_f _ _ _ _ _ hx]; exact qf x hx); (next => (try simp only [upm_app, Int.reduceEq, and_self, and_true, true_and, and_false, false_and, if_true, if_false, ↓reduceIte, Int.reduceToNat, upm_f, Int.reduceEq, Int.reduceNe, ne_eq, not_false_eq_true, not_true_eq_false]); exact q7); (next => (try simp only [upm_app, Int.reduceEq, and_self, and_true, true_and, and_false, false_and, if_true, if_false, ↓reduceIte, Int.reduceToNat, upm_f, Int.reduceEq, Int.reduceNe, ne_eq, not_false_eq_true, not_true_eq_false]); exact q8); (next => unfold evC; simp only [upm_app, Int.reduceEq, and_self, and_true, true_and, and_false, false_and, if_true, if_false, ↓reduceIte, Int.reduceToNat, upm_f, Int.reduceEq, Int.reduceNe, ne_eq, not_false_eq_true, not_true_eq_false]; rw [q3, q5, q6, q7, q8, q12, w8]))
    | (exfalso; omega)
    | (unfold w32; omega)
    | (simp (disch := omega) only [w32_eq]; omega)
    | (with_reducible show (_ : Int) ≤ _; simp [upm] <;> (first | omega | (unfold w32; omega)))
    | (with_reducible show (_ : Int) < _; simp [upm] <;> (first | omega | (unfold w32; omega))))

set_option maxHeartbeats 4000000 in
theorem p_82x {d : Nat} {e : Int} {m : Mem} {Q : Int → Sto → Prop} {a : Int} (ha : 0 ≤ a ∧ a < 10) (hq : ∀ v, Q v (S9 e (upm m 20 a (cl4 (m 20 a))))) : Cl (d + 1) 82 [26, a] Q (S9 e m) := by
  simp only [cl_82, runB, B82, ma_82, rho_20, wf_7_145, wf_7_31, w_cst, w_ldi, w_ldj, w_lda, w_ljk, w_ldk, w_ldw, w_ldk2, w_ldt, w_ldtw, w_neg, w_cvb, w_cvs, w_cvc, w_cvj, w_add, w_sub, w_mul, w_ban, w_bor, w_bxo, w_shl, w_shr, w_ush, w_dvi, w_rmi, w_aldi, w_aldj, w_aldz, w_aldc, w_alda, w_ite, w_cmp, w_cmj, w_cz, w_cnot, w_cand, w_cor, w_nil, w_cons, w_cvi, w_csta, w_cvt, w_cvv, w_csv, w_cpy, w_seq, w_sbr, w_sbn, w_brk, w_ifs, w_ifx, w_ife, w_wk, w_rets, w_rtv, w_thr, w_asi, w_asj, w_asa, w_inc, w_exs, w_asti, w_astj, w_astz, w_astc, w_aopadd, w_aopsub, w_sw, if_true, if_false, ↓reduceIte, hdl_c, S9_1, S9_m, bud9, live9, inb9, wrn, wr9_14, wr9_15, wr9_16, wr9_17, tq9_14, tq9_15, tq9_16, tq9_17, tq_0, tq_1, tq_3, upr_rl, rl_0, rl_1, rl_2, rl_3, rl_4, rl_5, rl_6, rl_7, rl_8, rl_9, rl_10, rl_11, rl_12, rl_13, sp_0, sp_1, sp_2, sp_3, sp_4, sp_5, sp_6, sp_7, sp_8, sp_9, sp_10, sp_11, sp_12, sp_13, se_0, se_1, se_2, se_3, se_4, se_5, se_6, se_7, se_8, se_9, se_10, se_11, se_12, se_13, sem_0, sem_1, sem_2, sem_3, sem_4, sem_5, sr_8_9, sr_8_4, sr_8_6, sr_8_10, kl9_8, sr_8_7, kc_8, sr_8_5, kc_13, kl9_13, kc_14, kl9_14, sr_15_9, sr_15_7, sr_15_0, sr_15_2, sr_15_5, kc_15, sr_15_4, sr_15_6, sr_15_1, sr_15_8, kl9_15, kl9_16, kc_16, kc_17, kl9_17, kl9_18, kc_18, kc_19, kl9_19, kc_20, kl9_20, kc_21, kl9_21, kl9_22, kc_22, kc_23, kl9_23, kc_24, kl9_24, kl9_25, sr_25_1, sr_25_0, kc_25, sr_25_2, sr_26_12, sr_26_2, sr_26_11, sr_26_10, sr_26_0, sr_26_7, kl9_26, sr_26_3, kc_26, sr_26_1, sr_4_4, kl9_4, sr_4_2, sr_4_0, kc_4, List.getD_cons_zero, List.getD_cons_succ, Bool.false_eq_true, wrn3, wrn1, cpmS, cpok9, upm_app, Int.reduceEq, and_self, and_true, true_and, and_false, false_and, if_true, if_false, ↓reduceIte, Int.reduceToNat, upm_f, Int.reduceEq, Int.reduceNe, ne_eq, not_false_eq_true, not_true_eq_false]
  repeat' (first
    | (with_reducible exact True.intro)
    | omega
    | (with_reducible rfl)
    | (with_reducible contradiction)
    | (with_reducible refine And.intro ?_ ?_)
    | intro _
    | (with_reducible exact hq _)
    | (exact hq _)
    | (unfold w32; omega)
    | (simp (disch := omega) only [w32_eq]; omega)
    | (with_reducible show (_ : Int) ≤ _; simp [upm] <;> (first | omega | (unfold w32; omega)))
    | (with_reducible show (_ : Int) < _; simp [upm] <;> (first | omega | (unfold w32; omega))))

theorem asC_burn (m : Mem) {i p w q vb c1 c2 c3 dd h : Int} (hh : 0 ≤ h ∧ h ≤ 1) (hi : i = 2 * p + h) (hp : 0 ≤ p ∧ p < 5) (hq : 0 ≤ q ∧ q < 5) (hdd : dd = ior (m 15 3) (ishl 1 q)) : asC (upm (upm (upm (upm (upm (upm (upm (upm (upm m 20 i w) 24 p vb) 26 4 c1) 26 5 c2) 26 6 c3) 23 p (-1)) 18 q (-1)) 16 q 0) 15 3 dd) 15 = asU (asU (asU (asU (asU (asU (asU (asU (asC m 15) (4 + h) p w) 9 p vb) 11 0 c1) 11 1 c2) 11 2 c3) 8 p (-1)) 0 q 0) 2 q 1 := by
  rw [asC_dr (q := q) _ (by simp only [upm_app, Int.reduceEq, and_self, and_true, true_and, and_false, false_and, if_true, if_false, ↓reduceIte]; exact hdd) hq, asC_0 _ _ hq, asC_x _ (Or.inr (Or.inr (Or.inl rfl))), asC_8 _ _ hp, asC_cn (j := 2) _ _ (by decide) (by decide), asC_cn (j := 1) _ _ (by decide) (by decide), asC_cn (j := 0) _ _ (by decide) (by decide), asC_9 _ _ hp, asC_wh _ hi hh hp]
theorem HD_burn {L P H : Int} {x x' : AS} {h h' : Int → Int} {p : Int} (hd : HD P H x h) (iv : IV L P H x) (p0 : 0 ≤ p) (p1 : p < H) (hp : 0 ≤ x 8 p) (hx : ∀ j, x' 8 j = if j = p then -1 else x 8 j) (hh : ∀ j, h' j = if j = x 8 p then -1 else h j) : HD P H x' h' := fun q q0 q1 => by
  obtain ⟨a, b⟩ := hd q q0 q1
  rw [hh]
  by_cases z : q = x 8 p
  · rw [if_pos z]
    refine ⟨by omega, fun r r0 r1 => ?_⟩
    rw [hx]
    by_cases y : r = p
    · rw [if_pos y]; omega
    · rw [if_neg y]
      constructor
      · intro w; exact absurd (iv.2.1 r p r0 r1 p0 p1 (w.trans z) (by omega)) y
      · intro w; omega
  · rw [if_neg z]
    refine ⟨a, fun r r0 r1 => ?_⟩
    rw [hx]
    by_cases y : r = p
    · subst y
      rw [if_pos rfl]
      constructor
      · intro w; omega
      · intro w; exact absurd ((b r r0 r1).2 w).symm z
    · rw [if_neg y]; exact b r r0 r1
theorem HD_e {P H : Int} {x x' : AS} {h h' : Int → Int} (hd : HD P H x h) (hx : ∀ j, 0 ≤ j → j < H → x' 8 j = x 8 j) (hh : ∀ j, h' j = h j) : HD P H x' h' := fun q q0 q1 => by
  obtain ⟨a, b⟩ := hd q q0 q1
  rw [hh]
  exact ⟨a, fun p p0 p1 => by rw [hx p p0 p1]; exact b p p0 p1⟩
theorem FA_tr {m m1 m2 : Mem} (h : FA m m1) (h2 : FA m1 m2) : FA m m2 := fun x j q => (h2 x j q).trans (h x j q)
