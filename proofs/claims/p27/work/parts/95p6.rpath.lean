/-! the reference's paths, with values -/
/-- the price of a way, as the reference reckons it (a: bits of open doors) -/
def prR (m : Mem) (a w : Int) : Int := if m 255 w = 0 ∨ iand (ishr a w) 1 = 1 then m 254 w else -1
abbrev SQ (M : Int → Int) (D : Int → Int → Int) : Prop := ∀ p q, 0 ≤ p → p ≤ 9 → 0 ≤ q → q ≤ 9 → M (10 * p + q) = D p q
theorem wS_op {pr o t : Int → Int} {k : Nat} {M M' : Int → Int} {v : Int} (hp : pr (k : Int) ≠ -1) (ho : 0 ≤ o (k : Int) ∧ o (k : Int) ≤ 9) (ht : 0 ≤ t (k : Int) ∧ t (k : Int) ≤ 9) (hM : SQ M (wS pr o t k)) (hv : v = min (M (10 * o (k : Int) + t (k : Int))) (pr (k : Int))) (e : ∀ j, M' j = if j = 10 * t (k : Int) + o (k : Int) then v else if j = 10 * o (k : Int) + t (k : Int) then v else M j) : SQ M' (wS pr o t (k + 1)) := by
  intro p q p0 p1 q0 q1
  have hot := hM _ _ ho.1 ho.2 ht.1 ht.2
  rw [e]
  show _ = if pr (k : Int) ≠ -1 ∧ ((p = o (k : Int) ∧ q = t (k : Int)) ∨ (p = t (k : Int) ∧ q = o (k : Int))) then _ else _
  by_cases z1 : 10 * p + q = 10 * t (k : Int) + o (k : Int)
  · have e1 : p = t (k : Int) ∧ q = o (k : Int) := by omega
    rw [if_pos z1, if_pos ⟨hp, Or.inr e1⟩, hv, hot, e1.1, e1.2, wS_sy]
  · rw [if_neg z1]
    by_cases z2 : 10 * p + q = 10 * o (k : Int) + t (k : Int)
    · have e1 : p = o (k : Int) ∧ q = t (k : Int) := by omega
      rw [if_pos z2, if_pos ⟨hp, Or.inl e1⟩, hv, hot, e1.1, e1.2]
    · rw [if_neg z2, if_neg (fun z => by omega)]
      exact hM p q p0 p1 q0 q1
theorem wS_cl {pr o t : Int → Int} {k : Nat} {M : Int → Int} (hp : pr (k : Int) = -1) (hM : SQ M (wS pr o t k)) : SQ M (wS pr o t (k + 1)) := by
  intro p q p0 p1 q0 q1
  show _ = if pr (k : Int) ≠ -1 ∧ _ then _ else _
  rw [if_neg (fun z => z.1 hp)]
  exact hM p q p0 p1 q0 q1
set_option maxHeartbeats 4000000 in
theorem n251a {d : Nat} {tc pl e W : Int} {g : Fg} {m : Mem} {N : Int → Int} {a : Int} {Kn Kb : Rho → Sto → Prop} {Kr : Int → Sto → Prop} (hJ : JW 3 g tc pl N W m) (hq : ∀ m' i, JW 3 g tc pl N W m' → (∀ x, x ≠ 274 → m' x = m x) → (∀ j, 0 ≤ j → j < 100 → m' 274 j = 1000000) → Kn (rl [249, a, i]) (S9 e m')) : ((whl true 17 (cmp 2 (by decide) (ldi 2) (cst 100)) (asti (get f_13_84 (lda 0)) (ldi 2) (ldw k_13_449)) (inc 2 1)) : SX 13).1.2 (Cl (d + 1)) Kn Kb Kr (rl [249, a, 0]) (S9 e m) := by
  have hL := JW_l hJ
  have hs := JW_s hJ
  refine whl_i (fun k r u => ∃ (i : Int) (m9 : Mem), r = rl [249, a, i] ∧ u = S9 e m9 ∧ JW 3 g tc pl N W m9 ∧ 0 ≤ i ∧ i + k = 100 ∧ (∀ x, x ≠ 274 → m9 x = m x) ∧ (∀ j, 0 ≤ j → j < i → m9 274 j = 1000000)) 100 ?_ ?_
  next => exact ⟨0, m, rfl, rfl, hJ, by omega, by omega, fun _ _ => rfl, fun j h0 h1 => absurd h1 (by omega)⟩
  rintro k r u ⟨i, m9, rfl, rfl, hJ9, hi, hk, hF, hS⟩
  have hJ9 := JW_dn hL hJ9; have hs9 := JW_s hJ9
  have h58 := JW_2 hJ9
  simp only [cl_251, runB, B251, ma_251, rho_20, wf_13_133, wf_13_146, wf_13_17, wf_13_20, wf_13_23, wf_13_26, wf_13_81, wf_13_84, wc_19, wc_199, cl_19, B19, ma_19, rho_00, w_cst, w_ldi, w_ldj, w_lda, w_ljk, w_ldk, w_ldw, w_ldk2, w_ldt, w_ldtw, w_neg, w_cvb, w_cvs, w_cvc, w_cvj, w_add, w_sub, w_mul, w_ban, w_bor, w_bxo, w_shl, w_shr, w_ush, w_dvi, w_rmi, w_aldi, w_aldj, w_aldz, w_aldc, w_alda, w_ite, w_cmp, w_cmj, w_cz, w_cnot, w_cand, w_cor, w_nil, w_cons, w_cvi, w_csta, w_cvt, w_cvv, w_csv, w_cpy, w_seq, w_sbr, w_sbn, w_brk, w_ifs, w_ifx, w_ife, w_wk, w_rets, w_rtv, w_thr, w_asi, w_asj, w_asa, w_inc, w_exs, w_asti, w_astj, w_astz, w_astc, w_aopadd, w_aopsub, w_sw, if_true, if_false, ↓reduceIte, hdl_c, S9_1, S9_m, bud9, live9, inb9, wrn, wr9_14, wr9_15, wr9_16, wr9_17, tq9_14, tq9_15, tq9_16, tq9_17, tq_0, tq_1, tq_3, upr_rl, rl_0, rl_1, rl_2, rl_3, rl_4, rl_5, rl_6, rl_7, rl_8, rl_9, rl_10, rl_11, rl_12, rl_13, sp_0, sp_1, sp_2, sp_3, sp_4, sp_5, sp_6, sp_7, sp_8, sp_9, sp_10, sp_11, sp_12, sp_13, se_0, se_1, se_2, se_3, se_4, se_5, se_6, se_7, se_8, se_9, se_10, se_11, se_12, se_13, sem_0, sem_1, sem_2, sem_3, sem_4, sem_5, kc_249, kl9_249, sr_249_10, sr_249_11, sr_249_12, sr_249_13, sr_249_14, sr_249_15, sr_249_16, sr_249_17, sr_249_2, sr_249_22, sr_249_23, sr_249_24, sr_249_25, sr_249_30, sr_249_31, sr_249_34, sr_249_35, sr_249_40, sr_249_41, sr_249_42, sr_249_43, sr_249_50, sr_249_51, sr_249_52, sr_249_54, sr_249_55, sr_249_57, sr_249_58, sr_249_61, sr_249_63, sr_249_64, sr_249_67, sr_249_68, sr_249_69, sr_249_70, sr_249_71, sr_249_8, sr_249_9, kc_252, kl9_252, kc_253, kl9_253, kc_254, kl9_254, kc_255, kl9_255, kc_273, kl9_273, kc_274, kl9_274, List.getD_cons_zero, List.getD_cons_succ, Bool.false_eq_true, wrn3, wrn1, cpmS, cpok9, h58]
  (try simp (disch := omega) only [w15_0, w15_1, w15_3, w15_4, w15_5, w15_6, w3_0, w3_1, w3_2, upm_app, Int.reduceEq, and_self, and_true, true_and, and_false, false_and, if_true, if_false, ↓reduceIte])
  repeat' (first
    | (with_reducible exact True.intro)
    | (with_reducible exact False.elim)
    | omega
    | (with_reducible rfl)
    | (with_reducible contradiction)
    | (with_reducible refine And.intro ?_ ?_)
    | intro _
    | (with_reducible refine p_199 (fun v9 h9 => ?_); (try simp only [h58] at h9); simp only [hdl_c, S9_1, S9_m, bud9, live9, inb9, wrn, wr9_14, wr9_15, wr9_16, wr9_17, tq9_14, tq9_15, tq9_16, tq9_17, tq_0, tq_1, tq_3, upr_rl, rl_0, rl_1, rl_2, rl_3, rl_4, rl_5, rl_6, rl_7, rl_8, rl_9, rl_10, rl_11, rl_12, rl_13, sp_0, sp_1, sp_2, sp_3, sp_4, sp_5, sp_6, sp_7, sp_8, sp_9, sp_10, sp_11, sp_12, sp_13, se_0, se_1, se_2, se_3, se_4, se_5, se_6, se_7, se_8, se_9, se_10, se_11, se_12, se_13, sem_0, sem_1, sem_2, sem_3, sem_4, sem_5, List.getD_cons_zero, List.getD_cons_succ, Bool.false_eq_true, wrn3, wrn1, cpmS, cpok9, if_true, if_false, ↓reduceIte, wc_19, wc_199, cl_19, runB, B19, ma_19, rho_00, w_cst, w_ldi, w_ldj, w_lda, w_ljk, w_ldk, w_ldw, w_ldk2, w_ldt, w_ldtw, w_neg, w_cvb, w_cvs, w_cvc, w_cvj, w_add, w_sub, w_mul, w_ban, w_bor, w_bxo, w_shl, w_shr, w_ush, w_dvi, w_rmi, w_aldi, w_aldj, w_aldz, w_aldc, w_alda, w_ite, w_cmp, w_cmj, w_cz, w_cnot, w_cand, w_cor, w_nil, w_cons, w_cvi, w_csta, w_cvt, w_cvv, w_csv, w_cpy, w_seq, w_sbr, w_sbn, w_brk, w_ifs, w_ifx, w_ife, w_wk, w_rets, w_rtv, w_thr, w_asi, w_asj, w_asa, w_inc, w_exs, w_asti, w_astj, w_astz, w_astc, w_aopadd, w_aopsub, w_sw, if_true, if_false, ↓reduceIte, kc_249, kl9_249, sr_249_10, sr_249_11, sr_249_12, sr_249_13, sr_249_14, sr_249_15, sr_249_16, sr_249_17, sr_249_2, sr_249_22, sr_249_23, sr_249_24, sr_249_25, sr_249_30, sr_249_31, sr_249_34, sr_249_35, sr_249_40, sr_249_41, sr_249_42, sr_249_43, sr_249_50, sr_249_51, sr_249_52, sr_249_54, sr_249_55, sr_249_57, sr_249_58, sr_249_61, sr_249_63, sr_249_64, sr_249_67, sr_249_68, sr_249_69, sr_249_70, sr_249_71, sr_249_8, sr_249_9, kc_252, kl9_252, kc_253, kl9_253, kc_254, kl9_254, kc_255, kl9_255, kc_273, kl9_273, kc_274, kl9_274, h58]; (try simp (disch := omega) only [w15_0, w15_1, w15_3, w15_4, w15_5, w15_6, w3_0, w3_1, w3_2, upm_app, Int.reduceEq, and_self, and_true, true_and, and_false, false_and, if_true, if_false, ↓reduceIte, h58]))
    | (exact hq _ _ hJ9 hF (fun j h0 h1 => hS j h0 (by omega)))
    | (unfold w32; omega)
    | (simp (disch := omega) only [w32_eq]; omega)
    | (with_reducible show (_ : Int) ≤ _; simp [upm] <;> (first | omega | (unfold w32; omega)))
    | (with_reducible show (_ : Int) < _; simp [upm] <;> (first | omega | (unfold w32; omega))))
  refine ⟨k - 1, by omega, w32 (i + 1), _, rfl, rfl, ?_, ?_, ?_, ?_, ?_⟩
  · refine JW_of hL ?_ (by decide); repeat (first | assumption | (exact JW_len0 (by assumption)) | (refine JW_up ?_ (by first | decide | (unfold frR; omega)) (by first | decide | simp [frc]) (by first | decide | simp [frw]) (by first | (simp [BdR]; done) | (simp [BdR] <;> first | omega | (unfold w32; omega)) | (simp [BdR, upm] <;> first | omega | (unfold w32; omega)) | (refine BdR_n (by simp) ?_; (first | (refine rb_at ?_ ?_ <;> first | omega | (simp only [upm_app]; (repeat' split) <;> omega)) | (refine rb_us ?_ ?_ <;> first | omega | (simp only [upm_app]; (repeat' split) <;> omega)) | (refine rb_ho ?_ ?_ <;> first | omega | (simp only [upm_app]; (repeat' split) <;> omega)) | (refine rb_on ?_ ?_ <;> first | omega | (simp only [upm_app]; (repeat' split) <;> omega)) | ((try simp (disch := omega) only [w32_eq]); (refine (rb_i ?_ ?_).2 ?_ <;> omega)) | (refine rb_us ?_ ?_ <;> first | omega | (unfold w32; omega)))))))
  · unfold w32; omega
  · unfold w32; omega
  · intro x9 hx; (repeat rw [upm_ne hx]); exact hF x9 hx
  · intro j hj0 hj1
    rw [w32_eq (v := i + 1) (by omega) (by omega)] at hj1
    by_cases hji : j = i
    · rw [hji, upm_v]
    · rw [upm_k hji]; exact hS j hj0 (by omega)

set_option maxHeartbeats 4000000 in
theorem n251b {d : Nat} {tc pl e W : Int} {g : Fg} {m : Mem} {N : Int → Int} {a : Int} {Kn Kb : Rho → Sto → Prop} {Kr : Int → Sto → Prop} (hV0 : ∀ j, 0 ≤ j → j < 100 → m 274 j = 1000000) (hJ : JW 3 g tc pl N W m) (hq : ∀ m' i y z, JW 3 g tc pl N W m' → (∀ x, x ≠ 274 → m' x = m x) → SQ (m' 274) (wS (prR m a) (m 252) (m 253) (m 249 4).toNat) → Kn (rl [249, a, i, y, z]) (S9 e m')) : ((whl true 119 (cmp 2 (by decide) (ldi 2) (get f_13_146 (lda 0))) (ifs (cor 50 (cnot (cz 1 (by decide) (aldz (get f_13_26 (lda 0)) (ldi 2)))) (cz 1 (by decide) (csta s_13_156 (acons (ldi 1) (acons (ldi 2) (anil)))))) (seq 67 (asi 3 (add (mul (cst 10) (aldi (get f_13_17 (lda 0)) (ldi 2))) (aldi (get f_13_20 (lda 0)) (ldi 2)))) (seq 85 (asi 4 (add (mul (cst 10) (aldi (get f_13_20 (lda 0)) (ldi 2))) (aldi (get f_13_17 (lda 0)) (ldi 2)))) (seq 106 (asti (get f_13_84 (lda 0)) (ldi 3) (csta s_13_169 (acons (aldi (get f_13_84 (lda 0)) (ldi 3)) (acons (aldi (get f_13_23 (lda 0)) (ldi 2)) (anil))))) (asti (get f_13_84 (lda 0)) (ldi 4) (aldi (get f_13_84 (lda 0)) (ldi 3))))))) (inc 2 1)) : SX 13).1.2 (Cl (d + 1)) Kn Kb Kr (rl [249, a, 0]) (S9 e m) := by
  have hL := JW_l hJ
  have hs := JW_s hJ
  refine whl_i (fun k r u => ∃ (i : Int) (y : Int) (z : Int) (n : Nat) (m9 : Mem), r = rl [249, a, i, y, z] ∧ u = S9 e m9 ∧ JW 3 g tc pl N W m9 ∧ i = n ∧ i ≤ m 249 4 ∧ i + k = 15 ∧ (∀ x, x ≠ 274 → m9 x = m x) ∧ SQ (m9 274) (wS (prR m a) (m 252) (m 253) n)) 15 ?_ ?_
  next => exact ⟨0, 0, 0, 0, m, rlp3_2, rfl, hJ, rfl, by omega, by omega, fun _ _ => rfl, fun p q p0 p1 q0 q1 => hV0 _ (by omega) (by omega)⟩
  rintro k r u ⟨i, y, z, n, m9, rfl, rfl, hJ9, hi, hi2, hk, hF, hV⟩
  have hJ9 := JW_dn hL hJ9; have hs9 := JW_s hJ9
  have h58 := JW_2 hJ9
  have f252 : m9 252 = m 252 := hF 252 (by decide)
  have f253 : m9 253 = m 253 := hF 253 (by decide)
  have f254 : m9 254 = m 254 := hF 254 (by decide)
  have f255 : m9 255 = m 255 := hF 255 (by decide)
  have f4 : m9 249 = m 249 := hF 249 (by decide)
  have f44 : m9 249 4 = m 249 4 := congrFun f4 4
  have y2 := JR_252 (JW_1 hJ9) i
  have y3 := JR_253 (JW_1 hJ9) i
  have y4 := JR_254 (JW_1 hJ9) i
  have y5 := JW_st hJ9 i (by omega)
  have z1 := w10e (a := m9 252 i) (b := m9 253 i) (by omega) (by omega) (by omega) (by omega)
  have z2 := w10e (a := m9 253 i) (b := m9 252 i) (by omega) (by omega) (by omega) (by omega)
  have y6 := JR_274 (JW_1 hJ9) (10 * m9 252 i + m9 253 i)
  simp only [cl_251, runB, B251, ma_251, rho_20, wf_13_133, wf_13_146, wf_13_17, wf_13_20, wf_13_23, wf_13_26, wf_13_81, wf_13_84, wc_19, wc_199, cl_19, B19, ma_19, rho_00, w_cst, w_ldi, w_ldj, w_lda, w_ljk, w_ldk, w_ldw, w_ldk2, w_ldt, w_ldtw, w_neg, w_cvb, w_cvs, w_cvc, w_cvj, w_add, w_sub, w_mul, w_ban, w_bor, w_bxo, w_shl, w_shr, w_ush, w_dvi, w_rmi, w_aldi, w_aldj, w_aldz, w_aldc, w_alda, w_ite, w_cmp, w_cmj, w_cz, w_cnot, w_cand, w_cor, w_nil, w_cons, w_cvi, w_csta, w_cvt, w_cvv, w_csv, w_cpy, w_seq, w_sbr, w_sbn, w_brk, w_ifs, w_ifx, w_ife, w_wk, w_rets, w_rtv, w_thr, w_asi, w_asj, w_asa, w_inc, w_exs, w_asti, w_astj, w_astz, w_astc, w_aopadd, w_aopsub, w_sw, if_true, if_false, ↓reduceIte, hdl_c, S9_1, S9_m, bud9, live9, inb9, wrn, wr9_14, wr9_15, wr9_16, wr9_17, tq9_14, tq9_15, tq9_16, tq9_17, tq_0, tq_1, tq_3, upr_rl, rl_0, rl_1, rl_2, rl_3, rl_4, rl_5, rl_6, rl_7, rl_8, rl_9, rl_10, rl_11, rl_12, rl_13, sp_0, sp_1, sp_2, sp_3, sp_4, sp_5, sp_6, sp_7, sp_8, sp_9, sp_10, sp_11, sp_12, sp_13, se_0, se_1, se_2, se_3, se_4, se_5, se_6, se_7, se_8, se_9, se_10, se_11, se_12, se_13, sem_0, sem_1, sem_2, sem_3, sem_4, sem_5, kc_249, kl9_249, sr_249_10, sr_249_11, sr_249_12, sr_249_13, sr_249_14, sr_249_15, sr_249_16, sr_249_17, sr_249_2, sr_249_22, sr_249_23, sr_249_24, sr_249_25, sr_249_30, sr_249_31, sr_249_34, sr_249_35, sr_249_40, sr_249_41, sr_249_42, sr_249_43, sr_249_50, sr_249_51, sr_249_52, sr_249_54, sr_249_55, sr_249_57, sr_249_58, sr_249_61, sr_249_63, sr_249_64, sr_249_67, sr_249_68, sr_249_69, sr_249_70, sr_249_71, sr_249_8, sr_249_9, kc_252, kl9_252, kc_253, kl9_253, kc_254, kl9_254, kc_255, kl9_255, kc_273, kl9_273, kc_274, kl9_274, List.getD_cons_zero, List.getD_cons_succ, Bool.false_eq_true, wrn3, wrn1, cpmS, cpok9, h58]
  (try simp (disch := omega) only [w15_0, w15_1, w15_3, w15_4, w15_5, w15_6, w3_0, w3_1, w3_2, upm_app, Int.reduceEq, and_self, and_true, true_and, and_false, false_and, if_true, if_false, ↓reduceIte])
  repeat' (first
    | (with_reducible exact True.intro)
    | (with_reducible exact False.elim)
    | omega
    | (with_reducible rfl)
    | (with_reducible contradiction)
    | (with_reducible refine And.intro ?_ ?_)
    | intro _
    | (with_reducible refine p_199 (fun v9 h9 => ?_); (try simp only [h58] at h9); simp only [hdl_c, S9_1, S9_m, bud9, live9, inb9, wrn, wr9_14, wr9_15, wr9_16, wr9_17, tq9_14, tq9_15, tq9_16, tq9_17, tq_0, tq_1, tq_3, upr_rl, rl_0, rl_1, rl_2, rl_3, rl_4, rl_5, rl_6, rl_7, rl_8, rl_9, rl_10, rl_11, rl_12, rl_13, sp_0, sp_1, sp_2, sp_3, sp_4, sp_5, sp_6, sp_7, sp_8, sp_9, sp_10, sp_11, sp_12, sp_13, se_0, se_1, se_2, se_3, se_4, se_5, se_6, se_7, se_8, se_9, se_10, se_11, se_12, se_13, sem_0, sem_1, sem_2, sem_3, sem_4, sem_5, List.getD_cons_zero, List.getD_cons_succ, Bool.false_eq_true, wrn3, wrn1, cpmS, cpok9, if_true, if_false, ↓reduceIte, wc_19, wc_199, cl_19, runB, B19, ma_19, rho_00, w_cst, w_ldi, w_ldj, w_lda, w_ljk, w_ldk, w_ldw, w_ldk2, w_ldt, w_ldtw, w_neg, w_cvb, w_cvs, w_cvc, w_cvj, w_add, w_sub, w_mul, w_ban, w_bor, w_bxo, w_shl, w_shr, w_ush, w_dvi, w_rmi, w_aldi, w_aldj, w_aldz, w_aldc, w_alda, w_ite, w_cmp, w_cmj, w_cz, w_cnot, w_cand, w_cor, w_nil, w_cons, w_cvi, w_csta, w_cvt, w_cvv, w_csv, w_cpy, w_seq, w_sbr, w_sbn, w_brk, w_ifs, w_ifx, w_ife, w_wk, w_rets, w_rtv, w_thr, w_asi, w_asj, w_asa, w_inc, w_exs, w_asti, w_astj, w_astz, w_astc, w_aopadd, w_aopsub, w_sw, if_true, if_false, ↓reduceIte, kc_249, kl9_249, sr_249_10, sr_249_11, sr_249_12, sr_249_13, sr_249_14, sr_249_15, sr_249_16, sr_249_17, sr_249_2, sr_249_22, sr_249_23, sr_249_24, sr_249_25, sr_249_30, sr_249_31, sr_249_34, sr_249_35, sr_249_40, sr_249_41, sr_249_42, sr_249_43, sr_249_50, sr_249_51, sr_249_52, sr_249_54, sr_249_55, sr_249_57, sr_249_58, sr_249_61, sr_249_63, sr_249_64, sr_249_67, sr_249_68, sr_249_69, sr_249_70, sr_249_71, sr_249_8, sr_249_9, kc_252, kl9_252, kc_253, kl9_253, kc_254, kl9_254, kc_255, kl9_255, kc_273, kl9_273, kc_274, kl9_274, h58]; (try simp (disch := omega) only [w15_0, w15_1, w15_3, w15_4, w15_5, w15_6, w3_0, w3_1, w3_2, upm_app, Int.reduceEq, and_self, and_true, true_and, and_false, false_and, if_true, if_false, ↓reduceIte, h58]))
    | (rw [f4] at *; exact hq _ _ _ _ hJ9 hF (by rw [show (m 249 4).toNat = n by omega]; exact hV))
    | (unfold w32; omega)
    | (simp (disch := omega) only [w32_eq]; omega)
    | (with_reducible show (_ : Int) ≤ _; simp [upm] <;> (first | omega | (unfold w32; omega)))
    | (with_reducible show (_ : Int) < _; simp [upm] <;> (first | omega | (unfold w32; omega))))
  all_goals try simp only [z1, z2, upm_v]
  all_goals rw [f252, f253, f254] at *
  all_goals (try rw [f255] at *)
  all_goals (try simp only [z1] at *)
  all_goals refine ⟨k - 1, by omega, w32 (i + 1), _, _, n + 1, _, rfl, rfl, ?_, ?_, ?_, ?_, ?_, ?_⟩
  all_goals first
    | exact hJ9
    | exact hF
    | (unfold w32; omega)
    | (with_reducible (refine JW_of hL ?_ (by decide); repeat (first | assumption | (exact JW_len0 (by assumption)) | (refine JW_up ?_ (by first | decide | (unfold frR; omega)) (by first | decide | simp [frc]) (by first | decide | simp [frw]) (by first | (simp [BdR]; done) | (simp [BdR] <;> first | omega | (unfold w32; omega)) | (simp [BdR, upm] <;> first | omega | (unfold w32; omega)) | (refine BdR_n (by simp) ?_; (first | (refine rb_at ?_ ?_ <;> first | omega | (simp only [upm_app]; (repeat' split) <;> omega)) | (refine rb_us ?_ ?_ <;> first | omega | (simp only [upm_app]; (repeat' split) <;> omega)) | (refine rb_ho ?_ ?_ <;> first | omega | (simp only [upm_app]; (repeat' split) <;> omega)) | (refine rb_on ?_ ?_ <;> first | omega | (simp only [upm_app]; (repeat' split) <;> omega)) | ((try simp (disch := omega) only [w32_eq]); (refine (rb_i ?_ ?_).2 ?_ <;> omega)) | (refine rb_us ?_ ?_ <;> first | omega | (unfold w32; omega)))))))); done)
    | (intro x9 hx; (repeat rw [upm_ne hx]); exact hF x9 hx)
    | (exact wS_cl (by unfold prR; rw [← hi, if_neg (by omega)]) hV)
    | (refine wS_op (v := m9 274 (10 * m 252 i + m 253 i)) (pr := prR m a) (o := m 252) (t := m 253) (k := n) (M := m9 274) ?_ ?_ ?_ hV ?_ (fun j => ?_); (next => unfold prR; rw [← hi, if_pos (by omega)]; omega); (next => rw [← hi]; omega); (next => rw [← hi]; omega); (next => rw [← hi]; unfold prR; rw [if_pos (by omega)]; first | omega | rfl); (next => rw [← hi]; simp only [upm_app, true_and]))
    | (refine wS_op (v := m 254 i) (pr := prR m a) (o := m 252) (t := m 253) (k := n) (M := m9 274) ?_ ?_ ?_ hV ?_ (fun j => ?_); (next => unfold prR; rw [← hi, if_pos (by omega)]; omega); (next => rw [← hi]; omega); (next => rw [← hi]; omega); (next => rw [← hi]; unfold prR; rw [if_pos (by omega)]; first | omega | rfl); (next => rw [← hi]; simp only [upm_app, true_and]))
