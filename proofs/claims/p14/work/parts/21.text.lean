/-! the text: sign and end -/
theorem upm_s (m : Mem) (a j v : Int) : upm m a j v a j = v := by unfold upm; rw [if_pos ⟨rfl, rfl⟩]
theorem upm_a (m : Mem) (a j v x y : Int) (h : x ≠ a) : upm m a j v x y = m x y := by unfold upm; rw [if_neg (fun q => h q.1)]
theorem upm_j (m : Mem) (a j v x y : Int) (h : y ≠ j) : upm m a j v x y = m x y := by unfold upm; rw [if_neg (fun q => h q.2)]
/-- byte k of v, as both take it -/
def byt (v k : Int) : Int := iand (ishr v (24 - 8 * k)) 255
def tapeOf (m m' : Mem) (a b l n v : Int) : Prop := (∀ x j, ¬ (x = a ∧ l ≤ j ∧ j < l + 4) → ¬ (x = b ∧ j = n) → m' x j = m x j) ∧ (∀ k, 0 ≤ k → k < 4 → m' a (l + k) = byt v k) ∧ m' b n = l + 4
theorem t_signM {d : Nat} {v e : Int} {m : Mem} {Q : Int → Sto → Prop} (h1 : 0 ≤ m 249 18) (h2 : m 249 18 ≤ 80) (h : (76 < m 249 18 → Q (-1) (S9 e (upm m 249 0 0))) ∧ (m 249 18 ≤ 76 → ∀ m', tapeOf (upm m 249 0 0) m' 260 249 (m 249 18) 18 v → Q (m 249 18 + 4) (S9 e m'))) : Cl (d + 2) 167 [249, v] Q (S9 e m) := by
  simp only [cl_167, runB, B167, ma_167, rho_20, wf_13_160, wf_13_42, wpf_13_126, wpf_13_160, wpopadd_pf_13_160, w_cst, w_ldi, w_ldj, w_lda, w_ljk, w_ldk, w_ldw, w_ldk2, w_ldt, w_ldtw, w_neg, w_cvb, w_cvs, w_cvc, w_cvj, w_add, w_sub, w_mul, w_ban, w_bor, w_bxo, w_shl, w_shr, w_ush, w_dvi, w_rmi, w_aldi, w_aldj, w_aldz, w_aldc, w_alda, w_ite, w_cmp, w_cmj, w_cz, w_cnot, w_cand, w_cor, w_nil, w_cons, w_cvi, w_csta, w_cvt, w_cvv, w_csv, w_cpy, w_seq, w_sbr, w_sbn, w_brk, w_ifs, w_ifx, w_ife, w_wk, w_rets, w_rtv, w_thr, w_asi, w_asj, w_asa, w_inc, w_exs, w_asti, w_astj, w_astz, w_astc, w_aopadd, w_aopsub, w_sw, hdl_c, S9_1, S9_m, bud9, live9, inb9, wrn, wr9_14, wr9_15, wr9_16, wr9_17, tq9_14, tq9_15, tq9_16, tq9_17, tq_0, tq_1, tq_3, upr_rl, rl_0, rl_1, rl_2, rl_3, rl_4, rl_5, rl_6, rl_7, rl_8, rl_9, rl_10, rl_11, rl_12, rl_13, sp_0, sp_1, sp_2, sp_3, sp_4, sp_5, sp_6, sp_7, sp_8, sp_9, sp_10, sp_11, sp_12, sp_13, se_0, se_1, se_2, se_3, se_4, se_5, se_6, se_7, se_8, se_9, se_10, se_11, se_12, se_13, sem_0, sem_1, sem_2, sem_3, sem_4, sem_5, sr_249_55, sr_249_40, sr_249_17, kc_249, sr_249_11, sr_249_8, sr_249_70, sr_249_2, sr_249_67, sr_249_24, sr_249_64, sr_249_58, sr_249_42, sr_249_61, sr_249_41, sr_249_16, sr_249_34, sr_249_15, sr_249_43, sr_249_68, sr_249_63, sr_249_71, sr_249_13, sr_249_35, sr_249_31, sr_249_12, sr_249_52, sr_249_30, sr_249_9, sr_249_22, sr_249_54, sr_249_10, sr_249_57, sr_249_50, sr_249_25, sr_249_69, sr_249_23, kl9_249, sr_249_14, sr_249_51, kc_260, kl9_260]
  simp [upm_s, upm_a, upm_j]
  refine ⟨h.1, fun h3 => whl_i (fun k r u => ∃ i m2, r = rl [249, v, i] ∧ u = S9 e m2 ∧ 0 ≤ i ∧ i + k = 4 ∧ (∀ x j, ¬ (x = 260 ∧ m 249 18 ≤ j ∧ j < m 249 18 + 4) → m2 x j = upm m 249 0 0 x j) ∧ ∀ t, 0 ≤ t → t < i → m2 260 (m 249 18 + t) = byt v t) 4 ⟨0, _, rfl, rfl, by decide, by decide, fun _ _ _ => rfl, fun t h1 h2 => absurd h2 (by omega)⟩ ?_⟩
  have h9 := h.2 h3
  rintro k r u ⟨i, m2, rfl, rfl, hi, hk, hf, hb⟩
  have hl : m2 249 18 = m 249 18 := by rw [hf _ _ (by omega), upm_j _ _ _ _ _ _ (by decide)]
  simp only [cl_167, runB, B167, ma_167, rho_20, wf_13_160, wf_13_42, wpf_13_126, wpf_13_160, wpopadd_pf_13_160, w_cst, w_ldi, w_ldj, w_lda, w_ljk, w_ldk, w_ldw, w_ldk2, w_ldt, w_ldtw, w_neg, w_cvb, w_cvs, w_cvc, w_cvj, w_add, w_sub, w_mul, w_ban, w_bor, w_bxo, w_shl, w_shr, w_ush, w_dvi, w_rmi, w_aldi, w_aldj, w_aldz, w_aldc, w_alda, w_ite, w_cmp, w_cmj, w_cz, w_cnot, w_cand, w_cor, w_nil, w_cons, w_cvi, w_csta, w_cvt, w_cvv, w_csv, w_cpy, w_seq, w_sbr, w_sbn, w_brk, w_ifs, w_ifx, w_ife, w_wk, w_rets, w_rtv, w_thr, w_asi, w_asj, w_asa, w_inc, w_exs, w_asti, w_astj, w_astz, w_astc, w_aopadd, w_aopsub, w_sw, hdl_c, S9_1, S9_m, bud9, live9, inb9, wrn, wr9_14, wr9_15, wr9_16, wr9_17, tq9_14, tq9_15, tq9_16, tq9_17, tq_0, tq_1, tq_3, upr_rl, rl_0, rl_1, rl_2, rl_3, rl_4, rl_5, rl_6, rl_7, rl_8, rl_9, rl_10, rl_11, rl_12, rl_13, sp_0, sp_1, sp_2, sp_3, sp_4, sp_5, sp_6, sp_7, sp_8, sp_9, sp_10, sp_11, sp_12, sp_13, se_0, se_1, se_2, se_3, se_4, se_5, se_6, se_7, se_8, se_9, se_10, se_11, se_12, se_13, sem_0, sem_1, sem_2, sem_3, sem_4, sem_5, sr_249_55, sr_249_40, sr_249_17, kc_249, sr_249_11, sr_249_8, sr_249_70, sr_249_2, sr_249_67, sr_249_24, sr_249_64, sr_249_58, sr_249_42, sr_249_61, sr_249_41, sr_249_16, sr_249_34, sr_249_15, sr_249_43, sr_249_68, sr_249_63, sr_249_71, sr_249_13, sr_249_35, sr_249_31, sr_249_12, sr_249_52, sr_249_30, sr_249_9, sr_249_22, sr_249_54, sr_249_10, sr_249_57, sr_249_50, sr_249_25, sr_249_69, sr_249_23, kl9_249, sr_249_14, sr_249_51, kc_260, kl9_260, hl]
  simp (disch := omega) only [w32_eq]
  refine ⟨fun h4 => ⟨by decide, by decide, by decide, by decide, ⟨by decide, by omega, by omega⟩, trivial, k - 1, by omega, i + 1, _, rfl, rfl, by omega, by omega, ?_, ?_⟩, fun h4 => ⟨by decide, by decide, by decide, by decide, ?_⟩⟩
  · intro x j hx
    rw [← hf x j hx]
    unfold upm
    rw [if_neg (by omega)]
  · intro t ht1 ht2
    unfold upm
    by_cases ht : t = i
    · subst ht; rw [if_pos ⟨rfl, rfl⟩]; rfl
    · rw [if_neg (by omega)]; exact hb t ht1 (by omega)
  · rw [upm_s]
    refine h9 _ ⟨fun x j hx hj => ?_, fun t ht1 ht2 => ?_, upm_s _ _ _ _⟩
    · unfold upm
      rw [if_neg hj]; exact hf x j hx
    · rw [upm_a _ _ _ _ _ _ (by decide)]; exact hb t ht1 (by omega)
