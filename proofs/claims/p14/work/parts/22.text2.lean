/-! the text, on both sides -/
theorem tb_shr {x : Int} {p k : Nat} (hp : p < 32) (hk : p + k < 32) : tb (ishr x p) k = tb x (p + k) := by
  unfold tb ishr
  rw [ofI_ofI, Int32.toBitVec_shiftRight]
  have e := sh_am p hp
  rw [BitVec.sshiftRight_eq', e, BitVec.getLsbD_sshiftRight]
  simp [hk, show k < 32 by omega, show ¬ 32 ≤ k by omega]
theorem tb_ushr {x : Int} {p k : Nat} (hp : p < 32) (hk : p + k < 32) : tb (iushr x p) k = tb x (p + k) := by
  unfold tb iushr
  rw [ofI_ofI, UInt32.toBitVec_toInt32, UInt32.toBitVec_shiftRight]
  have e : ∀ p : Nat, p < 32 → (((Int32.ofInt (p : Int)).toUInt32 &&& Int32.toUInt32 31).toBitVec % 32).toNat = p := by decide +kernel
  rw [BitVec.ushiftRight_eq', e p hp, BitVec.getLsbD_ushiftRight]
  rfl
theorem t255 : ∀ k : Nat, k < 32 → tb 255 k = decide (k < 8) := by decide +kernel
theorem byt_u {v : Int} {p : Nat} (hp : p ≤ 24) : iand (iushr v p) 255 = iand (ishr v p) 255 := by
  refine tb_ext (iand_in _ _) (iand_in _ _) (fun k hk => ?_)
  rw [tb_and, tb_and, t255 k hk]
  by_cases h : k < 8
  · rw [tb_shr (by omega) (by omega), tb_ushr (by omega) (by omega)]
  · simp [h]
theorem i2c_255 (a : Int) : i2c (iand a 255) = iand a 255 := by
  unfold i2c iand
  rw [ofI_ofI]
  exact congrArg Int32.toInt (sc_c2 (Int32.ofInt a))
theorem and255 (a : Int) : 0 ≤ iand a 255 ∧ iand a 255 < 256 := by
  unfold iand
  obtain ⟨j, hj, e⟩ := pk_andE (Int32.ofInt a) (m := 255) 8 (by decide)
  have e2 : Int32.ofInt a &&& Int32.ofInt 255 = nI j := e
  rw [e2]
  have : ∀ j : Nat, j < 256 → 0 ≤ (nI j).toInt ∧ (nI j).toInt < 256 := by decide +kernel
  exact this j hj
theorem byt_in (v k : Int) : 0 ≤ byt v k ∧ byt v k < 256 := and255 _
theorem byt_i {v i : Int} (h0 : 0 ≤ i) (h1 : i ≤ 3) : iand (iushr v (24 - 8 * i)) 255 = byt v i := by
  have e : 24 - 8 * i = (((24 - 8 * i).toNat : Nat) : Int) := by omega
  unfold byt
  rw [e]
  exact byt_u (by omega)
/-- the component's sign -/
theorem t_sign {d : Nat} {v e : Int} {m : Mem} {Q : Int → Sto → Prop} (h1 : 0 ≤ m 2 1) (h2 : m 2 1 ≤ 80) (h : (76 < m 2 1 → Q (-1) (S9 e m)) ∧ (m 2 1 ≤ 76 → ∀ m', tapeOf m m' 3 2 (m 2 1) 1 v → Q (m 2 1 + 4) (S9 e m'))) : Cl (d + 2) 12 [1, v] Q (S9 e m) := by
  simp only [cl_12, runB, B12, ma_12, rho_20, wf_1_10, wc_13, cl_13, B13, ma_13, wf_2_15, wf_2_9, wpf_2_15, wpopadd_pf_2_15, w_cst, w_ldi, w_ldj, w_lda, w_ljk, w_ldk, w_ldw, w_ldk2, w_ldt, w_ldtw, w_neg, w_cvb, w_cvs, w_cvc, w_cvj, w_add, w_sub, w_mul, w_ban, w_bor, w_bxo, w_shl, w_shr, w_ush, w_dvi, w_rmi, w_aldi, w_aldj, w_aldz, w_aldc, w_alda, w_ite, w_cmp, w_cmj, w_cz, w_cnot, w_cand, w_cor, w_nil, w_cons, w_cvi, w_csta, w_cvt, w_cvv, w_csv, w_cpy, w_seq, w_sbr, w_sbn, w_brk, w_ifs, w_ifx, w_ife, w_wk, w_rets, w_rtv, w_thr, w_asi, w_asj, w_asa, w_inc, w_exs, w_asti, w_astj, w_astz, w_astc, w_aopadd, w_aopsub, w_sw, if_true, if_false, ↓reduceIte, hdl_c, S9_1, S9_m, bud9, live9, inb9, wrn, wr9_14, wr9_15, wr9_16, wr9_17, tq9_14, tq9_15, tq9_16, tq9_17, tq_0, tq_1, tq_3, upr_rl, rl_0, rl_1, rl_2, rl_3, rl_4, rl_5, rl_6, rl_7, rl_8, rl_9, rl_10, rl_11, rl_12, rl_13, sp_0, sp_1, sp_2, sp_3, sp_4, sp_5, sp_6, sp_7, sp_8, sp_9, sp_10, sp_11, sp_12, sp_13, se_0, se_1, se_2, se_3, se_4, se_5, se_6, se_7, se_8, se_9, se_10, se_11, se_12, se_13, sem_0, sem_1, sem_2, sem_3, sem_4, sem_5, sr_1_9, sr_1_11, sr_1_13, kl9_1, sr_1_10, sr_1_1, sr_1_7, sr_1_0, sr_1_5, sr_1_6, sr_1_8, kc_1, sr_1_3, sr_1_4, sr_1_2, sr_2_0, kl9_2, kc_2, kc_3, kl9_3]
  simp (disch := omega) only [w32_eq]
  simp [upm_s, upm_a, upm_j]
  refine ⟨fun h3 => h.1 (by omega), fun h3 => whl_i (fun k r u => ∃ i m2, r = rl [2, v, 24 - 8 * i] ∧ u = S9 e m2 ∧ 0 ≤ i ∧ i + k = 4 ∧ (∀ x j, ¬ (x = 3 ∧ m 2 1 ≤ j ∧ j < m 2 1 + 4) → ¬ (x = 2 ∧ j = 1) → m2 x j = m x j) ∧ (∀ t, 0 ≤ t → t < i → m2 3 (m 2 1 + t) = byt v t) ∧ m2 2 1 = m 2 1 + i) 4 ⟨0, _, rfl, rfl, by decide, by decide, fun _ _ _ _ => rfl, fun t h1 h2 => absurd h2 (by omega), by omega⟩ ?_⟩
  have h9 := h.2 (by omega)
  rintro k r u ⟨i, m2, rfl, rfl, hi, hk, hf, hb, hl⟩
  simp only [cl_13, runB, B13, ma_13, rho_20, wf_2_15, wf_2_9, wpf_2_15, wpopadd_pf_2_15, w_cst, w_ldi, w_ldj, w_lda, w_ljk, w_ldk, w_ldw, w_ldk2, w_ldt, w_ldtw, w_neg, w_cvb, w_cvs, w_cvc, w_cvj, w_add, w_sub, w_mul, w_ban, w_bor, w_bxo, w_shl, w_shr, w_ush, w_dvi, w_rmi, w_aldi, w_aldj, w_aldz, w_aldc, w_alda, w_ite, w_cmp, w_cmj, w_cz, w_cnot, w_cand, w_cor, w_nil, w_cons, w_cvi, w_csta, w_cvt, w_cvv, w_csv, w_cpy, w_seq, w_sbr, w_sbn, w_brk, w_ifs, w_ifx, w_ife, w_wk, w_rets, w_rtv, w_thr, w_asi, w_asj, w_asa, w_inc, w_exs, w_asti, w_astj, w_astz, w_astc, w_aopadd, w_aopsub, w_sw, if_true, if_false, ↓reduceIte, hdl_c, S9_1, S9_m, bud9, live9, inb9, wrn, wr9_14, wr9_15, wr9_16, wr9_17, tq9_14, tq9_15, tq9_16, tq9_17, tq_0, tq_1, tq_3, upr_rl, rl_0, rl_1, rl_2, rl_3, rl_4, rl_5, rl_6, rl_7, rl_8, rl_9, rl_10, rl_11, rl_12, rl_13, sp_0, sp_1, sp_2, sp_3, sp_4, sp_5, sp_6, sp_7, sp_8, sp_9, sp_10, sp_11, sp_12, sp_13, se_0, se_1, se_2, se_3, se_4, se_5, se_6, se_7, se_8, se_9, se_10, se_11, se_12, se_13, sem_0, sem_1, sem_2, sem_3, sem_4, sem_5, sr_1_9, sr_1_11, sr_1_13, kl9_1, sr_1_10, sr_1_1, sr_1_7, sr_1_0, sr_1_5, sr_1_6, sr_1_8, kc_1, sr_1_3, sr_1_4, sr_1_2, sr_2_0, kl9_2, kc_2, kc_3, kl9_3, hl]
  by_cases h4 : i = 4
  · subst h4
    refine ⟨fun h => absurd h (by omega), fun _ => ⟨by decide, by decide, h9 m2 ⟨hf, fun t a b => hb t a b, hl⟩⟩⟩
  · rw [byt_i hi (by omega)]
    have e2 : i2c (byt v i) = byt v i := i2c_255 _
    rw [e2, upm_a _ _ _ _ _ _ (by decide), hl]
    simp (disch := omega) only [w32_eq]
    have hby := byt_in v i
    refine ⟨fun _ => ⟨by decide, by decide, by decide, by decide, ⟨by decide, by omega, by omega⟩, ⟨by omega, by omega⟩, by decide, by decide, by decide, k - 1, by omega, i + 1, _, by rw [show 24 - 8 * i + -8 = 24 - 8 * (i + 1) by omega], rfl, by omega, by omega, fun x j hx hj => ?_, fun t ht1 ht2 => ?_, ?_⟩, fun h => absurd (show 0 ≤ 24 - 8 * i by omega) h⟩
    · unfold upm
      rw [if_neg hj, if_neg (by omega)]
      exact hf x j hx hj
    · rw [upm_a _ _ _ _ _ _ (by decide)]
      unfold upm
      by_cases ht : t = i
      · subst ht; rw [if_pos ⟨rfl, rfl⟩]
      · rw [if_neg (by omega)]; exact hb t ht1 (by omega)
    · rw [upm_s]; omega
