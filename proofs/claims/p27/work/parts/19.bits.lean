section
/-! bits of an int -/
def tb (x : Int) (k : Nat) : Bool := (Int32.ofInt x).toBitVec.getLsbD k
theorem sh_am : ∀ n : Nat, n < 32 → ((Int32.ofInt (n : Int) &&& 31).toBitVec.smod 32).toNat = n := by decide +kernel
theorem ofI_ofI (x : Int32) : Int32.ofInt x.toInt = x := Int32.ofInt_toInt x
theorem tb_and (x y : Int) (k : Nat) : tb (iand x y) k = (tb x k && tb y k) := by
  unfold tb iand; rw [ofI_ofI]; simp
theorem tb_or (x y : Int) (k : Nat) : tb (ior x y) k = (tb x k || tb y k) := by
  unfold tb ior; rw [ofI_ofI]; simp
theorem tb_xor (x y : Int) (k : Nat) : tb (ixor x y) k = (tb x k ^^ tb y k) := by
  unfold tb ixor; rw [ofI_ofI]; simp
theorem tb_m1 {k : Nat} (h : k < 32) : tb (-1) k = true := by
  have : ∀ k : Nat, k < 32 → tb (-1) k = true := by decide +kernel
  exact this k h
theorem tb_0 (k : Nat) : tb 0 k = false := by
  unfold tb
  show (0 : BitVec 32).getLsbD k = false
  simp
theorem tb_shl {x : Int} {p k : Nat} (hp : p < 32) (hk : k < 32) : tb (ishl x p) k = (decide (p ≤ k) && tb x (k - p)) := by
  unfold tb ishl
  rw [ofI_ofI, Int32.toBitVec_shiftLeft]
  have e := sh_am p hp
  rw [BitVec.shiftLeft_eq', e, BitVec.getLsbD_shiftLeft]
  by_cases h : k < p
  · simp [h, Nat.not_le.mpr h]
  · simp [h, hk, Nat.not_lt.mp h]
theorem tb_ext {x y : Int} (hx : inI x) (hy : inI y) (h : ∀ k, k < 32 → tb x k = tb y k) : x = y := by
  rw [← ofI_inj hx hy, ← Int32.toBitVec_inj]
  apply BitVec.eq_of_getLsbD_eq
  intro i hi
  exact h i hi
theorem iand_in (x y : Int) : inI (iand x y) := toInt_in _
theorem ior_in (x y : Int) : inI (ior x y) := toInt_in _
theorem tb_1 {k : Nat} (h : k < 32) : tb 1 k = decide (k = 0) := by
  have : ∀ k : Nat, k < 32 → tb 1 k = decide (k = 0) := by decide +kernel
  exact this k h
theorem tb_bit {p k : Nat} (hp : p < 32) (hk : k < 32) : tb (ishl 1 p) k = decide (k = p) := by
  rw [tb_shl hp hk]
  by_cases h : p ≤ k
  · rw [tb_1 (by omega)]
    simp [h]
    omega
  · simp [h]; omega
/-- the bit, as the two programs ask for it -/
theorem bit_ask {x : Int} {p : Nat} (hp : p < 32) : iand (ishr x p) 1 = if tb x p then 1 else 0 := by
  refine tb_ext (iand_in _ _) (by unfold inI; split <;> omega) (fun k hk => ?_)
  rw [tb_and, tb_1 hk]
  by_cases h0 : k = 0
  · subst h0
    have : tb (ishr x p) 0 = tb x p := by
      unfold tb ishr
      rw [ofI_ofI, Int32.toBitVec_shiftRight]
      have e := sh_am p hp
      rw [BitVec.sshiftRight_eq', e, BitVec.getLsbD_sshiftRight]
      simp [hp]
    rw [this]
    by_cases hb : tb x p = true
    · simp [hb, tb_1]
    · have hb' : tb x p = false := by simpa using hb
      simp [hb', tb_0]
  · by_cases hb : tb x p = true
    · rw [if_pos hb, tb_1 hk]; simp [h0]
    · rw [if_neg hb, tb_0]; simp [h0]
end
section
/-! loops by unrolling and induction -/
end
section
/-! the text: sign and end -/
theorem upm_s (m : Mem) (a j v : Int) : upm m a j v a j = v := by unfold upm; rw [if_pos ⟨rfl, rfl⟩]
theorem upm_a (m : Mem) (a j v x y : Int) (h : x ≠ a) : upm m a j v x y = m x y := by unfold upm; rw [if_neg (fun q => h q.1)]
theorem upm_j (m : Mem) (a j v x y : Int) (h : y ≠ j) : upm m a j v x y = m x y := by unfold upm; rw [if_neg (fun q => h q.2)]
/-- byte k of v, as both take it -/
def byt (v k : Int) : Int := iand (ishr v (24 - 8 * k)) 255
def tapeOf (m m' : Mem) (a b l n v : Int) : Prop := (∀ x j, ¬ (x = a ∧ l ≤ j ∧ j < l + 4) → ¬ (x = b ∧ j = n) → m' x j = m x j) ∧ (∀ k, 0 ≤ k → k < 4 → m' a (l + k) = byt v k) ∧ m' b n = l + 4
theorem t_signM {d : Nat} {v e : Int} {m : Mem} {Q : Int → Sto → Prop} (h1 : 0 ≤ m 249 18) (h2 : m 249 18 ≤ 80) (h : (76 < m 249 18 → Q (-1) (S9 e (upm m 249 0 0))) ∧ (m 249 18 ≤ 76 → ∀ m', tapeOf (upm m 249 0 0) m' 260 249 (m 249 18) 18 v → Q (m 249 18 + 4) (S9 e m'))) : Cl (d + 2) 167 [249, v] Q (S9 e m) := by
  simp only [cl_167, runB, B167, ma_167, rho_20, wf_13_160, wf_13_42, wpf_13_126, wpf_13_160, wpopadd_pf_13_160, w_cst, w_ldi, w_ldj, w_lda, w_ljk, w_ldk, w_ldw, w_ldk2, w_ldt, w_ldtw, w_neg, w_cvb, w_cvs, w_cvc, w_cvj, w_add, w_sub, w_mul, w_ban, w_bor, w_bxo, w_shl, w_shr, w_ush, w_dvi, w_rmi, w_aldi, w_aldj, w_aldz, w_aldc, w_alda, w_ite, w_cmp, w_cmj, w_cz, w_cnot, w_cand, w_cor, w_nil, w_cons, w_cvi, w_csta, w_cvt, w_cvv, w_csv, w_cpy, w_seq, w_sbr, w_sbn, w_brk, w_ifs, w_ifx, w_ife, w_wk, w_rets, w_rtv, w_thr, w_asi, w_asj, w_asa, w_inc, w_exs, w_asti, w_astj, w_astz, w_astc, w_aopadd, w_aopsub, w_sw, hdl_c, S9_1, S9_m, bud9, live9, inb9, wrn, wr9_14, wr9_15, wr9_16, wr9_17, tq9_14, tq9_15, tq9_16, tq9_17, tq_0, tq_1, tq_3, upr_rl, rl_0, rl_1, rl_2, rl_3, rl_4, rl_5, rl_6, rl_7, rl_8, rl_9, rl_10, rl_11, rl_12, rl_13, sp_0, sp_1, sp_2, sp_3, sp_4, sp_5, sp_6, sp_7, sp_8, sp_9, sp_10, sp_11, sp_12, sp_13, se_0, se_1, se_2, se_3, se_4, se_5, se_6, se_7, se_8, se_9, se_10, se_11, se_12, se_13, sem_0, sem_1, sem_2, sem_3, sem_4, sem_5, sr_249_55, sr_249_40, sr_249_17, kc_249, sr_249_11, sr_249_8, sr_249_70, sr_249_2, sr_249_67, sr_249_24, sr_249_64, sr_249_58, sr_249_42, sr_249_61, sr_249_41, sr_249_16, sr_249_34, sr_249_15, sr_249_43, sr_249_68, sr_249_63, sr_249_71, sr_249_13, sr_249_35, sr_249_31, sr_249_12, sr_249_52, sr_249_30, sr_249_9, sr_249_22, sr_249_54, sr_249_10, sr_249_57, sr_249_50, sr_249_25, sr_249_69, sr_249_23, kl9_249, sr_249_14, sr_249_51, kc_260, kl9_260]
  simp [upm_s, upm_a, upm_j]
  refine ⟨h.1, fun h3 => whl_i (fun k r u => ∃ i m2, r = rl [249, v, i] ∧ u = S9 e m2 ∧ 0 ≤ i ∧ i + k = 4 ∧ (∀ x j, ¬ (x = 260 ∧ m 249 18 ≤ j ∧ j < m 249 18 + 4) → m2 x j = upm m 249 0 0 x j) ∧ ∀ t, 0 ≤ t → t < i → m2 260 (m 249 18 + t) = byt v t) 4 ⟨0, _, rfl, rfl, by decide, by decide, fun _ _ _ => rfl, fun t h1 h2 => absurd h2 (by omega)⟩ ?_⟩
  have h9 := h.2 h3
  rintro k r u ⟨i, m2, rfl, rfl, hi, hk, hf, hb⟩
  have hl : m2 249 18 = m 249 18 := by rw [hf _ _ (by omega), upm_j _ _ _ _ _ _ (by decide)]
  simp only [cl_167, runB, B167, ma_167, rho_20, wf_13_160, wf_13_42, wpf_13_126, wpf_13_160, wpopadd_pf_13_160, w_cst, w_ldi, w_ldj, w_lda, w_ljk, w_ldk, w_ldw, w_ldk2, w_ldt, w_ldtw, w_neg, w_cvb, w_cvs, w_cvc, w_cvj, w_add, w_sub, w_mul, w_ban, w_bor, w_bxo, w_shl, w_shr, w_ush, w_dvi, w_rmi, w_aldi, w_aldj, w_aldz, w_aldc, w_alda, w_ite, w_cmp, w_cmj, w_cz, w_cnot, w_cand, w_cor, w_nil, w_cons, w_cvi, w_csta, w_cvt, w_cvv, w_csv, w_cpy, w_seq, w_sbr, w_sbn, w_brk, w_ifs, w_ifx, w_ife, w_wk, w_rets, w_rtv, w_thr, w_asi, w_asj, w_asa, w_inc, w_exs, w_asti, w_astj, w_astz, w_astc, w_aopadd, w_aopsub, w_sw, hdl_c, S9_1, S9_m, bud9, live9, inb9, wrn, wr9_14, wr9_15, wr9_16, wr9_17, tq9_14, tq9_15, tq9_16, tq9_17, tq_0, tq_1, tq_3, upr_rl, rl_0, rl_1, rl_2, rl_3, rl_4, rl_5, rl_6, rl_7, rl_8, rl_9, rl_10, rl_11, rl_12, rl_13, sp_0, sp_1, sp_2, sp_3, sp_4, sp_5, sp_6, sp_7, sp_8, sp_9, sp_10, sp_11, sp_12, sp_13, se_0, se_1, se_2, se_3, se_4, se_5, se_6, se_7, se_8, se_9, se_10, se_11, se_12, se_13, sem_0, sem_1, sem_2, sem_3, sem_4, sem_5, sr_249_55, sr_249_40, sr_249_17, kc_249, sr_249_11, sr_249_8, sr_249_70, sr_249_2, sr_249_67, sr_249_24, sr_249_64, sr_249_58, sr_249_42, sr_249_61, sr_249_41, sr_249_16, sr_249_34, sr_249_15, sr_249_43, sr_249_68, sr_249_63, sr_249_71, sr_249_13, sr_249_35, sr_249_31, sr_249_12, sr_249_52, sr_249_30, sr_249_9, sr_249_22, sr_249_54, sr_249_10, sr_249_57, sr_249_50, sr_249_25, sr_249_69, sr_249_23, kl9_249, sr_249_14, sr_249_51, kc_260, kl9_260, hl]
  simp (disch := omega) only [w32_eq]
  refine ⟨fun h4 => ⟨by decide, by decide, by decide, by decide, ⟨by decide, by omega, by omega⟩, trivial, k - 1, by omega, i + 1, _, rfl, rfl, by omega, by omega, ?_, ?_⟩, fun h4 => ⟨by decide, by decide, by decide, by decide, ?_⟩⟩
  · intro x j hx
    rw [← hf x j hx]
    unfold upm
    rw [if_neg (by omega)]
  · intro t ht1 ht2
    unfold upm
    by_cases ht : t = i
    · subst ht; rw [if_pos ⟨rfl, rfl⟩]; rfl
    · rw [if_neg (by omega)]; exact hb t ht1 (by omega)
  · rw [upm_s]
    refine h9 _ ⟨fun x j hx hj => ?_, fun t ht1 ht2 => ?_, upm_s _ _ _ _⟩
    · unfold upm
      rw [if_neg hj]; exact hf x j hx
    · rw [upm_a _ _ _ _ _ _ (by decide)]; exact hb t ht1 (by omega)
end
section
/-! the text, on both sides -/
theorem tb_shr {x : Int} {p k : Nat} (hp : p < 32) (hk : p + k < 32) : tb (ishr x p) k = tb x (p + k) := by
  unfold tb ishr
  rw [ofI_ofI, Int32.toBitVec_shiftRight]
  have e := sh_am p hp
  rw [BitVec.sshiftRight_eq', e, BitVec.getLsbD_sshiftRight]
  simp [hk, show k < 32 by omega, show ¬ 32 ≤ k by omega]
theorem tb_ushr {x : Int} {p k : Nat} (hp : p < 32) (hk : p + k < 32) : tb (iushr x p) k = tb x (p + k) := by
  unfold tb iushr
  rw [ofI_ofI, UInt32.toBitVec_toInt32, UInt32.toBitVec_shiftRight]
  have e : ∀ p : Nat, p < 32 → (((Int32.ofInt (p : Int)).toUInt32 &&& Int32.toUInt32 31).toBitVec % 32).toNat = p := by decide +kernel
  rw [BitVec.ushiftRight_eq', e p hp, BitVec.getLsbD_ushiftRight]
  rfl
theorem t255 : ∀ k : Nat, k < 32 → tb 255 k = decide (k < 8) := by decide +kernel
theorem byt_u {v : Int} {p : Nat} (hp : p ≤ 24) : iand (iushr v p) 255 = iand (ishr v p) 255 := by
  refine tb_ext (iand_in _ _) (iand_in _ _) (fun k hk => ?_)
  rw [tb_and, tb_and, t255 k hk]
  by_cases h : k < 8
  · rw [tb_shr (by omega) (by omega), tb_ushr (by omega) (by omega)]
  · simp [h]
theorem i2c_255 (a : Int) : i2c (iand a 255) = iand a 255 := by
  unfold i2c iand
  rw [ofI_ofI]
  exact congrArg Int32.toInt (sc_c2 (Int32.ofInt a))
theorem and255 (a : Int) : 0 ≤ iand a 255 ∧ iand a 255 < 256 := by
  unfold iand
  obtain ⟨j, hj, e⟩ := pk_andE (Int32.ofInt a) (m := 255) 8 (by decide)
  have e2 : Int32.ofInt a &&& Int32.ofInt 255 = nI j := e
  rw [e2]
  have : ∀ j : Nat, j < 256 → 0 ≤ (nI j).toInt ∧ (nI j).toInt < 256 := by decide +kernel
  exact this j hj
theorem byt_in (v k : Int) : 0 ≤ byt v k ∧ byt v k < 256 := and255 _
theorem byt_i {v i : Int} (h0 : 0 ≤ i) (h1 : i ≤ 3) : iand (iushr v (24 - 8 * i)) 255 = byt v i := by
  have e : 24 - 8 * i = (((24 - 8 * i).toNat : Nat) : Int) := by omega
  unfold byt
  rw [e]
  exact byt_u (by omega)
/-- the component's sign -/
theorem t_sign {d : Nat} {v e : Int} {m : Mem} {Q : Int → Sto → Prop} (h1 : 0 ≤ m 2 1) (h2 : m 2 1 ≤ 80) (h : (76 < m 2 1 → Q (-1) (S9 e m)) ∧ (m 2 1 ≤ 76 → ∀ m', tapeOf m m' 3 2 (m 2 1) 1 v → Q (m 2 1 + 4) (S9 e m'))) : Cl (d + 2) 12 [1, v] Q (S9 e m) := by
  simp only [cl_12, runB, B12, ma_12, rho_20, wf_1_10, wc_13, cl_13, B13, ma_13, wf_2_15, wf_2_9, wpf_2_15, wpopadd_pf_2_15, w_cst, w_ldi, w_ldj, w_lda, w_ljk, w_ldk, w_ldw, w_ldk2, w_ldt, w_ldtw, w_neg, w_cvb, w_cvs, w_cvc, w_cvj, w_add, w_sub, w_mul, w_ban, w_bor, w_bxo, w_shl, w_shr, w_ush, w_dvi, w_rmi, w_aldi, w_aldj, w_aldz, w_aldc, w_alda, w_ite, w_cmp, w_cmj, w_cz, w_cnot, w_cand, w_cor, w_nil, w_cons, w_cvi, w_csta, w_cvt, w_cvv, w_csv, w_cpy, w_seq, w_sbr, w_sbn, w_brk, w_ifs, w_ifx, w_ife, w_wk, w_rets, w_rtv, w_thr, w_asi, w_asj, w_asa, w_inc, w_exs, w_asti, w_astj, w_astz, w_astc, w_aopadd, w_aopsub, w_sw, if_true, if_false, ↓reduceIte, hdl_c, S9_1, S9_m, bud9, live9, inb9, wrn, wr9_14, wr9_15, wr9_16, wr9_17, tq9_14, tq9_15, tq9_16, tq9_17, tq_0, tq_1, tq_3, upr_rl, rl_0, rl_1, rl_2, rl_3, rl_4, rl_5, rl_6, rl_7, rl_8, rl_9, rl_10, rl_11, rl_12, rl_13, sp_0, sp_1, sp_2, sp_3, sp_4, sp_5, sp_6, sp_7, sp_8, sp_9, sp_10, sp_11, sp_12, sp_13, se_0, se_1, se_2, se_3, se_4, se_5, se_6, se_7, se_8, se_9, se_10, se_11, se_12, se_13, sem_0, sem_1, sem_2, sem_3, sem_4, sem_5, sr_1_9, sr_1_11, sr_1_13, kl9_1, sr_1_10, sr_1_1, sr_1_7, sr_1_0, sr_1_5, sr_1_6, sr_1_8, kc_1, sr_1_3, sr_1_4, sr_1_2, sr_2_0, kl9_2, kc_2, kc_3, kl9_3]
  simp (disch := omega) only [w32_eq]
  simp [upm_s, upm_a, upm_j]
  refine ⟨fun h3 => h.1 (by omega), fun h3 => whl_i (fun k r u => ∃ i m2, r = rl [2, v, 24 - 8 * i] ∧ u = S9 e m2 ∧ 0 ≤ i ∧ i + k = 4 ∧ (∀ x j, ¬ (x = 3 ∧ m 2 1 ≤ j ∧ j < m 2 1 + 4) → ¬ (x = 2 ∧ j = 1) → m2 x j = m x j) ∧ (∀ t, 0 ≤ t → t < i → m2 3 (m 2 1 + t) = byt v t) ∧ m2 2 1 = m 2 1 + i) 4 ⟨0, _, rfl, rfl, by decide, by decide, fun _ _ _ _ => rfl, fun t h1 h2 => absurd h2 (by omega), by omega⟩ ?_⟩
  have h9 := h.2 (by omega)
  rintro k r u ⟨i, m2, rfl, rfl, hi, hk, hf, hb, hl⟩
  simp only [cl_13, runB, B13, ma_13, rho_20, wf_2_15, wf_2_9, wpf_2_15, wpopadd_pf_2_15, w_cst, w_ldi, w_ldj, w_lda, w_ljk, w_ldk, w_ldw, w_ldk2, w_ldt, w_ldtw, w_neg, w_cvb, w_cvs, w_cvc, w_cvj, w_add, w_sub, w_mul, w_ban, w_bor, w_bxo, w_shl, w_shr, w_ush, w_dvi, w_rmi, w_aldi, w_aldj, w_aldz, w_aldc, w_alda, w_ite, w_cmp, w_cmj, w_cz, w_cnot, w_cand, w_cor, w_nil, w_cons, w_cvi, w_csta, w_cvt, w_cvv, w_csv, w_cpy, w_seq, w_sbr, w_sbn, w_brk, w_ifs, w_ifx, w_ife, w_wk, w_rets, w_rtv, w_thr, w_asi, w_asj, w_asa, w_inc, w_exs, w_asti, w_astj, w_astz, w_astc, w_aopadd, w_aopsub, w_sw, if_true, if_false, ↓reduceIte, hdl_c, S9_1, S9_m, bud9, live9, inb9, wrn, wr9_14, wr9_15, wr9_16, wr9_17, tq9_14, tq9_15, tq9_16, tq9_17, tq_0, tq_1, tq_3, upr_rl, rl_0, rl_1, rl_2, rl_3, rl_4, rl_5, rl_6, rl_7, rl_8, rl_9, rl_10, rl_11, rl_12, rl_13, sp_0, sp_1, sp_2, sp_3, sp_4, sp_5, sp_6, sp_7, sp_8, sp_9, sp_10, sp_11, sp_12, sp_13, se_0, se_1, se_2, se_3, se_4, se_5, se_6, se_7, se_8, se_9, se_10, se_11, se_12, se_13, sem_0, sem_1, sem_2, sem_3, sem_4, sem_5, sr_1_9, sr_1_11, sr_1_13, kl9_1, sr_1_10, sr_1_1, sr_1_7, sr_1_0, sr_1_5, sr_1_6, sr_1_8, kc_1, sr_1_3, sr_1_4, sr_1_2, sr_2_0, kl9_2, kc_2, kc_3, kl9_3, hl]
  by_cases h4 : i = 4
  · subst h4
    refine ⟨fun h => absurd h (by omega), fun _ => ⟨by decide, by decide, h9 m2 ⟨hf, fun t a b => hb t a b, hl⟩⟩⟩
  · rw [byt_i hi (by omega)]
    have e2 : i2c (byt v i) = byt v i := i2c_255 _
    rw [e2, upm_a _ _ _ _ _ _ (by decide), hl]
    simp (disch := omega) only [w32_eq]
    have hby := byt_in v i
    refine ⟨fun _ => ⟨by decide, by decide, by decide, by decide, ⟨by decide, by omega, by omega⟩, ⟨by omega, by omega⟩, by decide, by decide, by decide, k - 1, by omega, i + 1, _, by rw [show 24 - 8 * i + -8 = 24 - 8 * (i + 1) by omega], rfl, by omega, by omega, fun x j hx hj => ?_, fun t ht1 ht2 => ?_, ?_⟩, fun h => absurd (show 0 ≤ 24 - 8 * i by omega) h⟩
    · unfold upm
      rw [if_neg hj, if_neg (by omega)]
      exact hf x j hx hj
    · rw [upm_a _ _ _ _ _ _ (by decide)]
      unfold upm
      by_cases ht : t = i
      · subst ht; rw [if_pos ⟨rfl, rfl⟩]
      · rw [if_neg (by omega)]; exact hb t ht1 (by omega)
    · rw [upm_s]; omega
end
section
/-! the component's bounds -/
abbrev hnd (a : Int) : Prop := a = 21 ∨ (31 ≤ a ∧ a < 192 ∧ a % 10 = 7) ∨ (219 ≤ a ∧ a < 249 ∧ a % 10 = 5)
def BdC (tc a j v : Int) : Prop :=
  if a = 2 then (j = 1 → v = tc) else
  if a = 4 then ((j = 1 → 0 ≤ v ∧ v ≤ 40) ∧ (j = 3 → 0 ≤ v ∧ v ≤ 40)) else
  if a = 8 then ((j = 0 → 0 ≤ v ∧ v ≤ 10) ∧ (j = 1 → 0 ≤ v ∧ v ≤ 14) ∧ (j = 2 → 0 ≤ v ∧ v ≤ 5) ∧ (j = 3 → 0 ≤ v ∧ v ≤ 5)) else
  if a = 10 then 0 ≤ v ∧ v ≤ 9 else
  if a = 11 then 0 ≤ v ∧ v ≤ 9 else
  if a = 12 then 0 ≤ v ∧ v ≤ 9 else
  if a = 191 then ((j = 6 → 0 ≤ v ∧ v ≤ 10) ∧ (j = 7 → v ≤ 2147483647)) else
  if a = 194 then 0 ≤ v ∧ v ≤ 9 else
  if a = 211 then ((j = 4 → 0 ≤ v ∧ v ≤ 8) ∧ (j = 8 → 0 ≤ v ∧ v ≤ 10)) else
  if a = 212 then 0 ≤ v ∧ v ≤ 9 else
  if a = 25 then (j = 7 → 0 ≤ v ∧ v ≤ 1) else
  if a = 1 then (j = 14 → 0 ≤ v ∧ v ≤ 16) else
  if hnd a then 0 ≤ v ∧ v ≤ 1 else
  if a = 193 then v ≤ 2147483647 else
  if a = 195 then v ≤ 2147483647 else
  if a = 206 then v ≤ 2147483647 else
  if a = 207 then v ≤ 2147483647 else
  if a = 196 then ((j = 8 → v ≤ 10) ∧ (j = 10 → v ≤ 2147483647)) else
  if a = 205 then (j = 9 → v ≤ 5) else True
/-- what is told of a call: cells that stay as they are told -/
abbrev Fg : Type := (Int → Int → Prop) × Mem
/-- the cells that no call of that level writes -/
abbrev frC (l : Nat) (a j : Int) : Prop := 249 ≤ a ∨ (1 ≤ l ∧ (a = 3 ∨ (a = 211 ∧ j = 4) ∨ a = 212 ∨ a = 213)) ∨ (2 ≤ l ∧ (8 ≤ a ∧ a ≤ 14)) ∨ (3 ≤ l ∧ a = 1 ∧ j = 12) ∨ (4 ≤ l ∧ (a = 5 ∨ (a = 4 ∧ j = 1) ∨ (15 ≤ a ∧ a ≤ 24) ∨ (a = 26 ∧ 8 ≤ j) ∨ (31 ≤ a ∧ a ≤ 190) ∨ (217 ≤ a ∧ a ≤ 248 ∧ a ≠ 218)))
def LVC (l : Nat) (g : Fg) : Prop := ∀ x j, g.1 x j → frC l x j
theorem frC_le {l l' : Nat} (h : l ≤ l') {x j : Int} (q : frC l x j) : frC l' x j := by
  unfold frC at q ⊢
  rcases q with q | ⟨q, r⟩ | ⟨q, r⟩ | ⟨q, r⟩ | ⟨q, r⟩
  · exact Or.inl q
  · exact Or.inr (Or.inl ⟨by omega, r⟩)
  · exact Or.inr (Or.inr (Or.inl ⟨by omega, r⟩))
  · exact Or.inr (Or.inr (Or.inr (Or.inl ⟨by omega, r⟩)))
  · exact Or.inr (Or.inr (Or.inr (Or.inr ⟨by omega, r⟩)))
def JC (l : Nat) (g : Fg) (tc : Int) (m : Mem) : Prop := ((0 ≤ tc ∧ tc ≤ 80) ∧ LVC l g) ∧ (∀ x j, g.1 x j → m x j = g.2 x j) ∧ ∀ a j, BdC tc a j (m a j)
theorem JC_up {l : Nat} {g : Fg} {tc : Int} {m : Mem} {a j v : Int} (h : JC l g tc m) (ha : ¬ frC l a j) (hv : BdC tc a j v) : JC l g tc (upm m a j v) := by
  refine ⟨h.1, fun x y hx => ?_, fun x y => ?_⟩
  · unfold upm; rw [if_neg (by rintro ⟨rfl, rfl⟩; exact ha (h.1.2 _ _ hx))]; exact h.2.1 x y hx
  · unfold upm
    split
    · rename_i q; rw [q.1, q.2]; exact hv
    · exact h.2.2 x y
theorem JC_l {l : Nat} {g : Fg} {tc : Int} {m : Mem} (h : JC l g tc m) : LVC l g := h.1.2
theorem JC_of {l l' : Nat} {g : Fg} {tc : Int} {m : Mem} (_ : LVC l g) (h : JC l g tc m) (hl : l ≤ l') : JC l' g tc m := ⟨⟨h.1.1, fun x j q => frC_le hl (h.1.2 x j q)⟩, h.2⟩
theorem JC_dn {l l' : Nat} {g : Fg} {tc : Int} {m : Mem} (hL : LVC l g) (h : JC l' g tc m) : JC l g tc m := ⟨⟨h.1.1, hL⟩, h.2⟩
theorem JC_len {l : Nat} {g : Fg} {tc : Int} {m : Mem} {v : Int} (h : JC l g tc m) (h0 : 0 ≤ v) (h1 : v ≤ 80) : JC l g v (upm m 2 1 v) := by
  refine ⟨⟨⟨h0, h1⟩, h.1.2⟩, fun x y hx => ?_, fun x y => ?_⟩
  · unfold upm; rw [if_neg (by rintro ⟨rfl, rfl⟩; have := h.1.2 _ _ hx; unfold frC at this; omega)]; exact h.2.1 x y hx
  · by_cases hx : x = 2
    · subst hx
      unfold upm BdC
      simp
      intro hy; simp [hy]
    · rw [upm_a _ _ _ _ _ _ hx]
      have := h.2.2 x y
      unfold BdC at this ⊢
      rw [if_neg hx] at this ⊢
      exact this
theorem JC_s {l : Nat} {g : Fg} {tc : Int} {m : Mem} (h : JC l g tc m) : m 2 1 = tc ∧ 0 ≤ tc ∧ tc ≤ 80 ∧ 0 ≤ m 4 1 ∧ m 4 1 ≤ 40 ∧ 0 ≤ m 4 3 ∧ m 4 3 ≤ 40 ∧ 0 ≤ m 8 0 ∧ m 8 0 ≤ 10 ∧ 0 ≤ m 8 1 ∧ m 8 1 ≤ 14 ∧ 0 ≤ m 8 2 ∧ m 8 2 ≤ 5 ∧ 0 ≤ m 8 3 ∧ m 8 3 ≤ 5 ∧ 0 ≤ m 191 6 ∧ m 191 6 ≤ 10 ∧ 0 ≤ m 211 4 ∧ m 211 4 ≤ 8 ∧ 0 ≤ m 211 8 ∧ m 211 8 ≤ 10 ∧ 0 ≤ m 1 14 ∧ m 1 14 ≤ 16 ∧ 0 ≤ m 25 7 ∧ m 25 7 ≤ 1 ∧ m 191 7 ≤ 2147483647 ∧ m 196 8 ≤ 10 ∧ m 205 9 ≤ 5 ∧ m 196 10 ≤ 2147483647 := by
  have a1 := h.2.2 2 1
  have a2 := h.2.2 4 1
  have a3 := h.2.2 4 3
  have a4 := h.2.2 8 0
  have a5 := h.2.2 8 1
  have a6 := h.2.2 8 2
  have a7 := h.2.2 8 3
  have a8 := h.2.2 191 6
  have a9 := h.2.2 211 4
  have b1 := h.2.2 211 8
  have b2 := h.2.2 1 14
  have b3 := h.2.2 25 7
  have b4 := h.2.2 191 7
  have b5 := h.2.2 196 8
  have b6 := h.2.2 205 9
  have b7 := h.2.2 196 10
  have h1 := h.1
  simp [BdC, hnd] at a1 a2 a3 a4 a5 a6 a7 a8 a9 b1 b2 b3 b4 b5 b6 b7
  omega
theorem JC_10 {l : Nat} {g : Fg} {tc : Int} {m : Mem} (h : JC l g tc m) (j : Int) : 0 ≤ m 10 j ∧ m 10 j ≤ 9 := by have := h.2.2 10 j; simpa [BdC] using this
theorem JC_11 {l : Nat} {g : Fg} {tc : Int} {m : Mem} (h : JC l g tc m) (j : Int) : 0 ≤ m 11 j ∧ m 11 j ≤ 9 := by have := h.2.2 11 j; simpa [BdC] using this
theorem JC_12 {l : Nat} {g : Fg} {tc : Int} {m : Mem} (h : JC l g tc m) (j : Int) : 0 ≤ m 12 j ∧ m 12 j ≤ 9 := by have := h.2.2 12 j; simpa [BdC] using this
theorem JC_194 {l : Nat} {g : Fg} {tc : Int} {m : Mem} (h : JC l g tc m) (j : Int) : 0 ≤ m 194 j ∧ m 194 j ≤ 9 := by have := h.2.2 194 j; simpa [BdC] using this
theorem JC_212 {l : Nat} {g : Fg} {tc : Int} {m : Mem} (h : JC l g tc m) (j : Int) : 0 ≤ m 212 j ∧ m 212 j ≤ 9 := by have := h.2.2 212 j; simpa [BdC] using this
theorem JC_h {l : Nat} {g : Fg} {tc : Int} {m : Mem} (h : JC l g tc m) (j : Int) : 0 ≤ m 21 j ∧ m 21 j ≤ 1 := by have := h.2.2 21 j; simpa [BdC, hnd] using this
theorem JC_193 {l : Nat} {g : Fg} {tc : Int} {m : Mem} (h : JC l g tc m) (j : Int) : m 193 j ≤ 2147483647 := by have := h.2.2 193 j; simpa [BdC, hnd] using this
theorem JC_195 {l : Nat} {g : Fg} {tc : Int} {m : Mem} (h : JC l g tc m) (j : Int) : m 195 j ≤ 2147483647 := by have := h.2.2 195 j; simpa [BdC, hnd] using this
theorem JC_206 {l : Nat} {g : Fg} {tc : Int} {m : Mem} (h : JC l g tc m) (j : Int) : m 206 j ≤ 2147483647 := by have := h.2.2 206 j; simpa [BdC, hnd] using this
theorem JC_207 {l : Nat} {g : Fg} {tc : Int} {m : Mem} (h : JC l g tc m) (j : Int) : m 207 j ≤ 2147483647 := by have := h.2.2 207 j; simpa [BdC, hnd] using this
theorem wrn3 (e : Int) (m : Mem) (a j v : Int) : wr (S9 e m) 3 a j v = S9 e (upm m a j v) := rfl
theorem wrn1 (e : Int) (m : Mem) (a j v : Int) : wr (S9 e m) 1 a j v = S9 e (upm m a j v) := rfl
/-! THE TEXT's readers -/
theorem BdC_s {tc a j v : Int} (h : a ≠ 1 ∧ a ≠ 2 ∧ a ≠ 4 ∧ a ≠ 8 ∧ a ≠ 10 ∧ a ≠ 11 ∧ a ≠ 12 ∧ a ≠ 25 ∧ a ≠ 191 ∧ a ≠ 194 ∧ a ≠ 211 ∧ a ≠ 212 ∧ a ≠ 193 ∧ a ≠ 195 ∧ a ≠ 206 ∧ a ≠ 207 ∧ a ≠ 196 ∧ a ≠ 205 ∧ ¬ hnd a) : BdC tc a j v := by
  unfold BdC
  obtain ⟨h1, h2, h3, h4, h5, h6, h12, h7, h8, h9, h10, h11, k1, k2, k3, k4, k5, k6, h13⟩ := h
  rw [if_neg h2, if_neg h3, if_neg h4, if_neg h5, if_neg h6, if_neg h12, if_neg h8, if_neg h9, if_neg h10, if_neg h11, if_neg h7, if_neg h1, if_neg h13, if_neg k1, if_neg k2, if_neg k3, if_neg k4, if_neg k5, if_neg k6]
  trivial
def cpf (m : Mem) (a i b j n : Int) : Mem := fun x y => if x = b ∧ j ≤ y ∧ y < j + n then m a (y - j + i) else m x y
theorem cpmS (e : Int) (m : Mem) (a i b j n : Int) : cpm (S9 e m) a i b j n = S9 e (cpf m a i b j n) := rfl
theorem cpok9 (e : Int) (m : Mem) (a i b j n : Int) : cpok (S9 e m) a i b j n = ((0 < a ∧ a < 289 ∧ kcls a = 14) ∧ (0 < b ∧ b < 289 ∧ kcls b = 14) ∧ 0 ≤ i ∧ 0 ≤ j ∧ 0 ≤ n ∧ i + n ≤ klen a ∧ j + n ≤ klen b) := rfl
theorem JC_cp {l : Nat} {g : Fg} {tc : Int} {m : Mem} {a i b j n : Int} (h : JC l g tc m) (ha : ∀ j, ¬ frC l b j) (hv : ∀ y v, BdC tc b y v) : JC l g tc (cpf m a i b j n) := by
  refine ⟨h.1, fun x y hx => ?_, fun x y => ?_⟩
  · unfold cpf; rw [if_neg (by rintro ⟨rfl, -⟩; exact ha y (h.1.2 _ _ hx))]; exact h.2.1 x y hx
  · unfold cpf
    split
    · rename_i q; rw [q.1]; exact hv y _
    · exact h.2.2 x y
theorem hnd_ne {a : Int} (h : hnd a) : a ≠ 2 ∧ a ≠ 4 ∧ a ≠ 8 ∧ a ≠ 10 ∧ a ≠ 11 ∧ a ≠ 12 ∧ a ≠ 191 ∧ a ≠ 194 ∧ a ≠ 211 ∧ a ≠ 212 ∧ a ≠ 25 ∧ a ≠ 1 := by unfold hnd at h; omega
theorem BdC_h {tc a j v : Int} (h : hnd a) : BdC tc a j v ↔ 0 ≤ v ∧ v ≤ 1 := by
  obtain ⟨h1, h2, h3, h4, h5, h6, h7, h8, h9, h10, h11, h12⟩ := hnd_ne h
  unfold BdC
  rw [if_neg h1, if_neg h2, if_neg h3, if_neg h4, if_neg h5, if_neg h6, if_neg h7, if_neg h8, if_neg h9, if_neg h10, if_neg h11, if_neg h12, if_pos h]
theorem JC_cph {l : Nat} {g : Fg} {tc : Int} {m : Mem} {a i b j n : Int} (h : JC l g tc m) (hb : ∀ j, ¬ frC l b j) (ha : hnd a) (hh : hnd b) : JC l g tc (cpf m a i b j n) := by
  refine ⟨h.1, fun x y hx => ?_, fun x y => ?_⟩
  · unfold cpf; rw [if_neg (by rintro ⟨rfl, -⟩; exact hb y (h.1.2 _ _ hx))]; exact h.2.1 x y hx
  · unfold cpf
    split
    · rename_i q; rw [q.1]; exact (BdC_h hh).2 ((BdC_h ha).1 (h.2.2 a _))
    · exact h.2.2 x y
theorem rlp2 {a0 a1 : Int} : rl [a0, a1] = rl [a0, a1, 0] := by funext j; unfold rl; rcases j with _ | j <;> (try rfl) <;> (repeat (rcases j with _ | j <;> (try rfl)))
theorem rlp3 {a0 a1 a2 : Int} : rl [a0, a1, a2] = rl [a0, a1, a2, 0] := by funext j; unfold rl; rcases j with _ | j <;> (try rfl) <;> (repeat (rcases j with _ | j <;> (try rfl)))
theorem rlp3_2 {a0 a1 a2 : Int} : rl [a0, a1, a2] = rl [a0, a1, a2, 0, 0] := by funext j; unfold rl; rcases j with _ | j <;> (try rfl) <;> (repeat (rcases j with _ | j <;> (try rfl)))
theorem rlp3_3 {a0 a1 a2 : Int} : rl [a0, a1, a2] = rl [a0, a1, a2, 0, 0, 0] := by funext j; unfold rl; rcases j with _ | j <;> (try rfl) <;> (repeat (rcases j with _ | j <;> (try rfl)))
theorem rlp4 {a0 a1 a2 a3 : Int} : rl [a0, a1, a2, a3] = rl [a0, a1, a2, a3, 0] := by funext j; unfold rl; rcases j with _ | j <;> (try rfl) <;> (repeat (rcases j with _ | j <;> (try rfl)))
theorem rlp4_2 {a0 a1 a2 a3 : Int} : rl [a0, a1, a2, a3] = rl [a0, a1, a2, a3, 0, 0] := by funext j; unfold rl; rcases j with _ | j <;> (try rfl) <;> (repeat (rcases j with _ | j <;> (try rfl)))
theorem rlp5 {a0 a1 a2 a3 a4 : Int} : rl [a0, a1, a2, a3, a4] = rl [a0, a1, a2, a3, a4, 0] := by funext j; unfold rl; rcases j with _ | j <;> (try rfl) <;> (repeat (rcases j with _ | j <;> (try rfl)))
theorem rlp5_2 {a0 a1 a2 a3 a4 : Int} : rl [a0, a1, a2, a3, a4] = rl [a0, a1, a2, a3, a4, 0, 0] := by funext j; unfold rl; rcases j with _ | j <;> (try rfl) <;> (repeat (rcases j with _ | j <;> (try rfl)))
theorem rlp6 {a0 a1 a2 a3 a4 a5 : Int} : rl [a0, a1, a2, a3, a4, a5] = rl [a0, a1, a2, a3, a4, a5, 0] := by funext j; unfold rl; rcases j with _ | j <;> (try rfl) <;> (repeat (rcases j with _ | j <;> (try rfl)))
theorem rlp6_2 {a0 a1 a2 a3 a4 a5 : Int} : rl [a0, a1, a2, a3, a4, a5] = rl [a0, a1, a2, a3, a4, a5, 0, 0] := by funext j; unfold rl; rcases j with _ | j <;> (try rfl) <;> (repeat (rcases j with _ | j <;> (try rfl)))
theorem rlp7_2 {a0 a1 a2 a3 a4 a5 a6 : Int} : rl [a0, a1, a2, a3, a4, a5, a6] = rl [a0, a1, a2, a3, a4, a5, a6, 0, 0] := by funext j; unfold rl; rcases j with _ | j <;> (try rfl) <;> (repeat (rcases j with _ | j <;> (try rfl)))
theorem rlp8 {a0 a1 a2 a3 a4 a5 a6 a7 : Int} : rl [a0, a1, a2, a3, a4, a5, a6, a7] = rl [a0, a1, a2, a3, a4, a5, a6, a7, 0] := by funext j; unfold rl; rcases j with _ | j <;> (try rfl) <;> (repeat (rcases j with _ | j <;> (try rfl)))
theorem rlp9 {a0 a1 a2 a3 a4 a5 a6 a7 a8 : Int} : rl [a0, a1, a2, a3, a4, a5, a6, a7, a8] = rl [a0, a1, a2, a3, a4, a5, a6, a7, a8, 0] := by funext j; unfold rl; rcases j with _ | j <;> (try rfl) <;> (repeat (rcases j with _ | j <;> (try rfl)))
theorem rlp9_2 {a0 a1 a2 a3 a4 a5 a6 a7 a8 : Int} : rl [a0, a1, a2, a3, a4, a5, a6, a7, a8] = rl [a0, a1, a2, a3, a4, a5, a6, a7, a8, 0, 0] := by funext j; unfold rl; rcases j with _ | j <;> (try rfl) <;> (repeat (rcases j with _ | j <;> (try rfl)))
theorem rlp10 {a0 a1 a2 a3 a4 a5 a6 a7 a8 a9 : Int} : rl [a0, a1, a2, a3, a4, a5, a6, a7, a8, a9] = rl [a0, a1, a2, a3, a4, a5, a6, a7, a8, a9, 0] := by funext j; unfold rl; rcases j with _ | j <;> (try rfl) <;> (repeat (rcases j with _ | j <;> (try rfl)))
theorem rlp11_2 {a0 a1 a2 a3 a4 a5 a6 a7 a8 a9 a10 : Int} : rl [a0, a1, a2, a3, a4, a5, a6, a7, a8, a9, a10] = rl [a0, a1, a2, a3, a4, a5, a6, a7, a8, a9, a10, 0, 0] := by funext j; unfold rl; rcases j with _ | j <;> (try rfl) <;> (repeat (rcases j with _ | j <;> (try rfl)))
theorem JC_sz {l : Nat} {g : Fg} {tc : Int} {m : Mem} (h : JC l g tc m) : w32 (m 191 6 - 1) = m 191 6 - 1 ∧ m 191 6 - 1 ≤ 9 := by
  have := JC_s h
  unfold w32
  omega
end
section
/-! the reference's bounds -/
def RBd (pl j v : Int) : Prop :=
  (j % 52 < 15 → j % 52 % 3 = 1 → -1 ≤ v ∧ v ≤ pl - 1) ∧
  (15 ≤ j % 52 → j % 52 < 50 → (j % 52 - 15) % 7 = 0 → 0 ≤ v ∧ v ≤ pl - 1) ∧
  (15 ≤ j % 52 → j % 52 < 50 → (j % 52 - 15) % 7 = 3 → 0 ≤ v ∧ v ≤ 1) ∧
  (15 ≤ j % 52 → j % 52 < 50 → (j % 52 - 15) % 7 = 5 → -1 ≤ v ∧ v ≤ 4)
def BdR (tc pl a j v : Int) : Prop :=
  if a = 249 then ((j = 18 → v = tc) ∧ (j = 1 → 0 ≤ v ∧ v ≤ 24) ∧ (j = 3 → 0 ≤ v ∧ v ≤ pl) ∧ (j = 4 → 0 ≤ v ∧ v ≤ 14) ∧ (j = 5 → 0 ≤ v ∧ v ≤ 5) ∧ (j = 6 → 0 ≤ v ∧ v ≤ 5) ∧ (j = 32 → 0 ≤ v ∧ v ≤ 80) ∧ (j = 39 → 0 ≤ v ∧ v ≤ 15) ∧ (j = 53 → 0 ≤ v ∧ v ≤ 10) ∧ (j = 62 → 0 ≤ v ∧ v ≤ 8) ∧ (j = 66 → 0 ≤ v ∧ v ≤ 10) ∧ (j = 44 → 0 ≤ v ∧ v ≤ 60)) else
  if a = 252 then 0 ≤ v ∧ v ≤ pl - 1 else
  if a = 253 then 0 ≤ v ∧ v ≤ pl - 1 else
  if a = 254 then 0 ≤ v ∧ v ≤ 9 else
  if a = 258 then RBd pl j v else
  if a = 259 then RBd pl j v else
  if a = 269 then RBd pl j v else
  if a = 287 then RBd pl j v else
  if a = 273 then 0 ≤ v ∧ v ≤ 1000000 else
  if a = 274 then 0 ≤ v ∧ v ≤ 1000000 else
  if a = 275 then 0 ≤ v ∧ v ≤ 9 else
  if a = 278 then 0 ≤ v ∧ v ≤ 4 else True
/-- the height of the stack ahead of each code -/
def hgt (c : Int → Int) : Nat → Int
  | 0 => 0
  | k + 1 => hgt c k + (if c k = 3000 then 0 else if 2000 ≤ c k then -1 else 1)
def okc (h v : Int) : Prop := (v = 3000 → 1 ≤ h) ∧ (v ≠ 3000 → 2000 ≤ v → 2 ≤ h) ∧ (v < 2000 → v ≤ 1007)
def COK (c : Int → Int) (n : Int) : Prop := ∀ k : Nat, (k : Int) < n → okc (hgt c k) (c k)
/-- the cells that no call of that level writes -/
abbrev frR (l : Nat) (a j : Int) : Prop := a < 249 ∨ 288 ≤ a ∨ (1 ≤ l ∧ (a = 260 ∨ a = 281 ∨ a = 282 ∨ (a = 249 ∧ j = 62))) ∨ (2 ≤ l ∧ ((251 ≤ a ∧ a ≤ 257) ∨ (a = 249 ∧ 3 ≤ j ∧ j ≤ 6))) ∨ (3 ≤ l ∧ (a = 285 ∨ a = 286 ∨ (a = 249 ∧ j = 7))) ∨ (4 ≤ l ∧ (a = 265 ∨ a = 258 ∨ a = 269 ∨ a = 287 ∨ (a = 249 ∧ (j = 32 ∨ j = 39))))
def LVR (l : Nat) (g : Fg) : Prop := ∀ x j, g.1 x j → frR l x j
theorem frR_le {l l' : Nat} (h : l ≤ l') {x j : Int} (q : frR l x j) : frR l' x j := by
  unfold frR at q ⊢
  rcases q with q | q | ⟨q, r⟩ | ⟨q, r⟩ | ⟨q, r⟩ | ⟨q, r⟩
  · exact Or.inl q
  · exact Or.inr (Or.inl q)
  · exact Or.inr (Or.inr (Or.inl ⟨by omega, r⟩))
  · exact Or.inr (Or.inr (Or.inr (Or.inl ⟨by omega, r⟩)))
  · exact Or.inr (Or.inr (Or.inr (Or.inr (Or.inl ⟨by omega, r⟩))))
  · exact Or.inr (Or.inr (Or.inr (Or.inr (Or.inr ⟨by omega, r⟩))))
def JB (l : Nat) (g : Fg) (tc pl : Int) (m : Mem) : Prop := ((0 ≤ tc ∧ tc ≤ 80) ∧ LVR l g) ∧ (1 ≤ pl ∧ pl ≤ 10) ∧ (∀ x j, g.1 x j → m x j = g.2 x j) ∧ ∀ a j, BdR tc pl a j (m a j)
def JS (pl : Int) (m : Mem) : Prop := (m 249 3 = pl ∨ m 249 3 = 0 ∧ pl = 1) ∧ (∀ w, 0 ≤ w → w < m 249 4 → 1 ≤ m 254 w) ∧ COK (m 265) (m 249 32)
def JR (l : Nat) (g : Fg) (tc pl : Int) (m : Mem) : Prop := JB l g tc pl m ∧ JS pl m
theorem JB_up {l : Nat} {g : Fg} {tc pl : Int} {m : Mem} {a j v : Int} (h : JB l g tc pl m) (ha : ¬ frR l a j) (hv : BdR tc pl a j v) : JB l g tc pl (upm m a j v) := by
  refine ⟨h.1, h.2.1, fun x y hx => ?_, fun x y => ?_⟩
  · unfold upm; rw [if_neg (by rintro ⟨rfl, rfl⟩; exact ha (h.1.2 _ _ hx))]; exact h.2.2.1 x y hx
  · unfold upm
    split
    · rename_i q; rw [q.1, q.2]; exact hv
    · exact h.2.2.2 x y
abbrev frc (a j : Int) : Prop := a ≠ 254 ∧ a ≠ 265 ∧ (a = 249 → j ≠ 3 ∧ j ≠ 4 ∧ j ≠ 32)
theorem JS_up {pl : Int} {m : Mem} {a j v : Int} (h : JS pl m) (hf : frc a j) : JS pl (upm m a j v) := by
  have e3 : upm m a j v 249 3 = m 249 3 := by unfold upm; rw [if_neg]; rintro ⟨h1, h2⟩; exact (hf.2.2 h1.symm).1 h2.symm
  have e4 : upm m a j v 249 4 = m 249 4 := by unfold upm; rw [if_neg]; rintro ⟨h1, h2⟩; exact (hf.2.2 h1.symm).2.1 h2.symm
  have e32 : upm m a j v 249 32 = m 249 32 := by unfold upm; rw [if_neg]; rintro ⟨h1, h2⟩; exact (hf.2.2 h1.symm).2.2 h2.symm
  have e5 : upm m a j v 254 = m 254 := by funext y; unfold upm; rw [if_neg]; rintro ⟨h1, h2⟩; exact hf.1 h1.symm
  have e6 : upm m a j v 265 = m 265 := by funext y; unfold upm; rw [if_neg]; rintro ⟨h1, h2⟩; exact hf.2.1 h1.symm
  unfold JS
  rw [e3, e4, e5, e6, e32]
  exact h
theorem JR_up {l : Nat} {g : Fg} {tc pl : Int} {m : Mem} {a j v : Int} (h : JR l g tc pl m) (ha : ¬ frR l a j) (hf : frc a j) (hv : BdR tc pl a j v) : JR l g tc pl (upm m a j v) := ⟨JB_up h.1 ha hv, JS_up h.2 hf⟩
theorem JR_l {l : Nat} {g : Fg} {tc pl : Int} {m : Mem} (h : JR l g tc pl m) : LVR l g := h.1.1.2
theorem JR_of {l l' : Nat} {g : Fg} {tc pl : Int} {m : Mem} (_ : LVR l g) (h : JR l g tc pl m) (hl : l ≤ l') : JR l' g tc pl m := ⟨⟨⟨h.1.1.1, fun x j q => frR_le hl (h.1.1.2 x j q)⟩, h.1.2⟩, h.2⟩
theorem JR_dn {l l' : Nat} {g : Fg} {tc pl : Int} {m : Mem} (hL : LVR l g) (h : JR l' g tc pl m) : JR l g tc pl m := ⟨⟨⟨h.1.1.1, hL⟩, h.1.2⟩, h.2⟩
theorem JB_len {l : Nat} {g : Fg} {tc pl : Int} {m : Mem} {v : Int} (h : JB l g tc pl m) (h0 : 0 ≤ v) (h1 : v ≤ 80) : JB l g v pl (upm m 249 18 v) := by
  refine ⟨⟨⟨h0, h1⟩, h.1.2⟩, h.2.1, fun x y hx => ?_, fun x y => ?_⟩
  · unfold upm; rw [if_neg (by rintro ⟨rfl, rfl⟩; have := h.1.2 _ _ hx; unfold frR at this; omega)]; exact h.2.2.1 x y hx
  · have h9 := h.2.2.2 x y
    by_cases hx : x = 249
    · subst hx
      unfold upm BdR at *
      rw [if_pos rfl] at *
      by_cases hy : y = 18
      · subst hy; simp
      · rw [if_neg (fun q => hy q.2)]
        exact ⟨fun q => absurd q hy, h9.2⟩
    · rw [upm_a _ _ _ _ _ _ hx]
      unfold BdR at h9 ⊢
      rw [if_neg hx] at h9 ⊢
      exact h9
theorem JR_len {l : Nat} {g : Fg} {tc pl : Int} {m : Mem} {v : Int} (h : JR l g tc pl m) (h0 : 0 ≤ v) (h1 : v ≤ 80) : JR l g v pl (upm m 249 18 v) := ⟨JB_len h.1 h0 h1, JS_up h.2 ⟨by decide, by decide, fun _ => ⟨by decide, by decide, by decide⟩⟩⟩
theorem JB_s {l : Nat} {g : Fg} {tc pl : Int} {m : Mem} (h : JB l g tc pl m) : m 249 18 = tc ∧ 0 ≤ tc ∧ tc ≤ 80 ∧ 1 ≤ pl ∧ pl ≤ 10 ∧ 0 ≤ m 249 1 ∧ m 249 1 ≤ 24 ∧ 0 ≤ m 249 3 ∧ m 249 3 ≤ pl ∧ 0 ≤ m 249 4 ∧ m 249 4 ≤ 14 ∧ 0 ≤ m 249 5 ∧ m 249 5 ≤ 5 ∧ 0 ≤ m 249 6 ∧ m 249 6 ≤ 5 ∧ 0 ≤ m 249 32 ∧ m 249 32 ≤ 80 ∧ 0 ≤ m 249 39 ∧ m 249 39 ≤ 15 ∧ 0 ≤ m 249 53 ∧ m 249 53 ≤ 10 ∧ 0 ≤ m 249 62 ∧ m 249 62 ≤ 8 ∧ 0 ≤ m 249 66 ∧ m 249 66 ≤ 10 ∧ 0 ≤ m 249 44 ∧ m 249 44 ≤ 60 := by
  have a1 := h.2.2.2 249 18
  have a2 := h.2.2.2 249 1
  have a3 := h.2.2.2 249 3
  have a4 := h.2.2.2 249 4
  have a5 := h.2.2.2 249 5
  have a6 := h.2.2.2 249 6
  have a7 := h.2.2.2 249 32
  have a8 := h.2.2.2 249 39
  have a9 := h.2.2.2 249 53
  have b1 := h.2.2.2 249 62
  have b2 := h.2.2.2 249 66
  have b3 := h.2.2.2 249 44
  have h1 := h.1
  have h2 := h.2.1
  simp [BdR] at a1 a2 a3 a4 a5 a6 a7 a8 a9 b1 b2 b3
  omega
theorem JR_s {l : Nat} {g : Fg} {tc pl : Int} {m : Mem} (h : JR l g tc pl m) : m 249 18 = tc ∧ 0 ≤ tc ∧ tc ≤ 80 ∧ 1 ≤ pl ∧ pl ≤ 10 ∧ 0 ≤ m 249 1 ∧ m 249 1 ≤ 24 ∧ 0 ≤ m 249 3 ∧ m 249 3 ≤ pl ∧ 0 ≤ m 249 4 ∧ m 249 4 ≤ 14 ∧ 0 ≤ m 249 5 ∧ m 249 5 ≤ 5 ∧ 0 ≤ m 249 6 ∧ m 249 6 ≤ 5 ∧ 0 ≤ m 249 32 ∧ m 249 32 ≤ 80 ∧ 0 ≤ m 249 39 ∧ m 249 39 ≤ 15 ∧ 0 ≤ m 249 53 ∧ m 249 53 ≤ 10 ∧ 0 ≤ m 249 62 ∧ m 249 62 ≤ 8 ∧ 0 ≤ m 249 66 ∧ m 249 66 ≤ 10 ∧ 0 ≤ m 249 44 ∧ m 249 44 ≤ 60 ∧ (m 249 3 = pl ∨ m 249 3 = 0 ∧ pl = 1) := by
  have h1 := JB_s h.1
  have h2 := h.2.1
  omega
theorem JB_252 {l : Nat} {g : Fg} {tc pl : Int} {m : Mem} (h : JB l g tc pl m) (j : Int) : 0 ≤ m 252 j ∧ m 252 j ≤ pl - 1 := by have := h.2.2.2 252 j; simpa [BdR] using this
theorem JB_253 {l : Nat} {g : Fg} {tc pl : Int} {m : Mem} (h : JB l g tc pl m) (j : Int) : 0 ≤ m 253 j ∧ m 253 j ≤ pl - 1 := by have := h.2.2.2 253 j; simpa [BdR] using this
theorem JB_254 {l : Nat} {g : Fg} {tc pl : Int} {m : Mem} (h : JB l g tc pl m) (j : Int) : 0 ≤ m 254 j ∧ m 254 j ≤ 9 := by have := h.2.2.2 254 j; simpa [BdR] using this
theorem JB_273 {l : Nat} {g : Fg} {tc pl : Int} {m : Mem} (h : JB l g tc pl m) (j : Int) : 0 ≤ m 273 j ∧ m 273 j ≤ 1000000 := by have := h.2.2.2 273 j; simpa [BdR] using this
theorem JB_274 {l : Nat} {g : Fg} {tc pl : Int} {m : Mem} (h : JB l g tc pl m) (j : Int) : 0 ≤ m 274 j ∧ m 274 j ≤ 1000000 := by have := h.2.2.2 274 j; simpa [BdR] using this
theorem JB_275 {l : Nat} {g : Fg} {tc pl : Int} {m : Mem} (h : JB l g tc pl m) (j : Int) : 0 ≤ m 275 j ∧ m 275 j ≤ 9 := by have := h.2.2.2 275 j; simpa [BdR] using this
theorem JB_278 {l : Nat} {g : Fg} {tc pl : Int} {m : Mem} (h : JB l g tc pl m) (j : Int) : 0 ≤ m 278 j ∧ m 278 j ≤ 4 := by have := h.2.2.2 278 j; simpa [BdR] using this
theorem JB_n {l : Nat} {g : Fg} {tc pl : Int} {m : Mem} (h : JB l g tc pl m) (b j : Int) (hb : b = 258 ∨ b = 259 ∨ b = 269 ∨ b = 287) : RBd pl j (m b j) := by
  have := h.2.2.2 b j
  rcases hb with rfl | rfl | rfl | rfl <;> simpa [BdR] using this
theorem BdR_n {tc pl b j v : Int} (hb : b = 258 ∨ b = 259 ∨ b = 269 ∨ b = 287) (h : RBd pl j v) : BdR tc pl b j v := by
  rcases hb with rfl | rfl | rfl | rfl <;> simpa [BdR] using h
theorem rb_i {pl j v : Int} (h0 : 0 ≤ j) (h1 : j < 52) : RBd pl j v ↔ ((j < 15 → j % 3 = 1 → -1 ≤ v ∧ v ≤ pl - 1) ∧ (15 ≤ j → j < 50 → (j - 15) % 7 = 0 → 0 ≤ v ∧ v ≤ pl - 1) ∧ (15 ≤ j → j < 50 → (j - 15) % 7 = 3 → 0 ≤ v ∧ v ≤ 1) ∧ (15 ≤ j → j < 50 → (j - 15) % 7 = 5 → -1 ≤ v ∧ v ≤ 4)) := by
  unfold RBd
  rw [Int.emod_eq_of_lt h0 h1]
theorem w15_0 {p : Int} (h0 : 0 ≤ p) (h1 : p ≤ 4) : w32 (15 + 7 * p + 0) = 15 + 7 * p := by unfold w32; omega
theorem w15_1 {p : Int} (h0 : 0 ≤ p) (h1 : p ≤ 4) : w32 (15 + 7 * p + 1) = 16 + 7 * p := by unfold w32; omega
theorem w15_3 {p : Int} (h0 : 0 ≤ p) (h1 : p ≤ 4) : w32 (15 + 7 * p + 3) = 18 + 7 * p := by unfold w32; omega
theorem w15_4 {p : Int} (h0 : 0 ≤ p) (h1 : p ≤ 4) : w32 (15 + 7 * p + 4) = 19 + 7 * p := by unfold w32; omega
theorem w15_5 {p : Int} (h0 : 0 ≤ p) (h1 : p ≤ 4) : w32 (15 + 7 * p + 5) = 20 + 7 * p := by unfold w32; omega
theorem w15_6 {p : Int} (h0 : 0 ≤ p) (h1 : p ≤ 4) : w32 (15 + 7 * p + 6) = 21 + 7 * p := by unfold w32; omega
theorem w3_0 {q : Int} (h0 : 0 ≤ q) (h1 : q ≤ 4) : w32 (w32 (3 * q) + 0) = 3 * q := by unfold w32; omega
theorem w3_1 {q : Int} (h0 : 0 ≤ q) (h1 : q ≤ 4) : w32 (w32 (3 * q) + 1) = 3 * q + 1 := by unfold w32; omega
theorem w3_2 {q : Int} (h0 : 0 ≤ q) (h1 : q ≤ 4) : w32 (w32 (3 * q) + 2) = 3 * q + 2 := by unfold w32; omega
theorem JB_p {l : Nat} {g : Fg} {tc pl : Int} {m : Mem} (h : JB l g tc pl m) (p : Int) (b : Int) (hb : b = 258 ∨ b = 259 ∨ b = 269 ∨ b = 287) : 0 ≤ p → p ≤ 4 → 0 ≤ m b (15 + 7 * p) ∧ m b (15 + 7 * p) ≤ pl - 1 ∧ 0 ≤ m b (18 + 7 * p) ∧ m b (18 + 7 * p) ≤ 1 ∧ -1 ≤ m b (20 + 7 * p) ∧ m b (20 + 7 * p) ≤ 4 := by
  intro h0 h1
  have a1 := JB_n h b (15 + 7 * p) hb
  have a2 := JB_n h b (18 + 7 * p) hb
  have a3 := JB_n h b (20 + 7 * p) hb
  rw [rb_i (by omega) (by omega)] at a1 a2 a3
  obtain ⟨-, c1, -, -⟩ := a1
  obtain ⟨-, -, c2, -⟩ := a2
  obtain ⟨-, -, -, c3⟩ := a3
  have d1 := c1 (by omega) (by omega) (by omega)
  have d2 := c2 (by omega) (by omega) (by omega)
  have d3 := c3 (by omega) (by omega) (by omega)
  exact ⟨d1.1, d1.2, d2.1, d2.2, d3.1, d3.2⟩
theorem JB_q {l : Nat} {g : Fg} {tc pl : Int} {m : Mem} (h : JB l g tc pl m) (q : Int) (b : Int) (hb : b = 258 ∨ b = 259 ∨ b = 269 ∨ b = 287) : 0 ≤ q → q ≤ 4 → -1 ≤ m b (3 * q + 1) ∧ m b (3 * q + 1) ≤ pl - 1 := by
  intro h0 h1
  have a1 := JB_n h b (3 * q + 1) hb
  rw [rb_i (by omega) (by omega)] at a1
  exact a1.1 (by omega) (by omega)
abbrev JR_p {l : Nat} {g : Fg} {tc pl : Int} {m : Mem} (h : JR l g tc pl m) (p : Int) := JB_p h.1 p 258 (.inl rfl)
abbrev JR_t {l : Nat} {g : Fg} {tc pl : Int} {m : Mem} (h : JR l g tc pl m) (p : Int) := JB_p h.1 p 259 (.inr (.inl rfl))
abbrev JR_q {l : Nat} {g : Fg} {tc pl : Int} {m : Mem} (h : JR l g tc pl m) (q : Int) := JB_q h.1 q 258 (.inl rfl)
abbrev JR_252 {l : Nat} {g : Fg} {tc pl : Int} {m : Mem} (h : JR l g tc pl m) (j : Int) := JB_252 h.1 j
abbrev JR_253 {l : Nat} {g : Fg} {tc pl : Int} {m : Mem} (h : JR l g tc pl m) (j : Int) := JB_253 h.1 j
abbrev JR_254 {l : Nat} {g : Fg} {tc pl : Int} {m : Mem} (h : JR l g tc pl m) (j : Int) := JB_254 h.1 j
abbrev JR_273 {l : Nat} {g : Fg} {tc pl : Int} {m : Mem} (h : JR l g tc pl m) (j : Int) := JB_273 h.1 j
abbrev JR_274 {l : Nat} {g : Fg} {tc pl : Int} {m : Mem} (h : JR l g tc pl m) (j : Int) := JB_274 h.1 j
abbrev JR_275 {l : Nat} {g : Fg} {tc pl : Int} {m : Mem} (h : JR l g tc pl m) (j : Int) := JB_275 h.1 j
abbrev JR_278 {l : Nat} {g : Fg} {tc pl : Int} {m : Mem} (h : JR l g tc pl m) (j : Int) := JB_278 h.1 j
theorem rb_at {pl p v : Int} (h : 0 ≤ p ∧ p ≤ 4) (hv : 0 ≤ v ∧ v ≤ pl - 1) : RBd pl (15 + 7 * p) v := by
  rw [rb_i (by omega) (by omega)]; omega
theorem rb_us {pl p v : Int} (h : 0 ≤ p ∧ p ≤ 4) (hv : 0 ≤ v ∧ v ≤ 1) : RBd pl (18 + 7 * p) v := by
  rw [rb_i (by omega) (by omega)]; omega
theorem rb_ho {pl p v : Int} (h : 0 ≤ p ∧ p ≤ 4) (hv : -1 ≤ v ∧ v ≤ 4) : RBd pl (20 + 7 * p) v := by
  rw [rb_i (by omega) (by omega)]; omega
theorem rb_on {pl q v : Int} (h : 0 ≤ q ∧ q ≤ 4) (hv : -1 ≤ v ∧ v ≤ pl - 1) : RBd pl (3 * q + 1) v := by
  rw [rb_i (by omega) (by omega)]; omega
theorem JR_1 {l : Nat} {g : Fg} {tc pl : Int} {m : Mem} (h : JR l g tc pl m) : JB l g tc pl m := h.1
theorem rb_free {pl j v : Int} (h : 0 ≤ j ∧ j < 52) (h1 : j < 15 → j % 3 ≠ 1) (h2 : 15 ≤ j → j < 50 → (j - 15) % 7 ≠ 0 ∧ (j - 15) % 7 ≠ 3 ∧ (j - 15) % 7 ≠ 5) : RBd pl j v := by
  rw [rb_i h.1 h.2]; omega
theorem upm_self (m : Mem) (a j : Int) : upm m a j (m a j) = m := by
  funext x y; unfold upm; split
  · rename_i h; rw [h.1, h.2]
  · rfl
theorem upm_same (m : Mem) (a j v w : Int) : upm (upm m a j v) a j w = upm m a j w := by
  funext x y; unfold upm; split <;> simp_all
/-- what queries keep: what is now, and the way's length -/
def JW (l : Nat) (g : Fg) (tc pl : Int) (N : Int → Int) (W : Int) (m : Mem) : Prop := JR l g tc pl m ∧ m 258 = N ∧ m 249 53 = W
abbrev frw (a j : Int) : Prop := a ≠ 258 ∧ (a = 249 → j ≠ 53)
theorem JW_up {l : Nat} {g : Fg} {tc pl W : Int} {N : Int → Int} {m : Mem} {a j v : Int} (h : JW l g tc pl N W m) (ha : ¬ frR l a j) (hf : frc a j) (hw : frw a j) (hv : BdR tc pl a j v) : JW l g tc pl N W (upm m a j v) := by
  refine ⟨JR_up h.1 ha hf hv, ?_, ?_⟩
  · have e5 : upm m a j v 258 = m 258 := by funext y; unfold upm; rw [if_neg]; rintro ⟨h1, h2⟩; exact hw.1 h1.symm
    rw [e5]; exact h.2.1
  · have e3 : upm m a j v 249 53 = m 249 53 := by unfold upm; rw [if_neg]; rintro ⟨h1, h2⟩; exact hw.2 h1.symm h2.symm
    rw [e3]; exact h.2.2
theorem JW_l {l : Nat} {g : Fg} {tc pl W : Int} {N : Int → Int} {m : Mem} (h : JW l g tc pl N W m) : LVR l g := JR_l h.1
theorem JW_of {l l' : Nat} {g : Fg} {tc pl W : Int} {N : Int → Int} {m : Mem} (hL : LVR l g) (h : JW l g tc pl N W m) (hl : l ≤ l') : JW l' g tc pl N W m := ⟨JR_of hL h.1 hl, h.2⟩
theorem JW_dn {l l' : Nat} {g : Fg} {tc pl W : Int} {N : Int → Int} {m : Mem} (hL : LVR l g) (h : JW l' g tc pl N W m) : JW l g tc pl N W m := ⟨JR_dn hL h.1, h.2⟩
theorem JW_s {l : Nat} {g : Fg} {tc pl W : Int} {N : Int → Int} {m : Mem} (h : JW l g tc pl N W m) : m 249 18 = tc ∧ 0 ≤ tc ∧ tc ≤ 80 ∧ 1 ≤ pl ∧ pl ≤ 10 ∧ 0 ≤ m 249 1 ∧ m 249 1 ≤ 24 ∧ 0 ≤ m 249 3 ∧ m 249 3 ≤ pl ∧ 0 ≤ m 249 4 ∧ m 249 4 ≤ 14 ∧ 0 ≤ m 249 5 ∧ m 249 5 ≤ 5 ∧ 0 ≤ m 249 6 ∧ m 249 6 ≤ 5 ∧ 0 ≤ m 249 32 ∧ m 249 32 ≤ 80 ∧ 0 ≤ m 249 39 ∧ m 249 39 ≤ 15 ∧ 0 ≤ W ∧ W ≤ 10 ∧ 0 ≤ m 249 62 ∧ m 249 62 ≤ 8 ∧ 0 ≤ m 249 66 ∧ m 249 66 ≤ 10 ∧ 0 ≤ m 249 44 ∧ m 249 44 ≤ 60 ∧ (m 249 3 = pl ∨ m 249 3 = 0 ∧ pl = 1) ∧ m 249 53 = W := by
  have h1 := JR_s h.1
  have h2 := h.2.2
  omega
theorem JW_p {l : Nat} {g : Fg} {tc pl W : Int} {N : Int → Int} {m : Mem} (h : JW l g tc pl N W m) (p : Int) : 0 ≤ p → p ≤ 4 → 0 ≤ N (15 + 7 * p) ∧ N (15 + 7 * p) ≤ pl - 1 ∧ 0 ≤ N (18 + 7 * p) ∧ N (18 + 7 * p) ≤ 1 ∧ -1 ≤ N (20 + 7 * p) ∧ N (20 + 7 * p) ≤ 4 := by
  have := JR_p h.1 p
  rw [h.2.1] at this
  exact this
theorem JW_q {l : Nat} {g : Fg} {tc pl W : Int} {N : Int → Int} {m : Mem} (h : JW l g tc pl N W m) (q : Int) : 0 ≤ q → q ≤ 4 → -1 ≤ N (3 * q + 1) ∧ N (3 * q + 1) ≤ pl - 1 := by
  have := JR_q h.1 q
  rw [h.2.1] at this
  exact this
theorem JW_mk {l : Nat} {g : Fg} {tc pl : Int} {m : Mem} (h : JR l g tc pl m) : JW l g tc pl (m 258) (m 249 53) m := ⟨h, rfl, rfl⟩
theorem JW_1 {l : Nat} {g : Fg} {tc pl W : Int} {N : Int → Int} {m : Mem} (h : JW l g tc pl N W m) : JR l g tc pl m := h.1
theorem JW_2 {l : Nat} {g : Fg} {tc pl W : Int} {N : Int → Int} {m : Mem} (h : JW l g tc pl N W m) : m 258 = N := h.2.1
theorem upm_58 {m : Mem} {a j v : Int} (h : 258 ≠ a) : upm m a j v 258 = m 258 := by
  funext y; unfold upm; rw [if_neg]; rintro ⟨h1, h2⟩; exact h h1
theorem upm_app (f : Mem) (a j v x y : Int) : upm f a j v x y = if x = a ∧ y = j then v else f x y := rfl
theorem upm_comm {m : Mem} {a j v b i w : Int} (h : ¬ (a = b ∧ j = i)) : upm (upm m a j v) b i w = upm (upm m b i w) a j v := by
  funext x y
  simp only [upm_app]
  split <;> split <;> first | rfl | (exfalso; omega)
theorem rb_eq {pl i j v : Int} (h : RBd pl i v) (e : j % 52 = i % 52) : RBd pl j v := by
  unfold RBd at *
  rw [e]; exact h
theorem JW_n {l : Nat} {g : Fg} {tc pl W : Int} {N : Int → Int} {m : Mem} (h : JW l g tc pl N W m) (j : Int) : RBd pl j (N j) := by
  have := JB_n h.1.1 258 j (.inl rfl)
  rw [h.2.1] at this
  exact this

theorem p_169 {d : Nat} {e : Int} {m : Mem} {Q : Int → Sto → Prop} {a b c : Int} (hq : ∀ v, (v = 1 ∧ b ≤ a ∧ a ≤ c ∨ v = 0 ∧ (a < b ∨ c < a)) → Q v (S9 e m)) : Cl (d + 1) 169 [a, b, c] Q (S9 e m) := by
  simp only [cl_169, runB, B169, ma_169, rho_111, w_cst, w_ldi, w_ldj, w_lda, w_ljk, w_ldk, w_ldw, w_ldk2, w_ldt, w_ldtw, w_neg, w_cvb, w_cvs, w_cvc, w_cvj, w_add, w_sub, w_mul, w_ban, w_bor, w_bxo, w_shl, w_shr, w_ush, w_dvi, w_rmi, w_aldi, w_aldj, w_aldz, w_aldc, w_alda, w_ite, w_cmp, w_cmj, w_cz, w_cnot, w_cand, w_cor, w_nil, w_cons, w_cvi, w_csta, w_cvt, w_cvv, w_csv, w_cpy, w_seq, w_sbr, w_sbn, w_brk, w_ifs, w_ifx, w_ife, w_wk, w_rets, w_rtv, w_thr, w_asi, w_asj, w_asa, w_inc, w_exs, w_asti, w_astj, w_astz, w_astc, w_aopadd, w_aopsub, w_sw, if_true, if_false, ↓reduceIte, hdl_c, S9_1, S9_m, bud9, live9, inb9, wrn, wr9_14, wr9_15, wr9_16, wr9_17, tq9_14, tq9_15, tq9_16, tq9_17, tq_0, tq_1, tq_3, upr_rl, rl_0, rl_1, rl_2, rl_3, rl_4, rl_5, rl_6, rl_7, rl_8, rl_9, rl_10, rl_11, rl_12, rl_13, sp_0, sp_1, sp_2, sp_3, sp_4, sp_5, sp_6, sp_7, sp_8, sp_9, sp_10, sp_11, sp_12, sp_13, se_0, se_1, se_2, se_3, se_4, se_5, se_6, se_7, se_8, se_9, se_10, se_11, se_12, se_13, sem_0, sem_1, sem_2, sem_3, sem_4, sem_5, sr_249_16, sr_249_50, sr_249_43, sr_249_64, sr_249_9, sr_249_54, sr_249_40, sr_249_14, sr_249_68, sr_249_17, sr_249_57, sr_249_10, sr_249_23, sr_249_13, sr_249_63, sr_249_31, sr_249_51, sr_249_24, sr_249_69, sr_249_8, sr_249_30, sr_249_2, sr_249_71, sr_249_22, kl9_249, sr_249_67, sr_249_55, sr_249_41, sr_249_35, sr_249_11, sr_249_12, sr_249_52, sr_249_42, kc_249, sr_249_34, sr_249_70, sr_249_61, sr_249_58, sr_249_15, sr_249_25, List.getD_cons_zero, List.getD_cons_succ, Bool.false_eq_true, wrn3, wrn1, cpmS, cpok9]
  repeat' (first
    | (with_reducible exact True.intro)
    | (with_reducible rfl)
    | (with_reducible refine And.intro ?_ ?_)
    | intro _
    | (with_reducible refine hq _ ?_)
    | omega
    | (with_reducible contradiction)
    | (unfold w32; omega)
    | (simp (disch := omega) only [w32_eq]; omega)
    | (with_reducible show (_ : Int) ≤ _; simp [upm] <;> (first | omega | (unfold w32; omega)))
    | (with_reducible show (_ : Int) < _; simp [upm] <;> (first | omega | (unfold w32; omega))))

theorem p_178 {d : Nat} {e : Int} {m : Mem} {Q : Int → Sto → Prop} {a : Int} (hq : ∀ v, (v = 0 ∧ a = 0 ∨ v = 1 ∧ a ≠ 0) → Q v (S9 e m)) : Cl (d + 1) 178 [a] Q (S9 e m) := by
  simp only [cl_178, runB, B178, ma_178, rho_0, w_cst, w_ldi, w_ldj, w_lda, w_ljk, w_ldk, w_ldw, w_ldk2, w_ldt, w_ldtw, w_neg, w_cvb, w_cvs, w_cvc, w_cvj, w_add, w_sub, w_mul, w_ban, w_bor, w_bxo, w_shl, w_shr, w_ush, w_dvi, w_rmi, w_aldi, w_aldj, w_aldz, w_aldc, w_alda, w_ite, w_cmp, w_cmj, w_cz, w_cnot, w_cand, w_cor, w_nil, w_cons, w_cvi, w_csta, w_cvt, w_cvv, w_csv, w_cpy, w_seq, w_sbr, w_sbn, w_brk, w_ifs, w_ifx, w_ife, w_wk, w_rets, w_rtv, w_thr, w_asi, w_asj, w_asa, w_inc, w_exs, w_asti, w_astj, w_astz, w_astc, w_aopadd, w_aopsub, w_sw, if_true, if_false, ↓reduceIte, hdl_c, S9_1, S9_m, bud9, live9, inb9, wrn, wr9_14, wr9_15, wr9_16, wr9_17, tq9_14, tq9_15, tq9_16, tq9_17, tq_0, tq_1, tq_3, upr_rl, rl_0, rl_1, rl_2, rl_3, rl_4, rl_5, rl_6, rl_7, rl_8, rl_9, rl_10, rl_11, rl_12, rl_13, sp_0, sp_1, sp_2, sp_3, sp_4, sp_5, sp_6, sp_7, sp_8, sp_9, sp_10, sp_11, sp_12, sp_13, se_0, se_1, se_2, se_3, se_4, se_5, se_6, se_7, se_8, se_9, se_10, se_11, se_12, se_13, sem_0, sem_1, sem_2, sem_3, sem_4, sem_5, sr_249_16, sr_249_50, sr_249_43, sr_249_64, sr_249_9, sr_249_54, sr_249_40, sr_249_14, sr_249_68, sr_249_17, sr_249_57, sr_249_10, sr_249_23, sr_249_13, sr_249_63, sr_249_31, sr_249_51, sr_249_24, sr_249_69, sr_249_8, sr_249_30, sr_249_2, sr_249_71, sr_249_22, kl9_249, sr_249_67, sr_249_55, sr_249_41, sr_249_35, sr_249_11, sr_249_12, sr_249_52, sr_249_42, kc_249, sr_249_34, sr_249_70, sr_249_61, sr_249_58, sr_249_15, sr_249_25, List.getD_cons_zero, List.getD_cons_succ, Bool.false_eq_true, wrn3, wrn1, cpmS, cpok9]
  repeat' (first
    | (with_reducible exact True.intro)
    | (with_reducible rfl)
    | (with_reducible refine And.intro ?_ ?_)
    | intro _
    | (with_reducible refine hq _ ?_)
    | omega
    | (with_reducible contradiction)
    | (unfold w32; omega)
    | (simp (disch := omega) only [w32_eq]; omega)
    | (with_reducible show (_ : Int) ≤ _; simp [upm] <;> (first | omega | (unfold w32; omega)))
    | (with_reducible show (_ : Int) < _; simp [upm] <;> (first | omega | (unfold w32; omega))))

theorem p_188 {d : Nat} {e : Int} {m : Mem} {Q : Int → Sto → Prop} {a : Int} (ha : 0 ≤ a ∧ a ≤ 4) (hq : Q (15 + 7 * a) (S9 e m)) : Cl (d + 1) 188 [a] Q (S9 e m) := by
  have e1 : w32 (15 + w32 (7 * a)) = 15 + 7 * a := by unfold w32; omega
  simp only [cl_188, runB, B188, ma_188, rho_0, w_cst, w_ldi, w_ldj, w_lda, w_ljk, w_ldk, w_ldw, w_ldk2, w_ldt, w_ldtw, w_neg, w_cvb, w_cvs, w_cvc, w_cvj, w_add, w_sub, w_mul, w_ban, w_bor, w_bxo, w_shl, w_shr, w_ush, w_dvi, w_rmi, w_aldi, w_aldj, w_aldz, w_aldc, w_alda, w_ite, w_cmp, w_cmj, w_cz, w_cnot, w_cand, w_cor, w_nil, w_cons, w_cvi, w_csta, w_cvt, w_cvv, w_csv, w_cpy, w_seq, w_sbr, w_sbn, w_brk, w_ifs, w_ifx, w_ife, w_wk, w_rets, w_rtv, w_thr, w_asi, w_asj, w_asa, w_inc, w_exs, w_asti, w_astj, w_astz, w_astc, w_aopadd, w_aopsub, w_sw, if_true, if_false, ↓reduceIte, hdl_c, S9_1, S9_m, bud9, live9, inb9, wrn, wr9_14, wr9_15, wr9_16, wr9_17, tq9_14, tq9_15, tq9_16, tq9_17, tq_0, tq_1, tq_3, upr_rl, rl_0, rl_1, rl_2, rl_3, rl_4, rl_5, rl_6, rl_7, rl_8, rl_9, rl_10, rl_11, rl_12, rl_13, sp_0, sp_1, sp_2, sp_3, sp_4, sp_5, sp_6, sp_7, sp_8, sp_9, sp_10, sp_11, sp_12, sp_13, se_0, se_1, se_2, se_3, se_4, se_5, se_6, se_7, se_8, se_9, se_10, se_11, se_12, se_13, sem_0, sem_1, sem_2, sem_3, sem_4, sem_5, sr_249_16, sr_249_50, sr_249_43, sr_249_64, sr_249_9, sr_249_54, sr_249_40, sr_249_14, sr_249_68, sr_249_17, sr_249_57, sr_249_10, sr_249_23, sr_249_13, sr_249_63, sr_249_31, sr_249_51, sr_249_24, sr_249_69, sr_249_8, sr_249_30, sr_249_2, sr_249_71, sr_249_22, kl9_249, sr_249_67, sr_249_55, sr_249_41, sr_249_35, sr_249_11, sr_249_12, sr_249_52, sr_249_42, kc_249, sr_249_34, sr_249_70, sr_249_61, sr_249_58, sr_249_15, sr_249_25, List.getD_cons_zero, List.getD_cons_succ, Bool.false_eq_true, wrn3, wrn1, cpmS, cpok9, e1]
  repeat' (first
    | (with_reducible exact True.intro)
    | (with_reducible rfl)
    | (with_reducible refine And.intro ?_ ?_)
    | intro _
    | exact hq
    | omega
    | (with_reducible contradiction)
    | (unfold w32; omega)
    | (simp (disch := omega) only [w32_eq]; omega)
    | (with_reducible show (_ : Int) ≤ _; simp [upm] <;> (first | omega | (unfold w32; omega)))
    | (with_reducible show (_ : Int) < _; simp [upm] <;> (first | omega | (unfold w32; omega))))

theorem p_199 {d : Nat} {e : Int} {m : Mem} {Q : Int → Sto → Prop} {a b : Int} (hq : ∀ v, (v = 1 ∧ iand (ishr a b) 1 = 1 ∨ v = 0 ∧ iand (ishr a b) 1 ≠ 1) → Q v (S9 e m)) : Cl (d + 1) 199 [a, b] Q (S9 e m) := by
  simp only [cl_199, runB, B199, ma_199, rho_00, w_cst, w_ldi, w_ldj, w_lda, w_ljk, w_ldk, w_ldw, w_ldk2, w_ldt, w_ldtw, w_neg, w_cvb, w_cvs, w_cvc, w_cvj, w_add, w_sub, w_mul, w_ban, w_bor, w_bxo, w_shl, w_shr, w_ush, w_dvi, w_rmi, w_aldi, w_aldj, w_aldz, w_aldc, w_alda, w_ite, w_cmp, w_cmj, w_cz, w_cnot, w_cand, w_cor, w_nil, w_cons, w_cvi, w_csta, w_cvt, w_cvv, w_csv, w_cpy, w_seq, w_sbr, w_sbn, w_brk, w_ifs, w_ifx, w_ife, w_wk, w_rets, w_rtv, w_thr, w_asi, w_asj, w_asa, w_inc, w_exs, w_asti, w_astj, w_astz, w_astc, w_aopadd, w_aopsub, w_sw, if_true, if_false, ↓reduceIte, hdl_c, S9_1, S9_m, bud9, live9, inb9, wrn, wr9_14, wr9_15, wr9_16, wr9_17, tq9_14, tq9_15, tq9_16, tq9_17, tq_0, tq_1, tq_3, upr_rl, rl_0, rl_1, rl_2, rl_3, rl_4, rl_5, rl_6, rl_7, rl_8, rl_9, rl_10, rl_11, rl_12, rl_13, sp_0, sp_1, sp_2, sp_3, sp_4, sp_5, sp_6, sp_7, sp_8, sp_9, sp_10, sp_11, sp_12, sp_13, se_0, se_1, se_2, se_3, se_4, se_5, se_6, se_7, se_8, se_9, se_10, se_11, se_12, se_13, sem_0, sem_1, sem_2, sem_3, sem_4, sem_5, sr_249_16, sr_249_50, sr_249_43, sr_249_64, sr_249_9, sr_249_54, sr_249_40, sr_249_14, sr_249_68, sr_249_17, sr_249_57, sr_249_10, sr_249_23, sr_249_13, sr_249_63, sr_249_31, sr_249_51, sr_249_24, sr_249_69, sr_249_8, sr_249_30, sr_249_2, sr_249_71, sr_249_22, kl9_249, sr_249_67, sr_249_55, sr_249_41, sr_249_35, sr_249_11, sr_249_12, sr_249_52, sr_249_42, kc_249, sr_249_34, sr_249_70, sr_249_61, sr_249_58, sr_249_15, sr_249_25, List.getD_cons_zero, List.getD_cons_succ, Bool.false_eq_true, wrn3, wrn1, cpmS, cpok9]
  repeat' (first
    | (with_reducible exact True.intro)
    | (with_reducible rfl)
    | (with_reducible refine And.intro ?_ ?_)
    | intro _
    | (with_reducible refine hq _ ?_)
    | omega
    | (with_reducible contradiction)
    | (unfold w32; omega)
    | (simp (disch := omega) only [w32_eq]; omega)
    | (with_reducible show (_ : Int) ≤ _; simp [upm] <;> (first | omega | (unfold w32; omega)))
    | (with_reducible show (_ : Int) < _; simp [upm] <;> (first | omega | (unfold w32; omega))))

theorem p_209 {d : Nat} {e : Int} {m : Mem} {Q : Int → Sto → Prop} {a b c : Int} (hq : ∀ v, True → Q v (S9 e m)) : Cl (d + 2) 209 [a, b, c] Q (S9 e m) := by
  simp only [cl_209, runB, B209, ma_209, rho_000, wc_178, w_cst, w_ldi, w_ldj, w_lda, w_ljk, w_ldk, w_ldw, w_ldk2, w_ldt, w_ldtw, w_neg, w_cvb, w_cvs, w_cvc, w_cvj, w_add, w_sub, w_mul, w_ban, w_bor, w_bxo, w_shl, w_shr, w_ush, w_dvi, w_rmi, w_aldi, w_aldj, w_aldz, w_aldc, w_alda, w_ite, w_cmp, w_cmj, w_cz, w_cnot, w_cand, w_cor, w_nil, w_cons, w_cvi, w_csta, w_cvt, w_cvv, w_csv, w_cpy, w_seq, w_sbr, w_sbn, w_brk, w_ifs, w_ifx, w_ife, w_wk, w_rets, w_rtv, w_thr, w_asi, w_asj, w_asa, w_inc, w_exs, w_asti, w_astj, w_astz, w_astc, w_aopadd, w_aopsub, w_sw, if_true, if_false, ↓reduceIte, hdl_c, S9_1, S9_m, bud9, live9, inb9, wrn, wr9_14, wr9_15, wr9_16, wr9_17, tq9_14, tq9_15, tq9_16, tq9_17, tq_0, tq_1, tq_3, upr_rl, rl_0, rl_1, rl_2, rl_3, rl_4, rl_5, rl_6, rl_7, rl_8, rl_9, rl_10, rl_11, rl_12, rl_13, sp_0, sp_1, sp_2, sp_3, sp_4, sp_5, sp_6, sp_7, sp_8, sp_9, sp_10, sp_11, sp_12, sp_13, se_0, se_1, se_2, se_3, se_4, se_5, se_6, se_7, se_8, se_9, se_10, se_11, se_12, se_13, sem_0, sem_1, sem_2, sem_3, sem_4, sem_5, sr_249_16, sr_249_50, sr_249_43, sr_249_64, sr_249_9, sr_249_54, sr_249_40, sr_249_14, sr_249_68, sr_249_17, sr_249_57, sr_249_10, sr_249_23, sr_249_13, sr_249_63, sr_249_31, sr_249_51, sr_249_24, sr_249_69, sr_249_8, sr_249_30, sr_249_2, sr_249_71, sr_249_22, kl9_249, sr_249_67, sr_249_55, sr_249_41, sr_249_35, sr_249_11, sr_249_12, sr_249_52, sr_249_42, kc_249, sr_249_34, sr_249_70, sr_249_61, sr_249_58, sr_249_15, sr_249_25, List.getD_cons_zero, List.getD_cons_succ, Bool.false_eq_true, wrn3, wrn1, cpmS, cpok9, swW_c, swW_n, List.mem_singleton, List.mem_cons, List.mem_nil_iff]
  repeat' (first
    | (with_reducible exact True.intro)
    | (with_reducible rfl)
    | (with_reducible refine And.intro ?_ ?_)
    | intro _
    | (with_reducible refine p_178 (fun v9 h9 => ?_); simp only [hdl_c, S9_1, S9_m, bud9, live9, inb9, wrn, wr9_14, wr9_15, wr9_16, wr9_17, tq9_14, tq9_15, tq9_16, tq9_17, tq_0, tq_1, tq_3, upr_rl, rl_0, rl_1, rl_2, rl_3, rl_4, rl_5, rl_6, rl_7, rl_8, rl_9, rl_10, rl_11, rl_12, rl_13, sp_0, sp_1, sp_2, sp_3, sp_4, sp_5, sp_6, sp_7, sp_8, sp_9, sp_10, sp_11, sp_12, sp_13, se_0, se_1, se_2, se_3, se_4, se_5, se_6, se_7, se_8, se_9, se_10, se_11, se_12, se_13, sem_0, sem_1, sem_2, sem_3, sem_4, sem_5, List.getD_cons_zero, List.getD_cons_succ, Bool.false_eq_true, wrn3, wrn1, cpmS, cpok9, if_true, if_false, ↓reduceIte, wc_178, sr_249_16, sr_249_50, sr_249_43, sr_249_64, sr_249_9, sr_249_54, sr_249_40, sr_249_14, sr_249_68, sr_249_17, sr_249_57, sr_249_10, sr_249_23, sr_249_13, sr_249_63, sr_249_31, sr_249_51, sr_249_24, sr_249_69, sr_249_8, sr_249_30, sr_249_2, sr_249_71, sr_249_22, kl9_249, sr_249_67, sr_249_55, sr_249_41, sr_249_35, sr_249_11, sr_249_12, sr_249_52, sr_249_42, kc_249, sr_249_34, sr_249_70, sr_249_61, sr_249_58, sr_249_15, sr_249_25, swW_c, swW_n, List.mem_singleton, List.mem_cons, List.mem_nil_iff])
    | (with_reducible refine hq _ ?_)
    | omega
    | (with_reducible contradiction)
    | (unfold w32; omega)
    | (simp (disch := omega) only [w32_eq]; omega)
    | (with_reducible show (_ : Int) ≤ _; simp [upm] <;> (first | omega | (unfold w32; omega)))
    | (with_reducible show (_ : Int) < _; simp [upm] <;> (first | omega | (unfold w32; omega))))

theorem p_194 {d : Nat} {e : Int} {m : Mem} {Q : Int → Sto → Prop} {a : Int} (h0 : 0 ≤ m 249 3 ∧ m 249 3 ≤ 10) (hq : ∀ v, (v = 1 ∧ 0 ≤ a ∧ a < m 249 3 ∨ v = 0 ∧ (a < 0 ∨ m 249 3 ≤ a)) → Q v (S9 e m)) : Cl (d + 2) 194 [249, a] Q (S9 e m) := by
  have e1 : w32 (m 249 3 - 1) = m 249 3 - 1 := by unfold w32; omega
  simp only [cl_194, runB, B194, ma_194, rho_20, wf_13_133, wc_169, w_cst, w_ldi, w_ldj, w_lda, w_ljk, w_ldk, w_ldw, w_ldk2, w_ldt, w_ldtw, w_neg, w_cvb, w_cvs, w_cvc, w_cvj, w_add, w_sub, w_mul, w_ban, w_bor, w_bxo, w_shl, w_shr, w_ush, w_dvi, w_rmi, w_aldi, w_aldj, w_aldz, w_aldc, w_alda, w_ite, w_cmp, w_cmj, w_cz, w_cnot, w_cand, w_cor, w_nil, w_cons, w_cvi, w_csta, w_cvt, w_cvv, w_csv, w_cpy, w_seq, w_sbr, w_sbn, w_brk, w_ifs, w_ifx, w_ife, w_wk, w_rets, w_rtv, w_thr, w_asi, w_asj, w_asa, w_inc, w_exs, w_asti, w_astj, w_astz, w_astc, w_aopadd, w_aopsub, w_sw, if_true, if_false, ↓reduceIte, hdl_c, S9_1, S9_m, bud9, live9, inb9, wrn, wr9_14, wr9_15, wr9_16, wr9_17, tq9_14, tq9_15, tq9_16, tq9_17, tq_0, tq_1, tq_3, upr_rl, rl_0, rl_1, rl_2, rl_3, rl_4, rl_5, rl_6, rl_7, rl_8, rl_9, rl_10, rl_11, rl_12, rl_13, sp_0, sp_1, sp_2, sp_3, sp_4, sp_5, sp_6, sp_7, sp_8, sp_9, sp_10, sp_11, sp_12, sp_13, se_0, se_1, se_2, se_3, se_4, se_5, se_6, se_7, se_8, se_9, se_10, se_11, se_12, se_13, sem_0, sem_1, sem_2, sem_3, sem_4, sem_5, sr_249_16, sr_249_50, sr_249_43, sr_249_64, sr_249_9, sr_249_54, sr_249_40, sr_249_14, sr_249_68, sr_249_17, sr_249_57, sr_249_10, sr_249_23, sr_249_13, sr_249_63, sr_249_31, sr_249_51, sr_249_24, sr_249_69, sr_249_8, sr_249_30, sr_249_2, sr_249_71, sr_249_22, kl9_249, sr_249_67, sr_249_55, sr_249_41, sr_249_35, sr_249_11, sr_249_12, sr_249_52, sr_249_42, kc_249, sr_249_34, sr_249_70, sr_249_61, sr_249_58, sr_249_15, sr_249_25, List.getD_cons_zero, List.getD_cons_succ, Bool.false_eq_true, wrn3, wrn1, cpmS, cpok9, e1]
  repeat' (first
    | (with_reducible exact True.intro)
    | (with_reducible rfl)
    | (with_reducible refine And.intro ?_ ?_)
    | intro _
    | (with_reducible refine p_169 (fun v9 h9 => ?_); simp only [hdl_c, S9_1, S9_m, bud9, live9, inb9, wrn, wr9_14, wr9_15, wr9_16, wr9_17, tq9_14, tq9_15, tq9_16, tq9_17, tq_0, tq_1, tq_3, upr_rl, rl_0, rl_1, rl_2, rl_3, rl_4, rl_5, rl_6, rl_7, rl_8, rl_9, rl_10, rl_11, rl_12, rl_13, sp_0, sp_1, sp_2, sp_3, sp_4, sp_5, sp_6, sp_7, sp_8, sp_9, sp_10, sp_11, sp_12, sp_13, se_0, se_1, se_2, se_3, se_4, se_5, se_6, se_7, se_8, se_9, se_10, se_11, se_12, se_13, sem_0, sem_1, sem_2, sem_3, sem_4, sem_5, List.getD_cons_zero, List.getD_cons_succ, Bool.false_eq_true, wrn3, wrn1, cpmS, cpok9, if_true, if_false, ↓reduceIte, wc_169, sr_249_16, sr_249_50, sr_249_43, sr_249_64, sr_249_9, sr_249_54, sr_249_40, sr_249_14, sr_249_68, sr_249_17, sr_249_57, sr_249_10, sr_249_23, sr_249_13, sr_249_63, sr_249_31, sr_249_51, sr_249_24, sr_249_69, sr_249_8, sr_249_30, sr_249_2, sr_249_71, sr_249_22, kl9_249, sr_249_67, sr_249_55, sr_249_41, sr_249_35, sr_249_11, sr_249_12, sr_249_52, sr_249_42, kc_249, sr_249_34, sr_249_70, sr_249_61, sr_249_58, sr_249_15, sr_249_25, e1])
    | (with_reducible refine hq _ ?_)
    | omega
    | (with_reducible contradiction)
    | (unfold w32; omega)
    | (simp (disch := omega) only [w32_eq]; omega)
    | (with_reducible show (_ : Int) ≤ _; simp [upm] <;> (first | omega | (unfold w32; omega)))
    | (with_reducible show (_ : Int) < _; simp [upm] <;> (first | omega | (unfold w32; omega))))

theorem p_201 {d : Nat} {e : Int} {m : Mem} {Q : Int → Sto → Prop} {a : Int} (h0 : 0 ≤ m 249 5 ∧ m 249 5 ≤ 5) (hq : ∀ v, (v = 1 ∧ 0 ≤ a ∧ a < m 249 5 ∨ v = 0 ∧ (a < 0 ∨ m 249 5 ≤ a)) → Q v (S9 e m)) : Cl (d + 2) 201 [249, a] Q (S9 e m) := by
  have e1 : w32 (m 249 5 - 1) = m 249 5 - 1 := by unfold w32; omega
  simp only [cl_201, runB, B201, ma_201, rho_20, wf_13_140, wc_169, w_cst, w_ldi, w_ldj, w_lda, w_ljk, w_ldk, w_ldw, w_ldk2, w_ldt, w_ldtw, w_neg, w_cvb, w_cvs, w_cvc, w_cvj, w_add, w_sub, w_mul, w_ban, w_bor, w_bxo, w_shl, w_shr, w_ush, w_dvi, w_rmi, w_aldi, w_aldj, w_aldz, w_aldc, w_alda, w_ite, w_cmp, w_cmj, w_cz, w_cnot, w_cand, w_cor, w_nil, w_cons, w_cvi, w_csta, w_cvt, w_cvv, w_csv, w_cpy, w_seq, w_sbr, w_sbn, w_brk, w_ifs, w_ifx, w_ife, w_wk, w_rets, w_rtv, w_thr, w_asi, w_asj, w_asa, w_inc, w_exs, w_asti, w_astj, w_astz, w_astc, w_aopadd, w_aopsub, w_sw, if_true, if_false, ↓reduceIte, hdl_c, S9_1, S9_m, bud9, live9, inb9, wrn, wr9_14, wr9_15, wr9_16, wr9_17, tq9_14, tq9_15, tq9_16, tq9_17, tq_0, tq_1, tq_3, upr_rl, rl_0, rl_1, rl_2, rl_3, rl_4, rl_5, rl_6, rl_7, rl_8, rl_9, rl_10, rl_11, rl_12, rl_13, sp_0, sp_1, sp_2, sp_3, sp_4, sp_5, sp_6, sp_7, sp_8, sp_9, sp_10, sp_11, sp_12, sp_13, se_0, se_1, se_2, se_3, se_4, se_5, se_6, se_7, se_8, se_9, se_10, se_11, se_12, se_13, sem_0, sem_1, sem_2, sem_3, sem_4, sem_5, sr_249_16, sr_249_50, sr_249_43, sr_249_64, sr_249_9, sr_249_54, sr_249_40, sr_249_14, sr_249_68, sr_249_17, sr_249_57, sr_249_10, sr_249_23, sr_249_13, sr_249_63, sr_249_31, sr_249_51, sr_249_24, sr_249_69, sr_249_8, sr_249_30, sr_249_2, sr_249_71, sr_249_22, kl9_249, sr_249_67, sr_249_55, sr_249_41, sr_249_35, sr_249_11, sr_249_12, sr_249_52, sr_249_42, kc_249, sr_249_34, sr_249_70, sr_249_61, sr_249_58, sr_249_15, sr_249_25, List.getD_cons_zero, List.getD_cons_succ, Bool.false_eq_true, wrn3, wrn1, cpmS, cpok9, e1]
  repeat' (first
    | (with_reducible exact True.intro)
    | (with_reducible rfl)
    | (with_reducible refine And.intro ?_ ?_)
    | intro _
    | (with_reducible refine p_169 (fun v9 h9 => ?_); simp only [hdl_c, S9_1, S9_m, bud9, live9, inb9, wrn, wr9_14, wr9_15, wr9_16, wr9_17, tq9_14, tq9_15, tq9_16, tq9_17, tq_0, tq_1, tq_3, upr_rl, rl_0, rl_1, rl_2, rl_3, rl_4, rl_5, rl_6, rl_7, rl_8, rl_9, rl_10, rl_11, rl_12, rl_13, sp_0, sp_1, sp_2, sp_3, sp_4, sp_5, sp_6, sp_7, sp_8, sp_9, sp_10, sp_11, sp_12, sp_13, se_0, se_1, se_2, se_3, se_4, se_5, se_6, se_7, se_8, se_9, se_10, se_11, se_12, se_13, sem_0, sem_1, sem_2, sem_3, sem_4, sem_5, List.getD_cons_zero, List.getD_cons_succ, Bool.false_eq_true, wrn3, wrn1, cpmS, cpok9, if_true, if_false, ↓reduceIte, wc_169, sr_249_16, sr_249_50, sr_249_43, sr_249_64, sr_249_9, sr_249_54, sr_249_40, sr_249_14, sr_249_68, sr_249_17, sr_249_57, sr_249_10, sr_249_23, sr_249_13, sr_249_63, sr_249_31, sr_249_51, sr_249_24, sr_249_69, sr_249_8, sr_249_30, sr_249_2, sr_249_71, sr_249_22, kl9_249, sr_249_67, sr_249_55, sr_249_41, sr_249_35, sr_249_11, sr_249_12, sr_249_52, sr_249_42, kc_249, sr_249_34, sr_249_70, sr_249_61, sr_249_58, sr_249_15, sr_249_25, e1])
    | (with_reducible refine hq _ ?_)
    | omega
    | (with_reducible contradiction)
    | (unfold w32; omega)
    | (simp (disch := omega) only [w32_eq]; omega)
    | (with_reducible show (_ : Int) ≤ _; simp [upm] <;> (first | omega | (unfold w32; omega)))
    | (with_reducible show (_ : Int) < _; simp [upm] <;> (first | omega | (unfold w32; omega))))

theorem p_205 {d : Nat} {e : Int} {m : Mem} {Q : Int → Sto → Prop} {a : Int} (h0 : 0 ≤ m 249 6 ∧ m 249 6 ≤ 5) (hq : ∀ v, (v = 1 ∧ 0 ≤ a ∧ a < m 249 6 ∨ v = 0 ∧ (a < 0 ∨ m 249 6 ≤ a)) → Q v (S9 e m)) : Cl (d + 2) 205 [249, a] Q (S9 e m) := by
  have e1 : w32 (m 249 6 - 1) = m 249 6 - 1 := by unfold w32; omega
  simp only [cl_205, runB, B205, ma_205, rho_20, wf_13_143, wc_169, w_cst, w_ldi, w_ldj, w_lda, w_ljk, w_ldk, w_ldw, w_ldk2, w_ldt, w_ldtw, w_neg, w_cvb, w_cvs, w_cvc, w_cvj, w_add, w_sub, w_mul, w_ban, w_bor, w_bxo, w_shl, w_shr, w_ush, w_dvi, w_rmi, w_aldi, w_aldj, w_aldz, w_aldc, w_alda, w_ite, w_cmp, w_cmj, w_cz, w_cnot, w_cand, w_cor, w_nil, w_cons, w_cvi, w_csta, w_cvt, w_cvv, w_csv, w_cpy, w_seq, w_sbr, w_sbn, w_brk, w_ifs, w_ifx, w_ife, w_wk, w_rets, w_rtv, w_thr, w_asi, w_asj, w_asa, w_inc, w_exs, w_asti, w_astj, w_astz, w_astc, w_aopadd, w_aopsub, w_sw, if_true, if_false, ↓reduceIte, hdl_c, S9_1, S9_m, bud9, live9, inb9, wrn, wr9_14, wr9_15, wr9_16, wr9_17, tq9_14, tq9_15, tq9_16, tq9_17, tq_0, tq_1, tq_3, upr_rl, rl_0, rl_1, rl_2, rl_3, rl_4, rl_5, rl_6, rl_7, rl_8, rl_9, rl_10, rl_11, rl_12, rl_13, sp_0, sp_1, sp_2, sp_3, sp_4, sp_5, sp_6, sp_7, sp_8, sp_9, sp_10, sp_11, sp_12, sp_13, se_0, se_1, se_2, se_3, se_4, se_5, se_6, se_7, se_8, se_9, se_10, se_11, se_12, se_13, sem_0, sem_1, sem_2, sem_3, sem_4, sem_5, sr_249_16, sr_249_50, sr_249_43, sr_249_64, sr_249_9, sr_249_54, sr_249_40, sr_249_14, sr_249_68, sr_249_17, sr_249_57, sr_249_10, sr_249_23, sr_249_13, sr_249_63, sr_249_31, sr_249_51, sr_249_24, sr_249_69, sr_249_8, sr_249_30, sr_249_2, sr_249_71, sr_249_22, kl9_249, sr_249_67, sr_249_55, sr_249_41, sr_249_35, sr_249_11, sr_249_12, sr_249_52, sr_249_42, kc_249, sr_249_34, sr_249_70, sr_249_61, sr_249_58, sr_249_15, sr_249_25, List.getD_cons_zero, List.getD_cons_succ, Bool.false_eq_true, wrn3, wrn1, cpmS, cpok9, e1]
  repeat' (first
    | (with_reducible exact True.intro)
    | (with_reducible rfl)
    | (with_reducible refine And.intro ?_ ?_)
    | intro _
    | (with_reducible refine p_169 (fun v9 h9 => ?_); simp only [hdl_c, S9_1, S9_m, bud9, live9, inb9, wrn, wr9_14, wr9_15, wr9_16, wr9_17, tq9_14, tq9_15, tq9_16, tq9_17, tq_0, tq_1, tq_3, upr_rl, rl_0, rl_1, rl_2, rl_3, rl_4, rl_5, rl_6, rl_7, rl_8, rl_9, rl_10, rl_11, rl_12, rl_13, sp_0, sp_1, sp_2, sp_3, sp_4, sp_5, sp_6, sp_7, sp_8, sp_9, sp_10, sp_11, sp_12, sp_13, se_0, se_1, se_2, se_3, se_4, se_5, se_6, se_7, se_8, se_9, se_10, se_11, se_12, se_13, sem_0, sem_1, sem_2, sem_3, sem_4, sem_5, List.getD_cons_zero, List.getD_cons_succ, Bool.false_eq_true, wrn3, wrn1, cpmS, cpok9, if_true, if_false, ↓reduceIte, wc_169, sr_249_16, sr_249_50, sr_249_43, sr_249_64, sr_249_9, sr_249_54, sr_249_40, sr_249_14, sr_249_68, sr_249_17, sr_249_57, sr_249_10, sr_249_23, sr_249_13, sr_249_63, sr_249_31, sr_249_51, sr_249_24, sr_249_69, sr_249_8, sr_249_30, sr_249_2, sr_249_71, sr_249_22, kl9_249, sr_249_67, sr_249_55, sr_249_41, sr_249_35, sr_249_11, sr_249_12, sr_249_52, sr_249_42, kc_249, sr_249_34, sr_249_70, sr_249_61, sr_249_58, sr_249_15, sr_249_25, e1])
    | (with_reducible refine hq _ ?_)
    | omega
    | (with_reducible contradiction)
    | (unfold w32; omega)
    | (simp (disch := omega) only [w32_eq]; omega)
    | (with_reducible show (_ : Int) ≤ _; simp [upm] <;> (first | omega | (unfold w32; omega)))
    | (with_reducible show (_ : Int) < _; simp [upm] <;> (first | omega | (unfold w32; omega))))

theorem p_197 {d : Nat} {e : Int} {m : Mem} {Q : Int → Sto → Prop} {a : Int} (h0 : 0 ≤ m 249 4 ∧ m 249 4 ≤ 14) (hq : ∀ v, (v = 1 ∧ 0 ≤ a ∧ a < m 249 4 ∨ v = 0 ∧ (a < 0 ∨ m 249 4 ≤ a)) → Q v (S9 e m)) : Cl (d + 2) 197 [249, a] Q (S9 e m) := by
  have e1 : w32 (m 249 4 - 1) = m 249 4 - 1 := by unfold w32; omega
  simp only [cl_197, runB, B197, ma_197, rho_20, wf_13_146, wc_169, w_cst, w_ldi, w_ldj, w_lda, w_ljk, w_ldk, w_ldw, w_ldk2, w_ldt, w_ldtw, w_neg, w_cvb, w_cvs, w_cvc, w_cvj, w_add, w_sub, w_mul, w_ban, w_bor, w_bxo, w_shl, w_shr, w_ush, w_dvi, w_rmi, w_aldi, w_aldj, w_aldz, w_aldc, w_alda, w_ite, w_cmp, w_cmj, w_cz, w_cnot, w_cand, w_cor, w_nil, w_cons, w_cvi, w_csta, w_cvt, w_cvv, w_csv, w_cpy, w_seq, w_sbr, w_sbn, w_brk, w_ifs, w_ifx, w_ife, w_wk, w_rets, w_rtv, w_thr, w_asi, w_asj, w_asa, w_inc, w_exs, w_asti, w_astj, w_astz, w_astc, w_aopadd, w_aopsub, w_sw, if_true, if_false, ↓reduceIte, hdl_c, S9_1, S9_m, bud9, live9, inb9, wrn, wr9_14, wr9_15, wr9_16, wr9_17, tq9_14, tq9_15, tq9_16, tq9_17, tq_0, tq_1, tq_3, upr_rl, rl_0, rl_1, rl_2, rl_3, rl_4, rl_5, rl_6, rl_7, rl_8, rl_9, rl_10, rl_11, rl_12, rl_13, sp_0, sp_1, sp_2, sp_3, sp_4, sp_5, sp_6, sp_7, sp_8, sp_9, sp_10, sp_11, sp_12, sp_13, se_0, se_1, se_2, se_3, se_4, se_5, se_6, se_7, se_8, se_9, se_10, se_11, se_12, se_13, sem_0, sem_1, sem_2, sem_3, sem_4, sem_5, sr_249_16, sr_249_50, sr_249_43, sr_249_64, sr_249_9, sr_249_54, sr_249_40, sr_249_14, sr_249_68, sr_249_17, sr_249_57, sr_249_10, sr_249_23, sr_249_13, sr_249_63, sr_249_31, sr_249_51, sr_249_24, sr_249_69, sr_249_8, sr_249_30, sr_249_2, sr_249_71, sr_249_22, kl9_249, sr_249_67, sr_249_55, sr_249_41, sr_249_35, sr_249_11, sr_249_12, sr_249_52, sr_249_42, kc_249, sr_249_34, sr_249_70, sr_249_61, sr_249_58, sr_249_15, sr_249_25, List.getD_cons_zero, List.getD_cons_succ, Bool.false_eq_true, wrn3, wrn1, cpmS, cpok9, e1]
  repeat' (first
    | (with_reducible exact True.intro)
    | (with_reducible rfl)
    | (with_reducible refine And.intro ?_ ?_)
    | intro _
    | (with_reducible refine p_169 (fun v9 h9 => ?_); simp only [hdl_c, S9_1, S9_m, bud9, live9, inb9, wrn, wr9_14, wr9_15, wr9_16, wr9_17, tq9_14, tq9_15, tq9_16, tq9_17, tq_0, tq_1, tq_3, upr_rl, rl_0, rl_1, rl_2, rl_3, rl_4, rl_5, rl_6, rl_7, rl_8, rl_9, rl_10, rl_11, rl_12, rl_13, sp_0, sp_1, sp_2, sp_3, sp_4, sp_5, sp_6, sp_7, sp_8, sp_9, sp_10, sp_11, sp_12, sp_13, se_0, se_1, se_2, se_3, se_4, se_5, se_6, se_7, se_8, se_9, se_10, se_11, se_12, se_13, sem_0, sem_1, sem_2, sem_3, sem_4, sem_5, List.getD_cons_zero, List.getD_cons_succ, Bool.false_eq_true, wrn3, wrn1, cpmS, cpok9, if_true, if_false, ↓reduceIte, wc_169, sr_249_16, sr_249_50, sr_249_43, sr_249_64, sr_249_9, sr_249_54, sr_249_40, sr_249_14, sr_249_68, sr_249_17, sr_249_57, sr_249_10, sr_249_23, sr_249_13, sr_249_63, sr_249_31, sr_249_51, sr_249_24, sr_249_69, sr_249_8, sr_249_30, sr_249_2, sr_249_71, sr_249_22, kl9_249, sr_249_67, sr_249_55, sr_249_41, sr_249_35, sr_249_11, sr_249_12, sr_249_52, sr_249_42, kc_249, sr_249_34, sr_249_70, sr_249_61, sr_249_58, sr_249_15, sr_249_25, e1])
    | (with_reducible refine hq _ ?_)
    | omega
    | (with_reducible contradiction)
    | (unfold w32; omega)
    | (simp (disch := omega) only [w32_eq]; omega)
    | (with_reducible show (_ : Int) ≤ _; simp [upm] <;> (first | omega | (unfold w32; omega)))
    | (with_reducible show (_ : Int) < _; simp [upm] <;> (first | omega | (unfold w32; omega))))

theorem p_198 {d : Nat} {e : Int} {m : Mem} {Q : Int → Sto → Prop} {a : Int} (ha : 0 ≤ a ∧ a < 14) (hq : ∀ v, (v = 0 ∨ v = 1) → Q v (S9 e m)) : Cl (d + 2) 198 [249, a] Q (S9 e m) := by
  simp only [cl_198, runB, B198, ma_198, rho_20, wf_13_26, wf_13_36, wc_199, w_cst, w_ldi, w_ldj, w_lda, w_ljk, w_ldk, w_ldw, w_ldk2, w_ldt, w_ldtw, w_neg, w_cvb, w_cvs, w_cvc, w_cvj, w_add, w_sub, w_mul, w_ban, w_bor, w_bxo, w_shl, w_shr, w_ush, w_dvi, w_rmi, w_aldi, w_aldj, w_aldz, w_aldc, w_alda, w_ite, w_cmp, w_cmj, w_cz, w_cnot, w_cand, w_cor, w_nil, w_cons, w_cvi, w_csta, w_cvt, w_cvv, w_csv, w_cpy, w_seq, w_sbr, w_sbn, w_brk, w_ifs, w_ifx, w_ife, w_wk, w_rets, w_rtv, w_thr, w_asi, w_asj, w_asa, w_inc, w_exs, w_asti, w_astj, w_astz, w_astc, w_aopadd, w_aopsub, w_sw, if_true, if_false, ↓reduceIte, hdl_c, S9_1, S9_m, bud9, live9, inb9, wrn, wr9_14, wr9_15, wr9_16, wr9_17, tq9_14, tq9_15, tq9_16, tq9_17, tq_0, tq_1, tq_3, upr_rl, rl_0, rl_1, rl_2, rl_3, rl_4, rl_5, rl_6, rl_7, rl_8, rl_9, rl_10, rl_11, rl_12, rl_13, sp_0, sp_1, sp_2, sp_3, sp_4, sp_5, sp_6, sp_7, sp_8, sp_9, sp_10, sp_11, sp_12, sp_13, se_0, se_1, se_2, se_3, se_4, se_5, se_6, se_7, se_8, se_9, se_10, se_11, se_12, se_13, sem_0, sem_1, sem_2, sem_3, sem_4, sem_5, sr_249_16, sr_249_50, sr_249_43, sr_249_64, sr_249_9, sr_249_54, sr_249_40, sr_249_14, sr_249_68, sr_249_17, sr_249_57, sr_249_10, sr_249_23, sr_249_13, sr_249_63, sr_249_31, sr_249_51, sr_249_24, sr_249_69, sr_249_8, sr_249_30, sr_249_2, sr_249_71, sr_249_22, kl9_249, sr_249_67, sr_249_55, sr_249_41, sr_249_35, sr_249_11, sr_249_12, sr_249_52, sr_249_42, kc_249, sr_249_34, sr_249_70, sr_249_61, sr_249_58, sr_249_15, sr_249_25, kl9_255, kc_255, kl9_258, kc_258, List.getD_cons_zero, List.getD_cons_succ, Bool.false_eq_true, wrn3, wrn1, cpmS, cpok9]
  repeat' (first
    | (with_reducible exact True.intro)
    | (with_reducible rfl)
    | (with_reducible refine And.intro ?_ ?_)
    | intro _
    | (with_reducible refine p_199 (fun v9 h9 => ?_); simp only [hdl_c, S9_1, S9_m, bud9, live9, inb9, wrn, wr9_14, wr9_15, wr9_16, wr9_17, tq9_14, tq9_15, tq9_16, tq9_17, tq_0, tq_1, tq_3, upr_rl, rl_0, rl_1, rl_2, rl_3, rl_4, rl_5, rl_6, rl_7, rl_8, rl_9, rl_10, rl_11, rl_12, rl_13, sp_0, sp_1, sp_2, sp_3, sp_4, sp_5, sp_6, sp_7, sp_8, sp_9, sp_10, sp_11, sp_12, sp_13, se_0, se_1, se_2, se_3, se_4, se_5, se_6, se_7, se_8, se_9, se_10, se_11, se_12, se_13, sem_0, sem_1, sem_2, sem_3, sem_4, sem_5, List.getD_cons_zero, List.getD_cons_succ, Bool.false_eq_true, wrn3, wrn1, cpmS, cpok9, if_true, if_false, ↓reduceIte, wc_199, sr_249_16, sr_249_50, sr_249_43, sr_249_64, sr_249_9, sr_249_54, sr_249_40, sr_249_14, sr_249_68, sr_249_17, sr_249_57, sr_249_10, sr_249_23, sr_249_13, sr_249_63, sr_249_31, sr_249_51, sr_249_24, sr_249_69, sr_249_8, sr_249_30, sr_249_2, sr_249_71, sr_249_22, kl9_249, sr_249_67, sr_249_55, sr_249_41, sr_249_35, sr_249_11, sr_249_12, sr_249_52, sr_249_42, kc_249, sr_249_34, sr_249_70, sr_249_61, sr_249_58, sr_249_15, sr_249_25, kl9_255, kc_255, kl9_258, kc_258])
    | (with_reducible refine hq _ ?_)
    | omega
    | (with_reducible contradiction)
    | (unfold w32; omega)
    | (simp (disch := omega) only [w32_eq]; omega)
    | (with_reducible show (_ : Int) ≤ _; simp [upm] <;> (first | omega | (unfold w32; omega)))
    | (with_reducible show (_ : Int) < _; simp [upm] <;> (first | omega | (unfold w32; omega))))

theorem p_203 {d : Nat} {e : Int} {m : Mem} {Q : Int → Sto → Prop} {a : Int} (ha : 0 ≤ a ∧ a ≤ 4) (hq : Q (m 258 (20 + 7 * a)) (S9 e m)) : Cl (d + 2) 203 [249, a] Q (S9 e m) := by
  simp only [cl_203, runB, B203, ma_203, rho_20, wf_13_36, wc_188, w_cst, w_ldi, w_ldj, w_lda, w_ljk, w_ldk, w_ldw, w_ldk2, w_ldt, w_ldtw, w_neg, w_cvb, w_cvs, w_cvc, w_cvj, w_add, w_sub, w_mul, w_ban, w_bor, w_bxo, w_shl, w_shr, w_ush, w_dvi, w_rmi, w_aldi, w_aldj, w_aldz, w_aldc, w_alda, w_ite, w_cmp, w_cmj, w_cz, w_cnot, w_cand, w_cor, w_nil, w_cons, w_cvi, w_csta, w_cvt, w_cvv, w_csv, w_cpy, w_seq, w_sbr, w_sbn, w_brk, w_ifs, w_ifx, w_ife, w_wk, w_rets, w_rtv, w_thr, w_asi, w_asj, w_asa, w_inc, w_exs, w_asti, w_astj, w_astz, w_astc, w_aopadd, w_aopsub, w_sw, if_true, if_false, ↓reduceIte, hdl_c, S9_1, S9_m, bud9, live9, inb9, wrn, wr9_14, wr9_15, wr9_16, wr9_17, tq9_14, tq9_15, tq9_16, tq9_17, tq_0, tq_1, tq_3, upr_rl, rl_0, rl_1, rl_2, rl_3, rl_4, rl_5, rl_6, rl_7, rl_8, rl_9, rl_10, rl_11, rl_12, rl_13, sp_0, sp_1, sp_2, sp_3, sp_4, sp_5, sp_6, sp_7, sp_8, sp_9, sp_10, sp_11, sp_12, sp_13, se_0, se_1, se_2, se_3, se_4, se_5, se_6, se_7, se_8, se_9, se_10, se_11, se_12, se_13, sem_0, sem_1, sem_2, sem_3, sem_4, sem_5, sr_249_16, sr_249_50, sr_249_43, sr_249_64, sr_249_9, sr_249_54, sr_249_40, sr_249_14, sr_249_68, sr_249_17, sr_249_57, sr_249_10, sr_249_23, sr_249_13, sr_249_63, sr_249_31, sr_249_51, sr_249_24, sr_249_69, sr_249_8, sr_249_30, sr_249_2, sr_249_71, sr_249_22, kl9_249, sr_249_67, sr_249_55, sr_249_41, sr_249_35, sr_249_11, sr_249_12, sr_249_52, sr_249_42, kc_249, sr_249_34, sr_249_70, sr_249_61, sr_249_58, sr_249_15, sr_249_25, kl9_258, kc_258, List.getD_cons_zero, List.getD_cons_succ, Bool.false_eq_true, wrn3, wrn1, cpmS, cpok9]
  repeat' (first
    | (with_reducible exact True.intro)
    | (with_reducible rfl)
    | (with_reducible refine And.intro ?_ ?_)
    | intro _
    | (with_reducible refine p_188 ?_ ?_; (next => first | omega | (with_reducible rfl) | decide | (unfold w32; omega) | (simp (disch := omega) only [w32_eq]; omega) | (simp [upm] <;> (first | omega | (unfold w32; omega)))); simp only [hdl_c, S9_1, S9_m, bud9, live9, inb9, wrn, wr9_14, wr9_15, wr9_16, wr9_17, tq9_14, tq9_15, tq9_16, tq9_17, tq_0, tq_1, tq_3, upr_rl, rl_0, rl_1, rl_2, rl_3, rl_4, rl_5, rl_6, rl_7, rl_8, rl_9, rl_10, rl_11, rl_12, rl_13, sp_0, sp_1, sp_2, sp_3, sp_4, sp_5, sp_6, sp_7, sp_8, sp_9, sp_10, sp_11, sp_12, sp_13, se_0, se_1, se_2, se_3, se_4, se_5, se_6, se_7, se_8, se_9, se_10, se_11, se_12, se_13, sem_0, sem_1, sem_2, sem_3, sem_4, sem_5, List.getD_cons_zero, List.getD_cons_succ, Bool.false_eq_true, wrn3, wrn1, cpmS, cpok9, if_true, if_false, ↓reduceIte, wc_188, sr_249_16, sr_249_50, sr_249_43, sr_249_64, sr_249_9, sr_249_54, sr_249_40, sr_249_14, sr_249_68, sr_249_17, sr_249_57, sr_249_10, sr_249_23, sr_249_13, sr_249_63, sr_249_31, sr_249_51, sr_249_24, sr_249_69, sr_249_8, sr_249_30, sr_249_2, sr_249_71, sr_249_22, kl9_249, sr_249_67, sr_249_55, sr_249_41, sr_249_35, sr_249_11, sr_249_12, sr_249_52, sr_249_42, kc_249, sr_249_34, sr_249_70, sr_249_61, sr_249_58, sr_249_15, sr_249_25, kl9_258, kc_258]; (try simp (disch := omega) only [w15_0, w15_1, w15_3, w15_4, w15_5, w15_6, w3_0, w3_1, w3_2]))
    | exact hq
    | omega
    | (with_reducible contradiction)
    | (unfold w32; omega)
    | (simp (disch := omega) only [w32_eq]; omega)
    | (with_reducible show (_ : Int) ≤ _; simp [upm] <;> (first | omega | (unfold w32; omega)))
    | (with_reducible show (_ : Int) < _; simp [upm] <;> (first | omega | (unfold w32; omega))))

theorem p_211 {d : Nat} {e : Int} {m : Mem} {Q : Int → Sto → Prop} {a : Int} (h0 : 0 ≤ m 249 5 ∧ m 249 5 ≤ 5) (hq : ∀ v, (v = 1 ∧ 0 ≤ a ∧ a < m 249 5 ∨ v = 0) → Q v (S9 e m)) : Cl (d + 3) 211 [249, a] Q (S9 e m) := by
  simp only [cl_211, runB, B211, ma_211, rho_20, wf_13_36, wc_201, w_cst, w_ldi, w_ldj, w_lda, w_ljk, w_ldk, w_ldw, w_ldk2, w_ldt, w_ldtw, w_neg, w_cvb, w_cvs, w_cvc, w_cvj, w_add, w_sub, w_mul, w_ban, w_bor, w_bxo, w_shl, w_shr, w_ush, w_dvi, w_rmi, w_aldi, w_aldj, w_aldz, w_aldc, w_alda, w_ite, w_cmp, w_cmj, w_cz, w_cnot, w_cand, w_cor, w_nil, w_cons, w_cvi, w_csta, w_cvt, w_cvv, w_csv, w_cpy, w_seq, w_sbr, w_sbn, w_brk, w_ifs, w_ifx, w_ife, w_wk, w_rets, w_rtv, w_thr, w_asi, w_asj, w_asa, w_inc, w_exs, w_asti, w_astj, w_astz, w_astc, w_aopadd, w_aopsub, w_sw, if_true, if_false, ↓reduceIte, hdl_c, S9_1, S9_m, bud9, live9, inb9, wrn, wr9_14, wr9_15, wr9_16, wr9_17, tq9_14, tq9_15, tq9_16, tq9_17, tq_0, tq_1, tq_3, upr_rl, rl_0, rl_1, rl_2, rl_3, rl_4, rl_5, rl_6, rl_7, rl_8, rl_9, rl_10, rl_11, rl_12, rl_13, sp_0, sp_1, sp_2, sp_3, sp_4, sp_5, sp_6, sp_7, sp_8, sp_9, sp_10, sp_11, sp_12, sp_13, se_0, se_1, se_2, se_3, se_4, se_5, se_6, se_7, se_8, se_9, se_10, se_11, se_12, se_13, sem_0, sem_1, sem_2, sem_3, sem_4, sem_5, sr_249_16, sr_249_50, sr_249_43, sr_249_64, sr_249_9, sr_249_54, sr_249_40, sr_249_14, sr_249_68, sr_249_17, sr_249_57, sr_249_10, sr_249_23, sr_249_13, sr_249_63, sr_249_31, sr_249_51, sr_249_24, sr_249_69, sr_249_8, sr_249_30, sr_249_2, sr_249_71, sr_249_22, kl9_249, sr_249_67, sr_249_55, sr_249_41, sr_249_35, sr_249_11, sr_249_12, sr_249_52, sr_249_42, kc_249, sr_249_34, sr_249_70, sr_249_61, sr_249_58, sr_249_15, sr_249_25, kl9_258, kc_258, List.getD_cons_zero, List.getD_cons_succ, Bool.false_eq_true, wrn3, wrn1, cpmS, cpok9]
  repeat' (first
    | (with_reducible exact True.intro)
    | (with_reducible rfl)
    | (with_reducible refine And.intro ?_ ?_)
    | intro _
    | (with_reducible refine p_201 ?_ (fun v9 h9 => ?_); (next => first | omega | (with_reducible rfl) | decide | (unfold w32; omega) | (simp (disch := omega) only [w32_eq]; omega) | (simp [upm] <;> (first | omega | (unfold w32; omega)))); simp only [hdl_c, S9_1, S9_m, bud9, live9, inb9, wrn, wr9_14, wr9_15, wr9_16, wr9_17, tq9_14, tq9_15, tq9_16, tq9_17, tq_0, tq_1, tq_3, upr_rl, rl_0, rl_1, rl_2, rl_3, rl_4, rl_5, rl_6, rl_7, rl_8, rl_9, rl_10, rl_11, rl_12, rl_13, sp_0, sp_1, sp_2, sp_3, sp_4, sp_5, sp_6, sp_7, sp_8, sp_9, sp_10, sp_11, sp_12, sp_13, se_0, se_1, se_2, se_3, se_4, se_5, se_6, se_7, se_8, se_9, se_10, se_11, se_12, se_13, sem_0, sem_1, sem_2, sem_3, sem_4, sem_5, List.getD_cons_zero, List.getD_cons_succ, Bool.false_eq_true, wrn3, wrn1, cpmS, cpok9, if_true, if_false, ↓reduceIte, wc_201, sr_249_16, sr_249_50, sr_249_43, sr_249_64, sr_249_9, sr_249_54, sr_249_40, sr_249_14, sr_249_68, sr_249_17, sr_249_57, sr_249_10, sr_249_23, sr_249_13, sr_249_63, sr_249_31, sr_249_51, sr_249_24, sr_249_69, sr_249_8, sr_249_30, sr_249_2, sr_249_71, sr_249_22, kl9_249, sr_249_67, sr_249_55, sr_249_41, sr_249_35, sr_249_11, sr_249_12, sr_249_52, sr_249_42, kc_249, sr_249_34, sr_249_70, sr_249_61, sr_249_58, sr_249_15, sr_249_25, kl9_258, kc_258])
    | (with_reducible refine hq _ ?_)
    | omega
    | (with_reducible contradiction)
    | (unfold w32; omega)
    | (simp (disch := omega) only [w32_eq]; omega)
    | (with_reducible show (_ : Int) ≤ _; simp [upm] <;> (first | omega | (unfold w32; omega)))
    | (with_reducible show (_ : Int) < _; simp [upm] <;> (first | omega | (unfold w32; omega))))

theorem p_239 {d : Nat} {e : Int} {m : Mem} {Q : Int → Sto → Prop} {a : Int} (h0 : 0 ≤ m 249 6 ∧ m 249 6 ≤ 5) (hq : ∀ v, (v = 1 ∧ 0 ≤ a ∧ a < m 249 6 ∧ 0 ≤ m 258 (20 + 7 * a) ∨ v = 0) → Q v (S9 e m)) : Cl (d + 3) 239 [249, a] Q (S9 e m) := by
  simp only [cl_239, runB, B239, ma_239, rho_20, wc_203, wc_205, w_cst, w_ldi, w_ldj, w_lda, w_ljk, w_ldk, w_ldw, w_ldk2, w_ldt, w_ldtw, w_neg, w_cvb, w_cvs, w_cvc, w_cvj, w_add, w_sub, w_mul, w_ban, w_bor, w_bxo, w_shl, w_shr, w_ush, w_dvi, w_rmi, w_aldi, w_aldj, w_aldz, w_aldc, w_alda, w_ite, w_cmp, w_cmj, w_cz, w_cnot, w_cand, w_cor, w_nil, w_cons, w_cvi, w_csta, w_cvt, w_cvv, w_csv, w_cpy, w_seq, w_sbr, w_sbn, w_brk, w_ifs, w_ifx, w_ife, w_wk, w_rets, w_rtv, w_thr, w_asi, w_asj, w_asa, w_inc, w_exs, w_asti, w_astj, w_astz, w_astc, w_aopadd, w_aopsub, w_sw, if_true, if_false, ↓reduceIte, hdl_c, S9_1, S9_m, bud9, live9, inb9, wrn, wr9_14, wr9_15, wr9_16, wr9_17, tq9_14, tq9_15, tq9_16, tq9_17, tq_0, tq_1, tq_3, upr_rl, rl_0, rl_1, rl_2, rl_3, rl_4, rl_5, rl_6, rl_7, rl_8, rl_9, rl_10, rl_11, rl_12, rl_13, sp_0, sp_1, sp_2, sp_3, sp_4, sp_5, sp_6, sp_7, sp_8, sp_9, sp_10, sp_11, sp_12, sp_13, se_0, se_1, se_2, se_3, se_4, se_5, se_6, se_7, se_8, se_9, se_10, se_11, se_12, se_13, sem_0, sem_1, sem_2, sem_3, sem_4, sem_5, sr_249_16, sr_249_50, sr_249_43, sr_249_64, sr_249_9, sr_249_54, sr_249_40, sr_249_14, sr_249_68, sr_249_17, sr_249_57, sr_249_10, sr_249_23, sr_249_13, sr_249_63, sr_249_31, sr_249_51, sr_249_24, sr_249_69, sr_249_8, sr_249_30, sr_249_2, sr_249_71, sr_249_22, kl9_249, sr_249_67, sr_249_55, sr_249_41, sr_249_35, sr_249_11, sr_249_12, sr_249_52, sr_249_42, kc_249, sr_249_34, sr_249_70, sr_249_61, sr_249_58, sr_249_15, sr_249_25, kl9_258, kc_258, List.getD_cons_zero, List.getD_cons_succ, Bool.false_eq_true, wrn3, wrn1, cpmS, cpok9]
  repeat' (first
    | (with_reducible exact True.intro)
    | (with_reducible rfl)
    | (with_reducible refine And.intro ?_ ?_)
    | intro _
    | (with_reducible refine p_203 ?_ ?_; (next => first | omega | (with_reducible rfl) | decide | (unfold w32; omega) | (simp (disch := omega) only [w32_eq]; omega) | (simp [upm] <;> (first | omega | (unfold w32; omega)))); simp only [hdl_c, S9_1, S9_m, bud9, live9, inb9, wrn, wr9_14, wr9_15, wr9_16, wr9_17, tq9_14, tq9_15, tq9_16, tq9_17, tq_0, tq_1, tq_3, upr_rl, rl_0, rl_1, rl_2, rl_3, rl_4, rl_5, rl_6, rl_7, rl_8, rl_9, rl_10, rl_11, rl_12, rl_13, sp_0, sp_1, sp_2, sp_3, sp_4, sp_5, sp_6, sp_7, sp_8, sp_9, sp_10, sp_11, sp_12, sp_13, se_0, se_1, se_2, se_3, se_4, se_5, se_6, se_7, se_8, se_9, se_10, se_11, se_12, se_13, sem_0, sem_1, sem_2, sem_3, sem_4, sem_5, List.getD_cons_zero, List.getD_cons_succ, Bool.false_eq_true, wrn3, wrn1, cpmS, cpok9, if_true, if_false, ↓reduceIte, wc_203, wc_205, sr_249_16, sr_249_50, sr_249_43, sr_249_64, sr_249_9, sr_249_54, sr_249_40, sr_249_14, sr_249_68, sr_249_17, sr_249_57, sr_249_10, sr_249_23, sr_249_13, sr_249_63, sr_249_31, sr_249_51, sr_249_24, sr_249_69, sr_249_8, sr_249_30, sr_249_2, sr_249_71, sr_249_22, kl9_249, sr_249_67, sr_249_55, sr_249_41, sr_249_35, sr_249_11, sr_249_12, sr_249_52, sr_249_42, kc_249, sr_249_34, sr_249_70, sr_249_61, sr_249_58, sr_249_15, sr_249_25, kl9_258, kc_258]; (try simp (disch := omega) only [w15_0, w15_1, w15_3, w15_4, w15_5, w15_6, w3_0, w3_1, w3_2]))
    | (with_reducible refine p_205 ?_ (fun v9 h9 => ?_); (next => first | omega | (with_reducible rfl) | decide | (unfold w32; omega) | (simp (disch := omega) only [w32_eq]; omega) | (simp [upm] <;> (first | omega | (unfold w32; omega)))); simp only [hdl_c, S9_1, S9_m, bud9, live9, inb9, wrn, wr9_14, wr9_15, wr9_16, wr9_17, tq9_14, tq9_15, tq9_16, tq9_17, tq_0, tq_1, tq_3, upr_rl, rl_0, rl_1, rl_2, rl_3, rl_4, rl_5, rl_6, rl_7, rl_8, rl_9, rl_10, rl_11, rl_12, rl_13, sp_0, sp_1, sp_2, sp_3, sp_4, sp_5, sp_6, sp_7, sp_8, sp_9, sp_10, sp_11, sp_12, sp_13, se_0, se_1, se_2, se_3, se_4, se_5, se_6, se_7, se_8, se_9, se_10, se_11, se_12, se_13, sem_0, sem_1, sem_2, sem_3, sem_4, sem_5, List.getD_cons_zero, List.getD_cons_succ, Bool.false_eq_true, wrn3, wrn1, cpmS, cpok9, if_true, if_false, ↓reduceIte, wc_203, wc_205, sr_249_16, sr_249_50, sr_249_43, sr_249_64, sr_249_9, sr_249_54, sr_249_40, sr_249_14, sr_249_68, sr_249_17, sr_249_57, sr_249_10, sr_249_23, sr_249_13, sr_249_63, sr_249_31, sr_249_51, sr_249_24, sr_249_69, sr_249_8, sr_249_30, sr_249_2, sr_249_71, sr_249_22, kl9_249, sr_249_67, sr_249_55, sr_249_41, sr_249_35, sr_249_11, sr_249_12, sr_249_52, sr_249_42, kc_249, sr_249_34, sr_249_70, sr_249_61, sr_249_58, sr_249_15, sr_249_25, kl9_258, kc_258])
    | (with_reducible refine hq _ ?_)
    | omega
    | (with_reducible contradiction)
    | (unfold w32; omega)
    | (simp (disch := omega) only [w32_eq]; omega)
    | (with_reducible show (_ : Int) ≤ _; simp [upm] <;> (first | omega | (unfold w32; omega)))
    | (with_reducible show (_ : Int) < _; simp [upm] <;> (first | omega | (unfold w32; omega))))

theorem p_245 {d : Nat} {e : Int} {m : Mem} {Q : Int → Sto → Prop} {a b c : Int} (h0 : 0 ≤ m 249 6 ∧ m 249 6 ≤ 5) (h1 : 0 ≤ m 249 5 ∧ m 249 5 ≤ 5) (hq : ∀ v, (v = 1 ∧ 0 ≤ a ∧ a < m 249 6 ∧ 0 ≤ b ∧ b < m 249 5 ∧ 1 ≤ c ∧ c ≤ 99 ∨ v = 0) → Q v (S9 e m)) : Cl (d + 4) 245 [249, a, b, c] Q (S9 e m) := by
  simp only [cl_245, runB, B245, ma_245, rho_2000, wc_169, wc_205, wc_211, w_cst, w_ldi, w_ldj, w_lda, w_ljk, w_ldk, w_ldw, w_ldk2, w_ldt, w_ldtw, w_neg, w_cvb, w_cvs, w_cvc, w_cvj, w_add, w_sub, w_mul, w_ban, w_bor, w_bxo, w_shl, w_shr, w_ush, w_dvi, w_rmi, w_aldi, w_aldj, w_aldz, w_aldc, w_alda, w_ite, w_cmp, w_cmj, w_cz, w_cnot, w_cand, w_cor, w_nil, w_cons, w_cvi, w_csta, w_cvt, w_cvv, w_csv, w_cpy, w_seq, w_sbr, w_sbn, w_brk, w_ifs, w_ifx, w_ife, w_wk, w_rets, w_rtv, w_thr, w_asi, w_asj, w_asa, w_inc, w_exs, w_asti, w_astj, w_astz, w_astc, w_aopadd, w_aopsub, w_sw, if_true, if_false, ↓reduceIte, hdl_c, S9_1, S9_m, bud9, live9, inb9, wrn, wr9_14, wr9_15, wr9_16, wr9_17, tq9_14, tq9_15, tq9_16, tq9_17, tq_0, tq_1, tq_3, upr_rl, rl_0, rl_1, rl_2, rl_3, rl_4, rl_5, rl_6, rl_7, rl_8, rl_9, rl_10, rl_11, rl_12, rl_13, sp_0, sp_1, sp_2, sp_3, sp_4, sp_5, sp_6, sp_7, sp_8, sp_9, sp_10, sp_11, sp_12, sp_13, se_0, se_1, se_2, se_3, se_4, se_5, se_6, se_7, se_8, se_9, se_10, se_11, se_12, se_13, sem_0, sem_1, sem_2, sem_3, sem_4, sem_5, sr_249_16, sr_249_50, sr_249_43, sr_249_64, sr_249_9, sr_249_54, sr_249_40, sr_249_14, sr_249_68, sr_249_17, sr_249_57, sr_249_10, sr_249_23, sr_249_13, sr_249_63, sr_249_31, sr_249_51, sr_249_24, sr_249_69, sr_249_8, sr_249_30, sr_249_2, sr_249_71, sr_249_22, kl9_249, sr_249_67, sr_249_55, sr_249_41, sr_249_35, sr_249_11, sr_249_12, sr_249_52, sr_249_42, kc_249, sr_249_34, sr_249_70, sr_249_61, sr_249_58, sr_249_15, sr_249_25, kl9_258, kc_258, List.getD_cons_zero, List.getD_cons_succ, Bool.false_eq_true, wrn3, wrn1, cpmS, cpok9]
  repeat' (first
    | (with_reducible exact True.intro)
    | (with_reducible rfl)
    | (with_reducible refine And.intro ?_ ?_)
    | intro _
    | (with_reducible refine p_169 (fun v9 h9 => ?_); simp only [hdl_c, S9_1, S9_m, bud9, live9, inb9, wrn, wr9_14, wr9_15, wr9_16, wr9_17, tq9_14, tq9_15, tq9_16, tq9_17, tq_0, tq_1, tq_3, upr_rl, rl_0, rl_1, rl_2, rl_3, rl_4, rl_5, rl_6, rl_7, rl_8, rl_9, rl_10, rl_11, rl_12, rl_13, sp_0, sp_1, sp_2, sp_3, sp_4, sp_5, sp_6, sp_7, sp_8, sp_9, sp_10, sp_11, sp_12, sp_13, se_0, se_1, se_2, se_3, se_4, se_5, se_6, se_7, se_8, se_9, se_10, se_11, se_12, se_13, sem_0, sem_1, sem_2, sem_3, sem_4, sem_5, List.getD_cons_zero, List.getD_cons_succ, Bool.false_eq_true, wrn3, wrn1, cpmS, cpok9, if_true, if_false, ↓reduceIte, wc_169, wc_205, wc_211, sr_249_16, sr_249_50, sr_249_43, sr_249_64, sr_249_9, sr_249_54, sr_249_40, sr_249_14, sr_249_68, sr_249_17, sr_249_57, sr_249_10, sr_249_23, sr_249_13, sr_249_63, sr_249_31, sr_249_51, sr_249_24, sr_249_69, sr_249_8, sr_249_30, sr_249_2, sr_249_71, sr_249_22, kl9_249, sr_249_67, sr_249_55, sr_249_41, sr_249_35, sr_249_11, sr_249_12, sr_249_52, sr_249_42, kc_249, sr_249_34, sr_249_70, sr_249_61, sr_249_58, sr_249_15, sr_249_25, kl9_258, kc_258])
    | (with_reducible refine p_205 ?_ (fun v9 h9 => ?_); (next => first | omega | (with_reducible rfl) | decide | (unfold w32; omega) | (simp (disch := omega) only [w32_eq]; omega) | (simp [upm] <;> (first | omega | (unfold w32; omega)))); simp only [hdl_c, S9_1, S9_m, bud9, live9, inb9, wrn, wr9_14, wr9_15, wr9_16, wr9_17, tq9_14, tq9_15, tq9_16, tq9_17, tq_0, tq_1, tq_3, upr_rl, rl_0, rl_1, rl_2, rl_3, rl_4, rl_5, rl_6, rl_7, rl_8, rl_9, rl_10, rl_11, rl_12, rl_13, sp_0, sp_1, sp_2, sp_3, sp_4, sp_5, sp_6, sp_7, sp_8, sp_9, sp_10, sp_11, sp_12, sp_13, se_0, se_1, se_2, se_3, se_4, se_5, se_6, se_7, se_8, se_9, se_10, se_11, se_12, se_13, sem_0, sem_1, sem_2, sem_3, sem_4, sem_5, List.getD_cons_zero, List.getD_cons_succ, Bool.false_eq_true, wrn3, wrn1, cpmS, cpok9, if_true, if_false, ↓reduceIte, wc_169, wc_205, wc_211, sr_249_16, sr_249_50, sr_249_43, sr_249_64, sr_249_9, sr_249_54, sr_249_40, sr_249_14, sr_249_68, sr_249_17, sr_249_57, sr_249_10, sr_249_23, sr_249_13, sr_249_63, sr_249_31, sr_249_51, sr_249_24, sr_249_69, sr_249_8, sr_249_30, sr_249_2, sr_249_71, sr_249_22, kl9_249, sr_249_67, sr_249_55, sr_249_41, sr_249_35, sr_249_11, sr_249_12, sr_249_52, sr_249_42, kc_249, sr_249_34, sr_249_70, sr_249_61, sr_249_58, sr_249_15, sr_249_25, kl9_258, kc_258])
    | (with_reducible refine p_211 ?_ (fun v9 h9 => ?_); (next => first | omega | (with_reducible rfl) | decide | (unfold w32; omega) | (simp (disch := omega) only [w32_eq]; omega) | (simp [upm] <;> (first | omega | (unfold w32; omega)))); simp only [hdl_c, S9_1, S9_m, bud9, live9, inb9, wrn, wr9_14, wr9_15, wr9_16, wr9_17, tq9_14, tq9_15, tq9_16, tq9_17, tq_0, tq_1, tq_3, upr_rl, rl_0, rl_1, rl_2, rl_3, rl_4, rl_5, rl_6, rl_7, rl_8, rl_9, rl_10, rl_11, rl_12, rl_13, sp_0, sp_1, sp_2, sp_3, sp_4, sp_5, sp_6, sp_7, sp_8, sp_9, sp_10, sp_11, sp_12, sp_13, se_0, se_1, se_2, se_3, se_4, se_5, se_6, se_7, se_8, se_9, se_10, se_11, se_12, se_13, sem_0, sem_1, sem_2, sem_3, sem_4, sem_5, List.getD_cons_zero, List.getD_cons_succ, Bool.false_eq_true, wrn3, wrn1, cpmS, cpok9, if_true, if_false, ↓reduceIte, wc_169, wc_205, wc_211, sr_249_16, sr_249_50, sr_249_43, sr_249_64, sr_249_9, sr_249_54, sr_249_40, sr_249_14, sr_249_68, sr_249_17, sr_249_57, sr_249_10, sr_249_23, sr_249_13, sr_249_63, sr_249_31, sr_249_51, sr_249_24, sr_249_69, sr_249_8, sr_249_30, sr_249_2, sr_249_71, sr_249_22, kl9_249, sr_249_67, sr_249_55, sr_249_41, sr_249_35, sr_249_11, sr_249_12, sr_249_52, sr_249_42, kc_249, sr_249_34, sr_249_70, sr_249_61, sr_249_58, sr_249_15, sr_249_25, kl9_258, kc_258])
    | (with_reducible refine hq _ ?_)
    | omega
    | (with_reducible contradiction)
    | (unfold w32; omega)
    | (simp (disch := omega) only [w32_eq]; omega)
    | (with_reducible show (_ : Int) ≤ _; simp [upm] <;> (first | omega | (unfold w32; omega)))
    | (with_reducible show (_ : Int) < _; simp [upm] <;> (first | omega | (unfold w32; omega))))

theorem sLen_le : ∀ n : Nat, n < 8 → sLen.getD n 0 ≤ 1000 := by decide +kernel
end
section
/-! small rows that many parts need -/
theorem JW_len {l : Nat} {g : Fg} {tc pl W : Int} {N : Int → Int} {m : Mem} {v : Int} (h : JW l g tc pl N W m) (h0 : 0 ≤ v) (h1 : v ≤ 80) : JW l g v pl N W (upm m 249 18 v) := by
  refine ⟨JR_len h.1 h0 h1, ?_, ?_⟩
  · rw [upm_58 (by decide)]; exact h.2.1
  · have e3 : upm m 249 18 v 249 53 = m 249 53 := by simp [upm_app]
    rw [e3]; exact h.2.2
theorem JW_len0 {l : Nat} {g : Fg} {tc pl W : Int} {N : Int → Int} {m : Mem} (h : JW l g tc pl N W m) : JW l g 0 pl N W (upm m 249 18 0) := JW_len h (by decide) (by decide)
theorem upm_v (m : Mem) (a j v : Int) : upm m a j v a j = v := by simp [upm_app]
theorem upm_k {m : Mem} {a j v y : Int} (h : y ≠ j) : upm m a j v a y = m a y := by rw [upm_app, if_neg (fun q => h q.2)]
theorem stx_c {v : Int} (h : -8 ≤ v ∧ v ≤ -1) : stx v := h
end
section
/-! the readers of the reference -/
theorem dig {v t : Int} (h0 : 0 ≤ v) (h1 : v ≤ 99) (h2 : 48 ≤ t) (h3 : t ≤ 57) : w32 (w32 (w32 (10 * v) + t) - 48) = 10 * v + t - 48 := by
  rw [w32_eq (v := 10 * v) (by omega) (by omega), w32_eq (v := 10 * v + t) (by omega) (by omega), w32_eq (by omega) (by omega)]
theorem p_184b {d : Nat} {e : Int} {m : Mem} {Q : Int → Sto → Prop} (h0 : 0 ≤ m 249 19) (h1 : m 249 20 ≤ 80) (hq : ∀ v, (v = 1 ∧ m 249 19 < m 249 20 ∧ 48 ≤ m 260 (m 249 19) ∧ m 260 (m 249 19) ≤ 57 ∨ v = 0 ∧ ¬ (m 249 19 < m 249 20 ∧ 48 ≤ m 260 (m 249 19) ∧ m 260 (m 249 19) ≤ 57)) → Q v (S9 e m)) : Cl (d + 2) 184 [249] Q (S9 e m) := by
  simp only [cl_184, runB, B184, ma_184, rho_2, wf_13_163, wf_13_175, wf_13_42, wc_169, w_cst, w_ldi, w_ldj, w_lda, w_ljk, w_ldk, w_ldw, w_ldk2, w_ldt, w_ldtw, w_neg, w_cvb, w_cvs, w_cvc, w_cvj, w_add, w_sub, w_mul, w_ban, w_bor, w_bxo, w_shl, w_shr, w_ush, w_dvi, w_rmi, w_aldi, w_aldj, w_aldz, w_aldc, w_alda, w_ite, w_cmp, w_cmj, w_cz, w_cnot, w_cand, w_cor, w_nil, w_cons, w_cvi, w_csta, w_cvt, w_cvv, w_csv, w_cpy, w_seq, w_sbr, w_sbn, w_brk, w_ifs, w_ifx, w_ife, w_wk, w_rets, w_rtv, w_thr, w_asi, w_asj, w_asa, w_inc, w_exs, w_asti, w_astj, w_astz, w_astc, w_aopadd, w_aopsub, w_sw, if_true, if_false, ↓reduceIte, hdl_c, S9_1, S9_m, bud9, live9, inb9, wrn, wr9_14, wr9_15, wr9_16, wr9_17, tq9_14, tq9_15, tq9_16, tq9_17, tq_0, tq_1, tq_3, upr_rl, rl_0, rl_1, rl_2, rl_3, rl_4, rl_5, rl_6, rl_7, rl_8, rl_9, rl_10, rl_11, rl_12, rl_13, sp_0, sp_1, sp_2, sp_3, sp_4, sp_5, sp_6, sp_7, sp_8, sp_9, sp_10, sp_11, sp_12, sp_13, se_0, se_1, se_2, se_3, se_4, se_5, se_6, se_7, se_8, se_9, se_10, se_11, se_12, se_13, sem_0, sem_1, sem_2, sem_3, sem_4, sem_5, sr_249_52, sr_249_10, sr_249_24, sr_249_16, sr_249_67, sr_249_11, sr_249_57, sr_249_41, kl9_249, sr_249_34, sr_249_68, sr_249_9, sr_249_58, sr_249_51, kc_249, sr_249_64, sr_249_69, sr_249_17, sr_249_35, sr_249_12, sr_249_54, sr_249_13, sr_249_43, sr_249_31, sr_249_23, sr_249_50, sr_249_25, sr_249_42, sr_249_63, sr_249_61, sr_249_40, sr_249_55, sr_249_14, sr_249_30, sr_249_15, sr_249_2, sr_249_70, sr_249_22, sr_249_71, sr_249_8, kc_260, kl9_260, List.getD_cons_zero, List.getD_cons_succ, Bool.false_eq_true, wrn3, wrn1, cpmS, cpok9]
  repeat' (first
    | (with_reducible exact True.intro)
    | (with_reducible rfl)
    | (with_reducible refine And.intro ?_ ?_)
    | intro _
    | (with_reducible refine p_169 (fun v9 h9 => ?_); simp only [hdl_c, S9_1, S9_m, bud9, live9, inb9, wrn, wr9_14, wr9_15, wr9_16, wr9_17, tq9_14, tq9_15, tq9_16, tq9_17, tq_0, tq_1, tq_3, upr_rl, rl_0, rl_1, rl_2, rl_3, rl_4, rl_5, rl_6, rl_7, rl_8, rl_9, rl_10, rl_11, rl_12, rl_13, sp_0, sp_1, sp_2, sp_3, sp_4, sp_5, sp_6, sp_7, sp_8, sp_9, sp_10, sp_11, sp_12, sp_13, se_0, se_1, se_2, se_3, se_4, se_5, se_6, se_7, se_8, se_9, se_10, se_11, se_12, se_13, sem_0, sem_1, sem_2, sem_3, sem_4, sem_5, List.getD_cons_zero, List.getD_cons_succ, Bool.false_eq_true, wrn3, wrn1, cpmS, cpok9, if_true, if_false, ↓reduceIte, wc_169, sr_249_52, sr_249_10, sr_249_24, sr_249_16, sr_249_67, sr_249_11, sr_249_57, sr_249_41, kl9_249, sr_249_34, sr_249_68, sr_249_9, sr_249_58, sr_249_51, kc_249, sr_249_64, sr_249_69, sr_249_17, sr_249_35, sr_249_12, sr_249_54, sr_249_13, sr_249_43, sr_249_31, sr_249_23, sr_249_50, sr_249_25, sr_249_42, sr_249_63, sr_249_61, sr_249_40, sr_249_55, sr_249_14, sr_249_30, sr_249_15, sr_249_2, sr_249_70, sr_249_22, sr_249_71, sr_249_8, kc_260, kl9_260]; (try simp (disch := omega) only [w15_0, w15_1, w15_3, w15_4, w15_5, w15_6, w3_0, w3_1, w3_2, upm_app, Int.reduceEq, and_self, and_true, true_and, and_false, false_and, if_true, if_false, ↓reduceIte]))
    | (with_reducible refine hq _ ?_)
    | omega
    | (with_reducible contradiction)
    | (unfold w32; omega)
    | (simp (disch := omega) only [w32_eq]; omega)
    | (with_reducible show (_ : Int) ≤ _; simp [upm] <;> (first | omega | (unfold w32; omega)))
    | (with_reducible show (_ : Int) < _; simp [upm] <;> (first | omega | (unfold w32; omega))))
end
section
/-! THE KITCHEN is read by the reference -/
abbrev WY (P a b c : Int) : Prop := 0 ≤ a ∧ a < P ∧ 0 ≤ b ∧ b < P ∧ 1 ≤ c ∧ c ≤ 9
abbrev PY (P a : Int) : Prop := 0 ≤ a ∧ a < P
def KRc (m : Mem) : Prop := m 249 20 ≤ 76 ∧ 0 ≤ m 249 26 ∧ m 249 3 + m 249 26 ≤ 10 ∧ 0 ≤ m 249 27 ∧ m 249 4 + m 249 27 ≤ 14 ∧ 0 ≤ m 249 28 ∧ m 249 5 + m 249 28 ≤ 5 ∧ 0 ≤ m 249 29 ∧ m 249 6 + m 249 29 ≤ 5
def KRf (P a b c : Int) (m : Mem) : Prop := (∀ k, 0 ≤ k → k < a → WY P (m 262 (4 * k)) (m 262 (4 * k + 1)) (m 262 (4 * k + 2))) ∧
  (∀ k, 0 ≤ k → k < b → PY P (m 263 (3 * k + 2))) ∧ (∀ k, 0 ≤ k → k < c → PY P (m 264 (2 * k + 1)))
def KR (m : Mem) : Prop := KRc m ∧ KRf (m 249 3 + m 249 26) (m 249 27) (m 249 28) (m 249 29) m
abbrev nKR (m : Mem) (a j : Int) : Prop := (a = 249 → j ≠ 3 ∧ j ≠ 4 ∧ j ≠ 5 ∧ j ≠ 6 ∧ j ≠ 20 ∧ j ≠ 26 ∧ j ≠ 27 ∧ j ≠ 28 ∧ j ≠ 29) ∧ (a = 262 → 4 * m 249 27 ≤ j) ∧ (a = 263 → 3 * m 249 28 ≤ j) ∧ (a = 264 → 2 * m 249 29 ≤ j)
theorem upn {m : Mem} {a j v b y : Int} (h : b = a → y ≠ j) : upm m a j v b y = m b y := by
  unfold upm; rw [if_neg]; rintro ⟨h1, h2⟩; exact h h1 h2
theorem KRf_up {P x y z : Int} {m : Mem} {a j v : Int} (h : KRf P x y z m) (h2 : a = 262 → 4 * x ≤ j) (h3 : a = 263 → 3 * y ≤ j) (h4 : a = 264 → 2 * z ≤ j) : KRf P x y z (upm m a j v) := by
  refine ⟨fun k q0 q1 => ?_, fun k q0 q1 => ?_, fun k q0 q1 => ?_⟩
  · have := h.1 k q0 q1
    rw [upn (fun e => by have := h2 e.symm; omega), upn (fun e => by have := h2 e.symm; omega), upn (fun e => by have := h2 e.symm; omega)]
    exact this
  · have := h.2.1 k q0 q1
    rw [upn (fun e => by have := h3 e.symm; omega)]
    exact this
  · have := h.2.2 k q0 q1
    rw [upn (fun e => by have := h4 e.symm; omega)]
    exact this
theorem KR_up {m : Mem} {a j v : Int} (h : KR m) (hn : nKR m a j) : KR (upm m a j v) := by
  obtain ⟨n1, n2, n3, n4⟩ := hn
  have e3 : upm m a j v 249 3 = m 249 3 := upn (fun q => by have := n1 q.symm; omega)
  have e4 : upm m a j v 249 4 = m 249 4 := upn (fun q => by have := n1 q.symm; omega)
  have e5 : upm m a j v 249 5 = m 249 5 := upn (fun q => by have := n1 q.symm; omega)
  have e6 : upm m a j v 249 6 = m 249 6 := upn (fun q => by have := n1 q.symm; omega)
  have e20 : upm m a j v 249 20 = m 249 20 := upn (fun q => by have := n1 q.symm; omega)
  have e26 : upm m a j v 249 26 = m 249 26 := upn (fun q => by have := n1 q.symm; omega)
  have e27 : upm m a j v 249 27 = m 249 27 := upn (fun q => by have := n1 q.symm; omega)
  have e28 : upm m a j v 249 28 = m 249 28 := upn (fun q => by have := n1 q.symm; omega)
  have e29 : upm m a j v 249 29 = m 249 29 := upn (fun q => by have := n1 q.symm; omega)
  unfold KR KRc
  rw [e3, e4, e5, e6, e20, e26, e27, e28, e29]
  exact ⟨h.1, KRf_up h.2 n2 n3 n4⟩
theorem KR_26 {m : Mem} {n : Int} (h : KR m) (e : n = m 249 26 + 1) (hl : m 249 3 + m 249 26 < 10) : KR (upm m 249 26 n) := by
  subst e
  obtain ⟨⟨c1, c2, c3, c4, c5, c6, c7, c8, c9⟩, f1, f2, f3⟩ := h
  unfold KR KRc KRf
  simp only [upm_app, Int.reduceEq, and_self, and_true, true_and, and_false, false_and, if_true, if_false, ↓reduceIte]
  refine ⟨⟨c1, by omega, by omega, c4, c5, c6, c7, c8, c9⟩, fun k q0 q1 => ?_, fun k q0 q1 => ?_, fun k q0 q1 => ?_⟩
  · have := f1 k q0 q1; omega
  · have := f2 k q0 q1; omega
  · have := f3 k q0 q1; omega
theorem KR_27 {m : Mem} {n : Int} (h : KR m) (e : n = m 249 27 + 1) (hl : m 249 4 + m 249 27 < 14) (hw : WY (m 249 3 + m 249 26) (m 262 (4 * m 249 27)) (m 262 (4 * m 249 27 + 1)) (m 262 (4 * m 249 27 + 2))) : KR (upm m 249 27 n) := by
  subst e
  obtain ⟨⟨c1, c2, c3, c4, c5, c6, c7, c8, c9⟩, f1, f2, f3⟩ := h
  unfold KR KRc KRf
  simp only [upm_app, Int.reduceEq, and_self, and_true, true_and, and_false, false_and, if_true, if_false, ↓reduceIte]
  refine ⟨⟨c1, c2, c3, by omega, by omega, c6, c7, c8, c9⟩, fun k q0 q1 => ?_, f2, f3⟩
  by_cases hk : k = m 249 27
  · rw [hk]; exact hw
  · exact f1 k q0 (by omega)
theorem KR_28 {m : Mem} {n : Int} (h : KR m) (e : n = m 249 28 + 1) (hl : m 249 5 + m 249 28 < 5) (hw : PY (m 249 3 + m 249 26) (m 263 (3 * m 249 28 + 2))) : KR (upm m 249 28 n) := by
  subst e
  obtain ⟨⟨c1, c2, c3, c4, c5, c6, c7, c8, c9⟩, f1, f2, f3⟩ := h
  unfold KR KRc KRf
  simp only [upm_app, Int.reduceEq, and_self, and_true, true_and, and_false, false_and, if_true, if_false, ↓reduceIte]
  refine ⟨⟨c1, c2, c3, c4, c5, by omega, by omega, c8, c9⟩, f1, fun k q0 q1 => ?_, f3⟩
  by_cases hk : k = m 249 28
  · rw [hk]; exact hw
  · exact f2 k q0 (by omega)
theorem KR_29 {m : Mem} {n : Int} (h : KR m) (e : n = m 249 29 + 1) (hl : m 249 6 + m 249 29 < 5) (hw : PY (m 249 3 + m 249 26) (m 264 (2 * m 249 29 + 1))) : KR (upm m 249 29 n) := by
  subst e
  obtain ⟨⟨c1, c2, c3, c4, c5, c6, c7, c8, c9⟩, f1, f2, f3⟩ := h
  unfold KR KRc KRf
  simp only [upm_app, Int.reduceEq, and_self, and_true, true_and, and_false, false_and, if_true, if_false, ↓reduceIte]
  refine ⟨⟨c1, c2, c3, c4, c5, c6, c7, by omega, by omega⟩, f1, f2, fun k q0 q1 => ?_⟩
  by_cases hk : k = m 249 29
  · rw [hk]; exact hw
  · exact f3 k q0 (by omega)
abbrev RP (m m' : Mem) (v : Int) : Prop := (0 ≤ m' 249 19 ∧ m' 249 19 ≤ 80 ∧ m' 249 20 = m 249 20) ∧ (v = 0 ∨ v = 1 ∧ KR m' ∧ m 249 19 ≤ m' 249 19 ∧ m' 249 19 ≤ m' 249 20)
theorem l_fbt : ((sLen.getD (-1 - (-1 - ((1 : Nat) : Int)) : Int).toNat 0 : Nat) : Int) = 3 := by decide
theorem l_dig : ((sLen.getD (-1 - (-1 - ((2 : Nat) : Int)) : Int).toNat 0 : Nat) : Int) = 9 := by decide
theorem l_all : ((sLen.getD (-1 - (-1 - ((0 : Nat) : Int)) : Int).toNat 0 : Nat) : Int) = 6 := by decide
end
section
/-! THE KITCHEN's call of the reference -/
theorem BdR_mono {tc pl pl' a j v : Int} (h : BdR tc pl a j v) (hp : pl ≤ pl') : BdR tc pl' a j v := by
  have hR : ∀ {x y : Int}, RBd pl x y → RBd pl' x y := by
    intro x y q
    refine ⟨fun a1 a2 => ?_, fun a1 a2 a3 => ?_, q.2.2.1, q.2.2.2⟩
    · have := q.1 a1 a2; omega
    · have := q.2.1 a1 a2 a3; omega
  unfold BdR at h ⊢
  by_cases q : a = 249
  · rw [if_pos q] at h ⊢
    exact ⟨h.1, h.2.1, fun e => by have := h.2.2.1 e; omega, h.2.2.2⟩
  rw [if_neg q] at h ⊢
  by_cases q : a = 252
  · rw [if_pos q] at h ⊢; omega
  rw [if_neg q] at h ⊢
  by_cases q : a = 253
  · rw [if_pos q] at h ⊢; omega
  rw [if_neg q] at h ⊢
  by_cases q : a = 254
  · rw [if_pos q] at h ⊢; exact h
  rw [if_neg q] at h ⊢
  by_cases q : a = 258
  · rw [if_pos q] at h ⊢; exact hR h
  rw [if_neg q] at h ⊢
  by_cases q : a = 259
  · rw [if_pos q] at h ⊢; exact hR h
  rw [if_neg q] at h ⊢
  by_cases q : a = 269
  · rw [if_pos q] at h ⊢; exact hR h
  rw [if_neg q] at h ⊢
  by_cases q : a = 287
  · rw [if_pos q] at h ⊢; exact hR h
  rw [if_neg q] at h ⊢
  exact h
theorem JB_mono {l : Nat} {g : Fg} {tc pl pl' : Int} {m : Mem} (h : JB l g tc pl m) (hp : pl ≤ pl') (hp2 : pl' ≤ 10) : JB l g tc pl' m := ⟨h.1, ⟨by have := h.2.1; omega, hp2⟩, h.2.2.1, fun a j => BdR_mono (h.2.2.2 a j) hp⟩
def KC (g : Fg) (pl a b c f P : Int) (m : Mem) : Prop := JB 1 g 0 pl m ∧ (∀ w, 0 ≤ w → w < m 249 4 → 1 ≤ m 254 w) ∧ COK (m 265) (m 249 32) ∧ (m 249 26 = a ∧ m 249 27 = b ∧ m 249 28 = c ∧ m 249 29 = f) ∧ KRf P b c f m
abbrev nKC (a j : Int) : Prop := a ≠ 254 ∧ a ≠ 262 ∧ a ≠ 263 ∧ a ≠ 264 ∧ a ≠ 265 ∧ (a = 249 → j ≠ 4 ∧ j ≠ 26 ∧ j ≠ 27 ∧ j ≠ 28 ∧ j ≠ 29 ∧ j ≠ 32)
theorem KC_up {g : Fg} {pl x y z t P : Int} {m : Mem} {a j v : Int} (h : KC g pl x y z t P m) (ha : ¬ frR 1 a j) (hn : nKC a j) (hv : BdR 0 pl a j v) : KC g pl x y z t P (upm m a j v) := by
  obtain ⟨hB, hw, hC, hc, hf⟩ := h
  obtain ⟨n1, n2, n3, n4, n5, n6⟩ := hn
  have e4 : upm m a j v 249 4 = m 249 4 := upn (fun q => by have := n6 q.symm; omega)
  have e26 : upm m a j v 249 26 = m 249 26 := upn (fun q => by have := n6 q.symm; omega)
  have e27 : upm m a j v 249 27 = m 249 27 := upn (fun q => by have := n6 q.symm; omega)
  have e28 : upm m a j v 249 28 = m 249 28 := upn (fun q => by have := n6 q.symm; omega)
  have e29 : upm m a j v 249 29 = m 249 29 := upn (fun q => by have := n6 q.symm; omega)
  have e32 : upm m a j v 249 32 = m 249 32 := upn (fun q => by have := n6 q.symm; omega)
  have e54 : upm m a j v 254 = m 254 := by funext y; exact upm_a _ _ _ _ _ _ (fun q => n1 q.symm)
  have e65 : upm m a j v 265 = m 265 := by funext y; exact upm_a _ _ _ _ _ _ (fun q => n5 q.symm)
  unfold KC
  rw [e4, e26, e27, e28, e29, e32, e54, e65]
  exact ⟨JB_up hB ha hv, hw, hC, hc, KRf_up hf (fun q => absurd q n2) (fun q => absurd q n3) (fun q => absurd q n4)⟩
theorem KC_254 {g : Fg} {pl x y z t P : Int} {m : Mem} {j v : Int} (h : KC g pl x y z t P m) (hj : m 249 4 ≤ j) (hv : 0 ≤ v ∧ v ≤ 9) : KC g pl x y z t P (upm m 254 j v) := by
  obtain ⟨hB, hw, hC, hc, hf⟩ := h
  have e9 : ∀ y, upm m 254 j v 249 y = m 249 y := fun y => upm_a _ _ _ _ _ _ (by decide)
  have e65 : upm m 254 j v 265 = m 265 := by funext y; exact upm_a _ _ _ _ _ _ (by decide)
  refine ⟨JB_up hB (by unfold frR; omega) (by simp [BdR]; exact hv), ?_, ?_, ?_, KRf_up hf (fun q => absurd q (by decide)) (fun q => absurd q (by decide)) (fun q => absurd q (by decide))⟩
  · intro w q0 q1
    rw [e9] at q1
    rw [upm_k (by omega)]
    exact hw w q0 q1
  · rw [e9, e65]; exact hC
  · rw [e9, e9, e9, e9]; exact hc
theorem KC_4 {g : Fg} {pl x y z t P : Int} {m : Mem} {v : Int} (h : KC g pl x y z t P m) (hv : v = m 249 4 + 1) (hl : 0 ≤ v ∧ v ≤ 14) (h1 : 1 ≤ m 254 (m 249 4)) : KC g pl x y z t P (upm m 249 4 v) := by
  obtain ⟨hB, hw, hC, hc, hf⟩ := h
  have e9 : ∀ y, y ≠ 4 → upm m 249 4 v 249 y = m 249 y := fun y hy => upm_k hy
  have e65 : upm m 249 4 v 265 = m 265 := by funext y; exact upm_a _ _ _ _ _ _ (by decide)
  have e54 : upm m 249 4 v 254 = m 254 := by funext y; exact upm_a _ _ _ _ _ _ (by decide)
  refine ⟨JB_up hB (by unfold frR; omega) (by simp [BdR]; exact hl), ?_, ?_, ?_, KRf_up hf (fun q => absurd q (by decide)) (fun q => absurd q (by decide)) (fun q => absurd q (by decide))⟩
  · intro w q0 q1
    rw [upm_v] at q1
    rw [e54]
    by_cases e : w = m 249 4
    · rw [e]; exact h1
    · exact hw w q0 (by omega)
  · rw [e9 32 (by decide), e65]; exact hC
  · rw [e9 26 (by decide), e9 27 (by decide), e9 28 (by decide), e9 29 (by decide)]; exact hc
theorem rb_one {pl p i v : Int} (hp : 0 ≤ p ∧ p ≤ 4) (hi : 0 ≤ i ∧ i ≤ 6) (h0 : i = 0 → 0 ≤ v ∧ v ≤ pl - 1) (h3 : i = 3 → 0 ≤ v ∧ v ≤ 1) (h5 : i = 5 → -1 ≤ v ∧ v ≤ 4) : RBd pl (15 + 7 * p + i) v := by
  rw [rb_i (by omega) (by omega)]
  refine ⟨fun q => absurd q (by omega), fun q0 q1 q2 => h0 (by omega), fun q0 q1 q2 => h3 (by omega), fun q0 q1 q2 => h5 (by omega)⟩
theorem KC_s {g : Fg} {pl x y z t P : Int} {m : Mem} (h : KC g pl x y z t P m) : 1 ≤ pl ∧ pl ≤ 10 ∧ m 249 26 = x ∧ m 249 27 = y ∧ m 249 28 = z ∧ m 249 29 = t := ⟨h.1.2.1.1, h.1.2.1.2, h.2.2.2.1⟩
theorem w1p {q : Int} (h0 : 0 ≤ q ∧ q ≤ 300) : w32 (q + 1) = q + 1 := by unfold w32; omega
theorem KR_00 {m : Mem} (h : m 249 20 ≤ 76 ∧ m 249 26 = 0 ∧ m 249 27 = 0 ∧ m 249 28 = 0 ∧ m 249 29 = 0 ∧ m 249 3 ≤ 10 ∧ m 249 4 ≤ 14 ∧ m 249 5 ≤ 5 ∧ m 249 6 ≤ 5) : KR m := by
  refine ⟨by unfold KRc; omega, fun k h0 h1 => absurd h1 (by omega), fun k h0 h1 => absurd h1 (by omega), fun k h0 h1 => absurd h1 (by omega)⟩
theorem KC_end {g : Fg} {pl A B C F P : Int} {m : Mem} (h : KC g pl A B C F P m) (h3 : m 249 3 = pl ∨ m 249 3 = 0 ∧ pl = 1) : JR 1 g 0 pl m := ⟨h.1, h3, h.2.1, h.2.2.1⟩
theorem KC_beg {g : Fg} {pl W : Int} {N : Int → Int} {m : Mem} (h : JW 1 g 0 pl N W m) (hK : KR m) : ∃ pl', (m 249 3 + m 249 26 = pl' ∨ m 249 3 + m 249 26 = 0 ∧ pl' = 1) ∧ m 249 3 + m 249 26 ≤ pl' ∧ KC g pl' (m 249 26) (m 249 27) (m 249 28) (m 249 29) (m 249 3 + m 249 26) m := by
  have hs := JW_s h
  have h3 := (JW_1 h).2.1
  have hc := hK.1
  unfold KRc at hc
  by_cases e : m 249 3 + m 249 26 = 0
  · exact ⟨1, Or.inr ⟨e, rfl⟩, by omega, JB_mono (JW_1 h).1 (by omega) (by omega), (JW_1 h).2.2.1, (JW_1 h).2.2.2, ⟨rfl, rfl, rfl, rfl⟩, hK.2⟩
  · exact ⟨m 249 3 + m 249 26, Or.inl rfl, Int.le_refl _, JB_mono (JW_1 h).1 (by omega) (by omega), (JW_1 h).2.2.1, (JW_1 h).2.2.2, ⟨rfl, rfl, rfl, rfl⟩, hK.2⟩
end
section
/-! the component's text, to the letter: limit (2,2), more than that (2,3), where one reads (2,4), failed (2,5) -/
abbrev dgt (T : Int → Int) (L p : Int) : Prop := p < L ∧ 48 ≤ T p ∧ T p ≤ 57
abbrev let1 (T : Int → Int) (L P p : Int) : Prop := p < L ∧ 97 ≤ T p ∧ T p < 97 + P
/-- digits read on: their number, and where they end -/
def nv (T : Int → Int) (L : Int) : Nat → Int → Int → Int × Int
  | 0, v, p => (v, p)
  | n + 1, v, p => if dgt T L p then nv T L n (10 * v + T p - 48) (p + 1) else (v, p)
theorem nv_0 {T : Int → Int} {L v p : Int} : nv T L 0 v p = (v, p) := rfl
theorem nv_y {T : Int → Int} {L v p : Int} (n : Nat) (h : dgt T L p) : nv T L (n + 1) v p = nv T L n (10 * v + T p - 48) (p + 1) := by
  show (if dgt T L p then _ else _) = _
  rw [if_pos h]
theorem nv_n {T : Int → Int} {L v p : Int} (n : Nat) (h : ¬ dgt T L p) : nv T L n v p = (v, p) := by
  cases n with
  | zero => rfl
  | succ n => show (if dgt T L p then _ else _) = _; rw [if_neg h]
theorem nv_r {T : Int → Int} {L : Int} : ∀ (n : Nat) (v p : Int), 0 ≤ v → p ≤ (nv T L n v p).2 ∧ (nv T L n v p).2 ≤ p + n ∧ (p ≤ L → (nv T L n v p).2 ≤ L) ∧ 0 ≤ (nv T L n v p).1
  | 0, v, p, h0 => ⟨Int.le_refl _, by show p ≤ p + 0; omega, fun h => h, h0⟩
  | n + 1, v, p, h0 => by
    by_cases h : dgt T L p
    · rw [nv_y n h]
      obtain ⟨a, b, c, d⟩ := nv_r (T := T) (L := L) n (10 * v + T p - 48) (p + 1) (by omega)
      exact ⟨by omega, by omega, fun h9 => c (by omega), d⟩
    · rw [nv_n _ h]
      refine ⟨Int.le_refl _, ?_, fun h => h, h0⟩
      show p ≤ p + _; omega
theorem p_21x {d : Nat} {e : Int} {m : Mem} {Q : Int → Sto → Prop} (h0 : 0 ≤ m 2 4 ∧ m 2 4 ≤ 80) (h1 : m 2 2 ≤ 80) (hq1 : (m 2 5 = 0 ∧ m 2 4 < m 2 2) → Q (m 3 (m 2 4)) (S9 e m)) (hq : ¬ (m 2 5 = 0 ∧ m 2 4 < m 2 2) → Q (-1) (S9 e m)) : Cl (d + 1) 21 [2] Q (S9 e m) := by
  simp only [cl_21, runB, B21, ma_21, rho_2, wf_2_25, wf_2_32, wf_2_35, wf_2_9, w_cst, w_ldi, w_ldj, w_lda, w_ljk, w_ldk, w_ldw, w_ldk2, w_ldt, w_ldtw, w_neg, w_cvb, w_cvs, w_cvc, w_cvj, w_add, w_sub, w_mul, w_ban, w_bor, w_bxo, w_shl, w_shr, w_ush, w_dvi, w_rmi, w_aldi, w_aldj, w_aldz, w_aldc, w_alda, w_ite, w_cmp, w_cmj, w_cz, w_cnot, w_cand, w_cor, w_nil, w_cons, w_cvi, w_csta, w_cvt, w_cvv, w_csv, w_cpy, w_seq, w_sbr, w_sbn, w_brk, w_ifs, w_ifx, w_ife, w_wk, w_rets, w_rtv, w_thr, w_asi, w_asj, w_asa, w_inc, w_exs, w_asti, w_astj, w_astz, w_astc, w_aopadd, w_aopsub, w_sw, if_true, if_false, ↓reduceIte, hdl_c, S9_1, S9_m, bud9, live9, inb9, wrn, wr9_14, wr9_15, wr9_16, wr9_17, tq9_14, tq9_15, tq9_16, tq9_17, tq_0, tq_1, tq_3, upr_rl, rl_0, rl_1, rl_2, rl_3, rl_4, rl_5, rl_6, rl_7, rl_8, rl_9, rl_10, rl_11, rl_12, rl_13, sp_0, sp_1, sp_2, sp_3, sp_4, sp_5, sp_6, sp_7, sp_8, sp_9, sp_10, sp_11, sp_12, sp_13, se_0, se_1, se_2, se_3, se_4, se_5, se_6, se_7, se_8, se_9, se_10, se_11, se_12, se_13, sem_0, sem_1, sem_2, sem_3, sem_4, sem_5, kc_2, kl9_2, sr_2_0, kl9_3, kc_3, List.getD_cons_zero, List.getD_cons_succ, Bool.false_eq_true, wrn3, wrn1, cpmS, cpok9]
  repeat' (first
    | (with_reducible exact True.intro)
    | (with_reducible rfl)
    | (with_reducible refine And.intro ?_ ?_)
    | intro _
    | (with_reducible refine hq1 ?_ <;> (first | omega | (unfold w32; omega) | (unfold w32 at *; omega)))
    | (with_reducible refine hq ?_ <;> (first | omega | (unfold w32; omega) | (unfold w32 at *; omega)))
    | omega
    | (with_reducible contradiction)
    | (unfold w32; omega)
    | (simp (disch := omega) only [w32_eq]; omega)
    | (with_reducible show (_ : Int) ≤ _; simp [upm] <;> (first | omega | (unfold w32; omega)))
    | (with_reducible show (_ : Int) < _; simp [upm] <;> (first | omega | (unfold w32; omega))))

theorem p_31x {d : Nat} {e : Int} {m : Mem} {Q : Int → Sto → Prop} (h0 : 0 ≤ m 2 4 ∧ m 2 4 ≤ 80) (h1 : m 2 2 ≤ 80) (hq1 : ((m 2 5 = 0 ∧ m 2 4 < m 2 2) ∧ 48 ≤ m 3 (m 2 4) ∧ m 3 (m 2 4) ≤ 57) → Q 1 (S9 e m)) (hq : ¬ ((m 2 5 = 0 ∧ m 2 4 < m 2 2) ∧ 48 ≤ m 3 (m 2 4) ∧ m 3 (m 2 4) ≤ 57) → Q 0 (S9 e m)) : Cl (d + 2) 31 [2] Q (S9 e m) := by
  simp only [cl_31, runB, B31, ma_31, rho_2, wc_21, w_cst, w_ldi, w_ldj, w_lda, w_ljk, w_ldk, w_ldw, w_ldk2, w_ldt, w_ldtw, w_neg, w_cvb, w_cvs, w_cvc, w_cvj, w_add, w_sub, w_mul, w_ban, w_bor, w_bxo, w_shl, w_shr, w_ush, w_dvi, w_rmi, w_aldi, w_aldj, w_aldz, w_aldc, w_alda, w_ite, w_cmp, w_cmj, w_cz, w_cnot, w_cand, w_cor, w_nil, w_cons, w_cvi, w_csta, w_cvt, w_cvv, w_csv, w_cpy, w_seq, w_sbr, w_sbn, w_brk, w_ifs, w_ifx, w_ife, w_wk, w_rets, w_rtv, w_thr, w_asi, w_asj, w_asa, w_inc, w_exs, w_asti, w_astj, w_astz, w_astc, w_aopadd, w_aopsub, w_sw, if_true, if_false, ↓reduceIte, hdl_c, S9_1, S9_m, bud9, live9, inb9, wrn, wr9_14, wr9_15, wr9_16, wr9_17, tq9_14, tq9_15, tq9_16, tq9_17, tq_0, tq_1, tq_3, upr_rl, rl_0, rl_1, rl_2, rl_3, rl_4, rl_5, rl_6, rl_7, rl_8, rl_9, rl_10, rl_11, rl_12, rl_13, sp_0, sp_1, sp_2, sp_3, sp_4, sp_5, sp_6, sp_7, sp_8, sp_9, sp_10, sp_11, sp_12, sp_13, se_0, se_1, se_2, se_3, se_4, se_5, se_6, se_7, se_8, se_9, se_10, se_11, se_12, se_13, sem_0, sem_1, sem_2, sem_3, sem_4, sem_5, kc_2, kl9_2, sr_2_0, kl9_3, kc_3, List.getD_cons_zero, List.getD_cons_succ, Bool.false_eq_true, wrn3, wrn1, cpmS, cpok9]
  repeat' (first
    | (with_reducible exact True.intro)
    | (with_reducible rfl)
    | (with_reducible refine And.intro ?_ ?_)
    | intro _
    | ((with_reducible refine p_21x ?_ ?_ (fun h9 => ?_) (fun h9 => ?_)); (next => first | exact hB | (intro j; simp only [upm_app, Int.reduceEq, and_self, and_true, true_and, and_false, false_and, if_true, if_false, ↓reduceIte]; exact hB j) | omega | (with_reducible rfl) | ((try simp only [upm_app, Int.reduceEq, and_self, and_true, true_and, and_false, false_and, if_true, if_false, ↓reduceIte]); first | omega | (refine And.intro ?_ ?_ <;> omega) | (unfold w32; omega))); (next => first | exact hB | (intro j; simp only [upm_app, Int.reduceEq, and_self, and_true, true_and, and_false, false_and, if_true, if_false, ↓reduceIte]; exact hB j) | omega | (with_reducible rfl) | ((try simp only [upm_app, Int.reduceEq, and_self, and_true, true_and, and_false, false_and, if_true, if_false, ↓reduceIte]); first | omega | (refine And.intro ?_ ?_ <;> omega) | (unfold w32; omega))); all_goals ((try subst e9); (try subst f9); ((try simp only [upm_app, Int.reduceEq, and_self, and_true, true_and, and_false, false_and, if_true, if_false, ↓reduceIte] at h9) <;> (simp only [hdl_c, S9_1, S9_m, bud9, live9, inb9, wrn, wr9_14, wr9_15, wr9_16, wr9_17, tq9_14, tq9_15, tq9_16, tq9_17, tq_0, tq_1, tq_3, upr_rl, rl_0, rl_1, rl_2, rl_3, rl_4, rl_5, rl_6, rl_7, rl_8, rl_9, rl_10, rl_11, rl_12, rl_13, sp_0, sp_1, sp_2, sp_3, sp_4, sp_5, sp_6, sp_7, sp_8, sp_9, sp_10, sp_11, sp_12, sp_13, se_0, se_1, se_2, se_3, se_4, se_5, se_6, se_7, se_8, se_9, se_10, se_11, se_12, se_13, sem_0, sem_1, sem_2, sem_3, sem_4, sem_5, List.getD_cons_zero, List.getD_cons_succ, Bool.false_eq_true, wrn3, wrn1, cpmS, cpok9, if_true, if_false, ↓reduceIte, wc_21, kc_2, kl9_2, sr_2_0, kl9_3, kc_3]; (try simp (disch := omega) only [w15_0, w15_1, w15_3, w15_4, w15_5, w15_6, w3_0, w3_1, w3_2, upm_app, Int.reduceEq, and_self, and_true, true_and, and_false, false_and, if_true, if_false, ↓reduceIte])))))
    | (with_reducible refine hq1 ?_ <;> (first | omega | (unfold w32; omega) | (unfold w32 at *; omega)))
    | (with_reducible refine hq ?_ <;> (first | omega | (unfold w32; omega) | (unfold w32 at *; omega)))
    | omega
    | (with_reducible contradiction)
    | (unfold w32; omega)
    | (simp (disch := omega) only [w32_eq]; omega)
    | (with_reducible show (_ : Int) ≤ _; simp [upm] <;> (first | omega | (unfold w32; omega)))
    | (with_reducible show (_ : Int) < _; simp [upm] <;> (first | omega | (unfold w32; omega))))

theorem p_28x {d : Nat} {e : Int} {m : Mem} {Q : Int → Sto → Prop} {a : Int} (h0 : 0 ≤ m 2 4 ∧ m 2 4 ≤ 80) (h1 : m 2 2 ≤ 80) (ha : 0 ≤ a) (hq1 : ∀ x, ((m 2 5 = 0 ∧ m 2 4 < m 2 2) ∧ m 3 (m 2 4) = a) → x = m 2 4 + 1 → Q 1 (S9 e (upm m 2 4 x))) (hq : ¬ ((m 2 5 = 0 ∧ m 2 4 < m 2 2) ∧ m 3 (m 2 4) = a) → Q 0 (S9 e m)) : Cl (d + 2) 28 [2, a] Q (S9 e m) := by
  simp only [cl_28, runB, B28, ma_28, rho_20, wpf_2_32, wpopadd_pf_2_32, wc_21, w_cst, w_ldi, w_ldj, w_lda, w_ljk, w_ldk, w_ldw, w_ldk2, w_ldt, w_ldtw, w_neg, w_cvb, w_cvs, w_cvc, w_cvj, w_add, w_sub, w_mul, w_ban, w_bor, w_bxo, w_shl, w_shr, w_ush, w_dvi, w_rmi, w_aldi, w_aldj, w_aldz, w_aldc, w_alda, w_ite, w_cmp, w_cmj, w_cz, w_cnot, w_cand, w_cor, w_nil, w_cons, w_cvi, w_csta, w_cvt, w_cvv, w_csv, w_cpy, w_seq, w_sbr, w_sbn, w_brk, w_ifs, w_ifx, w_ife, w_wk, w_rets, w_rtv, w_thr, w_asi, w_asj, w_asa, w_inc, w_exs, w_asti, w_astj, w_astz, w_astc, w_aopadd, w_aopsub, w_sw, if_true, if_false, ↓reduceIte, hdl_c, S9_1, S9_m, bud9, live9, inb9, wrn, wr9_14, wr9_15, wr9_16, wr9_17, tq9_14, tq9_15, tq9_16, tq9_17, tq_0, tq_1, tq_3, upr_rl, rl_0, rl_1, rl_2, rl_3, rl_4, rl_5, rl_6, rl_7, rl_8, rl_9, rl_10, rl_11, rl_12, rl_13, sp_0, sp_1, sp_2, sp_3, sp_4, sp_5, sp_6, sp_7, sp_8, sp_9, sp_10, sp_11, sp_12, sp_13, se_0, se_1, se_2, se_3, se_4, se_5, se_6, se_7, se_8, se_9, se_10, se_11, se_12, se_13, sem_0, sem_1, sem_2, sem_3, sem_4, sem_5, kc_2, kl9_2, sr_2_0, kl9_3, kc_3, List.getD_cons_zero, List.getD_cons_succ, Bool.false_eq_true, wrn3, wrn1, cpmS, cpok9]
  repeat' (first
    | (with_reducible exact True.intro)
    | (with_reducible rfl)
    | (with_reducible refine And.intro ?_ ?_)
    | intro _
    | ((with_reducible refine p_21x ?_ ?_ (fun h9 => ?_) (fun h9 => ?_)); (next => first | exact hB | (intro j; simp only [upm_app, Int.reduceEq, and_self, and_true, true_and, and_false, false_and, if_true, if_false, ↓reduceIte]; exact hB j) | omega | (with_reducible rfl) | ((try simp only [upm_app, Int.reduceEq, and_self, and_true, true_and, and_false, false_and, if_true, if_false, ↓reduceIte]); first | omega | (refine And.intro ?_ ?_ <;> omega) | (unfold w32; omega))); (next => first | exact hB | (intro j; simp only [upm_app, Int.reduceEq, and_self, and_true, true_and, and_false, false_and, if_true, if_false, ↓reduceIte]; exact hB j) | omega | (with_reducible rfl) | ((try simp only [upm_app, Int.reduceEq, and_self, and_true, true_and, and_false, false_and, if_true, if_false, ↓reduceIte]); first | omega | (refine And.intro ?_ ?_ <;> omega) | (unfold w32; omega))); all_goals ((try subst e9); (try subst f9); ((try simp only [upm_app, Int.reduceEq, and_self, and_true, true_and, and_false, false_and, if_true, if_false, ↓reduceIte] at h9) <;> (simp only [hdl_c, S9_1, S9_m, bud9, live9, inb9, wrn, wr9_14, wr9_15, wr9_16, wr9_17, tq9_14, tq9_15, tq9_16, tq9_17, tq_0, tq_1, tq_3, upr_rl, rl_0, rl_1, rl_2, rl_3, rl_4, rl_5, rl_6, rl_7, rl_8, rl_9, rl_10, rl_11, rl_12, rl_13, sp_0, sp_1, sp_2, sp_3, sp_4, sp_5, sp_6, sp_7, sp_8, sp_9, sp_10, sp_11, sp_12, sp_13, se_0, se_1, se_2, se_3, se_4, se_5, se_6, se_7, se_8, se_9, se_10, se_11, se_12, se_13, sem_0, sem_1, sem_2, sem_3, sem_4, sem_5, List.getD_cons_zero, List.getD_cons_succ, Bool.false_eq_true, wrn3, wrn1, cpmS, cpok9, if_true, if_false, ↓reduceIte, wc_21, kc_2, kl9_2, sr_2_0, kl9_3, kc_3]; (try simp (disch := omega) only [w15_0, w15_1, w15_3, w15_4, w15_5, w15_6, w3_0, w3_1, w3_2, upm_app, Int.reduceEq, and_self, and_true, true_and, and_false, false_and, if_true, if_false, ↓reduceIte])))))
    | (with_reducible refine hq1 _ ?_ ?_ <;> (first | omega | (unfold w32; omega) | (unfold w32 at *; omega)))
    | (with_reducible refine hq ?_ <;> (first | omega | (unfold w32; omega) | (unfold w32 at *; omega)))
    | omega
    | (with_reducible contradiction)
    | (unfold w32; omega)
    | (simp (disch := omega) only [w32_eq]; omega)
    | (with_reducible show (_ : Int) ≤ _; simp [upm] <;> (first | omega | (unfold w32; omega)))
    | (with_reducible show (_ : Int) < _; simp [upm] <;> (first | omega | (unfold w32; omega))))

theorem p_24x {d : Nat} {e : Int} {m : Mem} {Q : Int → Sto → Prop} (h0 : 0 ≤ m 2 4 ∧ m 2 4 ≤ 80) (h1 : m 2 2 ≤ 80) (hq1 : ∀ v x, m 2 5 = 0 → x = m 2 4 + 1 → Q v (S9 e (upm m 2 4 x))) (hq : ∀ v, m 2 5 ≠ 0 → Q v (S9 e m)) : Cl (d + 1) 24 [2] Q (S9 e m) := by
  simp only [cl_24, runB, B24, ma_24, rho_2, wf_2_35, wpf_2_32, wpopadd_pf_2_32, w_cst, w_ldi, w_ldj, w_lda, w_ljk, w_ldk, w_ldw, w_ldk2, w_ldt, w_ldtw, w_neg, w_cvb, w_cvs, w_cvc, w_cvj, w_add, w_sub, w_mul, w_ban, w_bor, w_bxo, w_shl, w_shr, w_ush, w_dvi, w_rmi, w_aldi, w_aldj, w_aldz, w_aldc, w_alda, w_ite, w_cmp, w_cmj, w_cz, w_cnot, w_cand, w_cor, w_nil, w_cons, w_cvi, w_csta, w_cvt, w_cvv, w_csv, w_cpy, w_seq, w_sbr, w_sbn, w_brk, w_ifs, w_ifx, w_ife, w_wk, w_rets, w_rtv, w_thr, w_asi, w_asj, w_asa, w_inc, w_exs, w_asti, w_astj, w_astz, w_astc, w_aopadd, w_aopsub, w_sw, if_true, if_false, ↓reduceIte, hdl_c, S9_1, S9_m, bud9, live9, inb9, wrn, wr9_14, wr9_15, wr9_16, wr9_17, tq9_14, tq9_15, tq9_16, tq9_17, tq_0, tq_1, tq_3, upr_rl, rl_0, rl_1, rl_2, rl_3, rl_4, rl_5, rl_6, rl_7, rl_8, rl_9, rl_10, rl_11, rl_12, rl_13, sp_0, sp_1, sp_2, sp_3, sp_4, sp_5, sp_6, sp_7, sp_8, sp_9, sp_10, sp_11, sp_12, sp_13, se_0, se_1, se_2, se_3, se_4, se_5, se_6, se_7, se_8, se_9, se_10, se_11, se_12, se_13, sem_0, sem_1, sem_2, sem_3, sem_4, sem_5, kc_2, kl9_2, sr_2_0, kl9_3, kc_3, List.getD_cons_zero, List.getD_cons_succ, Bool.false_eq_true, wrn3, wrn1, cpmS, cpok9]
  repeat' (first
    | (with_reducible exact True.intro)
    | (with_reducible rfl)
    | (with_reducible refine And.intro ?_ ?_)
    | intro _
    | (with_reducible refine hq1 _ _ ?_ ?_ <;> (first | omega | (unfold w32; omega) | (unfold w32 at *; omega)))
    | (with_reducible refine hq _ ?_ <;> (first | omega | (unfold w32; omega) | (unfold w32 at *; omega)))
    | omega
    | (with_reducible contradiction)
    | (unfold w32; omega)
    | (simp (disch := omega) only [w32_eq]; omega)
    | (with_reducible show (_ : Int) ≤ _; simp [upm] <;> (first | omega | (unfold w32; omega)))
    | (with_reducible show (_ : Int) < _; simp [upm] <;> (first | omega | (unfold w32; omega))))

theorem p_27x {d : Nat} {e : Int} {m : Mem} {Q : Int → Sto → Prop} {a : Int} (h0 : 0 ≤ m 2 4 ∧ m 2 4 ≤ 80) (h1 : m 2 2 ≤ 80) (hB : ∀ j, 0 ≤ m 3 j ∧ m 3 j < 256) (ha : a = 0 ∨ a = 1) (hq1 : ∀ v x, ((m 2 5 = 0 ∧ m 2 4 < m 2 2) ∧ 48 + a ≤ m 3 (m 2 4) ∧ m 3 (m 2 4) ≤ 57) → v = m 3 (m 2 4) - 48 → x = m 2 4 + 1 → Q v (S9 e (upm m 2 4 x))) (hq : ¬ ((m 2 5 = 0 ∧ m 2 4 < m 2 2) ∧ 48 + a ≤ m 3 (m 2 4) ∧ m 3 (m 2 4) ≤ 57) → Q a (S9 e (upm m 2 5 1))) : Cl (d + 2) 27 [2, a] Q (S9 e m) := by
  have hb := hB (m 2 4)
  simp only [cl_27, runB, B27, ma_27, rho_20, wpf_2_32, wpopadd_pf_2_32, wpf_2_35, wc_21, w_cst, w_ldi, w_ldj, w_lda, w_ljk, w_ldk, w_ldw, w_ldk2, w_ldt, w_ldtw, w_neg, w_cvb, w_cvs, w_cvc, w_cvj, w_add, w_sub, w_mul, w_ban, w_bor, w_bxo, w_shl, w_shr, w_ush, w_dvi, w_rmi, w_aldi, w_aldj, w_aldz, w_aldc, w_alda, w_ite, w_cmp, w_cmj, w_cz, w_cnot, w_cand, w_cor, w_nil, w_cons, w_cvi, w_csta, w_cvt, w_cvv, w_csv, w_cpy, w_seq, w_sbr, w_sbn, w_brk, w_ifs, w_ifx, w_ife, w_wk, w_rets, w_rtv, w_thr, w_asi, w_asj, w_asa, w_inc, w_exs, w_asti, w_astj, w_astz, w_astc, w_aopadd, w_aopsub, w_sw, if_true, if_false, ↓reduceIte, hdl_c, S9_1, S9_m, bud9, live9, inb9, wrn, wr9_14, wr9_15, wr9_16, wr9_17, tq9_14, tq9_15, tq9_16, tq9_17, tq_0, tq_1, tq_3, upr_rl, rl_0, rl_1, rl_2, rl_3, rl_4, rl_5, rl_6, rl_7, rl_8, rl_9, rl_10, rl_11, rl_12, rl_13, sp_0, sp_1, sp_2, sp_3, sp_4, sp_5, sp_6, sp_7, sp_8, sp_9, sp_10, sp_11, sp_12, sp_13, se_0, se_1, se_2, se_3, se_4, se_5, se_6, se_7, se_8, se_9, se_10, se_11, se_12, se_13, sem_0, sem_1, sem_2, sem_3, sem_4, sem_5, kc_2, kl9_2, sr_2_0, kl9_3, kc_3, List.getD_cons_zero, List.getD_cons_succ, Bool.false_eq_true, wrn3, wrn1, cpmS, cpok9]
  repeat' (first
    | (with_reducible exact True.intro)
    | (with_reducible rfl)
    | (with_reducible refine And.intro ?_ ?_)
    | intro _
    | ((with_reducible refine p_21x ?_ ?_ (fun h9 => ?_) (fun h9 => ?_)); (next => first | exact hB | (intro j; simp only [upm_app, Int.reduceEq, and_self, and_true, true_and, and_false, false_and, if_true, if_false, ↓reduceIte]; exact hB j) | omega | (with_reducible rfl) | ((try simp only [upm_app, Int.reduceEq, and_self, and_true, true_and, and_false, false_and, if_true, if_false, ↓reduceIte]); first | omega | (refine And.intro ?_ ?_ <;> omega) | (unfold w32; omega))); (next => first | exact hB | (intro j; simp only [upm_app, Int.reduceEq, and_self, and_true, true_and, and_false, false_and, if_true, if_false, ↓reduceIte]; exact hB j) | omega | (with_reducible rfl) | ((try simp only [upm_app, Int.reduceEq, and_self, and_true, true_and, and_false, false_and, if_true, if_false, ↓reduceIte]); first | omega | (refine And.intro ?_ ?_ <;> omega) | (unfold w32; omega))); all_goals ((try subst e9); (try subst f9); ((try simp only [upm_app, Int.reduceEq, and_self, and_true, true_and, and_false, false_and, if_true, if_false, ↓reduceIte] at h9) <;> (simp only [hdl_c, S9_1, S9_m, bud9, live9, inb9, wrn, wr9_14, wr9_15, wr9_16, wr9_17, tq9_14, tq9_15, tq9_16, tq9_17, tq_0, tq_1, tq_3, upr_rl, rl_0, rl_1, rl_2, rl_3, rl_4, rl_5, rl_6, rl_7, rl_8, rl_9, rl_10, rl_11, rl_12, rl_13, sp_0, sp_1, sp_2, sp_3, sp_4, sp_5, sp_6, sp_7, sp_8, sp_9, sp_10, sp_11, sp_12, sp_13, se_0, se_1, se_2, se_3, se_4, se_5, se_6, se_7, se_8, se_9, se_10, se_11, se_12, se_13, sem_0, sem_1, sem_2, sem_3, sem_4, sem_5, List.getD_cons_zero, List.getD_cons_succ, Bool.false_eq_true, wrn3, wrn1, cpmS, cpok9, if_true, if_false, ↓reduceIte, wc_21, kc_2, kl9_2, sr_2_0, kl9_3, kc_3]; (try simp (disch := omega) only [w15_0, w15_1, w15_3, w15_4, w15_5, w15_6, w3_0, w3_1, w3_2, upm_app, Int.reduceEq, and_self, and_true, true_and, and_false, false_and, if_true, if_false, ↓reduceIte])))))
    | (with_reducible refine hq1 _ _ ?_ ?_ ?_ <;> (first | omega | (unfold w32; omega) | (unfold w32 at *; omega)))
    | (with_reducible refine hq ?_ <;> (first | omega | (unfold w32; omega) | (unfold w32 at *; omega)))
    | omega
    | (with_reducible contradiction)
    | (unfold w32; omega)
    | (simp (disch := omega) only [w32_eq]; omega)
    | (with_reducible show (_ : Int) ≤ _; simp [upm] <;> (first | omega | (unfold w32; omega)))
    | (with_reducible show (_ : Int) < _; simp [upm] <;> (first | omega | (unfold w32; omega))))

theorem p_26x {d : Nat} {e : Int} {m : Mem} {Q : Int → Sto → Prop} {a b : Int} (h0 : 0 ≤ m 2 4 ∧ m 2 4 ≤ 80) (h1 : m 2 2 ≤ 80) (hB : ∀ j, 0 ≤ m 3 j ∧ m 3 j < 256) (ha : 0 ≤ a ∧ a ≤ 10) (hb9 : -1 ≤ b ∧ b ≤ 300) (hq1 : ∀ v x, ((m 2 5 = 0 ∧ m 2 4 < m 2 2) ∧ 97 ≤ m 3 (m 2 4) ∧ m 3 (m 2 4) < 97 + a ∧ m 3 (m 2 4) - 97 ≠ b) → v = m 3 (m 2 4) - 97 → x = m 2 4 + 1 → Q v (S9 e (upm m 2 4 x))) (hq : ¬ ((m 2 5 = 0 ∧ m 2 4 < m 2 2) ∧ 97 ≤ m 3 (m 2 4) ∧ m 3 (m 2 4) < 97 + a ∧ m 3 (m 2 4) - 97 ≠ b) → Q (-1) (S9 e (upm m 2 5 1))) : Cl (d + 2) 26 [2, a, b] Q (S9 e m) := by
  have hb := hB (m 2 4)
  simp only [cl_26, runB, B26, ma_26, rho_200, wpf_2_32, wpopadd_pf_2_32, wpf_2_35, wc_21, w_cst, w_ldi, w_ldj, w_lda, w_ljk, w_ldk, w_ldw, w_ldk2, w_ldt, w_ldtw, w_neg, w_cvb, w_cvs, w_cvc, w_cvj, w_add, w_sub, w_mul, w_ban, w_bor, w_bxo, w_shl, w_shr, w_ush, w_dvi, w_rmi, w_aldi, w_aldj, w_aldz, w_aldc, w_alda, w_ite, w_cmp, w_cmj, w_cz, w_cnot, w_cand, w_cor, w_nil, w_cons, w_cvi, w_csta, w_cvt, w_cvv, w_csv, w_cpy, w_seq, w_sbr, w_sbn, w_brk, w_ifs, w_ifx, w_ife, w_wk, w_rets, w_rtv, w_thr, w_asi, w_asj, w_asa, w_inc, w_exs, w_asti, w_astj, w_astz, w_astc, w_aopadd, w_aopsub, w_sw, if_true, if_false, ↓reduceIte, hdl_c, S9_1, S9_m, bud9, live9, inb9, wrn, wr9_14, wr9_15, wr9_16, wr9_17, tq9_14, tq9_15, tq9_16, tq9_17, tq_0, tq_1, tq_3, upr_rl, rl_0, rl_1, rl_2, rl_3, rl_4, rl_5, rl_6, rl_7, rl_8, rl_9, rl_10, rl_11, rl_12, rl_13, sp_0, sp_1, sp_2, sp_3, sp_4, sp_5, sp_6, sp_7, sp_8, sp_9, sp_10, sp_11, sp_12, sp_13, se_0, se_1, se_2, se_3, se_4, se_5, se_6, se_7, se_8, se_9, se_10, se_11, se_12, se_13, sem_0, sem_1, sem_2, sem_3, sem_4, sem_5, kc_2, kl9_2, sr_2_0, kl9_3, kc_3, List.getD_cons_zero, List.getD_cons_succ, Bool.false_eq_true, wrn3, wrn1, cpmS, cpok9]
  repeat' (first
    | (with_reducible exact True.intro)
    | (with_reducible rfl)
    | (with_reducible refine And.intro ?_ ?_)
    | intro _
    | ((with_reducible refine p_21x ?_ ?_ (fun h9 => ?_) (fun h9 => ?_)); (next => first | exact hB | (intro j; simp only [upm_app, Int.reduceEq, and_self, and_true, true_and, and_false, false_and, if_true, if_false, ↓reduceIte]; exact hB j) | omega | (with_reducible rfl) | ((try simp only [upm_app, Int.reduceEq, and_self, and_true, true_and, and_false, false_and, if_true, if_false, ↓reduceIte]); first | omega | (refine And.intro ?_ ?_ <;> omega) | (unfold w32; omega))); (next => first | exact hB | (intro j; simp only [upm_app, Int.reduceEq, and_self, and_true, true_and, and_false, false_and, if_true, if_false, ↓reduceIte]; exact hB j) | omega | (with_reducible rfl) | ((try simp only [upm_app, Int.reduceEq, and_self, and_true, true_and, and_false, false_and, if_true, if_false, ↓reduceIte]); first | omega | (refine And.intro ?_ ?_ <;> omega) | (unfold w32; omega))); all_goals ((try subst e9); (try subst f9); ((try simp only [upm_app, Int.reduceEq, and_self, and_true, true_and, and_false, false_and, if_true, if_false, ↓reduceIte] at h9) <;> (simp only [hdl_c, S9_1, S9_m, bud9, live9, inb9, wrn, wr9_14, wr9_15, wr9_16, wr9_17, tq9_14, tq9_15, tq9_16, tq9_17, tq_0, tq_1, tq_3, upr_rl, rl_0, rl_1, rl_2, rl_3, rl_4, rl_5, rl_6, rl_7, rl_8, rl_9, rl_10, rl_11, rl_12, rl_13, sp_0, sp_1, sp_2, sp_3, sp_4, sp_5, sp_6, sp_7, sp_8, sp_9, sp_10, sp_11, sp_12, sp_13, se_0, se_1, se_2, se_3, se_4, se_5, se_6, se_7, se_8, se_9, se_10, se_11, se_12, se_13, sem_0, sem_1, sem_2, sem_3, sem_4, sem_5, List.getD_cons_zero, List.getD_cons_succ, Bool.false_eq_true, wrn3, wrn1, cpmS, cpok9, if_true, if_false, ↓reduceIte, wc_21, kc_2, kl9_2, sr_2_0, kl9_3, kc_3]; (try simp (disch := omega) only [w15_0, w15_1, w15_3, w15_4, w15_5, w15_6, w3_0, w3_1, w3_2, upm_app, Int.reduceEq, and_self, and_true, true_and, and_false, false_and, if_true, if_false, ↓reduceIte])))))
    | (with_reducible refine hq1 _ _ ?_ ?_ ?_ <;> (first | omega | (unfold w32; omega) | (unfold w32 at *; omega)))
    | (with_reducible refine hq ?_ <;> (first | omega | (unfold w32; omega) | (unfold w32 at *; omega)))
    | omega
    | (with_reducible contradiction)
    | (unfold w32; omega)
    | (simp (disch := omega) only [w32_eq]; omega)
    | (with_reducible show (_ : Int) ≤ _; simp [upm] <;> (first | omega | (unfold w32; omega)))
    | (with_reducible show (_ : Int) < _; simp [upm] <;> (first | omega | (unfold w32; omega))))

theorem p_32x {d : Nat} {e : Int} {m : Mem} {Q : Int → Sto → Prop} {a : Int} (h0 : 0 ≤ m 2 4 ∧ m 2 4 ≤ 80) (h1 : m 2 2 ≤ 80) (ha : 0 ≤ a) (hq1 : ∀ v x, ((m 2 5 = 0 ∧ m 2 4 < m 2 2) ∧ m 3 (m 2 4) = a) → x = m 2 4 + 1 → Q v (S9 e (upm m 2 4 x))) (hq : ∀ v, ¬ ((m 2 5 = 0 ∧ m 2 4 < m 2 2) ∧ m 3 (m 2 4) = a) → Q v (S9 e (upm m 2 5 1))) : Cl (d + 3) 32 [2, a] Q (S9 e m) := by
  simp only [cl_32, runB, B32, ma_32, rho_20, wpf_2_35, wc_28, w_cst, w_ldi, w_ldj, w_lda, w_ljk, w_ldk, w_ldw, w_ldk2, w_ldt, w_ldtw, w_neg, w_cvb, w_cvs, w_cvc, w_cvj, w_add, w_sub, w_mul, w_ban, w_bor, w_bxo, w_shl, w_shr, w_ush, w_dvi, w_rmi, w_aldi, w_aldj, w_aldz, w_aldc, w_alda, w_ite, w_cmp, w_cmj, w_cz, w_cnot, w_cand, w_cor, w_nil, w_cons, w_cvi, w_csta, w_cvt, w_cvv, w_csv, w_cpy, w_seq, w_sbr, w_sbn, w_brk, w_ifs, w_ifx, w_ife, w_wk, w_rets, w_rtv, w_thr, w_asi, w_asj, w_asa, w_inc, w_exs, w_asti, w_astj, w_astz, w_astc, w_aopadd, w_aopsub, w_sw, if_true, if_false, ↓reduceIte, hdl_c, S9_1, S9_m, bud9, live9, inb9, wrn, wr9_14, wr9_15, wr9_16, wr9_17, tq9_14, tq9_15, tq9_16, tq9_17, tq_0, tq_1, tq_3, upr_rl, rl_0, rl_1, rl_2, rl_3, rl_4, rl_5, rl_6, rl_7, rl_8, rl_9, rl_10, rl_11, rl_12, rl_13, sp_0, sp_1, sp_2, sp_3, sp_4, sp_5, sp_6, sp_7, sp_8, sp_9, sp_10, sp_11, sp_12, sp_13, se_0, se_1, se_2, se_3, se_4, se_5, se_6, se_7, se_8, se_9, se_10, se_11, se_12, se_13, sem_0, sem_1, sem_2, sem_3, sem_4, sem_5, kc_2, kl9_2, sr_2_0, kl9_3, kc_3, List.getD_cons_zero, List.getD_cons_succ, Bool.false_eq_true, wrn3, wrn1, cpmS, cpok9]
  repeat' (first
    | (with_reducible exact True.intro)
    | (with_reducible rfl)
    | (with_reducible refine And.intro ?_ ?_)
    | intro _
    | ((with_reducible refine p_28x ?_ ?_ ?_ (fun _ h9 e9 => ?_) (fun h9 => ?_)); (next => first | exact hB | (intro j; simp only [upm_app, Int.reduceEq, and_self, and_true, true_and, and_false, false_and, if_true, if_false, ↓reduceIte]; exact hB j) | omega | (with_reducible rfl) | ((try simp only [upm_app, Int.reduceEq, and_self, and_true, true_and, and_false, false_and, if_true, if_false, ↓reduceIte]); first | omega | (refine And.intro ?_ ?_ <;> omega) | (unfold w32; omega))); (next => first | exact hB | (intro j; simp only [upm_app, Int.reduceEq, and_self, and_true, true_and, and_false, false_and, if_true, if_false, ↓reduceIte]; exact hB j) | omega | (with_reducible rfl) | ((try simp only [upm_app, Int.reduceEq, and_self, and_true, true_and, and_false, false_and, if_true, if_false, ↓reduceIte]); first | omega | (refine And.intro ?_ ?_ <;> omega) | (unfold w32; omega))); (next => first | exact hB | (intro j; simp only [upm_app, Int.reduceEq, and_self, and_true, true_and, and_false, false_and, if_true, if_false, ↓reduceIte]; exact hB j) | omega | (with_reducible rfl) | ((try simp only [upm_app, Int.reduceEq, and_self, and_true, true_and, and_false, false_and, if_true, if_false, ↓reduceIte]); first | omega | (refine And.intro ?_ ?_ <;> omega) | (unfold w32; omega))); all_goals ((try subst e9); (try subst f9); ((try simp only [upm_app, Int.reduceEq, and_self, and_true, true_and, and_false, false_and, if_true, if_false, ↓reduceIte] at h9) <;> (simp only [hdl_c, S9_1, S9_m, bud9, live9, inb9, wrn, wr9_14, wr9_15, wr9_16, wr9_17, tq9_14, tq9_15, tq9_16, tq9_17, tq_0, tq_1, tq_3, upr_rl, rl_0, rl_1, rl_2, rl_3, rl_4, rl_5, rl_6, rl_7, rl_8, rl_9, rl_10, rl_11, rl_12, rl_13, sp_0, sp_1, sp_2, sp_3, sp_4, sp_5, sp_6, sp_7, sp_8, sp_9, sp_10, sp_11, sp_12, sp_13, se_0, se_1, se_2, se_3, se_4, se_5, se_6, se_7, se_8, se_9, se_10, se_11, se_12, se_13, sem_0, sem_1, sem_2, sem_3, sem_4, sem_5, List.getD_cons_zero, List.getD_cons_succ, Bool.false_eq_true, wrn3, wrn1, cpmS, cpok9, if_true, if_false, ↓reduceIte, wc_28, kc_2, kl9_2, sr_2_0, kl9_3, kc_3]; (try simp (disch := omega) only [w15_0, w15_1, w15_3, w15_4, w15_5, w15_6, w3_0, w3_1, w3_2, upm_app, Int.reduceEq, and_self, and_true, true_and, and_false, false_and, if_true, if_false, ↓reduceIte])))))
    | (with_reducible refine hq1 _ _ ?_ ?_ <;> (first | omega | (unfold w32; omega) | (unfold w32 at *; omega)))
    | (with_reducible refine hq _ ?_ <;> (first | omega | (unfold w32; omega) | (unfold w32 at *; omega)))
    | omega
    | (with_reducible contradiction)
    | (unfold w32; omega)
    | (simp (disch := omega) only [w32_eq]; omega)
    | (with_reducible show (_ : Int) ≤ _; simp [upm] <;> (first | omega | (unfold w32; omega)))
    | (with_reducible show (_ : Int) < _; simp [upm] <;> (first | omega | (unfold w32; omega))))

theorem p_34x {d : Nat} {e : Int} {m : Mem} {Q : Int → Sto → Prop} {a : Int} (hq1 : ∀ v, m 2 5 = 0 → Q v (S9 e (upm (upm m 2 5 1) 2 4 a))) (hq : ∀ v, m 2 5 ≠ 0 → Q v (S9 e m)) : Cl (d + 1) 34 [2, a] Q (S9 e m) := by
  simp only [cl_34, runB, B34, ma_34, rho_20, wf_2_35, wpf_2_32, wpopadd_pf_2_32, wpf_2_35, w_cst, w_ldi, w_ldj, w_lda, w_ljk, w_ldk, w_ldw, w_ldk2, w_ldt, w_ldtw, w_neg, w_cvb, w_cvs, w_cvc, w_cvj, w_add, w_sub, w_mul, w_ban, w_bor, w_bxo, w_shl, w_shr, w_ush, w_dvi, w_rmi, w_aldi, w_aldj, w_aldz, w_aldc, w_alda, w_ite, w_cmp, w_cmj, w_cz, w_cnot, w_cand, w_cor, w_nil, w_cons, w_cvi, w_csta, w_cvt, w_cvv, w_csv, w_cpy, w_seq, w_sbr, w_sbn, w_brk, w_ifs, w_ifx, w_ife, w_wk, w_rets, w_rtv, w_thr, w_asi, w_asj, w_asa, w_inc, w_exs, w_asti, w_astj, w_astz, w_astc, w_aopadd, w_aopsub, w_sw, if_true, if_false, ↓reduceIte, hdl_c, S9_1, S9_m, bud9, live9, inb9, wrn, wr9_14, wr9_15, wr9_16, wr9_17, tq9_14, tq9_15, tq9_16, tq9_17, tq_0, tq_1, tq_3, upr_rl, rl_0, rl_1, rl_2, rl_3, rl_4, rl_5, rl_6, rl_7, rl_8, rl_9, rl_10, rl_11, rl_12, rl_13, sp_0, sp_1, sp_2, sp_3, sp_4, sp_5, sp_6, sp_7, sp_8, sp_9, sp_10, sp_11, sp_12, sp_13, se_0, se_1, se_2, se_3, se_4, se_5, se_6, se_7, se_8, se_9, se_10, se_11, se_12, se_13, sem_0, sem_1, sem_2, sem_3, sem_4, sem_5, kc_2, kl9_2, sr_2_0, kl9_3, kc_3, List.getD_cons_zero, List.getD_cons_succ, Bool.false_eq_true, wrn3, wrn1, cpmS, cpok9]
  repeat' (first
    | (with_reducible exact True.intro)
    | (with_reducible rfl)
    | (with_reducible refine And.intro ?_ ?_)
    | intro _
    | (with_reducible refine hq1 _ ?_ <;> (first | omega | (unfold w32; omega) | (unfold w32 at *; omega)))
    | (with_reducible refine hq _ ?_ <;> (first | omega | (unfold w32; omega) | (unfold w32 at *; omega)))
    | omega
    | (with_reducible contradiction)
    | (unfold w32; omega)
    | (simp (disch := omega) only [w32_eq]; omega)
    | (with_reducible show (_ : Int) ≤ _; simp [upm] <;> (first | omega | (unfold w32; omega)))
    | (with_reducible show (_ : Int) < _; simp [upm] <;> (first | omega | (unfold w32; omega))))

theorem p_39x {d : Nat} {e : Int} {m : Mem} {Q : Int → Sto → Prop} (h0 : 0 ≤ m 2 4) (h1 : 0 ≤ m 2 2) (hq1 : (m 2 5 = 0 ∧ m 2 2 ≤ m 2 4 ∧ m 2 3 = 0) → Q (-1) (S9 e (upm m 2 1 0))) (hq : ∀ v, ¬ (m 2 5 = 0 ∧ m 2 2 ≤ m 2 4 ∧ m 2 3 = 0) → 0 ≤ v → v = m 2 4 ∨ v = m 2 2 → Q v (S9 e (upm m 2 1 0))) : Cl (d + 1) 39 [2] Q (S9 e m) := by
  simp only [cl_39, runB, B39, ma_39, rho_2, wf_2_25, wf_2_28, wf_2_32, wf_2_35, wpf_2_15, wpopadd_pf_2_15, w_cst, w_ldi, w_ldj, w_lda, w_ljk, w_ldk, w_ldw, w_ldk2, w_ldt, w_ldtw, w_neg, w_cvb, w_cvs, w_cvc, w_cvj, w_add, w_sub, w_mul, w_ban, w_bor, w_bxo, w_shl, w_shr, w_ush, w_dvi, w_rmi, w_aldi, w_aldj, w_aldz, w_aldc, w_alda, w_ite, w_cmp, w_cmj, w_cz, w_cnot, w_cand, w_cor, w_nil, w_cons, w_cvi, w_csta, w_cvt, w_cvv, w_csv, w_cpy, w_seq, w_sbr, w_sbn, w_brk, w_ifs, w_ifx, w_ife, w_wk, w_rets, w_rtv, w_thr, w_asi, w_asj, w_asa, w_inc, w_exs, w_asti, w_astj, w_astz, w_astc, w_aopadd, w_aopsub, w_sw, if_true, if_false, ↓reduceIte, hdl_c, S9_1, S9_m, bud9, live9, inb9, wrn, wr9_14, wr9_15, wr9_16, wr9_17, tq9_14, tq9_15, tq9_16, tq9_17, tq_0, tq_1, tq_3, upr_rl, rl_0, rl_1, rl_2, rl_3, rl_4, rl_5, rl_6, rl_7, rl_8, rl_9, rl_10, rl_11, rl_12, rl_13, sp_0, sp_1, sp_2, sp_3, sp_4, sp_5, sp_6, sp_7, sp_8, sp_9, sp_10, sp_11, sp_12, sp_13, se_0, se_1, se_2, se_3, se_4, se_5, se_6, se_7, se_8, se_9, se_10, se_11, se_12, se_13, sem_0, sem_1, sem_2, sem_3, sem_4, sem_5, kc_2, kl9_2, sr_2_0, kl9_3, kc_3, List.getD_cons_zero, List.getD_cons_succ, Bool.false_eq_true, wrn3, wrn1, cpmS, cpok9, upm_app, Int.reduceEq, and_self, and_true, true_and, and_false, false_and, if_true, if_false, ↓reduceIte]
  repeat' (first
    | (with_reducible exact True.intro)
    | (with_reducible rfl)
    | (with_reducible refine And.intro ?_ ?_)
    | intro _
    | (with_reducible refine hq1 ?_ <;> (first | omega | (unfold w32; omega) | (unfold w32 at *; omega)))
    | (with_reducible refine hq _ ?_ ?_ ?_ <;> (first | omega | (unfold w32; omega) | (unfold w32 at *; omega)))
    | omega
    | (with_reducible contradiction)
    | (unfold w32; omega)
    | (simp (disch := omega) only [w32_eq]; omega)
    | (with_reducible show (_ : Int) ≤ _; simp [upm] <;> (first | omega | (unfold w32; omega)))
    | (with_reducible show (_ : Int) < _; simp [upm] <;> (first | omega | (unfold w32; omega))))

theorem p_18x {d : Nat} {e : Int} {m : Mem} {Q : Int → Sto → Prop} {a : Int} (h0 : 0 ≤ m 2 1 ∧ m 2 1 ≤ 80) (h1 : 0 ≤ a ∧ a ≤ 80) (hq : ∀ v L o, L = min (m 2 1) a → (o = 0 ∧ m 2 1 ≤ a ∨ o = 1 ∧ a < m 2 1) → Q v (S9 e (upm (upm (upm (upm m 2 2 L) 2 3 o) 2 4 0) 2 5 0))) : Cl (d + 2) 18 [2, a] Q (S9 e m) := by
  simp only [cl_18, runB, B18, ma_18, rho_20, wf_2_15, wpf_2_25, wpf_2_28, wpf_2_32, wpopadd_pf_2_32, wpf_2_35, wc_19, cl_19, B19, ma_19, rho_00, w_cst, w_ldi, w_ldj, w_lda, w_ljk, w_ldk, w_ldw, w_ldk2, w_ldt, w_ldtw, w_neg, w_cvb, w_cvs, w_cvc, w_cvj, w_add, w_sub, w_mul, w_ban, w_bor, w_bxo, w_shl, w_shr, w_ush, w_dvi, w_rmi, w_aldi, w_aldj, w_aldz, w_aldc, w_alda, w_ite, w_cmp, w_cmj, w_cz, w_cnot, w_cand, w_cor, w_nil, w_cons, w_cvi, w_csta, w_cvt, w_cvv, w_csv, w_cpy, w_seq, w_sbr, w_sbn, w_brk, w_ifs, w_ifx, w_ife, w_wk, w_rets, w_rtv, w_thr, w_asi, w_asj, w_asa, w_inc, w_exs, w_asti, w_astj, w_astz, w_astc, w_aopadd, w_aopsub, w_sw, if_true, if_false, ↓reduceIte, hdl_c, S9_1, S9_m, bud9, live9, inb9, wrn, wr9_14, wr9_15, wr9_16, wr9_17, tq9_14, tq9_15, tq9_16, tq9_17, tq_0, tq_1, tq_3, upr_rl, rl_0, rl_1, rl_2, rl_3, rl_4, rl_5, rl_6, rl_7, rl_8, rl_9, rl_10, rl_11, rl_12, rl_13, sp_0, sp_1, sp_2, sp_3, sp_4, sp_5, sp_6, sp_7, sp_8, sp_9, sp_10, sp_11, sp_12, sp_13, se_0, se_1, se_2, se_3, se_4, se_5, se_6, se_7, se_8, se_9, se_10, se_11, se_12, se_13, sem_0, sem_1, sem_2, sem_3, sem_4, sem_5, kc_2, kl9_2, sr_2_0, kl9_3, kc_3, List.getD_cons_zero, List.getD_cons_succ, Bool.false_eq_true, wrn3, wrn1, cpmS, cpok9, upm_app, Int.reduceEq, and_self, and_true, true_and, and_false, false_and, if_true, if_false, ↓reduceIte]
  repeat' (first
    | (with_reducible exact True.intro)
    | (with_reducible rfl)
    | (with_reducible refine And.intro ?_ ?_)
    | intro _
    | (with_reducible refine hq _ _ _ ?_ ?_ <;> (first | omega | (unfold w32; omega) | (unfold w32 at *; omega)))
    | omega
    | (with_reducible contradiction)
    | (unfold w32; omega)
    | (simp (disch := omega) only [w32_eq]; omega)
    | (with_reducible show (_ : Int) ≤ _; simp [upm] <;> (first | omega | (unfold w32; omega)))
    | (with_reducible show (_ : Int) < _; simp [upm] <;> (first | omega | (unfold w32; omega))))

theorem p_30x {d : Nat} {e : Int} {m : Mem} {Q : Int → Sto → Prop} {a : Int} (h0 : 0 ≤ m 2 4 ∧ m 2 4 ≤ 80) (h1 : m 2 2 ≤ 80) (hB : ∀ j, 0 ≤ m 3 j ∧ m 3 j < 256) (ha : 1 ≤ a ∧ a ≤ 3) (hf : m 2 5 = 0) (hq1 : ∀ v x, dgt (m 3) (m 2 2) (m 2 4) → v = (nv (m 3) (m 2 2) a.toNat 0 (m 2 4)).1 → x = (nv (m 3) (m 2 2) a.toNat 0 (m 2 4)).2 → Q v (S9 e (upm m 2 4 x))) (hq : ¬ dgt (m 3) (m 2 2) (m 2 4) → Q 0 (S9 e (upm m 2 5 1))) : Cl (d + 3) 30 [2, a] Q (S9 e m) := by
  have hb := hB (m 2 4)
  simp only [cl_30, runB, B30, ma_30, rho_20, wc_27, wc_31, w_cst, w_ldi, w_ldj, w_lda, w_ljk, w_ldk, w_ldw, w_ldk2, w_ldt, w_ldtw, w_neg, w_cvb, w_cvs, w_cvc, w_cvj, w_add, w_sub, w_mul, w_ban, w_bor, w_bxo, w_shl, w_shr, w_ush, w_dvi, w_rmi, w_aldi, w_aldj, w_aldz, w_aldc, w_alda, w_ite, w_cmp, w_cmj, w_cz, w_cnot, w_cand, w_cor, w_nil, w_cons, w_cvi, w_csta, w_cvt, w_cvv, w_csv, w_cpy, w_seq, w_sbr, w_sbn, w_brk, w_ifs, w_ifx, w_ife, w_wk, w_rets, w_rtv, w_thr, w_asi, w_asj, w_asa, w_inc, w_exs, w_asti, w_astj, w_astz, w_astc, w_aopadd, w_aopsub, w_sw, if_true, if_false, ↓reduceIte, hdl_c, S9_1, S9_m, bud9, live9, inb9, wrn, wr9_14, wr9_15, wr9_16, wr9_17, tq9_14, tq9_15, tq9_16, tq9_17, tq_0, tq_1, tq_3, upr_rl, rl_0, rl_1, rl_2, rl_3, rl_4, rl_5, rl_6, rl_7, rl_8, rl_9, rl_10, rl_11, rl_12, rl_13, sp_0, sp_1, sp_2, sp_3, sp_4, sp_5, sp_6, sp_7, sp_8, sp_9, sp_10, sp_11, sp_12, sp_13, se_0, se_1, se_2, se_3, se_4, se_5, se_6, se_7, se_8, se_9, se_10, se_11, se_12, se_13, sem_0, sem_1, sem_2, sem_3, sem_4, sem_5, kc_2, kl9_2, sr_2_0, kl9_3, kc_3, List.getD_cons_zero, List.getD_cons_succ, Bool.false_eq_true, wrn3, wrn1, cpmS, cpok9, upm_app, Int.reduceEq, and_self, and_true, true_and, and_false, false_and, if_true, if_false, ↓reduceIte]
  repeat' (first
    | (with_reducible exact True.intro)
    | (with_reducible rfl)
    | (with_reducible refine And.intro ?_ ?_)
    | intro _
    | ((with_reducible refine p_27x ?_ ?_ ?_ ?_ (fun _ _ h9 e9 f9 => ?_) (fun h9 => ?_)); (next => first | exact hB | (intro j; simp only [upm_app, Int.reduceEq, and_self, and_true, true_and, and_false, false_and, if_true, if_false, ↓reduceIte]; exact hB j) | omega | (with_reducible rfl) | ((try simp only [upm_app, Int.reduceEq, and_self, and_true, true_and, and_false, false_and, if_true, if_false, ↓reduceIte]); first | omega | (refine And.intro ?_ ?_ <;> omega) | (unfold w32; omega))); (next => first | exact hB | (intro j; simp only [upm_app, Int.reduceEq, and_self, and_true, true_and, and_false, false_and, if_true, if_false, ↓reduceIte]; exact hB j) | omega | (with_reducible rfl) | ((try simp only [upm_app, Int.reduceEq, and_self, and_true, true_and, and_false, false_and, if_true, if_false, ↓reduceIte]); first | omega | (refine And.intro ?_ ?_ <;> omega) | (unfold w32; omega))); (next => first | exact hB | (intro j; simp only [upm_app, Int.reduceEq, and_self, and_true, true_and, and_false, false_and, if_true, if_false, ↓reduceIte]; exact hB j) | omega | (with_reducible rfl) | ((try simp only [upm_app, Int.reduceEq, and_self, and_true, true_and, and_false, false_and, if_true, if_false, ↓reduceIte]); first | omega | (refine And.intro ?_ ?_ <;> omega) | (unfold w32; omega))); (next => first | exact hB | (intro j; simp only [upm_app, Int.reduceEq, and_self, and_true, true_and, and_false, false_and, if_true, if_false, ↓reduceIte]; exact hB j) | omega | (with_reducible rfl) | ((try simp only [upm_app, Int.reduceEq, and_self, and_true, true_and, and_false, false_and, if_true, if_false, ↓reduceIte]); first | omega | (refine And.intro ?_ ?_ <;> omega) | (unfold w32; omega))); all_goals ((try subst e9); (try subst f9); ((try simp only [upm_app, Int.reduceEq, and_self, and_true, true_and, and_false, false_and, if_true, if_false, ↓reduceIte] at h9) <;> (simp only [hdl_c, S9_1, S9_m, bud9, live9, inb9, wrn, wr9_14, wr9_15, wr9_16, wr9_17, tq9_14, tq9_15, tq9_16, tq9_17, tq_0, tq_1, tq_3, upr_rl, rl_0, rl_1, rl_2, rl_3, rl_4, rl_5, rl_6, rl_7, rl_8, rl_9, rl_10, rl_11, rl_12, rl_13, sp_0, sp_1, sp_2, sp_3, sp_4, sp_5, sp_6, sp_7, sp_8, sp_9, sp_10, sp_11, sp_12, sp_13, se_0, se_1, se_2, se_3, se_4, se_5, se_6, se_7, se_8, se_9, se_10, se_11, se_12, se_13, sem_0, sem_1, sem_2, sem_3, sem_4, sem_5, List.getD_cons_zero, List.getD_cons_succ, Bool.false_eq_true, wrn3, wrn1, cpmS, cpok9, if_true, if_false, ↓reduceIte, wc_27, wc_31, kc_2, kl9_2, sr_2_0, kl9_3, kc_3, upm_app, Int.reduceEq, and_self, and_true, true_and, and_false, false_and, if_true, if_false, ↓reduceIte]; (try simp (disch := omega) only [w15_0, w15_1, w15_3, w15_4, w15_5, w15_6, w3_0, w3_1, w3_2, upm_app, Int.reduceEq, and_self, and_true, true_and, and_false, false_and, if_true, if_false, ↓reduceIte])))))
    | ((with_reducible refine p_31x ?_ ?_ (fun h9 => ?_) (fun h9 => ?_)); (next => first | exact hB | (intro j; simp only [upm_app, Int.reduceEq, and_self, and_true, true_and, and_false, false_and, if_true, if_false, ↓reduceIte]; exact hB j) | omega | (with_reducible rfl) | ((try simp only [upm_app, Int.reduceEq, and_self, and_true, true_and, and_false, false_and, if_true, if_false, ↓reduceIte]); first | omega | (refine And.intro ?_ ?_ <;> omega) | (unfold w32; omega))); (next => first | exact hB | (intro j; simp only [upm_app, Int.reduceEq, and_self, and_true, true_and, and_false, false_and, if_true, if_false, ↓reduceIte]; exact hB j) | omega | (with_reducible rfl) | ((try simp only [upm_app, Int.reduceEq, and_self, and_true, true_and, and_false, false_and, if_true, if_false, ↓reduceIte]); first | omega | (refine And.intro ?_ ?_ <;> omega) | (unfold w32; omega))); all_goals ((try subst e9); (try subst f9); ((try simp only [upm_app, Int.reduceEq, and_self, and_true, true_and, and_false, false_and, if_true, if_false, ↓reduceIte] at h9) <;> (simp only [hdl_c, S9_1, S9_m, bud9, live9, inb9, wrn, wr9_14, wr9_15, wr9_16, wr9_17, tq9_14, tq9_15, tq9_16, tq9_17, tq_0, tq_1, tq_3, upr_rl, rl_0, rl_1, rl_2, rl_3, rl_4, rl_5, rl_6, rl_7, rl_8, rl_9, rl_10, rl_11, rl_12, rl_13, sp_0, sp_1, sp_2, sp_3, sp_4, sp_5, sp_6, sp_7, sp_8, sp_9, sp_10, sp_11, sp_12, sp_13, se_0, se_1, se_2, se_3, se_4, se_5, se_6, se_7, se_8, se_9, se_10, se_11, se_12, se_13, sem_0, sem_1, sem_2, sem_3, sem_4, sem_5, List.getD_cons_zero, List.getD_cons_succ, Bool.false_eq_true, wrn3, wrn1, cpmS, cpok9, if_true, if_false, ↓reduceIte, wc_27, wc_31, kc_2, kl9_2, sr_2_0, kl9_3, kc_3, upm_app, Int.reduceEq, and_self, and_true, true_and, and_false, false_and, if_true, if_false, ↓reduceIte]; (try simp (disch := omega) only [w15_0, w15_1, w15_3, w15_4, w15_5, w15_6, w3_0, w3_1, w3_2, upm_app, Int.reduceEq, and_self, and_true, true_and, and_false, false_and, if_true, if_false, ↓reduceIte])))))
    | ((with_reducible refine whl_i (fun k r u => ∃ (v i y : Int), r = rl [2, a, v, i] ∧ u = S9 e (upm m 2 4 y) ∧ (i + k = a) ∧ nv (m 3) (m 2 2) k v y = nv (m 3) (m 2 2) a.toNat 0 (m 2 4) ∧ (0 ≤ y ∧ y ≤ 80) ∧ (i = 1 ∧ 0 ≤ v ∧ v ≤ 9 ∨ i = 2 ∧ 0 ≤ v ∧ v ≤ 99 ∨ i = 3 ∧ 0 ≤ v ∧ v ≤ 999)) (a.toNat - 1) ?_ ?_); (next => refine ⟨_, _, _, rfl, rfl, ?_, ?_, ?_, ?_⟩; (next => omega); (next => obtain ⟨n, hn⟩ : ∃ n : Nat, a.toNat = n + 1 := ⟨a.toNat - 1, by omega⟩; have hdg0 : dgt (m 3) (m 2 2) (m 2 4) := ⟨by omega, by omega, by omega⟩; rw [hn]; show nv _ _ n _ _ = _; rw [nv_y n hdg0, show 10 * (0 : Int) + m 3 (m 2 4) - 48 = m 3 (m 2 4) - 48 from by omega]); (next => omega); (next => omega)); rintro k r u ⟨v, i, y, rfl, rfl, h9a, h9b, h9c, h9d⟩; simp only [cl_30, runB, B30, ma_30, rho_20, wc_27, wc_31, w_cst, w_ldi, w_ldj, w_lda, w_ljk, w_ldk, w_ldw, w_ldk2, w_ldt, w_ldtw, w_neg, w_cvb, w_cvs, w_cvc, w_cvj, w_add, w_sub, w_mul, w_ban, w_bor, w_bxo, w_shl, w_shr, w_ush, w_dvi, w_rmi, w_aldi, w_aldj, w_aldz, w_aldc, w_alda, w_ite, w_cmp, w_cmj, w_cz, w_cnot, w_cand, w_cor, w_nil, w_cons, w_cvi, w_csta, w_cvt, w_cvv, w_csv, w_cpy, w_seq, w_sbr, w_sbn, w_brk, w_ifs, w_ifx, w_ife, w_wk, w_rets, w_rtv, w_thr, w_asi, w_asj, w_asa, w_inc, w_exs, w_asti, w_astj, w_astz, w_astc, w_aopadd, w_aopsub, w_sw, if_true, if_false, ↓reduceIte, hdl_c, S9_1, S9_m, bud9, live9, inb9, wrn, wr9_14, wr9_15, wr9_16, wr9_17, tq9_14, tq9_15, tq9_16, tq9_17, tq_0, tq_1, tq_3, upr_rl, rl_0, rl_1, rl_2, rl_3, rl_4, rl_5, rl_6, rl_7, rl_8, rl_9, rl_10, rl_11, rl_12, rl_13, sp_0, sp_1, sp_2, sp_3, sp_4, sp_5, sp_6, sp_7, sp_8, sp_9, sp_10, sp_11, sp_12, sp_13, se_0, se_1, se_2, se_3, se_4, se_5, se_6, se_7, se_8, se_9, se_10, se_11, se_12, se_13, sem_0, sem_1, sem_2, sem_3, sem_4, sem_5, kc_2, kl9_2, sr_2_0, kl9_3, kc_3, List.getD_cons_zero, List.getD_cons_succ, Bool.false_eq_true, wrn3, wrn1, cpmS, cpok9, upm_app, Int.reduceEq, and_self, and_true, true_and, and_false, false_and, if_true, if_false, ↓reduceIte, upm_app, Int.reduceEq, and_self, and_true, true_and, and_false, false_and, if_true, if_false, ↓reduceIte]; have hby := hB y)
    | ((with_reducible refine whl_i (fun k r u => r = rl [2, a, 0, 1] ∧ u = S9 e (upm m 2 5 1)) 0 ?_ ?_); (next => exact ⟨rfl, rfl⟩); rintro k r u ⟨rfl, rfl⟩; simp only [cl_30, runB, B30, ma_30, rho_20, wc_27, wc_31, w_cst, w_ldi, w_ldj, w_lda, w_ljk, w_ldk, w_ldw, w_ldk2, w_ldt, w_ldtw, w_neg, w_cvb, w_cvs, w_cvc, w_cvj, w_add, w_sub, w_mul, w_ban, w_bor, w_bxo, w_shl, w_shr, w_ush, w_dvi, w_rmi, w_aldi, w_aldj, w_aldz, w_aldc, w_alda, w_ite, w_cmp, w_cmj, w_cz, w_cnot, w_cand, w_cor, w_nil, w_cons, w_cvi, w_csta, w_cvt, w_cvv, w_csv, w_cpy, w_seq, w_sbr, w_sbn, w_brk, w_ifs, w_ifx, w_ife, w_wk, w_rets, w_rtv, w_thr, w_asi, w_asj, w_asa, w_inc, w_exs, w_asti, w_astj, w_astz, w_astc, w_aopadd, w_aopsub, w_sw, if_true, if_false, ↓reduceIte, hdl_c, S9_1, S9_m, bud9, live9, inb9, wrn, wr9_14, wr9_15, wr9_16, wr9_17, tq9_14, tq9_15, tq9_16, tq9_17, tq_0, tq_1, tq_3, upr_rl, rl_0, rl_1, rl_2, rl_3, rl_4, rl_5, rl_6, rl_7, rl_8, rl_9, rl_10, rl_11, rl_12, rl_13, sp_0, sp_1, sp_2, sp_3, sp_4, sp_5, sp_6, sp_7, sp_8, sp_9, sp_10, sp_11, sp_12, sp_13, se_0, se_1, se_2, se_3, se_4, se_5, se_6, se_7, se_8, se_9, se_10, se_11, se_12, se_13, sem_0, sem_1, sem_2, sem_3, sem_4, sem_5, kc_2, kl9_2, sr_2_0, kl9_3, kc_3, List.getD_cons_zero, List.getD_cons_succ, Bool.false_eq_true, wrn3, wrn1, cpmS, cpok9, upm_app, Int.reduceEq, and_self, and_true, true_and, and_false, false_and, if_true, if_false, ↓reduceIte, upm_app, Int.reduceEq, and_self, and_true, true_and, and_false, false_and, if_true, if_false, ↓reduceIte])
    | (next => have hk : k = 0 := (by omega); subst hk; refine hq1 v y ⟨by omega, by omega, by omega⟩ ?_ ?_; (next => rw [← h9b]; rfl); (next => rw [← h9b]; rfl))
    | (next => have hnd : ¬ dgt (m 3) (m 2 2) y := (fun q => by obtain ⟨q1, q2, q3⟩ := q; omega); rw [nv_n k hnd] at h9b; refine hq1 v y ⟨by omega, by omega, by omega⟩ ?_ ?_; (next => rw [← h9b]); (next => rw [← h9b]))
    | (next => refine hq (fun q => ?_); omega)
    | (obtain ⟨k, rfl⟩ : ∃ k9 : Nat, k = k9 + 1 := ⟨k - 1, by omega⟩; have hdg : dgt (m 3) (m 2 2) y := ⟨by omega, by omega, by omega⟩; rw [nv_y k hdg] at h9b; refine ⟨k, by omega, _, _, y + 1, rfl, ?_, ?_, ?_, ?_, ?_⟩; (next => rw [upm_same]); (next => rw [w32_eq (v := i + 1) (by omega) (by omega)]; omega); (next => rw [show w32 (w32 (10 * v) + (m 3 y - 48)) = 10 * v + m 3 y - 48 from by (unfold w32; omega)]; exact h9b); (next => omega); (next => rw [show w32 (w32 (10 * v) + (m 3 y - 48)) = 10 * v + m 3 y - 48 from by (unfold w32; omega), w32_eq (v := i + 1) (by omega) (by omega)]; omega))
    | omega
    | (with_reducible contradiction)
    | (unfold w32; omega)
    | (simp (disch := omega) only [w32_eq]; omega)
    | (with_reducible show (_ : Int) ≤ _; simp [upm] <;> (first | omega | (unfold w32; omega)))
    | (with_reducible show (_ : Int) < _; simp [upm] <;> (first | omega | (unfold w32; omega))))
end
section
/-! the reference's readers, to the letter -/
def chS (s i : Int) : Int := (((sByt.getD (-1 - s).toNat []).getD i.toNat 0).toInt)
def kd (m : Mem) : Int → Int := fun j => if j < m 249 3 then m 251 j else m 261 (j - m 249 3)
theorem p_173x {d : Nat} {e : Int} {m : Mem} {Q : Int → Sto → Prop} {s : Int} (hs : stx s) (h0 : 0 ≤ m 249 19) (h1 : m 249 20 ≤ 80) (hq : ∀ v, (v = -1 ∧ (m 249 20 ≤ m 249 19 ∨ ∀ j, 0 ≤ j → j < ((sLen.getD (-1 - s).toNat 0 : Nat) : Int) → chS s j ≠ m 260 (m 249 19)) ∨ 0 ≤ v ∧ v < ((sLen.getD (-1 - s).toNat 0 : Nat) : Int) ∧ m 249 19 < m 249 20 ∧ chS s v = m 260 (m 249 19)) → Q v (S9 e m)) : Cl (d + 5) 173 [249, s] Q (S9 e m) := by
  have hs2 : -8 ≤ s ∧ s ≤ -1 := hs
  have hl := sLen_le (-1 - s).toNat (by omega)
  simp only [cl_173, runB, B173, ma_173, rho_22, wf_13_163, wf_13_175, wf_13_42, wc_174, wc_175, w_cst, w_ldi, w_ldj, w_lda, w_ljk, w_ldk, w_ldw, w_ldk2, w_ldt, w_ldtw, w_neg, w_cvb, w_cvs, w_cvc, w_cvj, w_add, w_sub, w_mul, w_ban, w_bor, w_bxo, w_shl, w_shr, w_ush, w_dvi, w_rmi, w_aldi, w_aldj, w_aldz, w_aldc, w_alda, w_ite, w_cmp, w_cmj, w_cz, w_cnot, w_cand, w_cor, w_nil, w_cons, w_cvi, w_csta, w_cvt, w_cvv, w_csv, w_cpy, w_seq, w_sbr, w_sbn, w_brk, w_ifs, w_ifx, w_ife, w_wk, w_rets, w_rtv, w_thr, w_asi, w_asj, w_asa, w_inc, w_exs, w_asti, w_astj, w_astz, w_astc, w_aopadd, w_aopsub, w_sw, if_true, if_false, ↓reduceIte, hdl_c, S9_1, S9_m, bud9, live9, inb9, wrn, wr9_14, wr9_15, wr9_16, wr9_17, tq9_14, tq9_15, tq9_16, tq9_17, tq_0, tq_1, tq_3, upr_rl, rl_0, rl_1, rl_2, rl_3, rl_4, rl_5, rl_6, rl_7, rl_8, rl_9, rl_10, rl_11, rl_12, rl_13, sp_0, sp_1, sp_2, sp_3, sp_4, sp_5, sp_6, sp_7, sp_8, sp_9, sp_10, sp_11, sp_12, sp_13, se_0, se_1, se_2, se_3, se_4, se_5, se_6, se_7, se_8, se_9, se_10, se_11, se_12, se_13, sem_0, sem_1, sem_2, sem_3, sem_4, sem_5, sr_249_14, sr_249_40, sr_249_61, sr_249_9, sr_249_42, sr_249_31, sr_249_25, sr_249_71, sr_249_57, sr_249_16, sr_249_22, sr_249_51, sr_249_64, sr_249_52, sr_249_67, sr_249_55, sr_249_17, sr_249_24, sr_249_35, sr_249_11, sr_249_54, sr_249_13, sr_249_10, sr_249_70, sr_249_58, sr_249_50, sr_249_23, sr_249_43, sr_249_8, sr_249_12, sr_249_34, sr_249_30, sr_249_2, kc_249, sr_249_63, sr_249_69, sr_249_68, sr_249_41, kl9_249, sr_249_15, kc_260, kl9_260, List.getD_cons_zero, List.getD_cons_succ, Bool.false_eq_true, wrn3, wrn1, cpmS, cpok9, cl_174, cl_175, lenB, chrB, List.headD_cons]
  repeat' (first
    | (with_reducible exact True.intro)
    | (with_reducible rfl)
    | (with_reducible refine And.intro ?_ ?_)
    | intro _
    | ((with_reducible refine whl_i (fun k r u => ∃ (i : Int), r = rl [249, s, i] ∧ u = S9 e m ∧ 0 ≤ i ∧ i + k = ((sLen.getD (-1 - s).toNat 0 : Nat) : Int) ∧ ∀ j, 0 ≤ j → j < i → chS s j ≠ m 260 (m 249 19)) (sLen.getD (-1 - s).toNat 0) ?_ ?_); (next => refine ⟨0, rfl, rfl, by omega, by omega, fun j h0 h1 => absurd h1 (by omega)⟩); rintro k r u ⟨i, rfl, rfl, h9a, h9b, h9c⟩; simp only [cl_173, runB, B173, ma_173, rho_22, wf_13_163, wf_13_175, wf_13_42, wc_174, wc_175, w_cst, w_ldi, w_ldj, w_lda, w_ljk, w_ldk, w_ldw, w_ldk2, w_ldt, w_ldtw, w_neg, w_cvb, w_cvs, w_cvc, w_cvj, w_add, w_sub, w_mul, w_ban, w_bor, w_bxo, w_shl, w_shr, w_ush, w_dvi, w_rmi, w_aldi, w_aldj, w_aldz, w_aldc, w_alda, w_ite, w_cmp, w_cmj, w_cz, w_cnot, w_cand, w_cor, w_nil, w_cons, w_cvi, w_csta, w_cvt, w_cvv, w_csv, w_cpy, w_seq, w_sbr, w_sbn, w_brk, w_ifs, w_ifx, w_ife, w_wk, w_rets, w_rtv, w_thr, w_asi, w_asj, w_asa, w_inc, w_exs, w_asti, w_astj, w_astz, w_astc, w_aopadd, w_aopsub, w_sw, if_true, if_false, ↓reduceIte, hdl_c, S9_1, S9_m, bud9, live9, inb9, wrn, wr9_14, wr9_15, wr9_16, wr9_17, tq9_14, tq9_15, tq9_16, tq9_17, tq_0, tq_1, tq_3, upr_rl, rl_0, rl_1, rl_2, rl_3, rl_4, rl_5, rl_6, rl_7, rl_8, rl_9, rl_10, rl_11, rl_12, rl_13, sp_0, sp_1, sp_2, sp_3, sp_4, sp_5, sp_6, sp_7, sp_8, sp_9, sp_10, sp_11, sp_12, sp_13, se_0, se_1, se_2, se_3, se_4, se_5, se_6, se_7, se_8, se_9, se_10, se_11, se_12, se_13, sem_0, sem_1, sem_2, sem_3, sem_4, sem_5, sr_249_14, sr_249_40, sr_249_61, sr_249_9, sr_249_42, sr_249_31, sr_249_25, sr_249_71, sr_249_57, sr_249_16, sr_249_22, sr_249_51, sr_249_64, sr_249_52, sr_249_67, sr_249_55, sr_249_17, sr_249_24, sr_249_35, sr_249_11, sr_249_54, sr_249_13, sr_249_10, sr_249_70, sr_249_58, sr_249_50, sr_249_23, sr_249_43, sr_249_8, sr_249_12, sr_249_34, sr_249_30, sr_249_2, kc_249, sr_249_63, sr_249_69, sr_249_68, sr_249_41, kl9_249, sr_249_15, kc_260, kl9_260, List.getD_cons_zero, List.getD_cons_succ, Bool.false_eq_true, wrn3, wrn1, cpmS, cpok9, cl_174, cl_175, lenB, chrB, List.headD_cons])
    | (refine hq _ (Or.inl ⟨rfl, Or.inl ?_⟩); omega)
    | (refine hq _ (Or.inl ⟨rfl, Or.inr (fun j h0 h1 => h9c j h0 (by omega))⟩))
    | (refine hq _ (Or.inr ⟨?_, ?_, ?_, ?_⟩); (next => omega); (next => omega); (next => omega); (next => assumption))
    | (refine ⟨k - 1, ?_, w32 (i + 1), rfl, ?_, ?_, ?_, fun j h0 h1 => ?_⟩; (next => omega); (next => first | trivial | rfl); (next => unfold w32; omega); (next => unfold w32; omega); (next => rw [w32_eq (v := i + 1) (by omega) (by omega)] at h1; by_cases hji : j = i; (next => subst hji; assumption); (next => exact h9c j h0 (by omega))))
    | assumption
    | omega
    | (with_reducible contradiction)
    | (unfold w32; omega)
    | (simp (disch := omega) only [w32_eq]; omega)
    | (with_reducible show (_ : Int) ≤ _; simp [upm] <;> (first | omega | (unfold w32; omega)))
    | (with_reducible show (_ : Int) < _; simp [upm] <;> (first | omega | (unfold w32; omega))))

theorem p_177x {d : Nat} {e : Int} {m : Mem} {Q : Int → Sto → Prop} {s : Int} (hs : stx s) (h0 : 0 ≤ m 249 19 ∧ m 249 19 ≤ 80) (h1 : m 249 20 ≤ 80) (hq : ∀ v x, (v = -1 ∧ x = m 249 19 ∧ (m 249 20 ≤ m 249 19 ∨ ∀ j, 0 ≤ j → j < ((sLen.getD (-1 - s).toNat 0 : Nat) : Int) → chS s j ≠ m 260 (m 249 19)) ∨ 0 ≤ v ∧ v < ((sLen.getD (-1 - s).toNat 0 : Nat) : Int) ∧ m 249 19 < m 249 20 ∧ chS s v = m 260 (m 249 19) ∧ x = m 249 19 + 1) → Q v (S9 e (upm m 249 19 x))) : Cl (d + 6) 177 [249, s] Q (S9 e m) := by
  have hs2 : -8 ≤ s ∧ s ≤ -1 := hs
  simp only [cl_177, runB, B177, ma_177, rho_22, wpf_13_163, wpopadd_pf_13_163, wpopsub_pf_13_163, wc_173, wc_178, w_cst, w_ldi, w_ldj, w_lda, w_ljk, w_ldk, w_ldw, w_ldk2, w_ldt, w_ldtw, w_neg, w_cvb, w_cvs, w_cvc, w_cvj, w_add, w_sub, w_mul, w_ban, w_bor, w_bxo, w_shl, w_shr, w_ush, w_dvi, w_rmi, w_aldi, w_aldj, w_aldz, w_aldc, w_alda, w_ite, w_cmp, w_cmj, w_cz, w_cnot, w_cand, w_cor, w_nil, w_cons, w_cvi, w_csta, w_cvt, w_cvv, w_csv, w_cpy, w_seq, w_sbr, w_sbn, w_brk, w_ifs, w_ifx, w_ife, w_wk, w_rets, w_rtv, w_thr, w_asi, w_asj, w_asa, w_inc, w_exs, w_asti, w_astj, w_astz, w_astc, w_aopadd, w_aopsub, w_sw, if_true, if_false, ↓reduceIte, hdl_c, S9_1, S9_m, bud9, live9, inb9, wrn, wr9_14, wr9_15, wr9_16, wr9_17, tq9_14, tq9_15, tq9_16, tq9_17, tq_0, tq_1, tq_3, upr_rl, rl_0, rl_1, rl_2, rl_3, rl_4, rl_5, rl_6, rl_7, rl_8, rl_9, rl_10, rl_11, rl_12, rl_13, sp_0, sp_1, sp_2, sp_3, sp_4, sp_5, sp_6, sp_7, sp_8, sp_9, sp_10, sp_11, sp_12, sp_13, se_0, se_1, se_2, se_3, se_4, se_5, se_6, se_7, se_8, se_9, se_10, se_11, se_12, se_13, sem_0, sem_1, sem_2, sem_3, sem_4, sem_5, sr_249_14, sr_249_40, sr_249_61, sr_249_9, sr_249_42, sr_249_31, sr_249_25, sr_249_71, sr_249_57, sr_249_16, sr_249_22, sr_249_51, sr_249_64, sr_249_52, sr_249_67, sr_249_55, sr_249_17, sr_249_24, sr_249_35, sr_249_11, sr_249_54, sr_249_13, sr_249_10, sr_249_70, sr_249_58, sr_249_50, sr_249_23, sr_249_43, sr_249_8, sr_249_12, sr_249_34, sr_249_30, sr_249_2, kc_249, sr_249_63, sr_249_69, sr_249_68, sr_249_41, kl9_249, sr_249_15, kc_260, kl9_260, List.getD_cons_zero, List.getD_cons_succ, Bool.false_eq_true, wrn3, wrn1, cpmS, cpok9]
  repeat' (first
    | (with_reducible exact True.intro)
    | (with_reducible rfl)
    | (with_reducible refine And.intro ?_ ?_)
    | intro _
    | (with_reducible refine p_173x ?_ ?_ ?_ (fun v8 h8 => ?_); (next => first | omega | (with_reducible rfl) | decide | (unfold w32; omega) | (simp (disch := omega) only [w32_eq]; omega) | (simp [upm] <;> (first | omega | (unfold w32; omega)))); (next => first | omega | (with_reducible rfl) | decide | (unfold w32; omega) | (simp (disch := omega) only [w32_eq]; omega) | (simp [upm] <;> (first | omega | (unfold w32; omega)))); (next => first | omega | (with_reducible rfl) | decide | (unfold w32; omega) | (simp (disch := omega) only [w32_eq]; omega) | (simp [upm] <;> (first | omega | (unfold w32; omega)))); (try simp only [upm_app, Int.reduceEq, and_self, and_true, true_and, and_false, false_and, if_true, if_false, ↓reduceIte] at h8); simp only [hdl_c, S9_1, S9_m, bud9, live9, inb9, wrn, wr9_14, wr9_15, wr9_16, wr9_17, tq9_14, tq9_15, tq9_16, tq9_17, tq_0, tq_1, tq_3, upr_rl, rl_0, rl_1, rl_2, rl_3, rl_4, rl_5, rl_6, rl_7, rl_8, rl_9, rl_10, rl_11, rl_12, rl_13, sp_0, sp_1, sp_2, sp_3, sp_4, sp_5, sp_6, sp_7, sp_8, sp_9, sp_10, sp_11, sp_12, sp_13, se_0, se_1, se_2, se_3, se_4, se_5, se_6, se_7, se_8, se_9, se_10, se_11, se_12, se_13, sem_0, sem_1, sem_2, sem_3, sem_4, sem_5, List.getD_cons_zero, List.getD_cons_succ, Bool.false_eq_true, wrn3, wrn1, cpmS, cpok9, if_true, if_false, ↓reduceIte, wc_173, wc_178, sr_249_14, sr_249_40, sr_249_61, sr_249_9, sr_249_42, sr_249_31, sr_249_25, sr_249_71, sr_249_57, sr_249_16, sr_249_22, sr_249_51, sr_249_64, sr_249_52, sr_249_67, sr_249_55, sr_249_17, sr_249_24, sr_249_35, sr_249_11, sr_249_54, sr_249_13, sr_249_10, sr_249_70, sr_249_58, sr_249_50, sr_249_23, sr_249_43, sr_249_8, sr_249_12, sr_249_34, sr_249_30, sr_249_2, kc_249, sr_249_63, sr_249_69, sr_249_68, sr_249_41, kl9_249, sr_249_15, kc_260, kl9_260]; (try simp (disch := omega) only [w15_0, w15_1, w15_3, w15_4, w15_5, w15_6, w3_0, w3_1, w3_2, upm_app, Int.reduceEq, and_self, and_true, true_and, and_false, false_and, if_true, if_false, ↓reduceIte]))
    | (with_reducible refine p_178 (fun v9 h9 => ?_); simp only [hdl_c, S9_1, S9_m, bud9, live9, inb9, wrn, wr9_14, wr9_15, wr9_16, wr9_17, tq9_14, tq9_15, tq9_16, tq9_17, tq_0, tq_1, tq_3, upr_rl, rl_0, rl_1, rl_2, rl_3, rl_4, rl_5, rl_6, rl_7, rl_8, rl_9, rl_10, rl_11, rl_12, rl_13, sp_0, sp_1, sp_2, sp_3, sp_4, sp_5, sp_6, sp_7, sp_8, sp_9, sp_10, sp_11, sp_12, sp_13, se_0, se_1, se_2, se_3, se_4, se_5, se_6, se_7, se_8, se_9, se_10, se_11, se_12, se_13, sem_0, sem_1, sem_2, sem_3, sem_4, sem_5, List.getD_cons_zero, List.getD_cons_succ, Bool.false_eq_true, wrn3, wrn1, cpmS, cpok9, if_true, if_false, ↓reduceIte, wc_173, wc_178, sr_249_14, sr_249_40, sr_249_61, sr_249_9, sr_249_42, sr_249_31, sr_249_25, sr_249_71, sr_249_57, sr_249_16, sr_249_22, sr_249_51, sr_249_64, sr_249_52, sr_249_67, sr_249_55, sr_249_17, sr_249_24, sr_249_35, sr_249_11, sr_249_54, sr_249_13, sr_249_10, sr_249_70, sr_249_58, sr_249_50, sr_249_23, sr_249_43, sr_249_8, sr_249_12, sr_249_34, sr_249_30, sr_249_2, kc_249, sr_249_63, sr_249_69, sr_249_68, sr_249_41, kl9_249, sr_249_15, kc_260, kl9_260]; (try simp (disch := omega) only [w15_0, w15_1, w15_3, w15_4, w15_5, w15_6, w3_0, w3_1, w3_2, upm_app, Int.reduceEq, and_self, and_true, true_and, and_false, false_and, if_true, if_false, ↓reduceIte]))
    | (refine hq _ _ ?_; rcases h8 with ⟨q1, q2⟩ | ⟨q1, q2, q3, q4⟩; (next => exact Or.inl ⟨q1, by unfold w32; omega, q2⟩); (next => exact Or.inr ⟨q1, q2, q3, q4, by unfold w32; omega⟩))
    | omega
    | (with_reducible contradiction)
    | (unfold w32; omega)
    | (simp (disch := omega) only [w32_eq]; omega)
    | (with_reducible show (_ : Int) ≤ _; simp [upm] <;> (first | omega | (unfold w32; omega)))
    | (with_reducible show (_ : Int) < _; simp [upm] <;> (first | omega | (unfold w32; omega))))

theorem p_181x {d : Nat} {e : Int} {m : Mem} {Q : Int → Sto → Prop} {a : Int} (h0 : 0 ≤ m 249 19 ∧ m 249 19 ≤ 80) (h1 : m 249 20 ≤ 80) (hq : ∀ v x, (v = 1 ∧ (m 249 19 < m 249 20 ∧ m 260 (m 249 19) = a) ∧ x = m 249 19 + 1 ∨ v = 0 ∧ ¬ (m 249 19 < m 249 20 ∧ m 260 (m 249 19) = a) ∧ x = m 249 19) → Q v (S9 e (upm m 249 19 x))) : Cl (d + 2) 181 [249, a] Q (S9 e m) := by
  simp only [cl_181, runB, B181, ma_181, rho_20, wf_13_163, wf_13_175, wf_13_42, wpf_13_163, wpopadd_pf_13_163, wpopsub_pf_13_163, wc_178, w_cst, w_ldi, w_ldj, w_lda, w_ljk, w_ldk, w_ldw, w_ldk2, w_ldt, w_ldtw, w_neg, w_cvb, w_cvs, w_cvc, w_cvj, w_add, w_sub, w_mul, w_ban, w_bor, w_bxo, w_shl, w_shr, w_ush, w_dvi, w_rmi, w_aldi, w_aldj, w_aldz, w_aldc, w_alda, w_ite, w_cmp, w_cmj, w_cz, w_cnot, w_cand, w_cor, w_nil, w_cons, w_cvi, w_csta, w_cvt, w_cvv, w_csv, w_cpy, w_seq, w_sbr, w_sbn, w_brk, w_ifs, w_ifx, w_ife, w_wk, w_rets, w_rtv, w_thr, w_asi, w_asj, w_asa, w_inc, w_exs, w_asti, w_astj, w_astz, w_astc, w_aopadd, w_aopsub, w_sw, if_true, if_false, ↓reduceIte, hdl_c, S9_1, S9_m, bud9, live9, inb9, wrn, wr9_14, wr9_15, wr9_16, wr9_17, tq9_14, tq9_15, tq9_16, tq9_17, tq_0, tq_1, tq_3, upr_rl, rl_0, rl_1, rl_2, rl_3, rl_4, rl_5, rl_6, rl_7, rl_8, rl_9, rl_10, rl_11, rl_12, rl_13, sp_0, sp_1, sp_2, sp_3, sp_4, sp_5, sp_6, sp_7, sp_8, sp_9, sp_10, sp_11, sp_12, sp_13, se_0, se_1, se_2, se_3, se_4, se_5, se_6, se_7, se_8, se_9, se_10, se_11, se_12, se_13, sem_0, sem_1, sem_2, sem_3, sem_4, sem_5, sr_249_14, sr_249_40, sr_249_61, sr_249_9, sr_249_42, sr_249_31, sr_249_25, sr_249_71, sr_249_57, sr_249_16, sr_249_22, sr_249_51, sr_249_64, sr_249_52, sr_249_67, sr_249_55, sr_249_17, sr_249_24, sr_249_35, sr_249_11, sr_249_54, sr_249_13, sr_249_10, sr_249_70, sr_249_58, sr_249_50, sr_249_23, sr_249_43, sr_249_8, sr_249_12, sr_249_34, sr_249_30, sr_249_2, kc_249, sr_249_63, sr_249_69, sr_249_68, sr_249_41, kl9_249, sr_249_15, kc_260, kl9_260, List.getD_cons_zero, List.getD_cons_succ, Bool.false_eq_true, wrn3, wrn1, cpmS, cpok9]
  repeat' (first
    | (with_reducible exact True.intro)
    | (with_reducible rfl)
    | (with_reducible refine And.intro ?_ ?_)
    | intro _
    | (with_reducible refine p_178 (fun v9 h9 => ?_); simp only [hdl_c, S9_1, S9_m, bud9, live9, inb9, wrn, wr9_14, wr9_15, wr9_16, wr9_17, tq9_14, tq9_15, tq9_16, tq9_17, tq_0, tq_1, tq_3, upr_rl, rl_0, rl_1, rl_2, rl_3, rl_4, rl_5, rl_6, rl_7, rl_8, rl_9, rl_10, rl_11, rl_12, rl_13, sp_0, sp_1, sp_2, sp_3, sp_4, sp_5, sp_6, sp_7, sp_8, sp_9, sp_10, sp_11, sp_12, sp_13, se_0, se_1, se_2, se_3, se_4, se_5, se_6, se_7, se_8, se_9, se_10, se_11, se_12, se_13, sem_0, sem_1, sem_2, sem_3, sem_4, sem_5, List.getD_cons_zero, List.getD_cons_succ, Bool.false_eq_true, wrn3, wrn1, cpmS, cpok9, if_true, if_false, ↓reduceIte, wc_178, sr_249_14, sr_249_40, sr_249_61, sr_249_9, sr_249_42, sr_249_31, sr_249_25, sr_249_71, sr_249_57, sr_249_16, sr_249_22, sr_249_51, sr_249_64, sr_249_52, sr_249_67, sr_249_55, sr_249_17, sr_249_24, sr_249_35, sr_249_11, sr_249_54, sr_249_13, sr_249_10, sr_249_70, sr_249_58, sr_249_50, sr_249_23, sr_249_43, sr_249_8, sr_249_12, sr_249_34, sr_249_30, sr_249_2, kc_249, sr_249_63, sr_249_69, sr_249_68, sr_249_41, kl9_249, sr_249_15, kc_260, kl9_260]; (try simp (disch := omega) only [w15_0, w15_1, w15_3, w15_4, w15_5, w15_6, w3_0, w3_1, w3_2, upm_app, Int.reduceEq, and_self, and_true, true_and, and_false, false_and, if_true, if_false, ↓reduceIte]))
    | (refine hq _ _ ?_; first | omega | (unfold w32; omega))
    | omega
    | (with_reducible contradiction)
    | (unfold w32; omega)
    | (simp (disch := omega) only [w32_eq]; omega)
    | (with_reducible show (_ : Int) ≤ _; simp [upm] <;> (first | omega | (unfold w32; omega)))
    | (with_reducible show (_ : Int) < _; simp [upm] <;> (first | omega | (unfold w32; omega))))

theorem p_183x {d : Nat} {e : Int} {m : Mem} {Q : Int → Sto → Prop} {a : Int} (h0 : 0 ≤ m 249 19 ∧ m 249 19 ≤ 80) (h1 : m 249 20 ≤ 80) (ha : 1 ≤ a ∧ a ≤ 3) (hq : ∀ v x, (¬ dgt (m 260) (m 249 20) (m 249 19) ∧ v = -1 ∧ x = m 249 19 ∨ dgt (m 260) (m 249 20) (m 249 19) ∧ v = (nv (m 260) (m 249 20) a.toNat 0 (m 249 19)).1 ∧ x = (nv (m 260) (m 249 20) a.toNat 0 (m 249 19)).2) → Q v (S9 e (upm m 249 19 x))) : Cl (d + 3) 183 [249, a] Q (S9 e m) := by
  simp only [cl_183, runB, B183, ma_183, rho_20, wf_13_163, wf_13_42, wpf_13_163, wpopadd_pf_13_163, wpopsub_pf_13_163, wc_184, w_cst, w_ldi, w_ldj, w_lda, w_ljk, w_ldk, w_ldw, w_ldk2, w_ldt, w_ldtw, w_neg, w_cvb, w_cvs, w_cvc, w_cvj, w_add, w_sub, w_mul, w_ban, w_bor, w_bxo, w_shl, w_shr, w_ush, w_dvi, w_rmi, w_aldi, w_aldj, w_aldz, w_aldc, w_alda, w_ite, w_cmp, w_cmj, w_cz, w_cnot, w_cand, w_cor, w_nil, w_cons, w_cvi, w_csta, w_cvt, w_cvv, w_csv, w_cpy, w_seq, w_sbr, w_sbn, w_brk, w_ifs, w_ifx, w_ife, w_wk, w_rets, w_rtv, w_thr, w_asi, w_asj, w_asa, w_inc, w_exs, w_asti, w_astj, w_astz, w_astc, w_aopadd, w_aopsub, w_sw, if_true, if_false, ↓reduceIte, hdl_c, S9_1, S9_m, bud9, live9, inb9, wrn, wr9_14, wr9_15, wr9_16, wr9_17, tq9_14, tq9_15, tq9_16, tq9_17, tq_0, tq_1, tq_3, upr_rl, rl_0, rl_1, rl_2, rl_3, rl_4, rl_5, rl_6, rl_7, rl_8, rl_9, rl_10, rl_11, rl_12, rl_13, sp_0, sp_1, sp_2, sp_3, sp_4, sp_5, sp_6, sp_7, sp_8, sp_9, sp_10, sp_11, sp_12, sp_13, se_0, se_1, se_2, se_3, se_4, se_5, se_6, se_7, se_8, se_9, se_10, se_11, se_12, se_13, sem_0, sem_1, sem_2, sem_3, sem_4, sem_5, sr_249_14, sr_249_40, sr_249_61, sr_249_9, sr_249_42, sr_249_31, sr_249_25, sr_249_71, sr_249_57, sr_249_16, sr_249_22, sr_249_51, sr_249_64, sr_249_52, sr_249_67, sr_249_55, sr_249_17, sr_249_24, sr_249_35, sr_249_11, sr_249_54, sr_249_13, sr_249_10, sr_249_70, sr_249_58, sr_249_50, sr_249_23, sr_249_43, sr_249_8, sr_249_12, sr_249_34, sr_249_30, sr_249_2, kc_249, sr_249_63, sr_249_69, sr_249_68, sr_249_41, kl9_249, sr_249_15, kc_260, kl9_260, List.getD_cons_zero, List.getD_cons_succ, Bool.false_eq_true, wrn3, wrn1, cpmS, cpok9, upm_app, Int.reduceEq, and_self, and_true, true_and, and_false, false_and, if_true, if_false, ↓reduceIte]
  repeat' (first
    | (with_reducible exact True.intro)
    | (with_reducible rfl)
    | (with_reducible refine And.intro ?_ ?_)
    | intro _
    | (with_reducible refine p_184b ?_ ?_ (fun v9 h9 => ?_); (next => first | omega | (with_reducible rfl) | decide | (unfold w32; omega) | (simp (disch := omega) only [w32_eq]; omega) | (simp [upm] <;> (first | omega | (unfold w32; omega)))); (next => first | omega | (with_reducible rfl) | decide | (unfold w32; omega) | (simp (disch := omega) only [w32_eq]; omega) | (simp [upm] <;> (first | omega | (unfold w32; omega)))); (try simp only [upm_app, Int.reduceEq, and_self, and_true, true_and, and_false, false_and, if_true, if_false, ↓reduceIte] at h9); simp only [hdl_c, S9_1, S9_m, bud9, live9, inb9, wrn, wr9_14, wr9_15, wr9_16, wr9_17, tq9_14, tq9_15, tq9_16, tq9_17, tq_0, tq_1, tq_3, upr_rl, rl_0, rl_1, rl_2, rl_3, rl_4, rl_5, rl_6, rl_7, rl_8, rl_9, rl_10, rl_11, rl_12, rl_13, sp_0, sp_1, sp_2, sp_3, sp_4, sp_5, sp_6, sp_7, sp_8, sp_9, sp_10, sp_11, sp_12, sp_13, se_0, se_1, se_2, se_3, se_4, se_5, se_6, se_7, se_8, se_9, se_10, se_11, se_12, se_13, sem_0, sem_1, sem_2, sem_3, sem_4, sem_5, List.getD_cons_zero, List.getD_cons_succ, Bool.false_eq_true, wrn3, wrn1, cpmS, cpok9, if_true, if_false, ↓reduceIte, wc_184, sr_249_14, sr_249_40, sr_249_61, sr_249_9, sr_249_42, sr_249_31, sr_249_25, sr_249_71, sr_249_57, sr_249_16, sr_249_22, sr_249_51, sr_249_64, sr_249_52, sr_249_67, sr_249_55, sr_249_17, sr_249_24, sr_249_35, sr_249_11, sr_249_54, sr_249_13, sr_249_10, sr_249_70, sr_249_58, sr_249_50, sr_249_23, sr_249_43, sr_249_8, sr_249_12, sr_249_34, sr_249_30, sr_249_2, kc_249, sr_249_63, sr_249_69, sr_249_68, sr_249_41, kl9_249, sr_249_15, kc_260, kl9_260, upm_app, Int.reduceEq, and_self, and_true, true_and, and_false, false_and, if_true, if_false, ↓reduceIte]; (try simp (disch := omega) only [w15_0, w15_1, w15_3, w15_4, w15_5, w15_6, w3_0, w3_1, w3_2, upm_app, Int.reduceEq, and_self, and_true, true_and, and_false, false_and, if_true, if_false, ↓reduceIte]))
    | ((with_reducible refine whl_i (fun k r u => ∃ (v i y : Int), r = rl [249, a, v, i] ∧ u = S9 e (upm m 249 19 y) ∧ (i + k = a) ∧ nv (m 260) (m 249 20) k v y = nv (m 260) (m 249 20) a.toNat 0 (m 249 19) ∧ (0 ≤ y ∧ y ≤ 80) ∧ (i = 0 ∧ v = 0 ∨ i = 1 ∧ 0 ≤ v ∧ v ≤ 9 ∨ i = 2 ∧ 0 ≤ v ∧ v ≤ 99 ∨ i = 3 ∧ 0 ≤ v ∧ v ≤ 999)) a.toNat ?_ ?_); (next => refine ⟨0, 0, m 249 19, rfl, ?_, ?_, rfl, h0, ?_⟩; (next => rw [upm_self]); (next => omega); (next => omega)); rintro k r u ⟨v, i, y, rfl, rfl, h9a, h9b, h9c, h9d⟩; simp only [cl_183, runB, B183, ma_183, rho_20, wf_13_163, wf_13_42, wpf_13_163, wpopadd_pf_13_163, wpopsub_pf_13_163, wc_184, w_cst, w_ldi, w_ldj, w_lda, w_ljk, w_ldk, w_ldw, w_ldk2, w_ldt, w_ldtw, w_neg, w_cvb, w_cvs, w_cvc, w_cvj, w_add, w_sub, w_mul, w_ban, w_bor, w_bxo, w_shl, w_shr, w_ush, w_dvi, w_rmi, w_aldi, w_aldj, w_aldz, w_aldc, w_alda, w_ite, w_cmp, w_cmj, w_cz, w_cnot, w_cand, w_cor, w_nil, w_cons, w_cvi, w_csta, w_cvt, w_cvv, w_csv, w_cpy, w_seq, w_sbr, w_sbn, w_brk, w_ifs, w_ifx, w_ife, w_wk, w_rets, w_rtv, w_thr, w_asi, w_asj, w_asa, w_inc, w_exs, w_asti, w_astj, w_astz, w_astc, w_aopadd, w_aopsub, w_sw, if_true, if_false, ↓reduceIte, hdl_c, S9_1, S9_m, bud9, live9, inb9, wrn, wr9_14, wr9_15, wr9_16, wr9_17, tq9_14, tq9_15, tq9_16, tq9_17, tq_0, tq_1, tq_3, upr_rl, rl_0, rl_1, rl_2, rl_3, rl_4, rl_5, rl_6, rl_7, rl_8, rl_9, rl_10, rl_11, rl_12, rl_13, sp_0, sp_1, sp_2, sp_3, sp_4, sp_5, sp_6, sp_7, sp_8, sp_9, sp_10, sp_11, sp_12, sp_13, se_0, se_1, se_2, se_3, se_4, se_5, se_6, se_7, se_8, se_9, se_10, se_11, se_12, se_13, sem_0, sem_1, sem_2, sem_3, sem_4, sem_5, sr_249_14, sr_249_40, sr_249_61, sr_249_9, sr_249_42, sr_249_31, sr_249_25, sr_249_71, sr_249_57, sr_249_16, sr_249_22, sr_249_51, sr_249_64, sr_249_52, sr_249_67, sr_249_55, sr_249_17, sr_249_24, sr_249_35, sr_249_11, sr_249_54, sr_249_13, sr_249_10, sr_249_70, sr_249_58, sr_249_50, sr_249_23, sr_249_43, sr_249_8, sr_249_12, sr_249_34, sr_249_30, sr_249_2, kc_249, sr_249_63, sr_249_69, sr_249_68, sr_249_41, kl9_249, sr_249_15, kc_260, kl9_260, List.getD_cons_zero, List.getD_cons_succ, Bool.false_eq_true, wrn3, wrn1, cpmS, cpok9, upm_app, Int.reduceEq, and_self, and_true, true_and, and_false, false_and, if_true, if_false, ↓reduceIte, upm_app, Int.reduceEq, and_self, and_true, true_and, and_false, false_and, if_true, if_false, ↓reduceIte])
    | (next => have hk : k = 0 := (by omega); subst hk; refine hq v y (Or.inr ⟨⟨by omega, by omega, by omega⟩, ?_, ?_⟩); (next => rw [← h9b]; rfl); (next => rw [← h9b]; rfl))
    | (next => have hnd : ¬ dgt (m 260) (m 249 20) y := (fun q => by obtain ⟨q1, q2, q3⟩ := q; omega); rw [nv_n k hnd] at h9b; refine hq v y (Or.inr ⟨⟨by omega, by omega, by omega⟩, ?_, ?_⟩); (next => rw [← h9b]); (next => rw [← h9b]))
    | (next => have z := hq (-1) (m 249 19) (Or.inl ⟨fun q => by omega, rfl, rfl⟩); rw [upm_self] at z; exact z)
    | (obtain ⟨k, rfl⟩ : ∃ k9 : Nat, k = k9 + 1 := ⟨k - 1, by omega⟩; have hdg : dgt (m 260) (m 249 20) y := ⟨by omega, by omega, by omega⟩; rw [nv_y k hdg] at h9b; refine ⟨k, by omega, _, _, y + 1, rfl, ?_, ?_, ?_, ?_, ?_⟩; (next => rw [upm_same, w32_eq (v := y + 1) (by omega) (by omega)]); (next => rw [w32_eq (v := i + 1) (by omega) (by omega)]; omega); (next => rw [dig (v := v) (t := m 260 y) (by omega) (by omega) (by omega) (by omega)]; exact h9b); (next => omega); (next => rw [dig (v := v) (t := m 260 y) (by omega) (by omega) (by omega) (by omega), w32_eq (v := i + 1) (by omega) (by omega)]; omega))
    | omega
    | (with_reducible contradiction)
    | (unfold w32; omega)
    | (simp (disch := omega) only [w32_eq]; omega)
    | (with_reducible show (_ : Int) ≤ _; simp [upm] <;> (first | omega | (unfold w32; omega)))
    | (with_reducible show (_ : Int) < _; simp [upm] <;> (first | omega | (unfold w32; omega))))

theorem p_180x {d : Nat} {e : Int} {m : Mem} {Q : Int → Sto → Prop} (h0 : 0 ≤ m 249 19 ∧ m 249 19 ≤ 80) (h1 : m 249 20 ≤ 80) (h2 : 0 ≤ m 249 3) (h3 : 0 ≤ m 249 26) (h4 : m 249 3 + m 249 26 ≤ 10) (h5 : 0 ≤ m 260 (m 249 19) ∧ m 260 (m 249 19) < 256) (hq : ∀ v x, (let1 (m 260) (m 249 20) (m 249 3 + m 249 26) (m 249 19) ∧ v = m 260 (m 249 19) - 97 ∧ x = m 249 19 + 1 ∨ ¬ let1 (m 260) (m 249 20) (m 249 3 + m 249 26) (m 249 19) ∧ v = -1 ∧ x = m 249 19) → Q v (S9 e (upm m 249 19 x))) : Cl (d + 2) 180 [249] Q (S9 e m) := by
  have e1 : w32 (w32 (m 249 3 + m 249 26) - 1) = m 249 3 + m 249 26 - 1 := by unfold w32; omega
  simp only [cl_180, runB, B180, ma_180, rho_2, wf_13_133, wf_13_163, wf_13_175, wf_13_204, wf_13_42, wpf_13_163, wpopadd_pf_13_163, wpopsub_pf_13_163, wc_169, w_cst, w_ldi, w_ldj, w_lda, w_ljk, w_ldk, w_ldw, w_ldk2, w_ldt, w_ldtw, w_neg, w_cvb, w_cvs, w_cvc, w_cvj, w_add, w_sub, w_mul, w_ban, w_bor, w_bxo, w_shl, w_shr, w_ush, w_dvi, w_rmi, w_aldi, w_aldj, w_aldz, w_aldc, w_alda, w_ite, w_cmp, w_cmj, w_cz, w_cnot, w_cand, w_cor, w_nil, w_cons, w_cvi, w_csta, w_cvt, w_cvv, w_csv, w_cpy, w_seq, w_sbr, w_sbn, w_brk, w_ifs, w_ifx, w_ife, w_wk, w_rets, w_rtv, w_thr, w_asi, w_asj, w_asa, w_inc, w_exs, w_asti, w_astj, w_astz, w_astc, w_aopadd, w_aopsub, w_sw, if_true, if_false, ↓reduceIte, hdl_c, S9_1, S9_m, bud9, live9, inb9, wrn, wr9_14, wr9_15, wr9_16, wr9_17, tq9_14, tq9_15, tq9_16, tq9_17, tq_0, tq_1, tq_3, upr_rl, rl_0, rl_1, rl_2, rl_3, rl_4, rl_5, rl_6, rl_7, rl_8, rl_9, rl_10, rl_11, rl_12, rl_13, sp_0, sp_1, sp_2, sp_3, sp_4, sp_5, sp_6, sp_7, sp_8, sp_9, sp_10, sp_11, sp_12, sp_13, se_0, se_1, se_2, se_3, se_4, se_5, se_6, se_7, se_8, se_9, se_10, se_11, se_12, se_13, sem_0, sem_1, sem_2, sem_3, sem_4, sem_5, sr_249_14, sr_249_40, sr_249_61, sr_249_9, sr_249_42, sr_249_31, sr_249_25, sr_249_71, sr_249_57, sr_249_16, sr_249_22, sr_249_51, sr_249_64, sr_249_52, sr_249_67, sr_249_55, sr_249_17, sr_249_24, sr_249_35, sr_249_11, sr_249_54, sr_249_13, sr_249_10, sr_249_70, sr_249_58, sr_249_50, sr_249_23, sr_249_43, sr_249_8, sr_249_12, sr_249_34, sr_249_30, sr_249_2, kc_249, sr_249_63, sr_249_69, sr_249_68, sr_249_41, kl9_249, sr_249_15, kc_260, kl9_260, List.getD_cons_zero, List.getD_cons_succ, Bool.false_eq_true, wrn3, wrn1, cpmS, cpok9, e1]
  repeat' (first
    | (with_reducible exact True.intro)
    | (with_reducible rfl)
    | (with_reducible refine And.intro ?_ ?_)
    | intro _
    | (with_reducible refine p_169 (fun v9 h9 => ?_); simp only [hdl_c, S9_1, S9_m, bud9, live9, inb9, wrn, wr9_14, wr9_15, wr9_16, wr9_17, tq9_14, tq9_15, tq9_16, tq9_17, tq_0, tq_1, tq_3, upr_rl, rl_0, rl_1, rl_2, rl_3, rl_4, rl_5, rl_6, rl_7, rl_8, rl_9, rl_10, rl_11, rl_12, rl_13, sp_0, sp_1, sp_2, sp_3, sp_4, sp_5, sp_6, sp_7, sp_8, sp_9, sp_10, sp_11, sp_12, sp_13, se_0, se_1, se_2, se_3, se_4, se_5, se_6, se_7, se_8, se_9, se_10, se_11, se_12, se_13, sem_0, sem_1, sem_2, sem_3, sem_4, sem_5, List.getD_cons_zero, List.getD_cons_succ, Bool.false_eq_true, wrn3, wrn1, cpmS, cpok9, if_true, if_false, ↓reduceIte, wc_169, sr_249_14, sr_249_40, sr_249_61, sr_249_9, sr_249_42, sr_249_31, sr_249_25, sr_249_71, sr_249_57, sr_249_16, sr_249_22, sr_249_51, sr_249_64, sr_249_52, sr_249_67, sr_249_55, sr_249_17, sr_249_24, sr_249_35, sr_249_11, sr_249_54, sr_249_13, sr_249_10, sr_249_70, sr_249_58, sr_249_50, sr_249_23, sr_249_43, sr_249_8, sr_249_12, sr_249_34, sr_249_30, sr_249_2, kc_249, sr_249_63, sr_249_69, sr_249_68, sr_249_41, kl9_249, sr_249_15, kc_260, kl9_260, e1]; (try simp (disch := omega) only [w15_0, w15_1, w15_3, w15_4, w15_5, w15_6, w3_0, w3_1, w3_2, upm_app, Int.reduceEq, and_self, and_true, true_and, and_false, false_and, if_true, if_false, ↓reduceIte]))
    | (refine hq _ _ ?_; unfold w32 at *; omega)
    | (next => have z := hq (-1) (m 249 19) (by unfold w32 at *; omega); rw [upm_self] at z; exact z)
    | (rw [w32_eq (v := m 249 19 + 1) (by omega) (by omega)]; omega)
    | omega
    | (with_reducible contradiction)
    | (unfold w32; omega)
    | (simp (disch := omega) only [w32_eq]; omega)
    | (with_reducible show (_ : Int) ≤ _; simp [upm] <;> (first | omega | (unfold w32; omega)))
    | (with_reducible show (_ : Int) < _; simp [upm] <;> (first | omega | (unfold w32; omega))))

theorem p_185x {d : Nat} {e : Int} {m : Mem} {Q : Int → Sto → Prop} {a : Int} (h0 : 0 ≤ m 249 3 ∧ m 249 3 ≤ 10) (h1 : 0 ≤ a ∧ a < 10) (hq : Q (kd m a) (S9 e m)) : Cl (d + 1) 185 [249, a] Q (S9 e m) := by
  simp only [cl_185, runB, B185, ma_185, rho_20, wf_13_13, wf_13_133, wf_13_45, w_cst, w_ldi, w_ldj, w_lda, w_ljk, w_ldk, w_ldw, w_ldk2, w_ldt, w_ldtw, w_neg, w_cvb, w_cvs, w_cvc, w_cvj, w_add, w_sub, w_mul, w_ban, w_bor, w_bxo, w_shl, w_shr, w_ush, w_dvi, w_rmi, w_aldi, w_aldj, w_aldz, w_aldc, w_alda, w_ite, w_cmp, w_cmj, w_cz, w_cnot, w_cand, w_cor, w_nil, w_cons, w_cvi, w_csta, w_cvt, w_cvv, w_csv, w_cpy, w_seq, w_sbr, w_sbn, w_brk, w_ifs, w_ifx, w_ife, w_wk, w_rets, w_rtv, w_thr, w_asi, w_asj, w_asa, w_inc, w_exs, w_asti, w_astj, w_astz, w_astc, w_aopadd, w_aopsub, w_sw, if_true, if_false, ↓reduceIte, hdl_c, S9_1, S9_m, bud9, live9, inb9, wrn, wr9_14, wr9_15, wr9_16, wr9_17, tq9_14, tq9_15, tq9_16, tq9_17, tq_0, tq_1, tq_3, upr_rl, rl_0, rl_1, rl_2, rl_3, rl_4, rl_5, rl_6, rl_7, rl_8, rl_9, rl_10, rl_11, rl_12, rl_13, sp_0, sp_1, sp_2, sp_3, sp_4, sp_5, sp_6, sp_7, sp_8, sp_9, sp_10, sp_11, sp_12, sp_13, se_0, se_1, se_2, se_3, se_4, se_5, se_6, se_7, se_8, se_9, se_10, se_11, se_12, se_13, sem_0, sem_1, sem_2, sem_3, sem_4, sem_5, sr_249_14, sr_249_40, sr_249_61, sr_249_9, sr_249_42, sr_249_31, sr_249_25, sr_249_71, sr_249_57, sr_249_16, sr_249_22, sr_249_51, sr_249_64, sr_249_52, sr_249_67, sr_249_55, sr_249_17, sr_249_24, sr_249_35, sr_249_11, sr_249_54, sr_249_13, sr_249_10, sr_249_70, sr_249_58, sr_249_50, sr_249_23, sr_249_43, sr_249_8, sr_249_12, sr_249_34, sr_249_30, sr_249_2, kc_249, sr_249_63, sr_249_69, sr_249_68, sr_249_41, kl9_249, sr_249_15, kc_251, kl9_251, kl9_261, kc_261, List.getD_cons_zero, List.getD_cons_succ, Bool.false_eq_true, wrn3, wrn1, cpmS, cpok9]
  repeat' (first
    | (with_reducible exact True.intro)
    | (with_reducible rfl)
    | (with_reducible refine And.intro ?_ ?_)
    | intro _
    | (have z := hq; unfold kd at z; first | (rw [if_pos (by omega)] at z; exact z) | (rw [if_neg (by omega), ← w32_eq (v := a - m 249 3) (by omega) (by omega)] at z; exact z))
    | omega
    | (with_reducible contradiction)
    | (unfold w32; omega)
    | (simp (disch := omega) only [w32_eq]; omega)
    | (with_reducible show (_ : Int) ≤ _; simp [upm] <;> (first | omega | (unfold w32; omega)))
    | (with_reducible show (_ : Int) < _; simp [upm] <;> (first | omega | (unfold w32; omega))))
end
section
/-! two small facts -/
theorem nv_e {T T' : Int → Int} {L : Int} (hT : ∀ j, 0 ≤ j → j < L → T' j = T j) : ∀ (n : Nat) (v p : Int), 0 ≤ p → nv T' L n v p = nv T L n v p
  | 0, _, _, _ => rfl
  | n + 1, v, p, h => by
    by_cases q : p < L
    · have e := hT p h q
      by_cases z : dgt T L p
      · rw [nv_y n z, nv_y (T := T') n (by unfold dgt at z ⊢; rw [e]; exact z), e]
        exact nv_e hT n _ _ (by omega)
      · rw [nv_n (T := T) _ z, nv_n (T := T') _ (by unfold dgt at z ⊢; rw [e]; exact z)]
    · rw [nv_n (T := T') _ (fun z => q z.1), nv_n (T := T) _ (fun z => q z.1)]
theorem upm_f (m : Mem) (a j v b : Int) (h : b ≠ a) : upm m a j v b = m b := by funext y; exact upm_a _ _ _ _ _ _ h
end
section
/-! frames of one memory -/
def gC (l : Nat) (m : Mem) : Fg := (fun x j => frC l x j, m)
def gR (l : Nat) (m : Mem) : Fg := (fun x j => frR l x j, m)
def BC (tc : Int) (m : Mem) : Prop := (0 ≤ tc ∧ tc ≤ 80) ∧ ∀ a j, BdC tc a j (m a j)
def BR (tc pl : Int) (m : Mem) : Prop := ((0 ≤ tc ∧ tc ≤ 80) ∧ (1 ≤ pl ∧ pl ≤ 10) ∧ ∀ a j, BdR tc pl a j (m a j)) ∧ JS pl m
theorem BC_g {tc : Int} {m : Mem} (l : Nat) (h : BC tc m) : JC l (gC l m) tc m := ⟨⟨h.1, fun _ _ q => q⟩, fun _ _ _ => rfl, h.2⟩
theorem BR_g {tc pl : Int} {m : Mem} (l : Nat) (h : BR tc pl m) : JR l (gR l m) tc pl m := ⟨⟨⟨h.1.1, fun _ _ q => q⟩, h.1.2.1, fun _ _ _ => rfl, h.1.2.2⟩, h.2⟩
theorem BC_of {l : Nat} {g : Fg} {tc : Int} {m : Mem} (h : JC l g tc m) : BC tc m := ⟨h.1.1, h.2.2⟩
theorem BR_of {l : Nat} {g : Fg} {tc pl : Int} {m : Mem} (h : JR l g tc pl m) : BR tc pl m := ⟨⟨h.1.1.1, h.1.2.1, h.1.2.2.2⟩, h.2⟩
theorem FC_of {l : Nat} {tc : Int} {m m' : Mem} (h : JC l (gC l m) tc m') (x j : Int) (q : frC l x j) : m' x j = m x j := h.2.1 x j q
theorem FR_of {l : Nat} {tc pl : Int} {m m' : Mem} (h : JR l (gR l m) tc pl m') (x j : Int) (q : frR l x j) : m' x j = m x j := h.1.2.2.1 x j q
theorem BdC_out {tc a j v : Int} (h : 249 ≤ a) : BdC tc a j v := by
  unfold BdC
  repeat' (first | (rw [if_neg (by omega)]) | trivial)
theorem BdR_out {tc pl a j v : Int} (h : a < 249 ∨ 288 ≤ a) : BdR tc pl a j v := by
  unfold BdR
  repeat' (first | (rw [if_neg (by omega)]) | trivial)
theorem BC_tr {tc : Int} {m m' : Mem} (h : BC tc m) (e : ∀ x j, x < 249 → m' x j = m x j) : BC tc m' := by
  refine ⟨h.1, fun a j => ?_⟩
  by_cases ha : a < 249
  · rw [e a j ha]; exact h.2 a j
  · exact BdC_out (by omega)
theorem BR_tr {tc pl : Int} {m m' : Mem} (h : BR tc pl m) (e : ∀ x j, 249 ≤ x → x < 288 → m' x j = m x j) : BR tc pl m' := by
  have e5 : m' 265 = m 265 := by funext y; exact e 265 y (by decide) (by decide)
  refine ⟨⟨h.1.1, h.1.2.1, fun a j => ?_⟩, ?_, fun w h0 h1 => ?_, ?_⟩
  · by_cases ha : 249 ≤ a ∧ a < 288
    · rw [e a j ha.1 ha.2]; exact h.1.2.2 a j
    · exact BdR_out (by omega)
  · rw [e 249 3 (by decide) (by decide)]; exact h.2.1
  · rw [e 254 w (by decide) (by decide)]
    rw [e 249 4 (by decide) (by decide)] at h1
    exact h.2.2.1 w h0 h1
  · rw [e5, e 249 32 (by decide) (by decide)]; exact h.2.2.2
theorem JW_re {l l' : Nat} {g : Fg} {tc tc' pl W : Int} {N : Int → Int} {m m' : Mem} (hl : l ≤ l') (h : JR l g tc pl m) (h' : JW l' (gR l' m) tc' pl N W m') : JW l g tc' pl N W m' := by
  refine ⟨⟨⟨⟨h'.1.1.1.1, h.1.1.2⟩, h'.1.1.2.1, fun x j q => ?_, h'.1.1.2.2.2⟩, h'.1.2⟩, h'.2⟩
  rw [h'.1.1.2.2.1 x j (frR_le hl (h.1.1.2 x j q))]
  exact h.1.2.2.1 x j q
end
section
/-! THE KITCHEN's lines, read by one pure reading: how many places, ways, pots, people there are, and the places' kinds -/
abbrev KS : Type := Int × Int × Int × Int × (Int → Int)
def kup (f : Int → Int) (i v : Int) : Int → Int := fun j => if j = i then v else f j
def kcd (c : Int) : Int := if c = 102 then 0 else if c = 98 then 1 else 2
/-- what a line tells: a way, a pot, one of the people -/
def vW (f : Int → Int) (w a b s d : Int) : Int → Int := kup (kup (kup (kup f (100 + w) a) (120 + w) b) (140 + w) s) (160 + w) d
def vO (f : Int → Int) (q h l c : Int) : Int → Int := kup (kup (kup (kup f (200 + q) h) (210 + q) l) (220 + q) 0) (230 + q) c
def vH (f : Int → Int) (p b l : Int) : Int → Int := kup (kup (kup (kup (kup (kup (kup (kup f (300 + p) b) (310 + p) l) (320 + p) 0) (330 + p) 0) (340 + p) 0) (350 + p) 0) (360 + p) (-1)) (370 + p) 0
/-- the indices of what there is -/
def VI (a b c d j : Int) : Prop := (0 ≤ j ∧ j < a) ∨ (100 ≤ j ∧ j < 100 + b) ∨ (120 ≤ j ∧ j < 120 + b) ∨ (140 ≤ j ∧ j < 140 + b) ∨ (160 ≤ j ∧ j < 160 + b) ∨ (200 ≤ j ∧ j < 200 + c) ∨ (210 ≤ j ∧ j < 210 + c) ∨ (220 ≤ j ∧ j < 220 + c) ∨ (230 ≤ j ∧ j < 230 + c) ∨ (300 ≤ j ∧ j < 300 + d) ∨ (310 ≤ j ∧ j < 310 + d) ∨ (320 ≤ j ∧ j < 320 + d) ∨ (330 ≤ j ∧ j < 330 + d) ∨ (340 ≤ j ∧ j < 340 + d) ∨ (350 ≤ j ∧ j < 350 + d) ∨ (360 ≤ j ∧ j < 360 + d) ∨ (370 ≤ j ∧ j < 370 + d)
theorem VI_p {a b c d j : Int} (hj : VI (a + 1) b c d j) (z : ¬ j = a) : VI a b c d j := by
  unfold VI at hj ⊢
  rcases hj with q | q
  · exact Or.inl ⟨q.1, by omega⟩
  · exact Or.inr (q)
theorem VI_w {a b c d j : Int} (hj : VI a (b + 1) c d j) (z1 : ¬ j = 160 + b) (z2 : ¬ j = 140 + b) (z3 : ¬ j = 120 + b) (z4 : ¬ j = 100 + b) : VI a b c d j := by
  unfold VI at hj ⊢
  rcases hj with q | q | q | q | q | q
  · exact Or.inl q
  · exact Or.inr (Or.inl ⟨q.1, by omega⟩)
  · exact Or.inr (Or.inr (Or.inl ⟨q.1, by omega⟩))
  · exact Or.inr (Or.inr (Or.inr (Or.inl ⟨q.1, by omega⟩)))
  · exact Or.inr (Or.inr (Or.inr (Or.inr (Or.inl ⟨q.1, by omega⟩))))
  · exact Or.inr (Or.inr (Or.inr (Or.inr (Or.inr (q)))))
theorem VI_o {a b c d j : Int} (hj : VI a b (c + 1) d j) (z1 : ¬ j = 230 + c) (z2 : ¬ j = 220 + c) (z3 : ¬ j = 210 + c) (z4 : ¬ j = 200 + c) : VI a b c d j := by
  unfold VI at hj ⊢
  rcases hj with q | q | q | q | q | q | q | q | q | q
  · exact Or.inl q
  · exact Or.inr (Or.inl q)
  · exact Or.inr (Or.inr (Or.inl q))
  · exact Or.inr (Or.inr (Or.inr (Or.inl q)))
  · exact Or.inr (Or.inr (Or.inr (Or.inr (Or.inl q))))
  · exact Or.inr (Or.inr (Or.inr (Or.inr (Or.inr (Or.inl ⟨q.1, by omega⟩)))))
  · exact Or.inr (Or.inr (Or.inr (Or.inr (Or.inr (Or.inr (Or.inl ⟨q.1, by omega⟩))))))
  · exact Or.inr (Or.inr (Or.inr (Or.inr (Or.inr (Or.inr (Or.inr (Or.inl ⟨q.1, by omega⟩)))))))
  · exact Or.inr (Or.inr (Or.inr (Or.inr (Or.inr (Or.inr (Or.inr (Or.inr (Or.inl ⟨q.1, by omega⟩))))))))
  · exact Or.inr (Or.inr (Or.inr (Or.inr (Or.inr (Or.inr (Or.inr (Or.inr (Or.inr (q)))))))))
theorem VI_h {a b c d j : Int} (hj : VI a b c (d + 1) j) (z1 : ¬ j = 370 + d) (z2 : ¬ j = 360 + d) (z3 : ¬ j = 350 + d) (z4 : ¬ j = 340 + d) (z5 : ¬ j = 330 + d) (z6 : ¬ j = 320 + d) (z7 : ¬ j = 310 + d) (z8 : ¬ j = 300 + d) : VI a b c d j := by
  unfold VI at hj ⊢
  rcases hj with q | q | q | q | q | q | q | q | q | q | q | q | q | q | q | q | q
  · exact Or.inl q
  · exact Or.inr (Or.inl q)
  · exact Or.inr (Or.inr (Or.inl q))
  · exact Or.inr (Or.inr (Or.inr (Or.inl q)))
  · exact Or.inr (Or.inr (Or.inr (Or.inr (Or.inl q))))
  · exact Or.inr (Or.inr (Or.inr (Or.inr (Or.inr (Or.inl q)))))
  · exact Or.inr (Or.inr (Or.inr (Or.inr (Or.inr (Or.inr (Or.inl q))))))
  · exact Or.inr (Or.inr (Or.inr (Or.inr (Or.inr (Or.inr (Or.inr (Or.inl q)))))))
  · exact Or.inr (Or.inr (Or.inr (Or.inr (Or.inr (Or.inr (Or.inr (Or.inr (Or.inl q))))))))
  · exact Or.inr (Or.inr (Or.inr (Or.inr (Or.inr (Or.inr (Or.inr (Or.inr (Or.inr (Or.inl ⟨q.1, by omega⟩)))))))))
  · exact Or.inr (Or.inr (Or.inr (Or.inr (Or.inr (Or.inr (Or.inr (Or.inr (Or.inr (Or.inr (Or.inl ⟨q.1, by omega⟩))))))))))
  · exact Or.inr (Or.inr (Or.inr (Or.inr (Or.inr (Or.inr (Or.inr (Or.inr (Or.inr (Or.inr (Or.inr (Or.inl ⟨q.1, by omega⟩)))))))))))
  · exact Or.inr (Or.inr (Or.inr (Or.inr (Or.inr (Or.inr (Or.inr (Or.inr (Or.inr (Or.inr (Or.inr (Or.inr (Or.inl ⟨q.1, by omega⟩))))))))))))
  · exact Or.inr (Or.inr (Or.inr (Or.inr (Or.inr (Or.inr (Or.inr (Or.inr (Or.inr (Or.inr (Or.inr (Or.inr (Or.inr (Or.inl ⟨q.1, by omega⟩)))))))))))))
  · exact Or.inr (Or.inr (Or.inr (Or.inr (Or.inr (Or.inr (Or.inr (Or.inr (Or.inr (Or.inr (Or.inr (Or.inr (Or.inr (Or.inr (Or.inl ⟨q.1, by omega⟩))))))))))))))
  · exact Or.inr (Or.inr (Or.inr (Or.inr (Or.inr (Or.inr (Or.inr (Or.inr (Or.inr (Or.inr (Or.inr (Or.inr (Or.inr (Or.inr (Or.inr (Or.inl ⟨q.1, by omega⟩)))))))))))))))
  · exact Or.inr (Or.inr (Or.inr (Or.inr (Or.inr (Or.inr (Or.inr (Or.inr (Or.inr (Or.inr (Or.inr (Or.inr (Or.inr (Or.inr (Or.inr (Or.inr (⟨q.1, by omega⟩))))))))))))))))
theorem VI_mono {a b c d a1 b1 c1 d1 j : Int} (ha : a ≤ a1) (hb : b ≤ b1) (hc : c ≤ c1) (hd : d ≤ d1) (hj : VI a b c d j) : VI a1 b1 c1 d1 j := by
  unfold VI at hj ⊢
  rcases hj with q | q | q | q | q | q | q | q | q | q | q | q | q | q | q | q | q
  · exact Or.inl ⟨q.1, by omega⟩
  · exact Or.inr (Or.inl ⟨q.1, by omega⟩)
  · exact Or.inr (Or.inr (Or.inl ⟨q.1, by omega⟩))
  · exact Or.inr (Or.inr (Or.inr (Or.inl ⟨q.1, by omega⟩)))
  · exact Or.inr (Or.inr (Or.inr (Or.inr (Or.inl ⟨q.1, by omega⟩))))
  · exact Or.inr (Or.inr (Or.inr (Or.inr (Or.inr (Or.inl ⟨q.1, by omega⟩)))))
  · exact Or.inr (Or.inr (Or.inr (Or.inr (Or.inr (Or.inr (Or.inl ⟨q.1, by omega⟩))))))
  · exact Or.inr (Or.inr (Or.inr (Or.inr (Or.inr (Or.inr (Or.inr (Or.inl ⟨q.1, by omega⟩)))))))
  · exact Or.inr (Or.inr (Or.inr (Or.inr (Or.inr (Or.inr (Or.inr (Or.inr (Or.inl ⟨q.1, by omega⟩))))))))
  · exact Or.inr (Or.inr (Or.inr (Or.inr (Or.inr (Or.inr (Or.inr (Or.inr (Or.inr (Or.inl ⟨q.1, by omega⟩)))))))))
  · exact Or.inr (Or.inr (Or.inr (Or.inr (Or.inr (Or.inr (Or.inr (Or.inr (Or.inr (Or.inr (Or.inl ⟨q.1, by omega⟩))))))))))
  · exact Or.inr (Or.inr (Or.inr (Or.inr (Or.inr (Or.inr (Or.inr (Or.inr (Or.inr (Or.inr (Or.inr (Or.inl ⟨q.1, by omega⟩)))))))))))
  · exact Or.inr (Or.inr (Or.inr (Or.inr (Or.inr (Or.inr (Or.inr (Or.inr (Or.inr (Or.inr (Or.inr (Or.inr (Or.inl ⟨q.1, by omega⟩))))))))))))
  · exact Or.inr (Or.inr (Or.inr (Or.inr (Or.inr (Or.inr (Or.inr (Or.inr (Or.inr (Or.inr (Or.inr (Or.inr (Or.inr (Or.inl ⟨q.1, by omega⟩)))))))))))))
  · exact Or.inr (Or.inr (Or.inr (Or.inr (Or.inr (Or.inr (Or.inr (Or.inr (Or.inr (Or.inr (Or.inr (Or.inr (Or.inr (Or.inr (Or.inl ⟨q.1, by omega⟩))))))))))))))
  · exact Or.inr (Or.inr (Or.inr (Or.inr (Or.inr (Or.inr (Or.inr (Or.inr (Or.inr (Or.inr (Or.inr (Or.inr (Or.inr (Or.inr (Or.inr (Or.inl ⟨q.1, by omega⟩)))))))))))))))
  · exact Or.inr (Or.inr (Or.inr (Or.inr (Or.inr (Or.inr (Or.inr (Or.inr (Or.inr (Or.inr (Or.inr (Or.inr (Or.inr (Or.inr (Or.inr (Or.inr (⟨q.1, by omega⟩))))))))))))))))
def KVL (a b c d : Int) (f' f : Int → Int) : Prop := ∀ j, VI a b c d j → f' j = f j
theorem KVL_p {a b c d v : Int} {f' f : Int → Int} (h : KVL a b c d f' f) : KVL (a + 1) b c d (kup f' a v) (kup f a v) := fun j hj => by
  unfold kup
  by_cases z : j = a
  · rw [if_pos z, if_pos z]
  · rw [if_neg z, if_neg z]; exact h j (VI_p hj z)
theorem vW_e {a b c d x y z u : Int} {f' f : Int → Int} (h : KVL a b c d f' f) : KVL a (b + 1) c d (vW f' b x y z u) (vW f b x y z u) := fun j hj => by
  unfold vW kup
  by_cases z1 : j = 160 + b
  · rw [if_pos z1, if_pos z1]
  by_cases z2 : j = 140 + b
  · rw [if_neg z1, if_neg z1, if_pos z2, if_pos z2]
  by_cases z3 : j = 120 + b
  · rw [if_neg z1, if_neg z1, if_neg z2, if_neg z2, if_pos z3, if_pos z3]
  by_cases z4 : j = 100 + b
  · rw [if_neg z1, if_neg z1, if_neg z2, if_neg z2, if_neg z3, if_neg z3, if_pos z4, if_pos z4]
  · rw [if_neg z1, if_neg z1, if_neg z2, if_neg z2, if_neg z3, if_neg z3, if_neg z4, if_neg z4]; exact h j (VI_w hj z1 z2 z3 z4)
theorem vO_e {a b c d x y z : Int} {f' f : Int → Int} (h : KVL a b c d f' f) : KVL a b (c + 1) d (vO f' c x y z) (vO f c x y z) := fun j hj => by
  unfold vO kup
  by_cases z1 : j = 230 + c
  · rw [if_pos z1, if_pos z1]
  by_cases z2 : j = 220 + c
  · rw [if_neg z1, if_neg z1, if_pos z2, if_pos z2]
  by_cases z3 : j = 210 + c
  · rw [if_neg z1, if_neg z1, if_neg z2, if_neg z2, if_pos z3, if_pos z3]
  by_cases z4 : j = 200 + c
  · rw [if_neg z1, if_neg z1, if_neg z2, if_neg z2, if_neg z3, if_neg z3, if_pos z4, if_pos z4]
  · rw [if_neg z1, if_neg z1, if_neg z2, if_neg z2, if_neg z3, if_neg z3, if_neg z4, if_neg z4]; exact h j (VI_o hj z1 z2 z3 z4)
theorem vH_e {a b c d x y : Int} {f' f : Int → Int} (h : KVL a b c d f' f) : KVL a b c (d + 1) (vH f' d x y) (vH f d x y) := fun j hj => by
  unfold vH kup
  by_cases z1 : j = 370 + d
  · rw [if_pos z1, if_pos z1]
  rw [if_neg z1, if_neg z1]
  by_cases z2 : j = 360 + d
  · rw [if_pos z2, if_pos z2]
  rw [if_neg z2, if_neg z2]
  by_cases z3 : j = 350 + d
  · rw [if_pos z3, if_pos z3]
  rw [if_neg z3, if_neg z3]
  by_cases z4 : j = 340 + d
  · rw [if_pos z4, if_pos z4]
  rw [if_neg z4, if_neg z4]
  by_cases z5 : j = 330 + d
  · rw [if_pos z5, if_pos z5]
  rw [if_neg z5, if_neg z5]
  by_cases z6 : j = 320 + d
  · rw [if_pos z6, if_pos z6]
  rw [if_neg z6, if_neg z6]
  by_cases z7 : j = 310 + d
  · rw [if_pos z7, if_pos z7]
  rw [if_neg z7, if_neg z7]
  by_cases z8 : j = 300 + d
  · rw [if_pos z8, if_pos z8]
  rw [if_neg z8, if_neg z8]
  exact h j (VI_h hj z1 z2 z3 z4 z5 z6 z7 z8)
def lkW (T : Int → Int) (L : Int) (s : KS) (p : Int) : Option (KS × Int) :=
  if s.2.1 < 14 ∧ let1 T L s.1 (p + 1) ∧ let1 T L s.1 (p + 1 + 1) ∧ T (p + 1 + 1) ≠ T (p + 1) ∧ p + 1 + 1 + 1 < L ∧ 49 ≤ T (p + 1 + 1 + 1) ∧ T (p + 1 + 1 + 1) ≤ 57 then some ((s.1, s.2.1 + 1, s.2.2.1, s.2.2.2.1, vW s.2.2.2.2 s.2.1 (T (p + 1) - 97) (T (p + 1 + 1) - 97) (T (p + 1 + 1 + 1) - 48) (if p + 1 + 1 + 1 + 1 < L ∧ T (p + 1 + 1 + 1 + 1) = 33 then 1 else 0)), if p + 1 + 1 + 1 + 1 < L ∧ T (p + 1 + 1 + 1 + 1) = 33 then p + 1 + 1 + 1 + 1 + 1 else p + 1 + 1 + 1 + 1) else none
def lkO (T : Int → Int) (L : Int) (s : KS) (p : Int) (q : Int × Int) : Option (KS × Int) :=
  if s.2.2.1 < 5 ∧ dgt T L (p + 1) ∧ q.2 < L ∧ T q.2 = 45 ∧ dgt T L (q.2 + 1) ∧ q.2 + 1 + 1 < L ∧ T (q.2 + 1 + 1) = 64 ∧ let1 T L s.1 (q.2 + 1 + 1 + 1) ∧ s.2.2.2.2 (T (q.2 + 1 + 1 + 1) - 97) ≠ 0 then some ((s.1, s.2.1, s.2.2.1 + 1, s.2.2.2.1, vO s.2.2.2.2 s.2.2.1 q.1 (T (q.2 + 1 + 1 + 1) - 97) (T (q.2 + 1) - 48)), q.2 + 1 + 1 + 1 + 1) else none
def lkH (T : Int → Int) (L : Int) (s : KS) (p : Int) (q : Int × Int) : Option (KS × Int) :=
  if s.2.2.2.1 < 5 ∧ dgt T L (p + 1) ∧ q.1 ≠ 0 ∧ q.2 < L ∧ T q.2 = 64 ∧ let1 T L s.1 (q.2 + 1) then some ((s.1, s.2.1, s.2.2.1, s.2.2.2.1 + 1, vH s.2.2.2.2 s.2.2.2.1 q.1 (T (q.2 + 1) - 97)), q.2 + 1 + 1) else none
def lk (T : Int → Int) (L : Int) (s : KS) (p : Int) : Option (KS × Int) :=
  if p < L ∧ (T p = 102 ∨ T p = 98 ∨ T p = 116) then (if s.1 < 10 then some ((s.1 + 1, s.2.1, s.2.2.1, s.2.2.2.1, kup s.2.2.2.2 s.1 (kcd (T p))), p + 1) else none)
  else if p < L ∧ T p = 119 then lkW T L s p
  else if p < L ∧ T p = 112 then lkO T L s p (nv T L 3 0 (p + 1))
  else if p < L ∧ T p = 104 then lkH T L s p (nv T L 2 0 (p + 1))
  else none
theorem lk_p {T : Int → Int} {L : Int} {s : KS} {p : Int} (h : p < L ∧ (T p = 102 ∨ T p = 98 ∨ T p = 116)) : lk T L s p = if s.1 < 10 then some ((s.1 + 1, s.2.1, s.2.2.1, s.2.2.2.1, kup s.2.2.2.2 s.1 (kcd (T p))), p + 1) else none := by unfold lk; rw [if_pos h]
theorem lk_w {T : Int → Int} {L : Int} {s : KS} {p : Int} (h : p < L ∧ T p = 119) : lk T L s p = lkW T L s p := by unfold lk; rw [if_neg (by omega), if_pos h]
theorem lk_o {T : Int → Int} {L : Int} {s : KS} {p : Int} (h : p < L ∧ T p = 112) : lk T L s p = lkO T L s p (nv T L 3 0 (p + 1)) := by unfold lk; rw [if_neg (by omega), if_neg (by omega), if_pos h]
theorem lk_h {T : Int → Int} {L : Int} {s : KS} {p : Int} (h : p < L ∧ T p = 104) : lk T L s p = lkH T L s p (nv T L 2 0 (p + 1)) := by unfold lk; rw [if_neg (by omega), if_neg (by omega), if_neg (by omega), if_pos h]
theorem lk_n {T : Int → Int} {L : Int} {s : KS} {p : Int} (h : ¬ (p < L ∧ (T p = 102 ∨ T p = 98 ∨ T p = 116 ∨ T p = 119 ∨ T p = 112 ∨ T p = 104))) : lk T L s p = none := by unfold lk; rw [if_neg (by omega), if_neg (by omega), if_neg (by omega), if_neg (by omega)]
/-- lines, till no sign that parts them comes -/
def lks (T : Int → Int) (L : Int) : Nat → KS → Int → Option (KS × Int)
  | 0, _, _ => none
  | n + 1, s, p => match lk T L s p with
    | none => none
    | some (s', p') => if p' < L ∧ T p' = 59 then lks T L n s' (p' + 1) else some (s', p')
theorem lks_s (T : Int → Int) (L : Int) (n : Nat) (s : KS) (p : Int) : lks T L (n + 1) s p = match lk T L s p with
    | none => none
    | some (s', p') => if p' < L ∧ T p' = 59 then lks T L n s' (p' + 1) else some (s', p') := rfl
theorem lks_n {T : Int → Int} {L : Int} (n : Nat) {s : KS} {p : Int} (h : lk T L s p = none) : lks T L (n + 1) s p = none := by rw [lks_s, h]
theorem lks_y {T : Int → Int} {L : Int} (n : Nat) {s s' : KS} {p p' : Int} (h : lk T L s p = some (s', p')) (h2 : p' < L ∧ T p' = 59) : lks T L (n + 1) s p = lks T L n s' (p' + 1) := by rw [lks_s, h]; exact if_pos h2
theorem lks_x {T : Int → Int} {L : Int} (n : Nat) {s s' : KS} {p p' : Int} (h : lk T L s p = some (s', p')) (h2 : ¬ (p' < L ∧ T p' = 59)) : lks T L (n + 1) s p = some (s', p') := by rw [lks_s, h]; exact if_neg h2
def kit (T : Int → Int) (tc : Int) (s : KS) : Option KS := match lks T (min tc 76) 81 s 0 with
  | none => none
  | some (s', p) => if p = min tc 76 ∧ tc ≤ 76 then some s' else none
theorem kit_n {T : Int → Int} {tc : Int} {s : KS} (h : lks T (min tc 76) 81 s 0 = none) : kit T tc s = none := by unfold kit; rw [h]
theorem kit_y {T : Int → Int} {tc : Int} {s s' : KS} {p : Int} (h : lks T (min tc 76) 81 s 0 = some (s', p)) (h2 : p = min tc 76 ∧ tc ≤ 76) : kit T tc s = some s' := by unfold kit; rw [h]; exact if_pos h2
theorem kit_x {T : Int → Int} {tc : Int} {s s' : KS} {p : Int} (h : lks T (min tc 76) 81 s 0 = some (s', p)) (h2 : ¬ (p = min tc 76 ∧ tc ≤ 76)) : kit T tc s = none := by unfold kit; rw [h]; exact if_neg h2
/-- two tellings of a kitchen are alike -/
def KE (s s' : KS) : Prop := s'.1 = s.1 ∧ s'.2.1 = s.2.1 ∧ s'.2.2.1 = s.2.2.1 ∧ s'.2.2.2.1 = s.2.2.2.1 ∧ KVL s.1 s.2.1 s.2.2.1 s.2.2.2.1 s'.2.2.2.2 s.2.2.2.2
def OE : Option (KS × Int) → Option (KS × Int) → Prop
  | some (s, p), some (s', p') => KE s s' ∧ p' = p
  | none, none => True
  | _, _ => False
theorem OE_if {c c' : Prop} [Decidable c] [Decidable c'] {s s' : KS} {p p' : Int} (h : c ↔ c') (hy : c → KE s s' ∧ p' = p) : OE (if c then some (s, p) else none) (if c' then some (s', p') else none) := by
  by_cases q : c
  · rw [if_pos q, if_pos (h.1 q)]; exact hy q
  · rw [if_neg q, if_neg (fun z => q (h.2 z))]; trivial
theorem lkW_e {T T' : Int → Int} {L p : Int} {s s' : KS} (hT : ∀ j, 0 ≤ j → j < L → T' j = T j) (hs : KE s s') (h0 : 0 ≤ p) : OE (lkW T L s p) (lkW T' L s' p) := by
  obtain ⟨e1, e2, e3, e4, e5⟩ := hs
  have a1 := hT (p + 1) (by omega); have a2 := hT (p + 1 + 1) (by omega); have a3 := hT (p + 1 + 1 + 1) (by omega); have a4 := hT (p + 1 + 1 + 1 + 1) (by omega)
  have hd : (p + 1 + 1 + 1 + 1 < L ∧ T' (p + 1 + 1 + 1 + 1) = 33) ↔ (p + 1 + 1 + 1 + 1 < L ∧ T (p + 1 + 1 + 1 + 1) = 33) := by
    by_cases z : p + 1 + 1 + 1 + 1 < L
    · rw [a4 z]
    · constructor <;> (intro w; exact absurd w.1 z)
  unfold lkW let1
  rw [e1, e2]
  simp only [hd]
  refine OE_if ?_ (fun q => ⟨⟨rfl, rfl, e3, e4, ?_⟩, rfl⟩)
  · by_cases q : p + 1 + 1 + 1 < L
    · rw [a1 (by omega), a2 (by omega), a3 q]
    · constructor <;> (rintro ⟨_, _, _, _, z, _⟩; exact absurd z q)
  · have q5 : p + 1 + 1 + 1 < L := q.2.2.2.2.1
    dsimp only
    rw [a1 (by omega), a2 (by omega), a3 q5]
    exact vW_e e5
theorem lkO_e {T T' : Int → Int} {L p : Int} {q : Int × Int} {s s' : KS} (hT : ∀ j, 0 ≤ j → j < L → T' j = T j) (hs : KE s s') (h0 : 0 ≤ p) (hq : p ≤ q.2) : OE (lkO T L s p q) (lkO T' L s' p q) := by
  obtain ⟨e1, e2, e3, e4, e5⟩ := hs
  have a1 := hT (p + 1) (by omega); have a2 := hT q.2 (by omega); have a3 := hT (q.2 + 1) (by omega); have a4 := hT (q.2 + 1 + 1) (by omega); have a5 := hT (q.2 + 1 + 1 + 1) (by omega)
  unfold lkO let1 dgt
  rw [e1, e3]
  refine OE_if ?_ (fun w => ⟨⟨rfl, e2, rfl, e4, ?_⟩, rfl⟩)
  · by_cases z : p + 1 < L ∧ q.2 + 1 + 1 + 1 < L
    · rw [a1 z.1, a2 (by omega), a3 (by omega), a4 (by omega), a5 z.2]
      constructor
      · rintro ⟨b1, b2, b3, b4, b5, b6, b7, ⟨b8, b9, b10⟩, b11⟩
        exact ⟨b1, b2, b3, b4, b5, b6, b7, ⟨b8, b9, b10⟩, by rw [e5 _ (Or.inl ⟨by omega, by omega⟩)]; exact b11⟩
      · rintro ⟨b1, b2, b3, b4, b5, b6, b7, ⟨b8, b9, b10⟩, b11⟩
        exact ⟨b1, b2, b3, b4, b5, b6, b7, ⟨b8, b9, b10⟩, by rw [e5 _ (Or.inl ⟨by omega, by omega⟩)] at b11; exact b11⟩
    · constructor <;> (rintro ⟨_, ⟨w1, _⟩, _, _, _, _, _, ⟨w2, _⟩, _⟩; exact absurd ⟨w1, w2⟩ z)
  · obtain ⟨-, -, -, -, -, -, -, ⟨w8, -⟩, -⟩ := w
    dsimp only
    rw [a3 (by omega), a5 w8]
    exact vO_e e5
theorem lkH_e {T T' : Int → Int} {L p : Int} {q : Int × Int} {s s' : KS} (hT : ∀ j, 0 ≤ j → j < L → T' j = T j) (hs : KE s s') (h0 : 0 ≤ p) (hq : p ≤ q.2) : OE (lkH T L s p q) (lkH T' L s' p q) := by
  obtain ⟨e1, e2, e3, e4, e5⟩ := hs
  have a1 := hT (p + 1) (by omega); have a2 := hT q.2 (by omega); have a3 := hT (q.2 + 1) (by omega)
  unfold lkH let1 dgt
  rw [e1, e4]
  refine OE_if ?_ (fun w => ⟨⟨rfl, e2, e3, rfl, ?_⟩, rfl⟩)
  · by_cases z : p + 1 < L ∧ q.2 + 1 < L
    · rw [a1 z.1, a2 (by omega), a3 z.2]
    · constructor <;> (rintro ⟨_, ⟨w1, _⟩, _, _, _, w2, _⟩; exact absurd ⟨w1, w2⟩ z)
  · obtain ⟨-, -, -, -, -, w6, -⟩ := w
    dsimp only
    rw [a3 w6]
    exact vH_e e5
theorem lk_e {T T' : Int → Int} {L p : Int} {s s' : KS} (hT : ∀ j, 0 ≤ j → j < L → T' j = T j) (hs : KE s s') (h0 : 0 ≤ p) : OE (lk T L s p) (lk T' L s' p) := by
  by_cases hp : p < L
  · have e := hT p h0 hp
    by_cases c1 : T p = 102 ∨ T p = 98 ∨ T p = 116
    · rw [lk_p ⟨hp, c1⟩, lk_p (T := T') ⟨hp, by rw [e]; exact c1⟩, e, hs.1]
      exact OE_if Iff.rfl (fun q => ⟨⟨rfl, hs.2.1, hs.2.2.1, hs.2.2.2.1, KVL_p hs.2.2.2.2⟩, rfl⟩)
    by_cases c2 : T p = 119
    · rw [lk_w ⟨hp, c2⟩, lk_w (T := T') ⟨hp, by rw [e]; exact c2⟩]; exact lkW_e hT hs h0
    by_cases c3 : T p = 112
    · rw [lk_o ⟨hp, c3⟩, lk_o (T := T') ⟨hp, by rw [e]; exact c3⟩, nv_e hT _ _ _ (by omega)]
      exact lkO_e hT hs h0 (by have := (nv_r (T := T) (L := L) 3 0 (p + 1) (by decide)).1; omega)
    by_cases c4 : T p = 104
    · rw [lk_h ⟨hp, c4⟩, lk_h (T := T') ⟨hp, by rw [e]; exact c4⟩, nv_e hT _ _ _ (by omega)]
      exact lkH_e hT hs h0 (by have := (nv_r (T := T) (L := L) 2 0 (p + 1) (by decide)).1; omega)
    rw [lk_n (fun z => by omega), lk_n (T := T') (fun z => by rw [e] at z; omega)]; trivial
  · rw [lk_n (fun z => hp z.1), lk_n (T := T') (fun z => hp z.1)]; trivial
theorem lk_r {T : Int → Int} {L p p' : Int} {s s' : KS} (h : lk T L s p = some (s', p')) : p < p' := by
  have a3 := (nv_r (T := T) (L := L) 3 0 (p + 1) (by decide)).1
  have a2 := (nv_r (T := T) (L := L) 2 0 (p + 1) (by decide)).1
  unfold lk lkW lkO lkH at h
  repeat' split at h
  all_goals (first | (injection h; done) | (injection h with h; injection h with h1 h2; first | omega | (split at h2 <;> omega)))
theorem lks_e {T T' : Int → Int} {L : Int} (hT : ∀ j, 0 ≤ j → j < L → T' j = T j) : ∀ (n : Nat) (s s' : KS) (p : Int), KE s s' → 0 ≤ p → OE (lks T L n s p) (lks T' L n s' p)
  | 0, _, _, _, _, _ => trivial
  | n + 1, s, s', p, hs, h0 => by
    have h := lk_e (p := p) hT hs h0
    have hr := @lk_r T L p
    generalize hA : lk T L s p = A at h
    generalize hB : lk T' L s' p = B at h
    match A, B, h with
    | none, none, _ => rw [lks_n n hA, lks_n n hB]; trivial
    | some (s1, p1), some (s2, p2), ⟨h1, h2⟩ =>
      subst h2
      have hp := hr hA
      by_cases z : p2 < L ∧ T p2 = 59
      · rw [lks_y n hA z, lks_y n hB ⟨z.1, by rw [hT p2 (by omega) z.1]; exact z.2⟩]
        exact lks_e hT n _ _ _ h1 (by omega)
      · rw [lks_x n hA z, lks_x n hB (fun w => z ⟨w.1, by rw [← hT p2 (by omega) w.1]; exact w.2⟩)]
        exact ⟨h1, rfl⟩
theorem kit_e {T T' : Int → Int} {tc : Int} {s s' : KS} (hT : ∀ j, 0 ≤ j → j < tc → T' j = T j) (hs : KE s s') : (kit T tc s = none ∧ kit T' tc s' = none) ∨ ∃ r r', kit T tc s = some r ∧ kit T' tc s' = some r' ∧ KE r r' := by
  have h := lks_e (L := min tc 76) (fun j h0 h1 => hT j h0 (by omega)) 81 s s' 0 hs (by decide)
  generalize hA : lks T (min tc 76) 81 s 0 = A at h
  generalize hB : lks T' (min tc 76) 81 s' 0 = B at h
  match A, B, h with
  | none, none, _ => exact Or.inl ⟨kit_n hA, kit_n hB⟩
  | some (s1, p1), some (s2, p2), ⟨h1, h2⟩ =>
    subst h2
    by_cases z : p2 = min tc 76 ∧ tc ≤ 76
    · exact Or.inr ⟨_, _, kit_y hA z, kit_y hB z, h1⟩
    · exact Or.inl ⟨kit_x hA z, kit_x hB z⟩
theorem KE_tr {a b c : KS} (h : KE a b) (h2 : KE b c) : KE a c := ⟨h2.1.trans h.1, h2.2.1.trans h.2.1, h2.2.2.1.trans h.2.2.1, h2.2.2.2.1.trans h.2.2.2.1, fun j hj => (h2.2.2.2.2 j (by rw [h.1, h.2.1, h.2.2.1, h.2.2.2.1]; exact hj)).trans (h.2.2.2.2 j hj)⟩
theorem fbt_i {v c : Int} (h0 : 0 ≤ v) (h1 : v < 3) (h : chS (-1 - ((1 : Nat) : Int)) v = c) : kcd c = v := by
  have : v = 0 ∨ v = 1 ∨ v = 2 := by omega
  rcases this with rfl | rfl | rfl <;> (rw [← h]; decide)
theorem fbt_n {c : Int} (hc : c = 102 ∨ c = 98 ∨ c = 116) (h : ∀ j, 0 ≤ j → j < 3 → chS (-1 - ((1 : Nat) : Int)) j ≠ c) : False := by
  rcases hc with rfl | rfl | rfl
  · exact h 0 (by decide) (by decide) (by decide)
  · exact h 1 (by decide) (by decide) (by decide)
  · exact h 2 (by decide) (by decide) (by decide)
theorem dig_i {v c : Int} (h0 : 0 ≤ v) (h1 : v < 9) (h : chS (-1 - ((2 : Nat) : Int)) v = c) : c = 49 + v := by
  have : v = 0 ∨ v = 1 ∨ v = 2 ∨ v = 3 ∨ v = 4 ∨ v = 5 ∨ v = 6 ∨ v = 7 ∨ v = 8 := by omega
  rcases this with rfl | rfl | rfl | rfl | rfl | rfl | rfl | rfl | rfl <;> (rw [← h]; decide)
theorem dig_n {c : Int} (h : ∀ j, 0 ≤ j → j < 9 → chS (-1 - ((2 : Nat) : Int)) j ≠ c) : ¬ (49 ≤ c ∧ c ≤ 57) := by
  rintro ⟨h0, h1⟩
  refine h (c - 49) (by omega) (by omega) ?_
  have : c = 49 ∨ c = 50 ∨ c = 51 ∨ c = 52 ∨ c = 53 ∨ c = 54 ∨ c = 55 ∨ c = 56 ∨ c = 57 := by omega
  rcases this with rfl | rfl | rfl | rfl | rfl | rfl | rfl | rfl | rfl <;> decide
end
section
/-! the component's lines, by the pure reading -/
/-- all that THE KITCHEN tells, in one function (the component's) -/
def kvC (m : Mem) : Int → Int := fun j =>
  if j < 100 then m 9 j else if j < 120 then m 10 (j - 100) else if j < 140 then m 11 (j - 120) else if j < 160 then m 12 (j - 140)
  else if j < 200 then (if j < 174 then iand (ishr (m 8 8) (j - 160)) 1 else 0)
  else if j < 210 then m 16 (j - 200) else if j < 220 then m 17 (j - 210)
  else if j < 230 then (if j < 225 then iand (ishr (m 15 3) (j - 220)) 1 else 0)
  else if j < 300 then m 13 (j - 230) else if j < 310 then m 14 (j - 300) else if j < 320 then m 19 (j - 310)
  else if j < 330 then m 20 (2 * (j - 320)) else if j < 340 then m 20 (2 * (j - 330) + 1)
  else if j < 350 then m 21 (j - 340) else if j < 360 then m 22 (j - 350) else if j < 370 then m 23 (j - 360) else m 24 (j - 370)
theorem kvC_e {m m' : Mem} (e8 : m' 8 8 = m 8 8) (e15 : m' 15 3 = m 15 3) (e : ∀ x, (9 ≤ x ∧ x ≤ 14) ∨ (16 ≤ x ∧ x ≤ 24 ∧ x ≠ 18) → m' x = m x) : kvC m' = kvC m := by
  unfold kvC
  rw [e8, e15, e 9 (by omega), e 10 (by omega), e 11 (by omega), e 12 (by omega), e 13 (by omega), e 14 (by omega), e 16 (by omega), e 17 (by omega), e 19 (by omega), e 20 (by omega), e 21 (by omega), e 22 (by omega), e 23 (by omega), e 24 (by omega)]
theorem bit_set {d w j x b : Int} (hw : 0 ≤ w ∧ w < 32) (hj : 0 ≤ j ∧ j < 32) (hx : x = ishl 1 w ∧ b = 1 ∨ x = 0 ∧ b = 0) : iand (ishr (ior (iand d (ixor (ishl 1 w) (-1))) x) j) 1 = if j = w then b else iand (ishr d j) 1 := by
  obtain ⟨n, rfl⟩ : ∃ n : Nat, w = n := ⟨w.toNat, by omega⟩
  obtain ⟨i, rfl⟩ : ∃ n : Nat, j = n := ⟨j.toNat, by omega⟩
  rw [bit_ask (by omega), bit_ask (by omega), tb_or, tb_and, tb_xor, tb_bit (by omega) (by omega), tb_m1 (by omega)]
  have hxb : tb x i = (if b = 1 then decide (i = n) else false) := by
    rcases hx with ⟨rfl, rfl⟩ | ⟨rfl, rfl⟩
    · rw [tb_bit (by omega) (by omega)]; simp
    · rw [tb_0]; simp
  rw [hxb]
  by_cases h : i = n
  · subst h
    rw [if_pos rfl]
    rcases hx with ⟨-, rfl⟩ | ⟨-, rfl⟩ <;> simp
  · rw [if_neg (show ¬ ((i : Int) = n) by omega)]
    simp [h]
theorem bit_clr {d w j : Int} (hw : 0 ≤ w ∧ w < 32) (hj : 0 ≤ j ∧ j < 32) : iand (ishr (iand d (ixor (ishl 1 w) (-1))) j) 1 = if j = w then 0 else iand (ishr d j) 1 := by
  obtain ⟨n, rfl⟩ : ∃ n : Nat, w = n := ⟨w.toNat, by omega⟩
  obtain ⟨i, rfl⟩ : ∃ n : Nat, j = n := ⟨j.toNat, by omega⟩
  rw [bit_ask (by omega), bit_ask (by omega), tb_and, tb_xor, tb_bit (by omega) (by omega), tb_m1 (by omega)]
  by_cases h : i = n
  · subst h; simp
  · rw [if_neg (show ¬ ((i : Int) = n) by omega)]
    simp [h]
theorem kvC_P (m : Mem) {i v x : Int} (hi : 0 ≤ i ∧ i < 10) : kvC (upm (upm m 9 i v) 8 0 x) = kup (kvC m) i v := by
  funext j
  unfold kvC kup
  simp only [upm_app, Int.reduceEq, and_true, true_and, and_false, false_and, if_false]
  by_cases h : j = i
  · rw [if_pos h, if_pos (by omega), if_pos h]
  · rw [if_neg h, if_neg h]
theorem kvC_W (m : Mem) {w a b l dd oo x u y : Int} (hw : 0 ≤ w ∧ w < 14) (hd : dd = ior (iand (m 8 8) (ixor (ishl 1 w) (-1))) y) (hy : y = ishl 1 w ∧ u = 1 ∨ y = 0 ∧ u = 0) : kvC (upm (upm (upm (upm (upm (upm m 10 w a) 11 w b) 12 w l) 8 8 dd) 15 10 oo) 8 1 x) = vW (kvC m) w a b l u := by
  subst hd
  funext j
  unfold kvC vW kup
  simp only [upm_app, Int.reduceEq, and_true, true_and, and_false, false_and, if_true, if_false]
  by_cases h1 : j < 100
  · rw [if_pos h1, if_pos h1, if_neg (by omega), if_neg (by omega), if_neg (by omega), if_neg (by omega)]
  rw [if_neg h1, if_neg h1]
  by_cases h2 : j < 120
  · rw [if_pos h2, if_pos h2, if_neg (show ¬ j = 160 + w by omega), if_neg (show ¬ j = 140 + w by omega), if_neg (show ¬ j = 120 + w by omega)]
    by_cases z : j = 100 + w
    · rw [if_pos (by omega), if_pos z]
    · rw [if_neg (by omega), if_neg z]
  rw [if_neg h2, if_neg h2]
  by_cases h3 : j < 140
  · rw [if_pos h3, if_pos h3, if_neg (show ¬ j = 160 + w by omega), if_neg (show ¬ j = 140 + w by omega), if_neg (show ¬ j = 100 + w by omega)]
    by_cases z : j = 120 + w
    · rw [if_pos (by omega), if_pos z]
    · rw [if_neg (by omega), if_neg z]
  rw [if_neg h3, if_neg h3]
  by_cases h4 : j < 160
  · rw [if_pos h4, if_pos h4, if_neg (show ¬ j = 160 + w by omega), if_neg (show ¬ j = 120 + w by omega), if_neg (show ¬ j = 100 + w by omega)]
    by_cases z : j = 140 + w
    · rw [if_pos (by omega), if_pos z]
    · rw [if_neg (by omega), if_neg z]
  rw [if_neg h4, if_neg h4]
  by_cases h5 : j < 200
  · rw [if_pos h5, if_pos h5, if_neg (show ¬ j = 140 + w by omega), if_neg (show ¬ j = 120 + w by omega), if_neg (show ¬ j = 100 + w by omega)]
    by_cases h6 : j < 174
    · rw [if_pos h6, if_pos h6, bit_set ⟨hw.1, by omega⟩ ⟨by omega, by omega⟩ hy]
      by_cases z : j = 160 + w
      · rw [if_pos (by omega), if_pos z]
      · rw [if_neg (by omega), if_neg z]
    · rw [if_neg h6, if_neg h6, if_neg (by omega)]
  rw [if_neg h5, if_neg h5, if_neg (show ¬ j = 160 + w by omega), if_neg (show ¬ j = 140 + w by omega), if_neg (show ¬ j = 120 + w by omega), if_neg (show ¬ j = 100 + w by omega)]
theorem kvC_O (m : Mem) {q h l c dd x : Int} (hq : 0 ≤ q ∧ q < 5) (hd : dd = iand (m 15 3) (ixor (ishl 1 q) (-1))) : kvC (upm (upm (upm (upm (upm (upm m 13 q c) 16 q h) 17 q l) 18 q (-1)) 15 3 dd) 8 2 x) = vO (kvC m) q h l c := by
  subst hd
  funext j
  unfold kvC vO kup
  simp only [upm_app, Int.reduceEq, and_true, true_and, and_false, false_and, if_true, if_false]
  by_cases h5 : j < 200
  · rw [if_neg (show ¬ j = 230 + q by omega), if_neg (show ¬ j = 220 + q by omega), if_neg (show ¬ j = 210 + q by omega), if_neg (show ¬ j = 200 + q by omega)]
    simp only [h5, if_true]
  simp only [show ¬ j < 100 by omega, show ¬ j < 120 by omega, show ¬ j < 140 by omega, show ¬ j < 160 by omega, h5, if_false]
  by_cases h6 : j < 210
  · rw [if_pos h6, if_pos h6, if_neg (show ¬ j = 230 + q by omega), if_neg (show ¬ j = 220 + q by omega), if_neg (show ¬ j = 210 + q by omega)]
    by_cases z : j = 200 + q
    · rw [if_pos (by omega), if_pos z]
    · rw [if_neg (by omega), if_neg z]
  rw [if_neg h6, if_neg h6]
  by_cases h7 : j < 220
  · rw [if_pos h7, if_pos h7, if_neg (show ¬ j = 230 + q by omega), if_neg (show ¬ j = 220 + q by omega), if_neg (show ¬ j = 200 + q by omega)]
    by_cases z : j = 210 + q
    · rw [if_pos (by omega), if_pos z]
    · rw [if_neg (by omega), if_neg z]
  rw [if_neg h7, if_neg h7]
  by_cases h8 : j < 230
  · rw [if_pos h8, if_pos h8, if_neg (show ¬ j = 230 + q by omega), if_neg (show ¬ j = 210 + q by omega), if_neg (show ¬ j = 200 + q by omega)]
    by_cases h9 : j < 225
    · rw [if_pos h9, if_pos h9, bit_clr ⟨hq.1, by omega⟩ ⟨by omega, by omega⟩]
      by_cases z : j = 220 + q
      · rw [if_pos (by omega), if_pos z]
      · rw [if_neg (by omega), if_neg z]
    · rw [if_neg h9, if_neg h9, if_neg (by omega)]
  rw [if_neg h8, if_neg h8]
  by_cases h9 : j < 300
  · rw [if_pos h9, if_pos h9, if_neg (show ¬ j = 220 + q by omega), if_neg (show ¬ j = 210 + q by omega), if_neg (show ¬ j = 200 + q by omega)]
    by_cases z : j = 230 + q
    · rw [if_pos (by omega), if_pos z]
    · rw [if_neg (by omega), if_neg z]
  rw [if_neg h9, if_neg h9, if_neg (show ¬ j = 230 + q by omega), if_neg (show ¬ j = 220 + q by omega), if_neg (show ¬ j = 210 + q by omega), if_neg (show ¬ j = 200 + q by omega)]
theorem kvC_H (m : Mem) {p b l w0 w1 x : Int} (hp : 0 ≤ p ∧ p < 5) (h0 : w0 = 2 * p) (h1 : w1 = 2 * p + 1) : kvC (upm (upm (upm (upm (upm (upm (upm (upm (upm m 14 p b) 19 p l) 20 w0 0) 20 w1 0) 21 p 0) 22 p 0) 23 p (-1)) 24 p 0) 8 3 x) = vH (kvC m) p b l := by
  subst h0 h1
  funext j
  unfold kvC vH kup
  simp only [upm_app, Int.reduceEq, and_true, true_and, and_false, false_and, if_true, if_false]
  by_cases h5 : j < 300
  · rw [if_neg (show ¬ j = 370 + p by omega), if_neg (show ¬ j = 360 + p by omega), if_neg (show ¬ j = 350 + p by omega), if_neg (show ¬ j = 340 + p by omega), if_neg (show ¬ j = 330 + p by omega), if_neg (show ¬ j = 320 + p by omega), if_neg (show ¬ j = 310 + p by omega), if_neg (show ¬ j = 300 + p by omega)]
    simp only [h5, if_true]
  simp only [show ¬ j < 100 by omega, show ¬ j < 120 by omega, show ¬ j < 140 by omega, show ¬ j < 160 by omega, show ¬ j < 200 by omega, show ¬ j < 210 by omega, show ¬ j < 220 by omega, show ¬ j < 230 by omega, h5, if_false]
  by_cases z1 : j = 370 + p
  · subst z1
    simp only [show ¬ 370 + p < 310 by omega, show ¬ 370 + p < 320 by omega, show ¬ 370 + p < 330 by omega, show ¬ 370 + p < 340 by omega, show ¬ 370 + p < 350 by omega, show ¬ 370 + p < 360 by omega, show ¬ 370 + p < 370 by omega, if_false, if_true]
    rw [if_pos (by omega)]
  rw [if_neg z1]
  by_cases z2 : j = 360 + p
  · subst z2
    simp only [show ¬ 360 + p < 310 by omega, show ¬ 360 + p < 320 by omega, show ¬ 360 + p < 330 by omega, show ¬ 360 + p < 340 by omega, show ¬ 360 + p < 350 by omega, show ¬ 360 + p < 360 by omega, show 360 + p < 370 by omega, if_false, if_true]
    rw [if_pos (by omega)]
  rw [if_neg z2]
  by_cases z3 : j = 350 + p
  · subst z3
    simp only [show ¬ 350 + p < 310 by omega, show ¬ 350 + p < 320 by omega, show ¬ 350 + p < 330 by omega, show ¬ 350 + p < 340 by omega, show ¬ 350 + p < 350 by omega, show 350 + p < 360 by omega, if_false, if_true]
    rw [if_pos (by omega)]
  rw [if_neg z3]
  by_cases z4 : j = 340 + p
  · subst z4
    simp only [show ¬ 340 + p < 310 by omega, show ¬ 340 + p < 320 by omega, show ¬ 340 + p < 330 by omega, show ¬ 340 + p < 340 by omega, show 340 + p < 350 by omega, if_false, if_true]
    rw [if_pos (by omega)]
  rw [if_neg z4]
  by_cases z5 : j = 330 + p
  · subst z5
    simp only [show ¬ 330 + p < 310 by omega, show ¬ 330 + p < 320 by omega, show ¬ 330 + p < 330 by omega, show 330 + p < 340 by omega, if_false, if_true]
    rw [if_pos (by omega)]
  rw [if_neg z5]
  by_cases z6 : j = 320 + p
  · subst z6
    simp only [show ¬ 320 + p < 310 by omega, show ¬ 320 + p < 320 by omega, show 320 + p < 330 by omega, if_false, if_true]
    rw [if_neg (by omega), if_pos (by omega)]
  rw [if_neg z6]
  by_cases z7 : j = 310 + p
  · subst z7
    simp only [show ¬ 310 + p < 310 by omega, show 310 + p < 320 by omega, if_false, if_true]
    rw [if_pos (by omega)]
  rw [if_neg z7]
  by_cases z8 : j = 300 + p
  · subst z8
    simp only [show 300 + p < 310 by omega, if_true]
    rw [if_pos (by omega)]
  rw [if_neg z8]
  by_cases y1 : j < 310
  · simp only [y1, if_true]; rw [if_neg (by omega)]
  by_cases y2 : j < 320
  · simp only [y1, y2, if_true, if_false]; rw [if_neg (by omega)]
  by_cases y3 : j < 330
  · simp only [y1, y2, y3, if_true, if_false]; rw [if_neg (by omega), if_neg (by omega)]
  by_cases y4 : j < 340
  · simp only [y1, y2, y3, y4, if_true, if_false]; rw [if_neg (by omega), if_neg (by omega)]
  by_cases y5 : j < 350
  · simp only [y1, y2, y3, y4, y5, if_true, if_false]; rw [if_neg (by omega)]
  by_cases y6 : j < 360
  · simp only [y1, y2, y3, y4, y5, y6, if_true, if_false]; rw [if_neg (by omega)]
  by_cases y7 : j < 370
  · simp only [y1, y2, y3, y4, y5, y6, y7, if_true, if_false]; rw [if_neg (by omega)]
  · simp only [y1, y2, y3, y4, y5, y6, y7, if_false]; rw [if_neg (by omega)]
/-- no bit of a way that isn't there -/
def OB (m : Mem) : Prop := ∀ w, m 8 1 ≤ w → w < 14 → iand (m 15 10) (ixor (ishl 1 w) (-1)) = m 15 10
/-- what a line leaves of what was told -/
def CK (m m' : Mem) : Prop := (m 8 1 ≤ m' 8 1 ∧ m 8 2 ≤ m' 8 2 ∧ m 8 3 ≤ m' 8 3) ∧ KVL (m 8 0) (m 8 1) (m 8 2) (m 8 3) (kvC m') (kvC m) ∧ (∀ q, (q < m 8 2 → m' 18 q = m 18 q) ∧ (m 8 2 ≤ q → q < m' 8 2 → m' 18 q = -1)) ∧ m' 15 10 = m 15 10 ∧ m' 15 11 = m 15 11
theorem CK_rf (m : Mem) : CK m m := ⟨⟨Int.le_refl _, Int.le_refl _, Int.le_refl _⟩, fun _ _ => rfl, fun q => ⟨fun _ => rfl, fun h1 h2 => absurd h2 (by omega)⟩, rfl, rfl⟩
theorem kvC_2 (m : Mem) (j v : Int) : kvC (upm m 2 j v) = kvC m := kvC_e (upm_a _ _ _ _ _ _ (by decide)) (upm_a _ _ _ _ _ _ (by decide)) (fun x h => upm_f _ _ _ _ _ (by omega))
theorem CK_2 {m m' : Mem} {j v : Int} (h : CK m m') : CK m (upm m' 2 j v) := by
  obtain ⟨⟨a, b, c⟩, d, e, f, g⟩ := h
  refine ⟨⟨?_, ?_, ?_⟩, ?_, fun q => ?_, ?_, ?_⟩
  · rw [upm_f _ _ _ _ _ (by decide)]; exact a
  · rw [upm_f _ _ _ _ _ (by decide)]; exact b
  · rw [upm_f _ _ _ _ _ (by decide)]; exact c
  · rw [kvC_2]; exact d
  · rw [upm_f _ _ _ _ _ (by decide), upm_f _ _ _ _ _ (by decide)]; exact e q
  · rw [upm_f _ _ _ _ _ (by decide)]; exact f
  · rw [upm_f _ _ _ _ _ (by decide)]; exact g
theorem CK_tr {m m1 m2 : Mem} (h : CK m m1) (h2 : CK m1 m2) (h0 : m 8 0 ≤ m1 8 0) : CK m m2 := by
  obtain ⟨⟨a, b, c⟩, d, e, f, g⟩ := h
  obtain ⟨⟨a', b', c'⟩, d', e', f', g'⟩ := h2
  refine ⟨⟨by omega, by omega, by omega⟩, fun j hj => (d' j (VI_mono (by omega) (by omega) (by omega) (by omega) hj)).trans (d j hj), fun q => ⟨fun z => ((e' q).1 (by omega)).trans ((e q).1 z), fun z w => ?_⟩, f'.trans f, g'.trans g⟩
  by_cases y : q < m1 8 2
  · exact ((e' q).1 y).trans ((e q).2 z y)
  · exact (e' q).2 (by omega) w
theorem CK_P {m : Mem} {v x : Int} (hp : 0 ≤ m 8 0 ∧ m 8 0 < 10) : CK m (upm (upm m 9 (m 8 0) v) 8 0 x) := by
  refine ⟨⟨?_, ?_, ?_⟩, ?_, fun q => ⟨fun _ => ?_, fun z w => ?_⟩, ?_, ?_⟩
  · rw [upm_k (by decide), upm_f _ _ _ _ _ (by decide)]; omega
  · rw [upm_k (by decide), upm_f _ _ _ _ _ (by decide)]; omega
  · rw [upm_k (by decide), upm_f _ _ _ _ _ (by decide)]; omega
  · rw [kvC_P m hp]
    intro j hj
    unfold kup
    rw [if_neg (by unfold VI at hj; omega)]
  · rw [upm_f _ _ _ _ _ (by decide), upm_f _ _ _ _ _ (by decide)]
  · rw [upm_k (by decide), upm_f _ _ _ _ _ (by decide)] at w; omega
  · rw [upm_f _ _ _ _ _ (by decide), upm_f _ _ _ _ _ (by decide)]
  · rw [upm_f _ _ _ _ _ (by decide), upm_f _ _ _ _ _ (by decide)]
theorem CK_W {m : Mem} {a b l dd oo x u y : Int} (hs : m 8 0 ≤ 10 ∧ m 8 2 ≤ 5 ∧ m 8 3 ≤ 5) (hw : 0 ≤ m 8 1 ∧ m 8 1 < 14) (hd : dd = ior (iand (m 8 8) (ixor (ishl 1 (m 8 1)) (-1))) y) (hy : y = ishl 1 (m 8 1) ∧ u = 1 ∨ y = 0 ∧ u = 0) (ho : oo = m 15 10) (hx : x = m 8 1 + 1) : CK m (upm (upm (upm (upm (upm (upm m 10 (m 8 1) a) 11 (m 8 1) b) 12 (m 8 1) l) 8 8 dd) 15 10 oo) 8 1 x) := by
  refine ⟨⟨?_, ?_, ?_⟩, ?_, fun q => ⟨fun _ => ?_, fun z w => ?_⟩, ?_, ?_⟩
  · rw [upm_v]; omega
  · simp only [upm_app, Int.reduceEq, and_true, true_and, and_false, false_and, if_true, if_false]; omega
  · simp only [upm_app, Int.reduceEq, and_true, true_and, and_false, false_and, if_true, if_false]; omega
  · rw [kvC_W m hw hd hy]
    intro j hj
    unfold vW kup
    rw [if_neg (by unfold VI at hj; omega), if_neg (by unfold VI at hj; omega), if_neg (by unfold VI at hj; omega), if_neg (by unfold VI at hj; omega)]
  · simp only [upm_app, Int.reduceEq, and_true, true_and, and_false, false_and, if_true, if_false]
  · simp only [upm_app, Int.reduceEq, and_true, true_and, and_false, false_and, if_true, if_false] at w; omega
  · simp only [upm_app, Int.reduceEq, and_true, true_and, and_false, false_and, if_true, if_false, and_self]; exact ho
  · simp only [upm_app, Int.reduceEq, and_true, true_and, and_false, false_and, if_true, if_false]
theorem CK_O {m : Mem} {h l c dd x : Int} (hs : m 8 0 ≤ 10 ∧ m 8 1 ≤ 14 ∧ m 8 3 ≤ 5) (hq : 0 ≤ m 8 2 ∧ m 8 2 < 5) (hd : dd = iand (m 15 3) (ixor (ishl 1 (m 8 2)) (-1))) (hx : x = m 8 2 + 1) : CK m (upm (upm (upm (upm (upm (upm m 13 (m 8 2) c) 16 (m 8 2) h) 17 (m 8 2) l) 18 (m 8 2) (-1)) 15 3 dd) 8 2 x) := by
  refine ⟨⟨?_, ?_, ?_⟩, ?_, fun q => ⟨fun z => ?_, fun z w => ?_⟩, ?_, ?_⟩
  · simp only [upm_app, Int.reduceEq, and_true, true_and, and_false, false_and, if_true, if_false]; omega
  · rw [upm_v]; omega
  · simp only [upm_app, Int.reduceEq, and_true, true_and, and_false, false_and, if_true, if_false]; omega
  · rw [kvC_O m hq hd]
    intro j hj
    unfold vO kup
    rw [if_neg (by unfold VI at hj; omega), if_neg (by unfold VI at hj; omega), if_neg (by unfold VI at hj; omega), if_neg (by unfold VI at hj; omega)]
  · simp only [upm_app, Int.reduceEq, and_true, true_and, and_false, false_and, if_true, if_false]; rw [if_neg (by omega)]
  · rw [upm_v] at w
    simp only [upm_app, Int.reduceEq, and_true, true_and, and_false, false_and, if_true, if_false]; rw [if_pos (by omega)]
  · simp only [upm_app, Int.reduceEq, and_true, true_and, and_false, false_and, if_true, if_false]
  · simp only [upm_app, Int.reduceEq, and_true, true_and, and_false, false_and, if_true, if_false]
theorem CK_H {m : Mem} {b l w0 w1 x : Int} (hs : m 8 0 ≤ 10 ∧ m 8 1 ≤ 14 ∧ m 8 2 ≤ 5) (hp : 0 ≤ m 8 3 ∧ m 8 3 < 5) (h0 : w0 = 2 * m 8 3) (h1 : w1 = 2 * m 8 3 + 1) (hx : x = m 8 3 + 1) : CK m (upm (upm (upm (upm (upm (upm (upm (upm (upm m 14 (m 8 3) b) 19 (m 8 3) l) 20 w0 0) 20 w1 0) 21 (m 8 3) 0) 22 (m 8 3) 0) 23 (m 8 3) (-1)) 24 (m 8 3) 0) 8 3 x) := by
  refine ⟨⟨?_, ?_, ?_⟩, ?_, fun q => ⟨fun z => ?_, fun z w => ?_⟩, ?_, ?_⟩
  · simp only [upm_app, Int.reduceEq, and_true, true_and, and_false, false_and, if_true, if_false]; omega
  · simp only [upm_app, Int.reduceEq, and_true, true_and, and_false, false_and, if_true, if_false]; omega
  · rw [upm_v]; omega
  · rw [kvC_H m hp h0 h1]
    intro j hj
    unfold vH kup
    rw [if_neg (by unfold VI at hj; omega), if_neg (by unfold VI at hj; omega), if_neg (by unfold VI at hj; omega), if_neg (by unfold VI at hj; omega), if_neg (by unfold VI at hj; omega), if_neg (by unfold VI at hj; omega), if_neg (by unfold VI at hj; omega), if_neg (by unfold VI at hj; omega)]
  · simp only [upm_app, Int.reduceEq, and_true, true_and, and_false, false_and, if_true, if_false]
  · simp only [upm_app, Int.reduceEq, and_true, true_and, and_false, false_and, if_true, if_false] at w; omega
  · simp only [upm_app, Int.reduceEq, and_true, true_and, and_false, false_and, if_true, if_false]
  · simp only [upm_app, Int.reduceEq, and_true, true_and, and_false, false_and, if_true, if_false]
/-- all but the text's place, THE KITCHEN and the state stands -/
def FZ (m m' : Mem) : Prop := ∀ x, x ≠ 2 → (x < 8 ∨ 24 < x) → m' x = m x
def sC (m : Mem) : KS := (m 8 0, m 8 1, m 8 2, m 8 3, kvC m)
abbrev CP (o : Option (KS × Int)) (m m' : Mem) : Prop := ((m' 2 5 = 0 ∧ o = some (sC m', m' 2 4) ∧ m' 2 4 ≤ m 2 2) ∨ (m' 2 5 ≠ 0 ∧ o = none)) ∧ (0 ≤ m' 2 4 ∧ m' 2 4 ≤ 80) ∧ m' 3 = m 3 ∧ m' 2 2 = m 2 2 ∧ m' 2 3 = m 2 3 ∧ m 8 0 ≤ m' 8 0 ∧ CK m m' ∧ FZ m m'
theorem some_e {a a' : KS} {p p' : Int} (h1 : a.1 = a'.1) (h2 : a.2.1 = a'.2.1) (h3 : a.2.2.1 = a'.2.2.1) (h4 : a.2.2.2.1 = a'.2.2.2.1) (h5 : a.2.2.2.2 = a'.2.2.2.2) (h6 : p = p') : some (a, p) = some (a', p') := by
  obtain ⟨a1, a2, a3, a4, a5⟩ := a
  obtain ⟨b1, b2, b3, b4, b5⟩ := a'
  simp only at h1 h2 h3 h4 h5
  subst h1 h2 h3 h4 h5 h6
  rfl
end
section
/-- the text's place alone is new -/
def TB (m b : Mem) : Prop := (∀ x, x ≠ 2 → b x = m x) ∧ b 2 2 = m 2 2 ∧ b 2 3 = m 2 3 ∧ (0 ≤ b 2 4 ∧ b 2 4 ≤ 80)
theorem TB_kv {m b : Mem} (h : TB m b) : kvC b = kvC m := kvC_e (by rw [h.1 8 (by decide)]) (by rw [h.1 15 (by decide)]) (fun x q => h.1 x (by omega))
theorem CK_b {m b m' : Mem} (h : CK b m') (hB : TB m b) : CK m m' := by
  unfold CK at h ⊢
  rw [TB_kv hB, hB.1 8 (by decide), hB.1 18 (by decide), hB.1 15 (by decide)] at h
  exact h
theorem CP_no {m b : Mem} {o : Option (KS × Int)} (hB : TB m b) (hf : b 2 5 ≠ 0) (ho : o = none) : CP o m b := by
  have e := CK_b (CK_rf b) hB
  exact ⟨Or.inr ⟨hf, ho⟩, hB.2.2.2, hB.1 3 (by decide), hB.2.1, hB.2.2.1, by rw [hB.1 8 (by decide)]; exact Int.le_refl _, e, fun x q _ => hB.1 x q⟩
theorem CP_tr {o o' : Option (KS × Int)} {m b m' : Mem} (h : CP o b m') (hB : TB m b) (eo : o' = o) : CP o' m m' := by
  subst eo
  obtain ⟨h1, h2, h3, h4, h5, h6, h7, h8⟩ := h
  rw [hB.2.1] at h1 h4
  rw [hB.1 3 (by decide)] at h3
  rw [hB.2.2.1] at h5
  rw [hB.1 8 (by decide)] at h6
  exact ⟨h1, h2, h3, h4, h5, h6, CK_b h7 hB, fun x q r => (h8 x q r).trans (hB.1 x q)⟩
theorem TB_rf {m : Mem} (h : 0 ≤ m 2 4 ∧ m 2 4 ≤ 80) : TB m m := ⟨fun _ _ => rfl, rfl, rfl, h⟩
theorem TB_4 {m b : Mem} {v : Int} (h : TB m b) (h0 : 0 ≤ v ∧ v ≤ 80) : TB m (upm b 2 4 v) := ⟨fun x q => by rw [upm_f _ _ _ _ _ q]; exact h.1 x q, by rw [upm_k (by decide)]; exact h.2.1, by rw [upm_k (by decide)]; exact h.2.2.1, by rw [upm_v]; exact h0⟩
theorem TB_5 {m b : Mem} {j v : Int} (h : TB m b) (hj : j ≠ 2 ∧ j ≠ 3 ∧ j ≠ 4) : TB m (upm b 2 j v) := ⟨fun x q => by rw [upm_f _ _ _ _ _ q]; exact h.1 x q, by rw [upm_k hj.1.symm]; exact h.2.1, by rw [upm_k hj.2.1.symm]; exact h.2.2.1, by rw [upm_k hj.2.2.symm]; exact h.2.2.2⟩
section
theorem CP_P {m b : Mem} {o : Option (KS × Int)} (hB : TB m b) (hf : b 2 5 = 0) (h4 : b 2 4 ≤ m 2 2) {v x : Int} (hp : 0 ≤ m 8 0 ∧ m 8 0 < 10) (hx : x = m 8 0 + 1) (hlk : o = some ((m 8 0 + 1, m 8 1, m 8 2, m 8 3, kup (kvC m) (m 8 0) v), b 2 4)) : CP o m (upm (upm b 9 (m 8 0) v) 8 0 x) := by
  have e8 := hB.1 8 (by decide)
  have k := CK_P (m := b) (v := v) (x := x) (by rw [e8]; exact hp)
  have kv := kvC_P b (v := v) (x := x) (i := m 8 0) hp
  rw [e8] at k
  rw [TB_kv hB] at kv
  refine ⟨Or.inl ⟨?_, ?_, ?_⟩, ?_, ?_, ?_, ?_, ?_, CK_b k hB, ?_⟩
  · simp only [upm_app, Int.reduceEq, and_true, true_and, and_false, false_and, if_true, if_false, and_self]; exact hf
  · rw [hlk]; unfold sC; rw [kv]; simp only [upm_app, Int.reduceEq, and_true, true_and, and_false, false_and, if_true, if_false, and_self, e8, hx]
  · simp only [upm_app, Int.reduceEq, and_true, true_and, and_false, false_and, if_true, if_false, and_self]; exact h4
  · simp only [upm_app, Int.reduceEq, and_true, true_and, and_false, false_and, if_true, if_false, and_self]; exact hB.2.2.2
  · rw [upm_f _ _ _ _ _ (by decide), upm_f _ _ _ _ _ (by decide)]; exact hB.1 3 (by decide)
  · simp only [upm_app, Int.reduceEq, and_true, true_and, and_false, false_and, if_true, if_false, and_self]; exact hB.2.1
  · simp only [upm_app, Int.reduceEq, and_true, true_and, and_false, false_and, if_true, if_false, and_self]; exact hB.2.2.1
  · simp only [upm_app, Int.reduceEq, and_true, true_and, and_false, false_and, if_true, if_false, and_self]; omega
  · intro x9 q r
    repeat rw [upm_f _ _ _ _ _ (by omega)]
    exact hB.1 x9 q
theorem CP_W {m b : Mem} {o : Option (KS × Int)} (hB : TB m b) (hf : b 2 5 = 0) (h4 : b 2 4 ≤ m 2 2) {a c l y u dd oo x : Int} (hs : m 8 0 ≤ 10 ∧ m 8 2 ≤ 5 ∧ m 8 3 ≤ 5) (hw : 0 ≤ m 8 1 ∧ m 8 1 < 14) (hd : dd = ior (iand (m 8 8) (ixor (ishl 1 (m 8 1)) (-1))) y) (hy : y = ishl 1 (m 8 1) ∧ u = 1 ∨ y = 0 ∧ u = 0) (ho : oo = m 15 10) (hx : x = m 8 1 + 1) (hlk : o = some ((m 8 0, m 8 1 + 1, m 8 2, m 8 3, vW (kvC m) (m 8 1) a c l u), b 2 4)) : CP o m (upm (upm (upm (upm (upm (upm b 10 (m 8 1) a) 11 (m 8 1) c) 12 (m 8 1) l) 8 8 dd) 15 10 oo) 8 1 x) := by
  have e8 := hB.1 8 (by decide)
  have e15 := hB.1 15 (by decide)
  have k := CK_W (m := b) (a := a) (b := c) (l := l) (dd := dd) (oo := oo) (x := x) (u := u) (y := y) (by rw [e8]; exact hs) (by rw [e8]; exact hw) (by rw [e8]; exact hd) (by rw [e8]; exact hy) (by rw [e15]; exact ho) (by rw [e8]; exact hx)
  have kv := kvC_W b (w := m 8 1) (a := a) (b := c) (l := l) (dd := dd) (oo := oo) (x := x) (u := u) (y := y) hw (by rw [e8]; exact hd) hy
  rw [e8] at k
  rw [TB_kv hB] at kv
  refine ⟨Or.inl ⟨?_, ?_, ?_⟩, ?_, ?_, ?_, ?_, ?_, CK_b k hB, ?_⟩
  · simp only [upm_app, Int.reduceEq, and_true, true_and, and_false, false_and, if_true, if_false, and_self]; exact hf
  · rw [hlk]; unfold sC; rw [kv]; simp only [upm_app, Int.reduceEq, and_true, true_and, and_false, false_and, if_true, if_false, and_self, e8, hx]
  · simp only [upm_app, Int.reduceEq, and_true, true_and, and_false, false_and, if_true, if_false, and_self]; exact h4
  · simp only [upm_app, Int.reduceEq, and_true, true_and, and_false, false_and, if_true, if_false, and_self]; exact hB.2.2.2
  · simp only [upm_f, Int.reduceNe, ne_eq, not_false_eq_true, Int.reduceEq]; exact hB.1 3 (by decide)
  · simp only [upm_app, Int.reduceEq, and_true, true_and, and_false, false_and, if_true, if_false, and_self]; exact hB.2.1
  · simp only [upm_app, Int.reduceEq, and_true, true_and, and_false, false_and, if_true, if_false, and_self]; exact hB.2.2.1
  · simp only [upm_app, Int.reduceEq, and_true, true_and, and_false, false_and, if_true, if_false, and_self, e8]; exact Int.le_refl _
  · intro x9 q r
    repeat rw [upm_f _ _ _ _ _ (by omega)]
    exact hB.1 x9 q
theorem CP_O {m b : Mem} {o : Option (KS × Int)} (hB : TB m b) (hf : b 2 5 = 0) (h4 : b 2 4 ≤ m 2 2) {h l c dd x : Int} (hs : m 8 0 ≤ 10 ∧ m 8 1 ≤ 14 ∧ m 8 3 ≤ 5) (hq : 0 ≤ m 8 2 ∧ m 8 2 < 5) (hd : dd = iand (m 15 3) (ixor (ishl 1 (m 8 2)) (-1))) (hx : x = m 8 2 + 1) (hlk : o = some ((m 8 0, m 8 1, m 8 2 + 1, m 8 3, vO (kvC m) (m 8 2) h l c), b 2 4)) : CP o m (upm (upm (upm (upm (upm (upm b 13 (m 8 2) c) 16 (m 8 2) h) 17 (m 8 2) l) 18 (m 8 2) (-1)) 15 3 dd) 8 2 x) := by
  have e8 := hB.1 8 (by decide)
  have e15 := hB.1 15 (by decide)
  have k := CK_O (m := b) (h := h) (l := l) (c := c) (dd := dd) (x := x) (by rw [e8]; exact hs) (by rw [e8]; exact hq) (by rw [e8, e15]; exact hd) (by rw [e8]; exact hx)
  have kv := kvC_O b (q := m 8 2) (h := h) (l := l) (c := c) (dd := dd) (x := x) hq (by rw [e15]; exact hd)
  rw [e8] at k
  rw [TB_kv hB] at kv
  refine ⟨Or.inl ⟨?_, ?_, ?_⟩, ?_, ?_, ?_, ?_, ?_, CK_b k hB, ?_⟩
  · simp only [upm_app, Int.reduceEq, and_true, true_and, and_false, false_and, if_true, if_false, and_self]; exact hf
  · rw [hlk]; unfold sC; rw [kv]; simp only [upm_app, Int.reduceEq, and_true, true_and, and_false, false_and, if_true, if_false, and_self, e8, hx]
  · simp only [upm_app, Int.reduceEq, and_true, true_and, and_false, false_and, if_true, if_false, and_self]; exact h4
  · simp only [upm_app, Int.reduceEq, and_true, true_and, and_false, false_and, if_true, if_false, and_self]; exact hB.2.2.2
  · simp only [upm_f, Int.reduceNe, ne_eq, not_false_eq_true, Int.reduceEq]; exact hB.1 3 (by decide)
  · simp only [upm_app, Int.reduceEq, and_true, true_and, and_false, false_and, if_true, if_false, and_self]; exact hB.2.1
  · simp only [upm_app, Int.reduceEq, and_true, true_and, and_false, false_and, if_true, if_false, and_self]; exact hB.2.2.1
  · simp only [upm_app, Int.reduceEq, and_true, true_and, and_false, false_and, if_true, if_false, and_self, e8]; exact Int.le_refl _
  · intro x9 q r
    repeat rw [upm_f _ _ _ _ _ (by omega)]
    exact hB.1 x9 q
theorem CP_H {m b : Mem} {o : Option (KS × Int)} (hB : TB m b) (hf : b 2 5 = 0) (h4 : b 2 4 ≤ m 2 2) {be l w0 w1 x : Int} (hs : m 8 0 ≤ 10 ∧ m 8 1 ≤ 14 ∧ m 8 2 ≤ 5) (hp : 0 ≤ m 8 3 ∧ m 8 3 < 5) (h0 : w0 = 2 * m 8 3) (h1 : w1 = 2 * m 8 3 + 1) (hx : x = m 8 3 + 1) (hlk : o = some ((m 8 0, m 8 1, m 8 2, m 8 3 + 1, vH (kvC m) (m 8 3) be l), b 2 4)) : CP o m (upm (upm (upm (upm (upm (upm (upm (upm (upm b 14 (m 8 3) be) 19 (m 8 3) l) 20 w0 0) 20 w1 0) 21 (m 8 3) 0) 22 (m 8 3) 0) 23 (m 8 3) (-1)) 24 (m 8 3) 0) 8 3 x) := by
  have e8 := hB.1 8 (by decide)
  have k := CK_H (m := b) (b := be) (l := l) (w0 := w0) (w1 := w1) (x := x) (by rw [e8]; exact hs) (by rw [e8]; exact hp) (by rw [e8]; exact h0) (by rw [e8]; exact h1) (by rw [e8]; exact hx)
  have kv := kvC_H b (p := m 8 3) (b := be) (l := l) (w0 := w0) (w1 := w1) (x := x) hp h0 h1
  rw [e8] at k
  rw [TB_kv hB] at kv
  refine ⟨Or.inl ⟨?_, ?_, ?_⟩, ?_, ?_, ?_, ?_, ?_, CK_b k hB, ?_⟩
  · simp only [upm_app, Int.reduceEq, and_true, true_and, and_false, false_and, if_true, if_false, and_self]; exact hf
  · rw [hlk]; unfold sC; rw [kv]; simp only [upm_app, Int.reduceEq, and_true, true_and, and_false, false_and, if_true, if_false, and_self, e8, hx]
  · simp only [upm_app, Int.reduceEq, and_true, true_and, and_false, false_and, if_true, if_false, and_self]; exact h4
  · simp only [upm_app, Int.reduceEq, and_true, true_and, and_false, false_and, if_true, if_false, and_self]; exact hB.2.2.2
  · simp only [upm_f, Int.reduceNe, ne_eq, not_false_eq_true, Int.reduceEq]; exact hB.1 3 (by decide)
  · simp only [upm_app, Int.reduceEq, and_true, true_and, and_false, false_and, if_true, if_false, and_self]; exact hB.2.1
  · simp only [upm_app, Int.reduceEq, and_true, true_and, and_false, false_and, if_true, if_false, and_self]; exact hB.2.2.1
  · simp only [upm_app, Int.reduceEq, and_true, true_and, and_false, false_and, if_true, if_false, and_self, e8]; exact Int.le_refl _
  · intro x9 q r
    repeat rw [upm_f _ _ _ _ _ (by omega)]
    exact hB.1 x9 q
end
end
section
/-! the component's lines, by the pure reading -/
theorem kvC_lo {m : Mem} {j : Int} (h : j < 100) : kvC m j = m 9 j := if_pos h
set_option maxHeartbeats 8000000 in
theorem f_25 {d : Nat} {tc e p : Int} {g : Fg} {m : Mem} {Q : Int → Sto → Prop} (hB : ∀ j, 0 ≤ m 3 j ∧ m 3 j < 256) (hf : m 2 5 = 0) (hp : m 2 4 = p + 1) (hA : 0 ≤ p ∧ p + 1 ≤ m 2 2 ∧ m 2 2 ≤ 76) (hr : m 8 1 < 14) (hO : iand (m 15 10) (ixor (ishl 1 (m 8 1)) (-1)) = m 15 10) (hJ : JC 1 g tc m) (hq : ∀ v m', JC 1 g tc m' → CP (lkW (m 3) (m 2 2) (sC m) p) m m' → Q v (S9 e m')) : Cl (d + 3) 25 [8, 2, 15] Q (S9 e m) := by
  have hL := JC_l hJ
  have hs := JC_s hJ
  have hr0 : 0 ≤ m 2 4 ∧ m 2 4 ≤ 80 := by omega
  have hb1 := hB (p + 1)
  have hb2 := hB (p + 1 + 1)
  simp only [cl_25, runB, B25, ma_25, rho_222, wf_4_103, wf_4_15, wf_4_18, wf_4_21, wf_4_30, wf_4_34, wf_4_43, wpf_4_107, wpopand_pf_4_107, wpf_4_34, wpopadd_pf_4_34, wpf_4_43, wc_26, wc_27, wc_28, w_cst, w_ldi, w_ldj, w_lda, w_ljk, w_ldk, w_ldw, w_ldk2, w_ldt, w_ldtw, w_neg, w_cvb, w_cvs, w_cvc, w_cvj, w_add, w_sub, w_mul, w_ban, w_bor, w_bxo, w_shl, w_shr, w_ush, w_dvi, w_rmi, w_aldi, w_aldj, w_aldz, w_aldc, w_alda, w_ite, w_cmp, w_cmj, w_cz, w_cnot, w_cand, w_cor, w_nil, w_cons, w_cvi, w_csta, w_cvt, w_cvv, w_csv, w_cpy, w_seq, w_sbr, w_sbn, w_brk, w_ifs, w_ifx, w_ife, w_wk, w_rets, w_rtv, w_thr, w_asi, w_asj, w_asa, w_inc, w_exs, w_asti, w_astj, w_astz, w_astc, w_aopadd, w_aopsub, w_sw, if_true, if_false, ↓reduceIte, hdl_c, S9_1, S9_m, bud9, live9, inb9, wrn, wr9_14, wr9_15, wr9_16, wr9_17, tq9_14, tq9_15, tq9_16, tq9_17, tq_0, tq_1, tq_3, upr_rl, rl_0, rl_1, rl_2, rl_3, rl_4, rl_5, rl_6, rl_7, rl_8, rl_9, rl_10, rl_11, rl_12, rl_13, sp_0, sp_1, sp_2, sp_3, sp_4, sp_5, sp_6, sp_7, sp_8, sp_9, sp_10, sp_11, sp_12, sp_13, se_0, se_1, se_2, se_3, se_4, se_5, se_6, se_7, se_8, se_9, se_10, se_11, se_12, se_13, sem_0, sem_1, sem_2, sem_3, sem_4, sem_5, kc_2, kl9_2, sr_2_0, kc_3, kl9_3, kc_4, kl9_4, sr_4_0, sr_4_2, sr_4_4, kc_8, kl9_8, sr_8_10, sr_8_4, sr_8_5, sr_8_6, sr_8_7, sr_8_9, kc_9, kl9_9, kc_10, kl9_10, kc_11, kl9_11, kc_12, kl9_12, kc_13, kl9_13, kc_14, kl9_14, kc_15, kl9_15, sr_15_0, sr_15_1, sr_15_2, sr_15_4, sr_15_5, sr_15_6, sr_15_7, sr_15_8, sr_15_9, kc_16, kl9_16, kc_17, kl9_17, kc_18, kl9_18, kc_19, kl9_19, kc_20, kl9_20, kc_21, kl9_21, kc_22, kl9_22, kc_23, kl9_23, kc_24, kl9_24, List.getD_cons_zero, List.getD_cons_succ, Bool.false_eq_true, wrn3, wrn1, cpmS, cpok9, upm_app, Int.reduceEq, and_self, and_true, true_and, and_false, false_and, if_true, if_false, ↓reduceIte, hp, hf, Int.reduceToNat, hO]
  repeat' (first
    | (with_reducible exact True.intro)
    | omega
    | (with_reducible rfl)
    | (with_reducible contradiction)
    | (with_reducible refine And.intro ?_ ?_)
    | intro _
    | ((with_reducible refine p_26x ?_ ?_ ?_ ?_ ?_ (fun _ _ h9 e9 f9 => ?_) (fun h9 => ?_)); (next => first | exact hB | (intro j; simp only [upm_app, Int.reduceEq, and_self, and_true, true_and, and_false, false_and, if_true, if_false, ↓reduceIte, Int.reduceToNat, upm_f, Int.reduceNe, ne_eq, not_false_eq_true, not_true_eq_false]; exact hB j) | omega | (with_reducible rfl) | ((try simp only [upm_app, Int.reduceEq, and_self, and_true, true_and, and_false, false_and, if_true, if_false, ↓reduceIte]); first | omega | (refine And.intro ?_ ?_ <;> omega) | (unfold w32; omega))); (next => first | exact hB | (intro j; simp only [upm_app, Int.reduceEq, and_self, and_true, true_and, and_false, false_and, if_true, if_false, ↓reduceIte, Int.reduceToNat, upm_f, Int.reduceNe, ne_eq, not_false_eq_true, not_true_eq_false]; exact hB j) | omega | (with_reducible rfl) | ((try simp only [upm_app, Int.reduceEq, and_self, and_true, true_and, and_false, false_and, if_true, if_false, ↓reduceIte]); first | omega | (refine And.intro ?_ ?_ <;> omega) | (unfold w32; omega))); (next => first | exact hB | (intro j; simp only [upm_app, Int.reduceEq, and_self, and_true, true_and, and_false, false_and, if_true, if_false, ↓reduceIte, Int.reduceToNat, upm_f, Int.reduceNe, ne_eq, not_false_eq_true, not_true_eq_false]; exact hB j) | omega | (with_reducible rfl) | ((try simp only [upm_app, Int.reduceEq, and_self, and_true, true_and, and_false, false_and, if_true, if_false, ↓reduceIte]); first | omega | (refine And.intro ?_ ?_ <;> omega) | (unfold w32; omega))); (next => first | exact hB | (intro j; simp only [upm_app, Int.reduceEq, and_self, and_true, true_and, and_false, false_and, if_true, if_false, ↓reduceIte, Int.reduceToNat, upm_f, Int.reduceNe, ne_eq, not_false_eq_true, not_true_eq_false]; exact hB j) | omega | (with_reducible rfl) | ((try simp only [upm_app, Int.reduceEq, and_self, and_true, true_and, and_false, false_and, if_true, if_false, ↓reduceIte]); first | omega | (refine And.intro ?_ ?_ <;> omega) | (unfold w32; omega))); (next => first | exact hB | (intro j; simp only [upm_app, Int.reduceEq, and_self, and_true, true_and, and_false, false_and, if_true, if_false, ↓reduceIte, Int.reduceToNat, upm_f, Int.reduceNe, ne_eq, not_false_eq_true, not_true_eq_false]; exact hB j) | omega | (with_reducible rfl) | ((try simp only [upm_app, Int.reduceEq, and_self, and_true, true_and, and_false, false_and, if_true, if_false, ↓reduceIte]); first | omega | (refine And.intro ?_ ?_ <;> omega) | (unfold w32; omega))); all_goals ((try subst e9); (try subst f9); ((try simp only [upm_app, Int.reduceEq, and_self, and_true, true_and, and_false, false_and, if_true, if_false, ↓reduceIte, hp, hf, Int.reduceToNat] at h9) <;> (simp only [hdl_c, S9_1, S9_m, bud9, live9, inb9, wrn, wr9_14, wr9_15, wr9_16, wr9_17, tq9_14, tq9_15, tq9_16, tq9_17, tq_0, tq_1, tq_3, upr_rl, rl_0, rl_1, rl_2, rl_3, rl_4, rl_5, rl_6, rl_7, rl_8, rl_9, rl_10, rl_11, rl_12, rl_13, sp_0, sp_1, sp_2, sp_3, sp_4, sp_5, sp_6, sp_7, sp_8, sp_9, sp_10, sp_11, sp_12, sp_13, se_0, se_1, se_2, se_3, se_4, se_5, se_6, se_7, se_8, se_9, se_10, se_11, se_12, se_13, sem_0, sem_1, sem_2, sem_3, sem_4, sem_5, List.getD_cons_zero, List.getD_cons_succ, Bool.false_eq_true, wrn3, wrn1, cpmS, cpok9, if_true, if_false, ↓reduceIte, wc_26, wc_27, wc_28, kc_2, kl9_2, sr_2_0, kc_3, kl9_3, kc_4, kl9_4, sr_4_0, sr_4_2, sr_4_4, kc_8, kl9_8, sr_8_10, sr_8_4, sr_8_5, sr_8_6, sr_8_7, sr_8_9, kc_9, kl9_9, kc_10, kl9_10, kc_11, kl9_11, kc_12, kl9_12, kc_13, kl9_13, kc_14, kl9_14, kc_15, kl9_15, sr_15_0, sr_15_1, sr_15_2, sr_15_4, sr_15_5, sr_15_6, sr_15_7, sr_15_8, sr_15_9, kc_16, kl9_16, kc_17, kl9_17, kc_18, kl9_18, kc_19, kl9_19, kc_20, kl9_20, kc_21, kl9_21, kc_22, kl9_22, kc_23, kl9_23, kc_24, kl9_24, upm_app, Int.reduceEq, and_self, and_true, true_and, and_false, false_and, if_true, if_false, ↓reduceIte, hp, hf, Int.reduceToNat, hO]; (try simp (disch := omega) only [w15_0, w15_1, w15_3, w15_4, w15_5, w15_6, w3_0, w3_1, w3_2, upm_app, Int.reduceEq, and_self, and_true, true_and, and_false, false_and, if_true, if_false, ↓reduceIte])))))
    | ((with_reducible refine p_27x ?_ ?_ ?_ ?_ (fun _ _ h9 e9 f9 => ?_) (fun h9 => ?_)); (next => first | exact hB | (intro j; simp only [upm_app, Int.reduceEq, and_self, and_true, true_and, and_false, false_and, if_true, if_false, ↓reduceIte, Int.reduceToNat, upm_f, Int.reduceNe, ne_eq, not_false_eq_true, not_true_eq_false]; exact hB j) | omega | (with_reducible rfl) | ((try simp only [upm_app, Int.reduceEq, and_self, and_true, true_and, and_false, false_and, if_true, if_false, ↓reduceIte]); first | omega | (refine And.intro ?_ ?_ <;> omega) | (unfold w32; omega))); (next => first | exact hB | (intro j; simp only [upm_app, Int.reduceEq, and_self, and_true, true_and, and_false, false_and, if_true, if_false, ↓reduceIte, Int.reduceToNat, upm_f, Int.reduceNe, ne_eq, not_false_eq_true, not_true_eq_false]; exact hB j) | omega | (with_reducible rfl) | ((try simp only [upm_app, Int.reduceEq, and_self, and_true, true_and, and_false, false_and, if_true, if_false, ↓reduceIte]); first | omega | (refine And.intro ?_ ?_ <;> omega) | (unfold w32; omega))); (next => first | exact hB | (intro j; simp only [upm_app, Int.reduceEq, and_self, and_true, true_and, and_false, false_and, if_true, if_false, ↓reduceIte, Int.reduceToNat, upm_f, Int.reduceNe, ne_eq, not_false_eq_true, not_true_eq_false]; exact hB j) | omega | (with_reducible rfl) | ((try simp only [upm_app, Int.reduceEq, and_self, and_true, true_and, and_false, false_and, if_true, if_false, ↓reduceIte]); first | omega | (refine And.intro ?_ ?_ <;> omega) | (unfold w32; omega))); (next => first | exact hB | (intro j; simp only [upm_app, Int.reduceEq, and_self, and_true, true_and, and_false, false_and, if_true, if_false, ↓reduceIte, Int.reduceToNat, upm_f, Int.reduceNe, ne_eq, not_false_eq_true, not_true_eq_false]; exact hB j) | omega | (with_reducible rfl) | ((try simp only [upm_app, Int.reduceEq, and_self, and_true, true_and, and_false, false_and, if_true, if_false, ↓reduceIte]); first | omega | (refine And.intro ?_ ?_ <;> omega) | (unfold w32; omega))); all_goals ((try subst e9); (try subst f9); ((try simp only [upm_app, Int.reduceEq, and_self, and_true, true_and, and_false, false_and, if_true, if_false, ↓reduceIte, hp, hf, Int.reduceToNat] at h9) <;> (simp only [hdl_c, S9_1, S9_m, bud9, live9, inb9, wrn, wr9_14, wr9_15, wr9_16, wr9_17, tq9_14, tq9_15, tq9_16, tq9_17, tq_0, tq_1, tq_3, upr_rl, rl_0, rl_1, rl_2, rl_3, rl_4, rl_5, rl_6, rl_7, rl_8, rl_9, rl_10, rl_11, rl_12, rl_13, sp_0, sp_1, sp_2, sp_3, sp_4, sp_5, sp_6, sp_7, sp_8, sp_9, sp_10, sp_11, sp_12, sp_13, se_0, se_1, se_2, se_3, se_4, se_5, se_6, se_7, se_8, se_9, se_10, se_11, se_12, se_13, sem_0, sem_1, sem_2, sem_3, sem_4, sem_5, List.getD_cons_zero, List.getD_cons_succ, Bool.false_eq_true, wrn3, wrn1, cpmS, cpok9, if_true, if_false, ↓reduceIte, wc_26, wc_27, wc_28, kc_2, kl9_2, sr_2_0, kc_3, kl9_3, kc_4, kl9_4, sr_4_0, sr_4_2, sr_4_4, kc_8, kl9_8, sr_8_10, sr_8_4, sr_8_5, sr_8_6, sr_8_7, sr_8_9, kc_9, kl9_9, kc_10, kl9_10, kc_11, kl9_11, kc_12, kl9_12, kc_13, kl9_13, kc_14, kl9_14, kc_15, kl9_15, sr_15_0, sr_15_1, sr_15_2, sr_15_4, sr_15_5, sr_15_6, sr_15_7, sr_15_8, sr_15_9, kc_16, kl9_16, kc_17, kl9_17, kc_18, kl9_18, kc_19, kl9_19, kc_20, kl9_20, kc_21, kl9_21, kc_22, kl9_22, kc_23, kl9_23, kc_24, kl9_24, upm_app, Int.reduceEq, and_self, and_true, true_and, and_false, false_and, if_true, if_false, ↓reduceIte, hp, hf, Int.reduceToNat, hO]; (try simp (disch := omega) only [w15_0, w15_1, w15_3, w15_4, w15_5, w15_6, w3_0, w3_1, w3_2, upm_app, Int.reduceEq, and_self, and_true, true_and, and_false, false_and, if_true, if_false, ↓reduceIte])))))
    | ((with_reducible refine p_28x ?_ ?_ ?_ (fun _ h9 e9 => ?_) (fun h9 => ?_)); (next => first | exact hB | (intro j; simp only [upm_app, Int.reduceEq, and_self, and_true, true_and, and_false, false_and, if_true, if_false, ↓reduceIte, Int.reduceToNat, upm_f, Int.reduceNe, ne_eq, not_false_eq_true, not_true_eq_false]; exact hB j) | omega | (with_reducible rfl) | ((try simp only [upm_app, Int.reduceEq, and_self, and_true, true_and, and_false, false_and, if_true, if_false, ↓reduceIte]); first | omega | (refine And.intro ?_ ?_ <;> omega) | (unfold w32; omega))); (next => first | exact hB | (intro j; simp only [upm_app, Int.reduceEq, and_self, and_true, true_and, and_false, false_and, if_true, if_false, ↓reduceIte, Int.reduceToNat, upm_f, Int.reduceNe, ne_eq, not_false_eq_true, not_true_eq_false]; exact hB j) | omega | (with_reducible rfl) | ((try simp only [upm_app, Int.reduceEq, and_self, and_true, true_and, and_false, false_and, if_true, if_false, ↓reduceIte]); first | omega | (refine And.intro ?_ ?_ <;> omega) | (unfold w32; omega))); (next => first | exact hB | (intro j; simp only [upm_app, Int.reduceEq, and_self, and_true, true_and, and_false, false_and, if_true, if_false, ↓reduceIte, Int.reduceToNat, upm_f, Int.reduceNe, ne_eq, not_false_eq_true, not_true_eq_false]; exact hB j) | omega | (with_reducible rfl) | ((try simp only [upm_app, Int.reduceEq, and_self, and_true, true_and, and_false, false_and, if_true, if_false, ↓reduceIte]); first | omega | (refine And.intro ?_ ?_ <;> omega) | (unfold w32; omega))); all_goals ((try subst e9); (try subst f9); ((try simp only [upm_app, Int.reduceEq, and_self, and_true, true_and, and_false, false_and, if_true, if_false, ↓reduceIte, hp, hf, Int.reduceToNat] at h9) <;> (simp only [hdl_c, S9_1, S9_m, bud9, live9, inb9, wrn, wr9_14, wr9_15, wr9_16, wr9_17, tq9_14, tq9_15, tq9_16, tq9_17, tq_0, tq_1, tq_3, upr_rl, rl_0, rl_1, rl_2, rl_3, rl_4, rl_5, rl_6, rl_7, rl_8, rl_9, rl_10, rl_11, rl_12, rl_13, sp_0, sp_1, sp_2, sp_3, sp_4, sp_5, sp_6, sp_7, sp_8, sp_9, sp_10, sp_11, sp_12, sp_13, se_0, se_1, se_2, se_3, se_4, se_5, se_6, se_7, se_8, se_9, se_10, se_11, se_12, se_13, sem_0, sem_1, sem_2, sem_3, sem_4, sem_5, List.getD_cons_zero, List.getD_cons_succ, Bool.false_eq_true, wrn3, wrn1, cpmS, cpok9, if_true, if_false, ↓reduceIte, wc_26, wc_27, wc_28, kc_2, kl9_2, sr_2_0, kc_3, kl9_3, kc_4, kl9_4, sr_4_0, sr_4_2, sr_4_4, kc_8, kl9_8, sr_8_10, sr_8_4, sr_8_5, sr_8_6, sr_8_7, sr_8_9, kc_9, kl9_9, kc_10, kl9_10, kc_11, kl9_11, kc_12, kl9_12, kc_13, kl9_13, kc_14, kl9_14, kc_15, kl9_15, sr_15_0, sr_15_1, sr_15_2, sr_15_4, sr_15_5, sr_15_6, sr_15_7, sr_15_8, sr_15_9, kc_16, kl9_16, kc_17, kl9_17, kc_18, kl9_18, kc_19, kl9_19, kc_20, kl9_20, kc_21, kl9_21, kc_22, kl9_22, kc_23, kl9_23, kc_24, kl9_24, upm_app, Int.reduceEq, and_self, and_true, true_and, and_false, false_and, if_true, if_false, ↓reduceIte, hp, hf, Int.reduceToNat, hO]; (try simp (disch := omega) only [w15_0, w15_1, w15_3, w15_4, w15_5, w15_6, w3_0, w3_1, w3_2, upm_app, Int.reduceEq, and_self, and_true, true_and, and_false, false_and, if_true, if_false, ↓reduceIte])))))
    | ((with_reducible refine hq _ _ ?_ (CP_no ?_ ?_ ?_)); (next => with_reducible (repeat (first | assumption | (refine JC_up ?_ (by first | decide | (unfold frC; omega)) (by first | (simp [BdC, hnd]; done) | (simp [BdC, hnd, upm, cpf] <;> first | omega | (unfold w32; omega)))))); done); (next => repeat (first | exact TB_rf hr0 | refine TB_5 ?_ (by decide) | refine TB_4 ?_ (by (try simp only [upm_app, Int.reduceEq, and_self, and_true, true_and, and_false, false_and, if_true, if_false, ↓reduceIte, Int.reduceToNat, upm_f, Int.reduceNe, ne_eq, not_false_eq_true, not_true_eq_false]); first | done | omega | (split <;> omega) | (unfold w32; omega) | (unfold w32; (repeat' split) <;> omega) | (unfold w32 at *; omega)))); (next => (simp only [upm_app, Int.reduceEq, and_self, and_true, true_and, and_false, false_and, if_true, if_false, ↓reduceIte, Int.reduceToNat, upm_f, Int.reduceNe, ne_eq, not_false_eq_true, not_true_eq_false]; first | done | decide)); (next => simp only [lkW, sC, let1, dgt]; refine if_neg (fun q => ?_); omega))
    | ((with_reducible refine hq _ _ ?_ ?_); (next => with_reducible (repeat (first | assumption | (refine JC_up ?_ (by first | decide | (unfold frC; omega)) (by first | (simp [BdC, hnd]; done) | (simp [BdC, hnd, upm, cpf] <;> first | omega | (unfold w32; omega)))))); done); (next => refine CP_W (u := 1) ?_ ?_ ?_ ?_ ?_ ?_ (Or.inl ⟨rfl, rfl⟩) ?_ ?_ ?_; (next => repeat (first | exact TB_rf hr0 | refine TB_5 ?_ (by decide) | refine TB_4 ?_ (by (try simp only [upm_app, Int.reduceEq, and_self, and_true, true_and, and_false, false_and, if_true, if_false, ↓reduceIte, Int.reduceToNat, upm_f, Int.reduceNe, ne_eq, not_false_eq_true, not_true_eq_false]); first | done | omega | (split <;> omega) | (unfold w32; omega) | (unfold w32; (repeat' split) <;> omega) | (unfold w32 at *; omega)))); (next => (try simp only [upm_app, Int.reduceEq, and_self, and_true, true_and, and_false, false_and, if_true, if_false, ↓reduceIte, Int.reduceToNat, upm_f, Int.reduceNe, ne_eq, not_false_eq_true, not_true_eq_false]); first | done | exact hf | omega); (next => (try simp only [upm_app, Int.reduceEq, and_self, and_true, true_and, and_false, false_and, if_true, if_false, ↓reduceIte, Int.reduceToNat, upm_f, Int.reduceNe, ne_eq, not_false_eq_true, not_true_eq_false]); first | done | omega | (split <;> omega) | (unfold w32; omega) | (unfold w32; (repeat' split) <;> omega) | (unfold w32 at *; omega)); (next => (try simp only [upm_app, Int.reduceEq, and_self, and_true, true_and, and_false, false_and, if_true, if_false, ↓reduceIte, Int.reduceToNat, upm_f, Int.reduceNe, ne_eq, not_false_eq_true, not_true_eq_false]); first | done | omega | (split <;> omega) | (unfold w32; omega) | (unfold w32; (repeat' split) <;> omega) | (unfold w32 at *; omega)); (next => (try simp only [upm_app, Int.reduceEq, and_self, and_true, true_and, and_false, false_and, if_true, if_false, ↓reduceIte, Int.reduceToNat, upm_f, Int.reduceNe, ne_eq, not_false_eq_true, not_true_eq_false]); first | done | omega | (split <;> omega) | (unfold w32; omega) | (unfold w32; (repeat' split) <;> omega) | (unfold w32 at *; omega)); (next => (try simp only [upm_app, Int.reduceEq, and_self, and_true, true_and, and_false, false_and, if_true, if_false, ↓reduceIte, Int.reduceToNat, upm_f, Int.reduceNe, ne_eq, not_false_eq_true, not_true_eq_false]); first | done | omega | (split <;> omega) | (unfold w32; omega) | (unfold w32; (repeat' split) <;> omega) | (unfold w32 at *; omega)); (next => (try simp only [upm_app, Int.reduceEq, and_self, and_true, true_and, and_false, false_and, if_true, if_false, ↓reduceIte, Int.reduceToNat, upm_f, Int.reduceNe, ne_eq, not_false_eq_true, not_true_eq_false]); first | done | omega | (split <;> omega) | (unfold w32; omega) | (unfold w32; (repeat' split) <;> omega) | (unfold w32 at *; omega)); (next => (try simp only [upm_app, Int.reduceEq, and_self, and_true, true_and, and_false, false_and, if_true, if_false, ↓reduceIte, Int.reduceToNat, upm_f, Int.reduceNe, ne_eq, not_false_eq_true, not_true_eq_false]); first | done | omega | (split <;> omega) | (unfold w32; omega) | (unfold w32; (repeat' split) <;> omega) | (unfold w32 at *; omega)); (next => simp only [lkW, let1, dgt]; rw [if_pos (by simp only [sC]; (first | omega | (rw [kvC_lo (by omega)]; omega) | (refine ⟨?_, ?_, ?_, ?_, ?_, ?_, ?_, ?_, ?_⟩ <;> omega) | (refine ⟨?_, ?_, ?_, ?_, ?_, ?_⟩ <;> omega)))]; refine some_e ?_ ?_ ?_ ?_ ?_ ?_ <;> (first | rfl | ((try simp only [upm_app, Int.reduceEq, and_self, and_true, true_and, and_false, false_and, if_true, if_false, ↓reduceIte, Int.reduceToNat, upm_f, Int.reduceNe, ne_eq, not_false_eq_true, not_true_eq_false]); first | done | omega | (split <;> omega) | (unfold w32; omega) | (unfold w32; (repeat' split) <;> omega) | (unfold w32 at *; omega)) | ((try simp only [sC]); (congr 1 <;> ((try simp only [upm_app, Int.reduceEq, and_self, and_true, true_and, and_false, false_and, if_true, if_false, ↓reduceIte, Int.reduceToNat, upm_f, Int.reduceNe, ne_eq, not_false_eq_true, not_true_eq_false]); first | done | omega | (split <;> omega) | (unfold w32; omega) | (unfold w32; (repeat' split) <;> omega) | (unfold w32 at *; omega))))))))
    | ((with_reducible refine hq _ _ ?_ ?_); (next => with_reducible (repeat (first | assumption | (refine JC_up ?_ (by first | decide | (unfold frC; omega)) (by first | (simp [BdC, hnd]; done) | (simp [BdC, hnd, upm, cpf] <;> first | omega | (unfold w32; omega)))))); done); (next => refine CP_W (u := 0) ?_ ?_ ?_ ?_ ?_ ?_ (Or.inr ⟨rfl, rfl⟩) ?_ ?_ ?_; (next => repeat (first | exact TB_rf hr0 | refine TB_5 ?_ (by decide) | refine TB_4 ?_ (by (try simp only [upm_app, Int.reduceEq, and_self, and_true, true_and, and_false, false_and, if_true, if_false, ↓reduceIte, Int.reduceToNat, upm_f, Int.reduceNe, ne_eq, not_false_eq_true, not_true_eq_false]); first | done | omega | (split <;> omega) | (unfold w32; omega) | (unfold w32; (repeat' split) <;> omega) | (unfold w32 at *; omega)))); (next => (try simp only [upm_app, Int.reduceEq, and_self, and_true, true_and, and_false, false_and, if_true, if_false, ↓reduceIte, Int.reduceToNat, upm_f, Int.reduceNe, ne_eq, not_false_eq_true, not_true_eq_false]); first | done | exact hf | omega); (next => (try simp only [upm_app, Int.reduceEq, and_self, and_true, true_and, and_false, false_and, if_true, if_false, ↓reduceIte, Int.reduceToNat, upm_f, Int.reduceNe, ne_eq, not_false_eq_true, not_true_eq_false]); first | done | omega | (split <;> omega) | (unfold w32; omega) | (unfold w32; (repeat' split) <;> omega) | (unfold w32 at *; omega)); (next => (try simp only [upm_app, Int.reduceEq, and_self, and_true, true_and, and_false, false_and, if_true, if_false, ↓reduceIte, Int.reduceToNat, upm_f, Int.reduceNe, ne_eq, not_false_eq_true, not_true_eq_false]); first | done | omega | (split <;> omega) | (unfold w32; omega) | (unfold w32; (repeat' split) <;> omega) | (unfold w32 at *; omega)); (next => (try simp only [upm_app, Int.reduceEq, and_self, and_true, true_and, and_false, false_and, if_true, if_false, ↓reduceIte, Int.reduceToNat, upm_f, Int.reduceNe, ne_eq, not_false_eq_true, not_true_eq_false]); first | done | omega | (split <;> omega) | (unfold w32; omega) | (unfold w32; (repeat' split) <;> omega) | (unfold w32 at *; omega)); (next => (try simp only [upm_app, Int.reduceEq, and_self, and_true, true_and, and_false, false_and, if_true, if_false, ↓reduceIte, Int.reduceToNat, upm_f, Int.reduceNe, ne_eq, not_false_eq_true, not_true_eq_false]); first | done | omega | (split <;> omega) | (unfold w32; omega) | (unfold w32; (repeat' split) <;> omega) | (unfold w32 at *; omega)); (next => (try simp only [upm_app, Int.reduceEq, and_self, and_true, true_and, and_false, false_and, if_true, if_false, ↓reduceIte, Int.reduceToNat, upm_f, Int.reduceNe, ne_eq, not_false_eq_true, not_true_eq_false]); first | done | omega | (split <;> omega) | (unfold w32; omega) | (unfold w32; (repeat' split) <;> omega) | (unfold w32 at *; omega)); (next => (try simp only [upm_app, Int.reduceEq, and_self, and_true, true_and, and_false, false_and, if_true, if_false, ↓reduceIte, Int.reduceToNat, upm_f, Int.reduceNe, ne_eq, not_false_eq_true, not_true_eq_false]); first | done | omega | (split <;> omega) | (unfold w32; omega) | (unfold w32; (repeat' split) <;> omega) | (unfold w32 at *; omega)); (next => simp only [lkW, let1, dgt]; rw [if_pos (by simp only [sC]; (first | omega | (rw [kvC_lo (by omega)]; omega) | (refine ⟨?_, ?_, ?_, ?_, ?_, ?_, ?_, ?_, ?_⟩ <;> omega) | (refine ⟨?_, ?_, ?_, ?_, ?_, ?_⟩ <;> omega)))]; refine some_e ?_ ?_ ?_ ?_ ?_ ?_ <;> (first | rfl | ((try simp only [upm_app, Int.reduceEq, and_self, and_true, true_and, and_false, false_and, if_true, if_false, ↓reduceIte, Int.reduceToNat, upm_f, Int.reduceNe, ne_eq, not_false_eq_true, not_true_eq_false]); first | done | omega | (split <;> omega) | (unfold w32; omega) | (unfold w32; (repeat' split) <;> omega) | (unfold w32 at *; omega)) | ((try simp only [sC]); (congr 1 <;> ((try simp only [upm_app, Int.reduceEq, and_self, and_true, true_and, and_false, false_and, if_true, if_false, ↓reduceIte, Int.reduceToNat, upm_f, Int.reduceNe, ne_eq, not_false_eq_true, not_true_eq_false]); first | done | omega | (split <;> omega) | (unfold w32; omega) | (unfold w32; (repeat' split) <;> omega) | (unfold w32 at *; omega))))))))
    | (unfold w32; omega)
    | (simp (disch := omega) only [w32_eq]; omega)
    | (with_reducible show (_ : Int) ≤ _; simp [upm] <;> (first | omega | (unfold w32; omega)))
    | (with_reducible show (_ : Int) < _; simp [upm] <;> (first | omega | (unfold w32; omega))))

set_option maxHeartbeats 8000000 in
theorem f_29 {d : Nat} {tc e p : Int} {g : Fg} {m : Mem} {Q : Int → Sto → Prop} (hB : ∀ j, 0 ≤ m 3 j ∧ m 3 j < 256) (hf : m 2 5 = 0) (hp : m 2 4 = p + 1) (hA : 0 ≤ p ∧ p + 1 ≤ m 2 2 ∧ m 2 2 ≤ 76) (hr : m 8 2 < 5) (hJ : JC 1 g tc m) (hq : ∀ v m', JC 1 g tc m' → CP (lkO (m 3) (m 2 2) (sC m) p (nv (m 3) (m 2 2) 3 0 (p + 1))) m m' → Q v (S9 e m')) : Cl (d + 4) 29 [8, 2, 15] Q (S9 e m) := by
  have hL := JC_l hJ
  have hs := JC_s hJ
  have hr0 : 0 ≤ m 2 4 ∧ m 2 4 ≤ 80 := by omega
  have hn := nv_r (T := m 3) (L := m 2 2) 3 0 (p + 1) (by decide)
  simp only [cl_29, runB, B29, ma_29, rho_222, wf_4_103, wf_4_118, wf_4_24, wf_4_30, wf_4_37, wf_4_9, wpf_4_37, wpopadd_pf_4_37, wc_26, wc_27, wc_30, wc_32, wc_33, wc_34, wc_35, cl_33, B33, ma_33, rho_20, cl_35, B35, ma_35, rho_2000, wf_5_15, wf_5_18, wf_5_9, wpf_5_45, wpopand_pf_5_45, w_cst, w_ldi, w_ldj, w_lda, w_ljk, w_ldk, w_ldw, w_ldk2, w_ldt, w_ldtw, w_neg, w_cvb, w_cvs, w_cvc, w_cvj, w_add, w_sub, w_mul, w_ban, w_bor, w_bxo, w_shl, w_shr, w_ush, w_dvi, w_rmi, w_aldi, w_aldj, w_aldz, w_aldc, w_alda, w_ite, w_cmp, w_cmj, w_cz, w_cnot, w_cand, w_cor, w_nil, w_cons, w_cvi, w_csta, w_cvt, w_cvv, w_csv, w_cpy, w_seq, w_sbr, w_sbn, w_brk, w_ifs, w_ifx, w_ife, w_wk, w_rets, w_rtv, w_thr, w_asi, w_asj, w_asa, w_inc, w_exs, w_asti, w_astj, w_astz, w_astc, w_aopadd, w_aopsub, w_sw, if_true, if_false, ↓reduceIte, hdl_c, S9_1, S9_m, bud9, live9, inb9, wrn, wr9_14, wr9_15, wr9_16, wr9_17, tq9_14, tq9_15, tq9_16, tq9_17, tq_0, tq_1, tq_3, upr_rl, rl_0, rl_1, rl_2, rl_3, rl_4, rl_5, rl_6, rl_7, rl_8, rl_9, rl_10, rl_11, rl_12, rl_13, sp_0, sp_1, sp_2, sp_3, sp_4, sp_5, sp_6, sp_7, sp_8, sp_9, sp_10, sp_11, sp_12, sp_13, se_0, se_1, se_2, se_3, se_4, se_5, se_6, se_7, se_8, se_9, se_10, se_11, se_12, se_13, sem_0, sem_1, sem_2, sem_3, sem_4, sem_5, kc_2, kl9_2, sr_2_0, kc_3, kl9_3, kc_4, kl9_4, sr_4_0, sr_4_2, sr_4_4, kc_8, kl9_8, sr_8_10, sr_8_4, sr_8_5, sr_8_6, sr_8_7, sr_8_9, kc_9, kl9_9, kc_10, kl9_10, kc_11, kl9_11, kc_12, kl9_12, kc_13, kl9_13, kc_14, kl9_14, kc_15, kl9_15, sr_15_0, sr_15_1, sr_15_2, sr_15_4, sr_15_5, sr_15_6, sr_15_7, sr_15_8, sr_15_9, kc_16, kl9_16, kc_17, kl9_17, kc_18, kl9_18, kc_19, kl9_19, kc_20, kl9_20, kc_21, kl9_21, kc_22, kl9_22, kc_23, kl9_23, kc_24, kl9_24, List.getD_cons_zero, List.getD_cons_succ, Bool.false_eq_true, wrn3, wrn1, cpmS, cpok9, upm_app, Int.reduceEq, and_self, and_true, true_and, and_false, false_and, if_true, if_false, ↓reduceIte, hp, hf, Int.reduceToNat]
  repeat' (first
    | (with_reducible exact True.intro)
    | omega
    | (with_reducible rfl)
    | (with_reducible contradiction)
    | (with_reducible refine And.intro ?_ ?_)
    | intro _
    | ((with_reducible refine p_30x ?_ ?_ ?_ ?_ ?_ (fun v9 x9 h9 e9 f9 => ?_) (fun h9 => ?_)); (next => first | exact hB | (intro j; simp only [upm_app, Int.reduceEq, and_self, and_true, true_and, and_false, false_and, if_true, if_false, ↓reduceIte, Int.reduceToNat, upm_f, Int.reduceNe, ne_eq, not_false_eq_true, not_true_eq_false]; exact hB j) | omega | (with_reducible rfl) | ((try simp only [upm_app, Int.reduceEq, and_self, and_true, true_and, and_false, false_and, if_true, if_false, ↓reduceIte]); first | omega | (refine And.intro ?_ ?_ <;> omega) | (unfold w32; omega))); (next => first | exact hB | (intro j; simp only [upm_app, Int.reduceEq, and_self, and_true, true_and, and_false, false_and, if_true, if_false, ↓reduceIte, Int.reduceToNat, upm_f, Int.reduceNe, ne_eq, not_false_eq_true, not_true_eq_false]; exact hB j) | omega | (with_reducible rfl) | ((try simp only [upm_app, Int.reduceEq, and_self, and_true, true_and, and_false, false_and, if_true, if_false, ↓reduceIte]); first | omega | (refine And.intro ?_ ?_ <;> omega) | (unfold w32; omega))); (next => first | exact hB | (intro j; simp only [upm_app, Int.reduceEq, and_self, and_true, true_and, and_false, false_and, if_true, if_false, ↓reduceIte, Int.reduceToNat, upm_f, Int.reduceNe, ne_eq, not_false_eq_true, not_true_eq_false]; exact hB j) | omega | (with_reducible rfl) | ((try simp only [upm_app, Int.reduceEq, and_self, and_true, true_and, and_false, false_and, if_true, if_false, ↓reduceIte]); first | omega | (refine And.intro ?_ ?_ <;> omega) | (unfold w32; omega))); (next => first | exact hB | (intro j; simp only [upm_app, Int.reduceEq, and_self, and_true, true_and, and_false, false_and, if_true, if_false, ↓reduceIte, Int.reduceToNat, upm_f, Int.reduceNe, ne_eq, not_false_eq_true, not_true_eq_false]; exact hB j) | omega | (with_reducible rfl) | ((try simp only [upm_app, Int.reduceEq, and_self, and_true, true_and, and_false, false_and, if_true, if_false, ↓reduceIte]); first | omega | (refine And.intro ?_ ?_ <;> omega) | (unfold w32; omega))); (next => first | exact hB | (intro j; simp only [upm_app, Int.reduceEq, and_self, and_true, true_and, and_false, false_and, if_true, if_false, ↓reduceIte, Int.reduceToNat, upm_f, Int.reduceNe, ne_eq, not_false_eq_true, not_true_eq_false]; exact hB j) | omega | (with_reducible rfl) | ((try simp only [upm_app, Int.reduceEq, and_self, and_true, true_and, and_false, false_and, if_true, if_false, ↓reduceIte]); first | omega | (refine And.intro ?_ ?_ <;> omega) | (unfold w32; omega))); all_goals ((try subst e9); (try subst f9); ((try simp only [upm_app, Int.reduceEq, and_self, and_true, true_and, and_false, false_and, if_true, if_false, ↓reduceIte, hp, hf, Int.reduceToNat] at h9) <;> (simp only [hdl_c, S9_1, S9_m, bud9, live9, inb9, wrn, wr9_14, wr9_15, wr9_16, wr9_17, tq9_14, tq9_15, tq9_16, tq9_17, tq_0, tq_1, tq_3, upr_rl, rl_0, rl_1, rl_2, rl_3, rl_4, rl_5, rl_6, rl_7, rl_8, rl_9, rl_10, rl_11, rl_12, rl_13, sp_0, sp_1, sp_2, sp_3, sp_4, sp_5, sp_6, sp_7, sp_8, sp_9, sp_10, sp_11, sp_12, sp_13, se_0, se_1, se_2, se_3, se_4, se_5, se_6, se_7, se_8, se_9, se_10, se_11, se_12, se_13, sem_0, sem_1, sem_2, sem_3, sem_4, sem_5, List.getD_cons_zero, List.getD_cons_succ, Bool.false_eq_true, wrn3, wrn1, cpmS, cpok9, if_true, if_false, ↓reduceIte, wc_26, wc_27, wc_30, wc_32, wc_33, wc_34, wc_35, cl_33, runB, B33, ma_33, rho_20, wf_4_30, cl_35, B35, ma_35, rho_2000, wf_5_15, wf_5_18, wf_5_9, wpf_5_45, wpopand_pf_5_45, w_cst, w_ldi, w_ldj, w_lda, w_ljk, w_ldk, w_ldw, w_ldk2, w_ldt, w_ldtw, w_neg, w_cvb, w_cvs, w_cvc, w_cvj, w_add, w_sub, w_mul, w_ban, w_bor, w_bxo, w_shl, w_shr, w_ush, w_dvi, w_rmi, w_aldi, w_aldj, w_aldz, w_aldc, w_alda, w_ite, w_cmp, w_cmj, w_cz, w_cnot, w_cand, w_cor, w_nil, w_cons, w_cvi, w_csta, w_cvt, w_cvv, w_csv, w_cpy, w_seq, w_sbr, w_sbn, w_brk, w_ifs, w_ifx, w_ife, w_wk, w_rets, w_rtv, w_thr, w_asi, w_asj, w_asa, w_inc, w_exs, w_asti, w_astj, w_astz, w_astc, w_aopadd, w_aopsub, w_sw, if_true, if_false, ↓reduceIte, kc_2, kl9_2, sr_2_0, kc_3, kl9_3, kc_4, kl9_4, sr_4_0, sr_4_2, sr_4_4, kc_8, kl9_8, sr_8_10, sr_8_4, sr_8_5, sr_8_6, sr_8_7, sr_8_9, kc_9, kl9_9, kc_10, kl9_10, kc_11, kl9_11, kc_12, kl9_12, kc_13, kl9_13, kc_14, kl9_14, kc_15, kl9_15, sr_15_0, sr_15_1, sr_15_2, sr_15_4, sr_15_5, sr_15_6, sr_15_7, sr_15_8, sr_15_9, kc_16, kl9_16, kc_17, kl9_17, kc_18, kl9_18, kc_19, kl9_19, kc_20, kl9_20, kc_21, kl9_21, kc_22, kl9_22, kc_23, kl9_23, kc_24, kl9_24, upm_app, Int.reduceEq, and_self, and_true, true_and, and_false, false_and, if_true, if_false, ↓reduceIte, hp, hf, Int.reduceToNat]; (try simp (disch := omega) only [w15_0, w15_1, w15_3, w15_4, w15_5, w15_6, w3_0, w3_1, w3_2, upm_app, Int.reduceEq, and_self, and_true, true_and, and_false, false_and, if_true, if_false, ↓reduceIte])))))
    | ((with_reducible refine p_32x ?_ ?_ ?_ (fun _ _ h9 e9 => ?_) (fun _ h9 => ?_)); (next => first | exact hB | (intro j; simp only [upm_app, Int.reduceEq, and_self, and_true, true_and, and_false, false_and, if_true, if_false, ↓reduceIte, Int.reduceToNat, upm_f, Int.reduceNe, ne_eq, not_false_eq_true, not_true_eq_false]; exact hB j) | omega | (with_reducible rfl) | ((try simp only [upm_app, Int.reduceEq, and_self, and_true, true_and, and_false, false_and, if_true, if_false, ↓reduceIte]); first | omega | (refine And.intro ?_ ?_ <;> omega) | (unfold w32; omega))); (next => first | exact hB | (intro j; simp only [upm_app, Int.reduceEq, and_self, and_true, true_and, and_false, false_and, if_true, if_false, ↓reduceIte, Int.reduceToNat, upm_f, Int.reduceNe, ne_eq, not_false_eq_true, not_true_eq_false]; exact hB j) | omega | (with_reducible rfl) | ((try simp only [upm_app, Int.reduceEq, and_self, and_true, true_and, and_false, false_and, if_true, if_false, ↓reduceIte]); first | omega | (refine And.intro ?_ ?_ <;> omega) | (unfold w32; omega))); (next => first | exact hB | (intro j; simp only [upm_app, Int.reduceEq, and_self, and_true, true_and, and_false, false_and, if_true, if_false, ↓reduceIte, Int.reduceToNat, upm_f, Int.reduceNe, ne_eq, not_false_eq_true, not_true_eq_false]; exact hB j) | omega | (with_reducible rfl) | ((try simp only [upm_app, Int.reduceEq, and_self, and_true, true_and, and_false, false_and, if_true, if_false, ↓reduceIte]); first | omega | (refine And.intro ?_ ?_ <;> omega) | (unfold w32; omega))); all_goals ((try subst e9); (try subst f9); ((try simp only [upm_app, Int.reduceEq, and_self, and_true, true_and, and_false, false_and, if_true, if_false, ↓reduceIte, hp, hf, Int.reduceToNat] at h9) <;> (simp only [hdl_c, S9_1, S9_m, bud9, live9, inb9, wrn, wr9_14, wr9_15, wr9_16, wr9_17, tq9_14, tq9_15, tq9_16, tq9_17, tq_0, tq_1, tq_3, upr_rl, rl_0, rl_1, rl_2, rl_3, rl_4, rl_5, rl_6, rl_7, rl_8, rl_9, rl_10, rl_11, rl_12, rl_13, sp_0, sp_1, sp_2, sp_3, sp_4, sp_5, sp_6, sp_7, sp_8, sp_9, sp_10, sp_11, sp_12, sp_13, se_0, se_1, se_2, se_3, se_4, se_5, se_6, se_7, se_8, se_9, se_10, se_11, se_12, se_13, sem_0, sem_1, sem_2, sem_3, sem_4, sem_5, List.getD_cons_zero, List.getD_cons_succ, Bool.false_eq_true, wrn3, wrn1, cpmS, cpok9, if_true, if_false, ↓reduceIte, wc_26, wc_27, wc_30, wc_32, wc_33, wc_34, wc_35, cl_33, runB, B33, ma_33, rho_20, wf_4_30, cl_35, B35, ma_35, rho_2000, wf_5_15, wf_5_18, wf_5_9, wpf_5_45, wpopand_pf_5_45, w_cst, w_ldi, w_ldj, w_lda, w_ljk, w_ldk, w_ldw, w_ldk2, w_ldt, w_ldtw, w_neg, w_cvb, w_cvs, w_cvc, w_cvj, w_add, w_sub, w_mul, w_ban, w_bor, w_bxo, w_shl, w_shr, w_ush, w_dvi, w_rmi, w_aldi, w_aldj, w_aldz, w_aldc, w_alda, w_ite, w_cmp, w_cmj, w_cz, w_cnot, w_cand, w_cor, w_nil, w_cons, w_cvi, w_csta, w_cvt, w_cvv, w_csv, w_cpy, w_seq, w_sbr, w_sbn, w_brk, w_ifs, w_ifx, w_ife, w_wk, w_rets, w_rtv, w_thr, w_asi, w_asj, w_asa, w_inc, w_exs, w_asti, w_astj, w_astz, w_astc, w_aopadd, w_aopsub, w_sw, if_true, if_false, ↓reduceIte, kc_2, kl9_2, sr_2_0, kc_3, kl9_3, kc_4, kl9_4, sr_4_0, sr_4_2, sr_4_4, kc_8, kl9_8, sr_8_10, sr_8_4, sr_8_5, sr_8_6, sr_8_7, sr_8_9, kc_9, kl9_9, kc_10, kl9_10, kc_11, kl9_11, kc_12, kl9_12, kc_13, kl9_13, kc_14, kl9_14, kc_15, kl9_15, sr_15_0, sr_15_1, sr_15_2, sr_15_4, sr_15_5, sr_15_6, sr_15_7, sr_15_8, sr_15_9, kc_16, kl9_16, kc_17, kl9_17, kc_18, kl9_18, kc_19, kl9_19, kc_20, kl9_20, kc_21, kl9_21, kc_22, kl9_22, kc_23, kl9_23, kc_24, kl9_24, upm_app, Int.reduceEq, and_self, and_true, true_and, and_false, false_and, if_true, if_false, ↓reduceIte, hp, hf, Int.reduceToNat]; (try simp (disch := omega) only [w15_0, w15_1, w15_3, w15_4, w15_5, w15_6, w3_0, w3_1, w3_2, upm_app, Int.reduceEq, and_self, and_true, true_and, and_false, false_and, if_true, if_false, ↓reduceIte])))))
    | ((with_reducible refine p_27x ?_ ?_ ?_ ?_ (fun _ _ h9 e9 f9 => ?_) (fun h9 => ?_)); (next => first | exact hB | (intro j; simp only [upm_app, Int.reduceEq, and_self, and_true, true_and, and_false, false_and, if_true, if_false, ↓reduceIte, Int.reduceToNat, upm_f, Int.reduceNe, ne_eq, not_false_eq_true, not_true_eq_false]; exact hB j) | omega | (with_reducible rfl) | ((try simp only [upm_app, Int.reduceEq, and_self, and_true, true_and, and_false, false_and, if_true, if_false, ↓reduceIte]); first | omega | (refine And.intro ?_ ?_ <;> omega) | (unfold w32; omega))); (next => first | exact hB | (intro j; simp only [upm_app, Int.reduceEq, and_self, and_true, true_and, and_false, false_and, if_true, if_false, ↓reduceIte, Int.reduceToNat, upm_f, Int.reduceNe, ne_eq, not_false_eq_true, not_true_eq_false]; exact hB j) | omega | (with_reducible rfl) | ((try simp only [upm_app, Int.reduceEq, and_self, and_true, true_and, and_false, false_and, if_true, if_false, ↓reduceIte]); first | omega | (refine And.intro ?_ ?_ <;> omega) | (unfold w32; omega))); (next => first | exact hB | (intro j; simp only [upm_app, Int.reduceEq, and_self, and_true, true_and, and_false, false_and, if_true, if_false, ↓reduceIte, Int.reduceToNat, upm_f, Int.reduceNe, ne_eq, not_false_eq_true, not_true_eq_false]; exact hB j) | omega | (with_reducible rfl) | ((try simp only [upm_app, Int.reduceEq, and_self, and_true, true_and, and_false, false_and, if_true, if_false, ↓reduceIte]); first | omega | (refine And.intro ?_ ?_ <;> omega) | (unfold w32; omega))); (next => first | exact hB | (intro j; simp only [upm_app, Int.reduceEq, and_self, and_true, true_and, and_false, false_and, if_true, if_false, ↓reduceIte, Int.reduceToNat, upm_f, Int.reduceNe, ne_eq, not_false_eq_true, not_true_eq_false]; exact hB j) | omega | (with_reducible rfl) | ((try simp only [upm_app, Int.reduceEq, and_self, and_true, true_and, and_false, false_and, if_true, if_false, ↓reduceIte]); first | omega | (refine And.intro ?_ ?_ <;> omega) | (unfold w32; omega))); all_goals ((try subst e9); (try subst f9); ((try simp only [upm_app, Int.reduceEq, and_self, and_true, true_and, and_false, false_and, if_true, if_false, ↓reduceIte, hp, hf, Int.reduceToNat] at h9) <;> (simp only [hdl_c, S9_1, S9_m, bud9, live9, inb9, wrn, wr9_14, wr9_15, wr9_16, wr9_17, tq9_14, tq9_15, tq9_16, tq9_17, tq_0, tq_1, tq_3, upr_rl, rl_0, rl_1, rl_2, rl_3, rl_4, rl_5, rl_6, rl_7, rl_8, rl_9, rl_10, rl_11, rl_12, rl_13, sp_0, sp_1, sp_2, sp_3, sp_4, sp_5, sp_6, sp_7, sp_8, sp_9, sp_10, sp_11, sp_12, sp_13, se_0, se_1, se_2, se_3, se_4, se_5, se_6, se_7, se_8, se_9, se_10, se_11, se_12, se_13, sem_0, sem_1, sem_2, sem_3, sem_4, sem_5, List.getD_cons_zero, List.getD_cons_succ, Bool.false_eq_true, wrn3, wrn1, cpmS, cpok9, if_true, if_false, ↓reduceIte, wc_26, wc_27, wc_30, wc_32, wc_33, wc_34, wc_35, cl_33, runB, B33, ma_33, rho_20, wf_4_30, cl_35, B35, ma_35, rho_2000, wf_5_15, wf_5_18, wf_5_9, wpf_5_45, wpopand_pf_5_45, w_cst, w_ldi, w_ldj, w_lda, w_ljk, w_ldk, w_ldw, w_ldk2, w_ldt, w_ldtw, w_neg, w_cvb, w_cvs, w_cvc, w_cvj, w_add, w_sub, w_mul, w_ban, w_bor, w_bxo, w_shl, w_shr, w_ush, w_dvi, w_rmi, w_aldi, w_aldj, w_aldz, w_aldc, w_alda, w_ite, w_cmp, w_cmj, w_cz, w_cnot, w_cand, w_cor, w_nil, w_cons, w_cvi, w_csta, w_cvt, w_cvv, w_csv, w_cpy, w_seq, w_sbr, w_sbn, w_brk, w_ifs, w_ifx, w_ife, w_wk, w_rets, w_rtv, w_thr, w_asi, w_asj, w_asa, w_inc, w_exs, w_asti, w_astj, w_astz, w_astc, w_aopadd, w_aopsub, w_sw, if_true, if_false, ↓reduceIte, kc_2, kl9_2, sr_2_0, kc_3, kl9_3, kc_4, kl9_4, sr_4_0, sr_4_2, sr_4_4, kc_8, kl9_8, sr_8_10, sr_8_4, sr_8_5, sr_8_6, sr_8_7, sr_8_9, kc_9, kl9_9, kc_10, kl9_10, kc_11, kl9_11, kc_12, kl9_12, kc_13, kl9_13, kc_14, kl9_14, kc_15, kl9_15, sr_15_0, sr_15_1, sr_15_2, sr_15_4, sr_15_5, sr_15_6, sr_15_7, sr_15_8, sr_15_9, kc_16, kl9_16, kc_17, kl9_17, kc_18, kl9_18, kc_19, kl9_19, kc_20, kl9_20, kc_21, kl9_21, kc_22, kl9_22, kc_23, kl9_23, kc_24, kl9_24, upm_app, Int.reduceEq, and_self, and_true, true_and, and_false, false_and, if_true, if_false, ↓reduceIte, hp, hf, Int.reduceToNat]; (try simp (disch := omega) only [w15_0, w15_1, w15_3, w15_4, w15_5, w15_6, w3_0, w3_1, w3_2, upm_app, Int.reduceEq, and_self, and_true, true_and, and_false, false_and, if_true, if_false, ↓reduceIte])))))
    | ((with_reducible refine p_26x ?_ ?_ ?_ ?_ ?_ (fun _ _ h9 e9 f9 => ?_) (fun h9 => ?_)); (next => first | exact hB | (intro j; simp only [upm_app, Int.reduceEq, and_self, and_true, true_and, and_false, false_and, if_true, if_false, ↓reduceIte, Int.reduceToNat, upm_f, Int.reduceNe, ne_eq, not_false_eq_true, not_true_eq_false]; exact hB j) | omega | (with_reducible rfl) | ((try simp only [upm_app, Int.reduceEq, and_self, and_true, true_and, and_false, false_and, if_true, if_false, ↓reduceIte]); first | omega | (refine And.intro ?_ ?_ <;> omega) | (unfold w32; omega))); (next => first | exact hB | (intro j; simp only [upm_app, Int.reduceEq, and_self, and_true, true_and, and_false, false_and, if_true, if_false, ↓reduceIte, Int.reduceToNat, upm_f, Int.reduceNe, ne_eq, not_false_eq_true, not_true_eq_false]; exact hB j) | omega | (with_reducible rfl) | ((try simp only [upm_app, Int.reduceEq, and_self, and_true, true_and, and_false, false_and, if_true, if_false, ↓reduceIte]); first | omega | (refine And.intro ?_ ?_ <;> omega) | (unfold w32; omega))); (next => first | exact hB | (intro j; simp only [upm_app, Int.reduceEq, and_self, and_true, true_and, and_false, false_and, if_true, if_false, ↓reduceIte, Int.reduceToNat, upm_f, Int.reduceNe, ne_eq, not_false_eq_true, not_true_eq_false]; exact hB j) | omega | (with_reducible rfl) | ((try simp only [upm_app, Int.reduceEq, and_self, and_true, true_and, and_false, false_and, if_true, if_false, ↓reduceIte]); first | omega | (refine And.intro ?_ ?_ <;> omega) | (unfold w32; omega))); (next => first | exact hB | (intro j; simp only [upm_app, Int.reduceEq, and_self, and_true, true_and, and_false, false_and, if_true, if_false, ↓reduceIte, Int.reduceToNat, upm_f, Int.reduceNe, ne_eq, not_false_eq_true, not_true_eq_false]; exact hB j) | omega | (with_reducible rfl) | ((try simp only [upm_app, Int.reduceEq, and_self, and_true, true_and, and_false, false_and, if_true, if_false, ↓reduceIte]); first | omega | (refine And.intro ?_ ?_ <;> omega) | (unfold w32; omega))); (next => first | exact hB | (intro j; simp only [upm_app, Int.reduceEq, and_self, and_true, true_and, and_false, false_and, if_true, if_false, ↓reduceIte, Int.reduceToNat, upm_f, Int.reduceNe, ne_eq, not_false_eq_true, not_true_eq_false]; exact hB j) | omega | (with_reducible rfl) | ((try simp only [upm_app, Int.reduceEq, and_self, and_true, true_and, and_false, false_and, if_true, if_false, ↓reduceIte]); first | omega | (refine And.intro ?_ ?_ <;> omega) | (unfold w32; omega))); all_goals ((try subst e9); (try subst f9); ((try simp only [upm_app, Int.reduceEq, and_self, and_true, true_and, and_false, false_and, if_true, if_false, ↓reduceIte, hp, hf, Int.reduceToNat] at h9) <;> (simp only [hdl_c, S9_1, S9_m, bud9, live9, inb9, wrn, wr9_14, wr9_15, wr9_16, wr9_17, tq9_14, tq9_15, tq9_16, tq9_17, tq_0, tq_1, tq_3, upr_rl, rl_0, rl_1, rl_2, rl_3, rl_4, rl_5, rl_6, rl_7, rl_8, rl_9, rl_10, rl_11, rl_12, rl_13, sp_0, sp_1, sp_2, sp_3, sp_4, sp_5, sp_6, sp_7, sp_8, sp_9, sp_10, sp_11, sp_12, sp_13, se_0, se_1, se_2, se_3, se_4, se_5, se_6, se_7, se_8, se_9, se_10, se_11, se_12, se_13, sem_0, sem_1, sem_2, sem_3, sem_4, sem_5, List.getD_cons_zero, List.getD_cons_succ, Bool.false_eq_true, wrn3, wrn1, cpmS, cpok9, if_true, if_false, ↓reduceIte, wc_26, wc_27, wc_30, wc_32, wc_33, wc_34, wc_35, cl_33, runB, B33, ma_33, rho_20, wf_4_30, cl_35, B35, ma_35, rho_2000, wf_5_15, wf_5_18, wf_5_9, wpf_5_45, wpopand_pf_5_45, w_cst, w_ldi, w_ldj, w_lda, w_ljk, w_ldk, w_ldw, w_ldk2, w_ldt, w_ldtw, w_neg, w_cvb, w_cvs, w_cvc, w_cvj, w_add, w_sub, w_mul, w_ban, w_bor, w_bxo, w_shl, w_shr, w_ush, w_dvi, w_rmi, w_aldi, w_aldj, w_aldz, w_aldc, w_alda, w_ite, w_cmp, w_cmj, w_cz, w_cnot, w_cand, w_cor, w_nil, w_cons, w_cvi, w_csta, w_cvt, w_cvv, w_csv, w_cpy, w_seq, w_sbr, w_sbn, w_brk, w_ifs, w_ifx, w_ife, w_wk, w_rets, w_rtv, w_thr, w_asi, w_asj, w_asa, w_inc, w_exs, w_asti, w_astj, w_astz, w_astc, w_aopadd, w_aopsub, w_sw, if_true, if_false, ↓reduceIte, kc_2, kl9_2, sr_2_0, kc_3, kl9_3, kc_4, kl9_4, sr_4_0, sr_4_2, sr_4_4, kc_8, kl9_8, sr_8_10, sr_8_4, sr_8_5, sr_8_6, sr_8_7, sr_8_9, kc_9, kl9_9, kc_10, kl9_10, kc_11, kl9_11, kc_12, kl9_12, kc_13, kl9_13, kc_14, kl9_14, kc_15, kl9_15, sr_15_0, sr_15_1, sr_15_2, sr_15_4, sr_15_5, sr_15_6, sr_15_7, sr_15_8, sr_15_9, kc_16, kl9_16, kc_17, kl9_17, kc_18, kl9_18, kc_19, kl9_19, kc_20, kl9_20, kc_21, kl9_21, kc_22, kl9_22, kc_23, kl9_23, kc_24, kl9_24, upm_app, Int.reduceEq, and_self, and_true, true_and, and_false, false_and, if_true, if_false, ↓reduceIte, hp, hf, Int.reduceToNat]; (try simp (disch := omega) only [w15_0, w15_1, w15_3, w15_4, w15_5, w15_6, w3_0, w3_1, w3_2, upm_app, Int.reduceEq, and_self, and_true, true_and, and_false, false_and, if_true, if_false, ↓reduceIte])))))
    | ((with_reducible refine p_34x (fun _ h9 => ?_) (fun _ h9 => ?_)); all_goals ((try subst e9); (try subst f9); ((try simp only [upm_app, Int.reduceEq, and_self, and_true, true_and, and_false, false_and, if_true, if_false, ↓reduceIte, hp, hf, Int.reduceToNat] at h9) <;> (simp only [hdl_c, S9_1, S9_m, bud9, live9, inb9, wrn, wr9_14, wr9_15, wr9_16, wr9_17, tq9_14, tq9_15, tq9_16, tq9_17, tq_0, tq_1, tq_3, upr_rl, rl_0, rl_1, rl_2, rl_3, rl_4, rl_5, rl_6, rl_7, rl_8, rl_9, rl_10, rl_11, rl_12, rl_13, sp_0, sp_1, sp_2, sp_3, sp_4, sp_5, sp_6, sp_7, sp_8, sp_9, sp_10, sp_11, sp_12, sp_13, se_0, se_1, se_2, se_3, se_4, se_5, se_6, se_7, se_8, se_9, se_10, se_11, se_12, se_13, sem_0, sem_1, sem_2, sem_3, sem_4, sem_5, List.getD_cons_zero, List.getD_cons_succ, Bool.false_eq_true, wrn3, wrn1, cpmS, cpok9, if_true, if_false, ↓reduceIte, wc_26, wc_27, wc_30, wc_32, wc_33, wc_34, wc_35, cl_33, runB, B33, ma_33, rho_20, wf_4_30, cl_35, B35, ma_35, rho_2000, wf_5_15, wf_5_18, wf_5_9, wpf_5_45, wpopand_pf_5_45, w_cst, w_ldi, w_ldj, w_lda, w_ljk, w_ldk, w_ldw, w_ldk2, w_ldt, w_ldtw, w_neg, w_cvb, w_cvs, w_cvc, w_cvj, w_add, w_sub, w_mul, w_ban, w_bor, w_bxo, w_shl, w_shr, w_ush, w_dvi, w_rmi, w_aldi, w_aldj, w_aldz, w_aldc, w_alda, w_ite, w_cmp, w_cmj, w_cz, w_cnot, w_cand, w_cor, w_nil, w_cons, w_cvi, w_csta, w_cvt, w_cvv, w_csv, w_cpy, w_seq, w_sbr, w_sbn, w_brk, w_ifs, w_ifx, w_ife, w_wk, w_rets, w_rtv, w_thr, w_asi, w_asj, w_asa, w_inc, w_exs, w_asti, w_astj, w_astz, w_astc, w_aopadd, w_aopsub, w_sw, if_true, if_false, ↓reduceIte, kc_2, kl9_2, sr_2_0, kc_3, kl9_3, kc_4, kl9_4, sr_4_0, sr_4_2, sr_4_4, kc_8, kl9_8, sr_8_10, sr_8_4, sr_8_5, sr_8_6, sr_8_7, sr_8_9, kc_9, kl9_9, kc_10, kl9_10, kc_11, kl9_11, kc_12, kl9_12, kc_13, kl9_13, kc_14, kl9_14, kc_15, kl9_15, sr_15_0, sr_15_1, sr_15_2, sr_15_4, sr_15_5, sr_15_6, sr_15_7, sr_15_8, sr_15_9, kc_16, kl9_16, kc_17, kl9_17, kc_18, kl9_18, kc_19, kl9_19, kc_20, kl9_20, kc_21, kl9_21, kc_22, kl9_22, kc_23, kl9_23, kc_24, kl9_24, upm_app, Int.reduceEq, and_self, and_true, true_and, and_false, false_and, if_true, if_false, ↓reduceIte, hp, hf, Int.reduceToNat]; (try simp (disch := omega) only [w15_0, w15_1, w15_3, w15_4, w15_5, w15_6, w3_0, w3_1, w3_2, upm_app, Int.reduceEq, and_self, and_true, true_and, and_false, false_and, if_true, if_false, ↓reduceIte])))))
    | ((with_reducible refine hq _ _ ?_ (CP_no ?_ ?_ ?_)); (next => with_reducible (repeat (first | assumption | (refine JC_up ?_ (by first | decide | (unfold frC; omega)) (by first | (simp [BdC, hnd]; done) | (simp [BdC, hnd, upm, cpf] <;> first | omega | (unfold w32; omega)))))); done); (next => repeat (first | exact TB_rf hr0 | refine TB_5 ?_ (by decide) | refine TB_4 ?_ (by (try simp only [upm_app, Int.reduceEq, and_self, and_true, true_and, and_false, false_and, if_true, if_false, ↓reduceIte, Int.reduceToNat, upm_f, Int.reduceNe, ne_eq, not_false_eq_true, not_true_eq_false]); first | done | omega | (split <;> omega) | (unfold w32; omega) | (unfold w32; (repeat' split) <;> omega) | (unfold w32 at *; omega)))); (next => (simp only [upm_app, Int.reduceEq, and_self, and_true, true_and, and_false, false_and, if_true, if_false, ↓reduceIte, Int.reduceToNat, upm_f, Int.reduceNe, ne_eq, not_false_eq_true, not_true_eq_false]; first | done | decide)); (next => simp only [lkO, sC, let1, dgt]; refine if_neg (fun q => ?_); (rw [kvC_lo (by omega)] at q); omega))
    | ((with_reducible refine hq _ _ ?_ ?_); (next => with_reducible (repeat (first | assumption | (refine JC_up ?_ (by first | decide | (unfold frC; omega)) (by first | (simp [BdC, hnd]; done) | (simp [BdC, hnd, upm, cpf] <;> first | omega | (unfold w32; omega)))))); done); (next => refine CP_O ?_ ?_ ?_ ?_ ?_ ?_ ?_ ?_; (next => repeat (first | exact TB_rf hr0 | refine TB_5 ?_ (by decide) | refine TB_4 ?_ (by (try simp only [upm_app, Int.reduceEq, and_self, and_true, true_and, and_false, false_and, if_true, if_false, ↓reduceIte, Int.reduceToNat, upm_f, Int.reduceNe, ne_eq, not_false_eq_true, not_true_eq_false]); first | done | omega | (split <;> omega) | (unfold w32; omega) | (unfold w32; (repeat' split) <;> omega) | (unfold w32 at *; omega)))); (next => (try simp only [upm_app, Int.reduceEq, and_self, and_true, true_and, and_false, false_and, if_true, if_false, ↓reduceIte, Int.reduceToNat, upm_f, Int.reduceNe, ne_eq, not_false_eq_true, not_true_eq_false]); first | done | exact hf | omega); (next => (try simp only [upm_app, Int.reduceEq, and_self, and_true, true_and, and_false, false_and, if_true, if_false, ↓reduceIte, Int.reduceToNat, upm_f, Int.reduceNe, ne_eq, not_false_eq_true, not_true_eq_false]); first | done | omega | (split <;> omega) | (unfold w32; omega) | (unfold w32; (repeat' split) <;> omega) | (unfold w32 at *; omega)); (next => (try simp only [upm_app, Int.reduceEq, and_self, and_true, true_and, and_false, false_and, if_true, if_false, ↓reduceIte, Int.reduceToNat, upm_f, Int.reduceNe, ne_eq, not_false_eq_true, not_true_eq_false]); first | done | omega | (split <;> omega) | (unfold w32; omega) | (unfold w32; (repeat' split) <;> omega) | (unfold w32 at *; omega)); (next => (try simp only [upm_app, Int.reduceEq, and_self, and_true, true_and, and_false, false_and, if_true, if_false, ↓reduceIte, Int.reduceToNat, upm_f, Int.reduceNe, ne_eq, not_false_eq_true, not_true_eq_false]); first | done | omega | (split <;> omega) | (unfold w32; omega) | (unfold w32; (repeat' split) <;> omega) | (unfold w32 at *; omega)); (next => (try simp only [upm_app, Int.reduceEq, and_self, and_true, true_and, and_false, false_and, if_true, if_false, ↓reduceIte, Int.reduceToNat, upm_f, Int.reduceNe, ne_eq, not_false_eq_true, not_true_eq_false]); first | done | omega | (split <;> omega) | (unfold w32; omega) | (unfold w32; (repeat' split) <;> omega) | (unfold w32 at *; omega)); (next => (try simp only [upm_app, Int.reduceEq, and_self, and_true, true_and, and_false, false_and, if_true, if_false, ↓reduceIte, Int.reduceToNat, upm_f, Int.reduceNe, ne_eq, not_false_eq_true, not_true_eq_false]); first | done | omega | (split <;> omega) | (unfold w32; omega) | (unfold w32; (repeat' split) <;> omega) | (unfold w32 at *; omega)); (next => simp only [lkO, let1, dgt]; rw [if_pos (by simp only [sC]; (first | omega | (rw [kvC_lo (by omega)]; omega) | (refine ⟨?_, ?_, ?_, ?_, ?_, ?_, ?_, ?_, ?_⟩ <;> omega) | (refine ⟨?_, ?_, ?_, ?_, ?_, ?_⟩ <;> omega)))]; refine some_e ?_ ?_ ?_ ?_ ?_ ?_ <;> (first | rfl | ((try simp only [upm_app, Int.reduceEq, and_self, and_true, true_and, and_false, false_and, if_true, if_false, ↓reduceIte, Int.reduceToNat, upm_f, Int.reduceNe, ne_eq, not_false_eq_true, not_true_eq_false]); first | done | omega | (split <;> omega) | (unfold w32; omega) | (unfold w32; (repeat' split) <;> omega) | (unfold w32 at *; omega)) | ((try simp only [sC]); (congr 1 <;> ((try simp only [upm_app, Int.reduceEq, and_self, and_true, true_and, and_false, false_and, if_true, if_false, ↓reduceIte, Int.reduceToNat, upm_f, Int.reduceNe, ne_eq, not_false_eq_true, not_true_eq_false]); first | done | omega | (split <;> omega) | (unfold w32; omega) | (unfold w32; (repeat' split) <;> omega) | (unfold w32 at *; omega))))))))
    | (unfold w32; omega)
    | (simp (disch := omega) only [w32_eq]; omega)
    | (with_reducible show (_ : Int) ≤ _; simp [upm] <;> (first | omega | (unfold w32; omega)))
    | (with_reducible show (_ : Int) < _; simp [upm] <;> (first | omega | (unfold w32; omega))))

set_option maxHeartbeats 8000000 in
theorem f_36 {d : Nat} {tc e p : Int} {g : Fg} {m : Mem} {Q : Int → Sto → Prop} (hB : ∀ j, 0 ≤ m 3 j ∧ m 3 j < 256) (hf : m 2 5 = 0) (hp : m 2 4 = p + 1) (hA : 0 ≤ p ∧ p + 1 ≤ m 2 2 ∧ m 2 2 ≤ 76) (hr : m 8 3 < 5) (hJ : JC 1 g tc m) (hq : ∀ v m', JC 1 g tc m' → CP (lkH (m 3) (m 2 2) (sC m) p (nv (m 3) (m 2 2) 2 0 (p + 1))) m m' → Q v (S9 e m')) : Cl (d + 4) 36 [8, 2, 15] Q (S9 e m) := by
  have hL := JC_l hJ
  have hs := JC_s hJ
  have hr0 : 0 ≤ m 2 4 ∧ m 2 4 ≤ 80 := by omega
  have hn := nv_r (T := m 3) (L := m 2 2) 2 0 (p + 1) (by decide)
  simp only [cl_36, runB, B36, ma_36, rho_222, wf_4_103, wf_4_118, wf_4_131, wf_4_134, wf_4_27, wf_4_30, wf_4_40, wpf_4_40, wpopadd_pf_4_40, wc_26, wc_30, wc_32, wc_34, wc_37, cl_37, B37, ma_37, rho_200, wf_5_21, wf_5_24, wf_5_27, wf_5_30, wf_5_33, wf_5_36, w_cst, w_ldi, w_ldj, w_lda, w_ljk, w_ldk, w_ldw, w_ldk2, w_ldt, w_ldtw, w_neg, w_cvb, w_cvs, w_cvc, w_cvj, w_add, w_sub, w_mul, w_ban, w_bor, w_bxo, w_shl, w_shr, w_ush, w_dvi, w_rmi, w_aldi, w_aldj, w_aldz, w_aldc, w_alda, w_ite, w_cmp, w_cmj, w_cz, w_cnot, w_cand, w_cor, w_nil, w_cons, w_cvi, w_csta, w_cvt, w_cvv, w_csv, w_cpy, w_seq, w_sbr, w_sbn, w_brk, w_ifs, w_ifx, w_ife, w_wk, w_rets, w_rtv, w_thr, w_asi, w_asj, w_asa, w_inc, w_exs, w_asti, w_astj, w_astz, w_astc, w_aopadd, w_aopsub, w_sw, if_true, if_false, ↓reduceIte, hdl_c, S9_1, S9_m, bud9, live9, inb9, wrn, wr9_14, wr9_15, wr9_16, wr9_17, tq9_14, tq9_15, tq9_16, tq9_17, tq_0, tq_1, tq_3, upr_rl, rl_0, rl_1, rl_2, rl_3, rl_4, rl_5, rl_6, rl_7, rl_8, rl_9, rl_10, rl_11, rl_12, rl_13, sp_0, sp_1, sp_2, sp_3, sp_4, sp_5, sp_6, sp_7, sp_8, sp_9, sp_10, sp_11, sp_12, sp_13, se_0, se_1, se_2, se_3, se_4, se_5, se_6, se_7, se_8, se_9, se_10, se_11, se_12, se_13, sem_0, sem_1, sem_2, sem_3, sem_4, sem_5, kc_2, kl9_2, sr_2_0, kc_3, kl9_3, kc_4, kl9_4, sr_4_0, sr_4_2, sr_4_4, kc_8, kl9_8, sr_8_10, sr_8_4, sr_8_5, sr_8_6, sr_8_7, sr_8_9, kc_9, kl9_9, kc_10, kl9_10, kc_11, kl9_11, kc_12, kl9_12, kc_13, kl9_13, kc_14, kl9_14, kc_15, kl9_15, sr_15_0, sr_15_1, sr_15_2, sr_15_4, sr_15_5, sr_15_6, sr_15_7, sr_15_8, sr_15_9, kc_16, kl9_16, kc_17, kl9_17, kc_18, kl9_18, kc_19, kl9_19, kc_20, kl9_20, kc_21, kl9_21, kc_22, kl9_22, kc_23, kl9_23, kc_24, kl9_24, List.getD_cons_zero, List.getD_cons_succ, Bool.false_eq_true, wrn3, wrn1, cpmS, cpok9, upm_app, Int.reduceEq, and_self, and_true, true_and, and_false, false_and, if_true, if_false, ↓reduceIte, hp, hf, Int.reduceToNat]
  repeat' (first
    | (with_reducible exact True.intro)
    | omega
    | (with_reducible rfl)
    | (with_reducible contradiction)
    | (with_reducible refine And.intro ?_ ?_)
    | intro _
    | ((with_reducible refine p_30x ?_ ?_ ?_ ?_ ?_ (fun v9 x9 h9 e9 f9 => ?_) (fun h9 => ?_)); (next => first | exact hB | (intro j; simp only [upm_app, Int.reduceEq, and_self, and_true, true_and, and_false, false_and, if_true, if_false, ↓reduceIte, Int.reduceToNat, upm_f, Int.reduceNe, ne_eq, not_false_eq_true, not_true_eq_false]; exact hB j) | omega | (with_reducible rfl) | ((try simp only [upm_app, Int.reduceEq, and_self, and_true, true_and, and_false, false_and, if_true, if_false, ↓reduceIte]); first | omega | (refine And.intro ?_ ?_ <;> omega) | (unfold w32; omega))); (next => first | exact hB | (intro j; simp only [upm_app, Int.reduceEq, and_self, and_true, true_and, and_false, false_and, if_true, if_false, ↓reduceIte, Int.reduceToNat, upm_f, Int.reduceNe, ne_eq, not_false_eq_true, not_true_eq_false]; exact hB j) | omega | (with_reducible rfl) | ((try simp only [upm_app, Int.reduceEq, and_self, and_true, true_and, and_false, false_and, if_true, if_false, ↓reduceIte]); first | omega | (refine And.intro ?_ ?_ <;> omega) | (unfold w32; omega))); (next => first | exact hB | (intro j; simp only [upm_app, Int.reduceEq, and_self, and_true, true_and, and_false, false_and, if_true, if_false, ↓reduceIte, Int.reduceToNat, upm_f, Int.reduceNe, ne_eq, not_false_eq_true, not_true_eq_false]; exact hB j) | omega | (with_reducible rfl) | ((try simp only [upm_app, Int.reduceEq, and_self, and_true, true_and, and_false, false_and, if_true, if_false, ↓reduceIte]); first | omega | (refine And.intro ?_ ?_ <;> omega) | (unfold w32; omega))); (next => first | exact hB | (intro j; simp only [upm_app, Int.reduceEq, and_self, and_true, true_and, and_false, false_and, if_true, if_false, ↓reduceIte, Int.reduceToNat, upm_f, Int.reduceNe, ne_eq, not_false_eq_true, not_true_eq_false]; exact hB j) | omega | (with_reducible rfl) | ((try simp only [upm_app, Int.reduceEq, and_self, and_true, true_and, and_false, false_and, if_true, if_false, ↓reduceIte]); first | omega | (refine And.intro ?_ ?_ <;> omega) | (unfold w32; omega))); (next => first | exact hB | (intro j; simp only [upm_app, Int.reduceEq, and_self, and_true, true_and, and_false, false_and, if_true, if_false, ↓reduceIte, Int.reduceToNat, upm_f, Int.reduceNe, ne_eq, not_false_eq_true, not_true_eq_false]; exact hB j) | omega | (with_reducible rfl) | ((try simp only [upm_app, Int.reduceEq, and_self, and_true, true_and, and_false, false_and, if_true, if_false, ↓reduceIte]); first | omega | (refine And.intro ?_ ?_ <;> omega) | (unfold w32; omega))); all_goals ((try subst e9); (try subst f9); ((try simp only [upm_app, Int.reduceEq, and_self, and_true, true_and, and_false, false_and, if_true, if_false, ↓reduceIte, hp, hf, Int.reduceToNat] at h9) <;> (simp only [hdl_c, S9_1, S9_m, bud9, live9, inb9, wrn, wr9_14, wr9_15, wr9_16, wr9_17, tq9_14, tq9_15, tq9_16, tq9_17, tq_0, tq_1, tq_3, upr_rl, rl_0, rl_1, rl_2, rl_3, rl_4, rl_5, rl_6, rl_7, rl_8, rl_9, rl_10, rl_11, rl_12, rl_13, sp_0, sp_1, sp_2, sp_3, sp_4, sp_5, sp_6, sp_7, sp_8, sp_9, sp_10, sp_11, sp_12, sp_13, se_0, se_1, se_2, se_3, se_4, se_5, se_6, se_7, se_8, se_9, se_10, se_11, se_12, se_13, sem_0, sem_1, sem_2, sem_3, sem_4, sem_5, List.getD_cons_zero, List.getD_cons_succ, Bool.false_eq_true, wrn3, wrn1, cpmS, cpok9, if_true, if_false, ↓reduceIte, wc_26, wc_30, wc_32, wc_34, wc_37, cl_37, runB, B37, ma_37, rho_200, wf_5_21, wf_5_24, wf_5_27, wf_5_30, wf_5_33, wf_5_36, w_cst, w_ldi, w_ldj, w_lda, w_ljk, w_ldk, w_ldw, w_ldk2, w_ldt, w_ldtw, w_neg, w_cvb, w_cvs, w_cvc, w_cvj, w_add, w_sub, w_mul, w_ban, w_bor, w_bxo, w_shl, w_shr, w_ush, w_dvi, w_rmi, w_aldi, w_aldj, w_aldz, w_aldc, w_alda, w_ite, w_cmp, w_cmj, w_cz, w_cnot, w_cand, w_cor, w_nil, w_cons, w_cvi, w_csta, w_cvt, w_cvv, w_csv, w_cpy, w_seq, w_sbr, w_sbn, w_brk, w_ifs, w_ifx, w_ife, w_wk, w_rets, w_rtv, w_thr, w_asi, w_asj, w_asa, w_inc, w_exs, w_asti, w_astj, w_astz, w_astc, w_aopadd, w_aopsub, w_sw, if_true, if_false, ↓reduceIte, kc_2, kl9_2, sr_2_0, kc_3, kl9_3, kc_4, kl9_4, sr_4_0, sr_4_2, sr_4_4, kc_8, kl9_8, sr_8_10, sr_8_4, sr_8_5, sr_8_6, sr_8_7, sr_8_9, kc_9, kl9_9, kc_10, kl9_10, kc_11, kl9_11, kc_12, kl9_12, kc_13, kl9_13, kc_14, kl9_14, kc_15, kl9_15, sr_15_0, sr_15_1, sr_15_2, sr_15_4, sr_15_5, sr_15_6, sr_15_7, sr_15_8, sr_15_9, kc_16, kl9_16, kc_17, kl9_17, kc_18, kl9_18, kc_19, kl9_19, kc_20, kl9_20, kc_21, kl9_21, kc_22, kl9_22, kc_23, kl9_23, kc_24, kl9_24, upm_app, Int.reduceEq, and_self, and_true, true_and, and_false, false_and, if_true, if_false, ↓reduceIte, hp, hf, Int.reduceToNat]; (try simp (disch := omega) only [w15_0, w15_1, w15_3, w15_4, w15_5, w15_6, w3_0, w3_1, w3_2, upm_app, Int.reduceEq, and_self, and_true, true_and, and_false, false_and, if_true, if_false, ↓reduceIte])))))
    | ((with_reducible refine p_32x ?_ ?_ ?_ (fun _ _ h9 e9 => ?_) (fun _ h9 => ?_)); (next => first | exact hB | (intro j; simp only [upm_app, Int.reduceEq, and_self, and_true, true_and, and_false, false_and, if_true, if_false, ↓reduceIte, Int.reduceToNat, upm_f, Int.reduceNe, ne_eq, not_false_eq_true, not_true_eq_false]; exact hB j) | omega | (with_reducible rfl) | ((try simp only [upm_app, Int.reduceEq, and_self, and_true, true_and, and_false, false_and, if_true, if_false, ↓reduceIte]); first | omega | (refine And.intro ?_ ?_ <;> omega) | (unfold w32; omega))); (next => first | exact hB | (intro j; simp only [upm_app, Int.reduceEq, and_self, and_true, true_and, and_false, false_and, if_true, if_false, ↓reduceIte, Int.reduceToNat, upm_f, Int.reduceNe, ne_eq, not_false_eq_true, not_true_eq_false]; exact hB j) | omega | (with_reducible rfl) | ((try simp only [upm_app, Int.reduceEq, and_self, and_true, true_and, and_false, false_and, if_true, if_false, ↓reduceIte]); first | omega | (refine And.intro ?_ ?_ <;> omega) | (unfold w32; omega))); (next => first | exact hB | (intro j; simp only [upm_app, Int.reduceEq, and_self, and_true, true_and, and_false, false_and, if_true, if_false, ↓reduceIte, Int.reduceToNat, upm_f, Int.reduceNe, ne_eq, not_false_eq_true, not_true_eq_false]; exact hB j) | omega | (with_reducible rfl) | ((try simp only [upm_app, Int.reduceEq, and_self, and_true, true_and, and_false, false_and, if_true, if_false, ↓reduceIte]); first | omega | (refine And.intro ?_ ?_ <;> omega) | (unfold w32; omega))); all_goals ((try subst e9); (try subst f9); ((try simp only [upm_app, Int.reduceEq, and_self, and_true, true_and, and_false, false_and, if_true, if_false, ↓reduceIte, hp, hf, Int.reduceToNat] at h9) <;> (simp only [hdl_c, S9_1, S9_m, bud9, live9, inb9, wrn, wr9_14, wr9_15, wr9_16, wr9_17, tq9_14, tq9_15, tq9_16, tq9_17, tq_0, tq_1, tq_3, upr_rl, rl_0, rl_1, rl_2, rl_3, rl_4, rl_5, rl_6, rl_7, rl_8, rl_9, rl_10, rl_11, rl_12, rl_13, sp_0, sp_1, sp_2, sp_3, sp_4, sp_5, sp_6, sp_7, sp_8, sp_9, sp_10, sp_11, sp_12, sp_13, se_0, se_1, se_2, se_3, se_4, se_5, se_6, se_7, se_8, se_9, se_10, se_11, se_12, se_13, sem_0, sem_1, sem_2, sem_3, sem_4, sem_5, List.getD_cons_zero, List.getD_cons_succ, Bool.false_eq_true, wrn3, wrn1, cpmS, cpok9, if_true, if_false, ↓reduceIte, wc_26, wc_30, wc_32, wc_34, wc_37, cl_37, runB, B37, ma_37, rho_200, wf_5_21, wf_5_24, wf_5_27, wf_5_30, wf_5_33, wf_5_36, w_cst, w_ldi, w_ldj, w_lda, w_ljk, w_ldk, w_ldw, w_ldk2, w_ldt, w_ldtw, w_neg, w_cvb, w_cvs, w_cvc, w_cvj, w_add, w_sub, w_mul, w_ban, w_bor, w_bxo, w_shl, w_shr, w_ush, w_dvi, w_rmi, w_aldi, w_aldj, w_aldz, w_aldc, w_alda, w_ite, w_cmp, w_cmj, w_cz, w_cnot, w_cand, w_cor, w_nil, w_cons, w_cvi, w_csta, w_cvt, w_cvv, w_csv, w_cpy, w_seq, w_sbr, w_sbn, w_brk, w_ifs, w_ifx, w_ife, w_wk, w_rets, w_rtv, w_thr, w_asi, w_asj, w_asa, w_inc, w_exs, w_asti, w_astj, w_astz, w_astc, w_aopadd, w_aopsub, w_sw, if_true, if_false, ↓reduceIte, kc_2, kl9_2, sr_2_0, kc_3, kl9_3, kc_4, kl9_4, sr_4_0, sr_4_2, sr_4_4, kc_8, kl9_8, sr_8_10, sr_8_4, sr_8_5, sr_8_6, sr_8_7, sr_8_9, kc_9, kl9_9, kc_10, kl9_10, kc_11, kl9_11, kc_12, kl9_12, kc_13, kl9_13, kc_14, kl9_14, kc_15, kl9_15, sr_15_0, sr_15_1, sr_15_2, sr_15_4, sr_15_5, sr_15_6, sr_15_7, sr_15_8, sr_15_9, kc_16, kl9_16, kc_17, kl9_17, kc_18, kl9_18, kc_19, kl9_19, kc_20, kl9_20, kc_21, kl9_21, kc_22, kl9_22, kc_23, kl9_23, kc_24, kl9_24, upm_app, Int.reduceEq, and_self, and_true, true_and, and_false, false_and, if_true, if_false, ↓reduceIte, hp, hf, Int.reduceToNat]; (try simp (disch := omega) only [w15_0, w15_1, w15_3, w15_4, w15_5, w15_6, w3_0, w3_1, w3_2, upm_app, Int.reduceEq, and_self, and_true, true_and, and_false, false_and, if_true, if_false, ↓reduceIte])))))
    | ((with_reducible refine p_26x ?_ ?_ ?_ ?_ ?_ (fun _ _ h9 e9 f9 => ?_) (fun h9 => ?_)); (next => first | exact hB | (intro j; simp only [upm_app, Int.reduceEq, and_self, and_true, true_and, and_false, false_and, if_true, if_false, ↓reduceIte, Int.reduceToNat, upm_f, Int.reduceNe, ne_eq, not_false_eq_true, not_true_eq_false]; exact hB j) | omega | (with_reducible rfl) | ((try simp only [upm_app, Int.reduceEq, and_self, and_true, true_and, and_false, false_and, if_true, if_false, ↓reduceIte]); first | omega | (refine And.intro ?_ ?_ <;> omega) | (unfold w32; omega))); (next => first | exact hB | (intro j; simp only [upm_app, Int.reduceEq, and_self, and_true, true_and, and_false, false_and, if_true, if_false, ↓reduceIte, Int.reduceToNat, upm_f, Int.reduceNe, ne_eq, not_false_eq_true, not_true_eq_false]; exact hB j) | omega | (with_reducible rfl) | ((try simp only [upm_app, Int.reduceEq, and_self, and_true, true_and, and_false, false_and, if_true, if_false, ↓reduceIte]); first | omega | (refine And.intro ?_ ?_ <;> omega) | (unfold w32; omega))); (next => first | exact hB | (intro j; simp only [upm_app, Int.reduceEq, and_self, and_true, true_and, and_false, false_and, if_true, if_false, ↓reduceIte, Int.reduceToNat, upm_f, Int.reduceNe, ne_eq, not_false_eq_true, not_true_eq_false]; exact hB j) | omega | (with_reducible rfl) | ((try simp only [upm_app, Int.reduceEq, and_self, and_true, true_and, and_false, false_and, if_true, if_false, ↓reduceIte]); first | omega | (refine And.intro ?_ ?_ <;> omega) | (unfold w32; omega))); (next => first | exact hB | (intro j; simp only [upm_app, Int.reduceEq, and_self, and_true, true_and, and_false, false_and, if_true, if_false, ↓reduceIte, Int.reduceToNat, upm_f, Int.reduceNe, ne_eq, not_false_eq_true, not_true_eq_false]; exact hB j) | omega | (with_reducible rfl) | ((try simp only [upm_app, Int.reduceEq, and_self, and_true, true_and, and_false, false_and, if_true, if_false, ↓reduceIte]); first | omega | (refine And.intro ?_ ?_ <;> omega) | (unfold w32; omega))); (next => first | exact hB | (intro j; simp only [upm_app, Int.reduceEq, and_self, and_true, true_and, and_false, false_and, if_true, if_false, ↓reduceIte, Int.reduceToNat, upm_f, Int.reduceNe, ne_eq, not_false_eq_true, not_true_eq_false]; exact hB j) | omega | (with_reducible rfl) | ((try simp only [upm_app, Int.reduceEq, and_self, and_true, true_and, and_false, false_and, if_true, if_false, ↓reduceIte]); first | omega | (refine And.intro ?_ ?_ <;> omega) | (unfold w32; omega))); all_goals ((try subst e9); (try subst f9); ((try simp only [upm_app, Int.reduceEq, and_self, and_true, true_and, and_false, false_and, if_true, if_false, ↓reduceIte, hp, hf, Int.reduceToNat] at h9) <;> (simp only [hdl_c, S9_1, S9_m, bud9, live9, inb9, wrn, wr9_14, wr9_15, wr9_16, wr9_17, tq9_14, tq9_15, tq9_16, tq9_17, tq_0, tq_1, tq_3, upr_rl, rl_0, rl_1, rl_2, rl_3, rl_4, rl_5, rl_6, rl_7, rl_8, rl_9, rl_10, rl_11, rl_12, rl_13, sp_0, sp_1, sp_2, sp_3, sp_4, sp_5, sp_6, sp_7, sp_8, sp_9, sp_10, sp_11, sp_12, sp_13, se_0, se_1, se_2, se_3, se_4, se_5, se_6, se_7, se_8, se_9, se_10, se_11, se_12, se_13, sem_0, sem_1, sem_2, sem_3, sem_4, sem_5, List.getD_cons_zero, List.getD_cons_succ, Bool.false_eq_true, wrn3, wrn1, cpmS, cpok9, if_true, if_false, ↓reduceIte, wc_26, wc_30, wc_32, wc_34, wc_37, cl_37, runB, B37, ma_37, rho_200, wf_5_21, wf_5_24, wf_5_27, wf_5_30, wf_5_33, wf_5_36, w_cst, w_ldi, w_ldj, w_lda, w_ljk, w_ldk, w_ldw, w_ldk2, w_ldt, w_ldtw, w_neg, w_cvb, w_cvs, w_cvc, w_cvj, w_add, w_sub, w_mul, w_ban, w_bor, w_bxo, w_shl, w_shr, w_ush, w_dvi, w_rmi, w_aldi, w_aldj, w_aldz, w_aldc, w_alda, w_ite, w_cmp, w_cmj, w_cz, w_cnot, w_cand, w_cor, w_nil, w_cons, w_cvi, w_csta, w_cvt, w_cvv, w_csv, w_cpy, w_seq, w_sbr, w_sbn, w_brk, w_ifs, w_ifx, w_ife, w_wk, w_rets, w_rtv, w_thr, w_asi, w_asj, w_asa, w_inc, w_exs, w_asti, w_astj, w_astz, w_astc, w_aopadd, w_aopsub, w_sw, if_true, if_false, ↓reduceIte, kc_2, kl9_2, sr_2_0, kc_3, kl9_3, kc_4, kl9_4, sr_4_0, sr_4_2, sr_4_4, kc_8, kl9_8, sr_8_10, sr_8_4, sr_8_5, sr_8_6, sr_8_7, sr_8_9, kc_9, kl9_9, kc_10, kl9_10, kc_11, kl9_11, kc_12, kl9_12, kc_13, kl9_13, kc_14, kl9_14, kc_15, kl9_15, sr_15_0, sr_15_1, sr_15_2, sr_15_4, sr_15_5, sr_15_6, sr_15_7, sr_15_8, sr_15_9, kc_16, kl9_16, kc_17, kl9_17, kc_18, kl9_18, kc_19, kl9_19, kc_20, kl9_20, kc_21, kl9_21, kc_22, kl9_22, kc_23, kl9_23, kc_24, kl9_24, upm_app, Int.reduceEq, and_self, and_true, true_and, and_false, false_and, if_true, if_false, ↓reduceIte, hp, hf, Int.reduceToNat]; (try simp (disch := omega) only [w15_0, w15_1, w15_3, w15_4, w15_5, w15_6, w3_0, w3_1, w3_2, upm_app, Int.reduceEq, and_self, and_true, true_and, and_false, false_and, if_true, if_false, ↓reduceIte])))))
    | ((with_reducible refine p_34x (fun _ h9 => ?_) (fun _ h9 => ?_)); all_goals ((try subst e9); (try subst f9); ((try simp only [upm_app, Int.reduceEq, and_self, and_true, true_and, and_false, false_and, if_true, if_false, ↓reduceIte, hp, hf, Int.reduceToNat] at h9) <;> (simp only [hdl_c, S9_1, S9_m, bud9, live9, inb9, wrn, wr9_14, wr9_15, wr9_16, wr9_17, tq9_14, tq9_15, tq9_16, tq9_17, tq_0, tq_1, tq_3, upr_rl, rl_0, rl_1, rl_2, rl_3, rl_4, rl_5, rl_6, rl_7, rl_8, rl_9, rl_10, rl_11, rl_12, rl_13, sp_0, sp_1, sp_2, sp_3, sp_4, sp_5, sp_6, sp_7, sp_8, sp_9, sp_10, sp_11, sp_12, sp_13, se_0, se_1, se_2, se_3, se_4, se_5, se_6, se_7, se_8, se_9, se_10, se_11, se_12, se_13, sem_0, sem_1, sem_2, sem_3, sem_4, sem_5, List.getD_cons_zero, List.getD_cons_succ, Bool.false_eq_true, wrn3, wrn1, cpmS, cpok9, if_true, if_false, ↓reduceIte, wc_26, wc_30, wc_32, wc_34, wc_37, cl_37, runB, B37, ma_37, rho_200, wf_5_21, wf_5_24, wf_5_27, wf_5_30, wf_5_33, wf_5_36, w_cst, w_ldi, w_ldj, w_lda, w_ljk, w_ldk, w_ldw, w_ldk2, w_ldt, w_ldtw, w_neg, w_cvb, w_cvs, w_cvc, w_cvj, w_add, w_sub, w_mul, w_ban, w_bor, w_bxo, w_shl, w_shr, w_ush, w_dvi, w_rmi, w_aldi, w_aldj, w_aldz, w_aldc, w_alda, w_ite, w_cmp, w_cmj, w_cz, w_cnot, w_cand, w_cor, w_nil, w_cons, w_cvi, w_csta, w_cvt, w_cvv, w_csv, w_cpy, w_seq, w_sbr, w_sbn, w_brk, w_ifs, w_ifx, w_ife, w_wk, w_rets, w_rtv, w_thr, w_asi, w_asj, w_asa, w_inc, w_exs, w_asti, w_astj, w_astz, w_astc, w_aopadd, w_aopsub, w_sw, if_true, if_false, ↓reduceIte, kc_2, kl9_2, sr_2_0, kc_3, kl9_3, kc_4, kl9_4, sr_4_0, sr_4_2, sr_4_4, kc_8, kl9_8, sr_8_10, sr_8_4, sr_8_5, sr_8_6, sr_8_7, sr_8_9, kc_9, kl9_9, kc_10, kl9_10, kc_11, kl9_11, kc_12, kl9_12, kc_13, kl9_13, kc_14, kl9_14, kc_15, kl9_15, sr_15_0, sr_15_1, sr_15_2, sr_15_4, sr_15_5, sr_15_6, sr_15_7, sr_15_8, sr_15_9, kc_16, kl9_16, kc_17, kl9_17, kc_18, kl9_18, kc_19, kl9_19, kc_20, kl9_20, kc_21, kl9_21, kc_22, kl9_22, kc_23, kl9_23, kc_24, kl9_24, upm_app, Int.reduceEq, and_self, and_true, true_and, and_false, false_and, if_true, if_false, ↓reduceIte, hp, hf, Int.reduceToNat]; (try simp (disch := omega) only [w15_0, w15_1, w15_3, w15_4, w15_5, w15_6, w3_0, w3_1, w3_2, upm_app, Int.reduceEq, and_self, and_true, true_and, and_false, false_and, if_true, if_false, ↓reduceIte])))))
    | ((with_reducible refine hq _ _ ?_ (CP_no ?_ ?_ ?_)); (next => with_reducible (repeat (first | assumption | (refine JC_up ?_ (by first | decide | (unfold frC; omega)) (by first | (simp [BdC, hnd]; done) | (simp [BdC, hnd, upm, cpf] <;> first | omega | (unfold w32; omega)))))); done); (next => repeat (first | exact TB_rf hr0 | refine TB_5 ?_ (by decide) | refine TB_4 ?_ (by (try simp only [upm_app, Int.reduceEq, and_self, and_true, true_and, and_false, false_and, if_true, if_false, ↓reduceIte, Int.reduceToNat, upm_f, Int.reduceNe, ne_eq, not_false_eq_true, not_true_eq_false]); first | done | omega | (split <;> omega) | (unfold w32; omega) | (unfold w32; (repeat' split) <;> omega) | (unfold w32 at *; omega)))); (next => (simp only [upm_app, Int.reduceEq, and_self, and_true, true_and, and_false, false_and, if_true, if_false, ↓reduceIte, Int.reduceToNat, upm_f, Int.reduceNe, ne_eq, not_false_eq_true, not_true_eq_false]; first | done | decide)); (next => simp only [lkH, sC, let1, dgt]; refine if_neg (fun q => ?_); omega))
    | ((with_reducible refine hq _ _ ?_ ?_); (next => with_reducible (repeat (first | assumption | (refine JC_up ?_ (by first | decide | (unfold frC; omega)) (by first | (simp [BdC, hnd]; done) | (simp [BdC, hnd, upm, cpf] <;> first | omega | (unfold w32; omega)))))); done); (next => refine CP_H ?_ ?_ ?_ ?_ ?_ ?_ ?_ ?_ ?_; (next => repeat (first | exact TB_rf hr0 | refine TB_5 ?_ (by decide) | refine TB_4 ?_ (by (try simp only [upm_app, Int.reduceEq, and_self, and_true, true_and, and_false, false_and, if_true, if_false, ↓reduceIte, Int.reduceToNat, upm_f, Int.reduceNe, ne_eq, not_false_eq_true, not_true_eq_false]); first | done | omega | (split <;> omega) | (unfold w32; omega) | (unfold w32; (repeat' split) <;> omega) | (unfold w32 at *; omega)))); (next => (try simp only [upm_app, Int.reduceEq, and_self, and_true, true_and, and_false, false_and, if_true, if_false, ↓reduceIte, Int.reduceToNat, upm_f, Int.reduceNe, ne_eq, not_false_eq_true, not_true_eq_false]); first | done | exact hf | omega); (next => (try simp only [upm_app, Int.reduceEq, and_self, and_true, true_and, and_false, false_and, if_true, if_false, ↓reduceIte, Int.reduceToNat, upm_f, Int.reduceNe, ne_eq, not_false_eq_true, not_true_eq_false]); first | done | omega | (split <;> omega) | (unfold w32; omega) | (unfold w32; (repeat' split) <;> omega) | (unfold w32 at *; omega)); (next => (try simp only [upm_app, Int.reduceEq, and_self, and_true, true_and, and_false, false_and, if_true, if_false, ↓reduceIte, Int.reduceToNat, upm_f, Int.reduceNe, ne_eq, not_false_eq_true, not_true_eq_false]); first | done | omega | (split <;> omega) | (unfold w32; omega) | (unfold w32; (repeat' split) <;> omega) | (unfold w32 at *; omega)); (next => (try simp only [upm_app, Int.reduceEq, and_self, and_true, true_and, and_false, false_and, if_true, if_false, ↓reduceIte, Int.reduceToNat, upm_f, Int.reduceNe, ne_eq, not_false_eq_true, not_true_eq_false]); first | done | omega | (split <;> omega) | (unfold w32; omega) | (unfold w32; (repeat' split) <;> omega) | (unfold w32 at *; omega)); (next => (try simp only [upm_app, Int.reduceEq, and_self, and_true, true_and, and_false, false_and, if_true, if_false, ↓reduceIte, Int.reduceToNat, upm_f, Int.reduceNe, ne_eq, not_false_eq_true, not_true_eq_false]); first | done | omega | (split <;> omega) | (unfold w32; omega) | (unfold w32; (repeat' split) <;> omega) | (unfold w32 at *; omega)); (next => (try simp only [upm_app, Int.reduceEq, and_self, and_true, true_and, and_false, false_and, if_true, if_false, ↓reduceIte, Int.reduceToNat, upm_f, Int.reduceNe, ne_eq, not_false_eq_true, not_true_eq_false]); first | done | omega | (split <;> omega) | (unfold w32; omega) | (unfold w32; (repeat' split) <;> omega) | (unfold w32 at *; omega)); (next => (try simp only [upm_app, Int.reduceEq, and_self, and_true, true_and, and_false, false_and, if_true, if_false, ↓reduceIte, Int.reduceToNat, upm_f, Int.reduceNe, ne_eq, not_false_eq_true, not_true_eq_false]); first | done | omega | (split <;> omega) | (unfold w32; omega) | (unfold w32; (repeat' split) <;> omega) | (unfold w32 at *; omega)); (next => simp only [lkH, let1, dgt]; rw [if_pos (by simp only [sC]; (first | omega | (rw [kvC_lo (by omega)]; omega) | (refine ⟨?_, ?_, ?_, ?_, ?_, ?_, ?_, ?_, ?_⟩ <;> omega) | (refine ⟨?_, ?_, ?_, ?_, ?_, ?_⟩ <;> omega)))]; refine some_e ?_ ?_ ?_ ?_ ?_ ?_ <;> (first | rfl | ((try simp only [upm_app, Int.reduceEq, and_self, and_true, true_and, and_false, false_and, if_true, if_false, ↓reduceIte, Int.reduceToNat, upm_f, Int.reduceNe, ne_eq, not_false_eq_true, not_true_eq_false]); first | done | omega | (split <;> omega) | (unfold w32; omega) | (unfold w32; (repeat' split) <;> omega) | (unfold w32 at *; omega)) | ((try simp only [sC]); (congr 1 <;> ((try simp only [upm_app, Int.reduceEq, and_self, and_true, true_and, and_false, false_and, if_true, if_false, ↓reduceIte, Int.reduceToNat, upm_f, Int.reduceNe, ne_eq, not_false_eq_true, not_true_eq_false]); first | done | omega | (split <;> omega) | (unfold w32; omega) | (unfold w32; (repeat' split) <;> omega) | (unfold w32 at *; omega))))))))
    | (unfold w32; omega)
    | (simp (disch := omega) only [w32_eq]; omega)
    | (with_reducible show (_ : Int) ≤ _; simp [upm] <;> (first | omega | (unfold w32; omega)))
    | (with_reducible show (_ : Int) < _; simp [upm] <;> (first | omega | (unfold w32; omega))))

theorem sC_2 {m : Mem} {j x : Int} : sC (upm m 2 j x) = sC m := by
  unfold sC
  rw [upm_f _ _ _ _ _ (by decide), kvC_2]
set_option maxHeartbeats 8000000 in
theorem f_20 {d : Nat} {tc e : Int} {g : Fg} {m : Mem} {Q : Int → Sto → Prop} (hB : ∀ j, 0 ≤ m 3 j ∧ m 3 j < 256) (hf : m 2 5 = 0) (hA : 0 ≤ m 2 4 ∧ m 2 4 ≤ m 2 2 ∧ m 2 2 ≤ 76) (hO : OB m) (hJ : JC 1 g tc m) (hq : ∀ v m', JC 1 g tc m' → CP (lk (m 3) (m 2 2) (sC m) (m 2 4)) m m' → Q v (S9 e m')) : Cl (d + 5) 20 [8, 2, 15] Q (S9 e m) := by
  have hL := JC_l hJ
  have hs := JC_s hJ
  have hr0 : 0 ≤ m 2 4 ∧ m 2 4 ≤ 80 := by omega
  have hb0 := hB (m 2 4)
  have hB8 : ∀ j, 0 ≤ upm m 2 4 (m 2 4 + 1) 3 j ∧ upm m 2 4 (m 2 4 + 1) 3 j < 256 := fun j => by simp only [upm_app, Int.reduceEq, and_self, and_true, true_and, and_false, false_and, if_true, if_false, ↓reduceIte, Int.reduceToNat, upm_f, Int.reduceNe, ne_eq, not_false_eq_true, not_true_eq_false]; exact hB j
  have hf8 : upm m 2 4 (m 2 4 + 1) 2 5 = 0 := by simp only [upm_app, Int.reduceEq, and_self, and_true, true_and, and_false, false_and, if_true, if_false, ↓reduceIte, Int.reduceToNat, upm_f, Int.reduceNe, ne_eq, not_false_eq_true, not_true_eq_false]; exact hf
  have hp8 : upm m 2 4 (m 2 4 + 1) 2 4 = m 2 4 + 1 := by simp only [upm_app, Int.reduceEq, and_self, and_true, true_and, and_false, false_and, if_true, if_false, ↓reduceIte, Int.reduceToNat, upm_f, Int.reduceNe, ne_eq, not_false_eq_true, not_true_eq_false]
  have hT8 : TB m (upm m 2 4 (m 2 4 + 1)) := TB_4 (TB_rf hr0) (by omega)
  simp only [cl_20, runB, B20, ma_20, rho_222, wc_21, wc_22, wc_23, wc_24, wc_25, wc_29, wc_36, wc_38, cl_22, B22, ma_22, rho_20, wf_4_30, wf_4_34, wf_4_37, wf_4_40, cl_38, B38, ma_38, wf_4_9, wpf_4_30, wpopadd_pf_4_30, cl_23, B23, ma_23, rho_2, wpf_2_35, w_cst, w_ldi, w_ldj, w_lda, w_ljk, w_ldk, w_ldw, w_ldk2, w_ldt, w_ldtw, w_neg, w_cvb, w_cvs, w_cvc, w_cvj, w_add, w_sub, w_mul, w_ban, w_bor, w_bxo, w_shl, w_shr, w_ush, w_dvi, w_rmi, w_aldi, w_aldj, w_aldz, w_aldc, w_alda, w_ite, w_cmp, w_cmj, w_cz, w_cnot, w_cand, w_cor, w_nil, w_cons, w_cvi, w_csta, w_cvt, w_cvv, w_csv, w_cpy, w_seq, w_sbr, w_sbn, w_brk, w_ifs, w_ifx, w_ife, w_wk, w_rets, w_rtv, w_thr, w_asi, w_asj, w_asa, w_inc, w_exs, w_asti, w_astj, w_astz, w_astc, w_aopadd, w_aopsub, w_sw, if_true, if_false, ↓reduceIte, hdl_c, S9_1, S9_m, bud9, live9, inb9, wrn, wr9_14, wr9_15, wr9_16, wr9_17, tq9_14, tq9_15, tq9_16, tq9_17, tq_0, tq_1, tq_3, upr_rl, rl_0, rl_1, rl_2, rl_3, rl_4, rl_5, rl_6, rl_7, rl_8, rl_9, rl_10, rl_11, rl_12, rl_13, sp_0, sp_1, sp_2, sp_3, sp_4, sp_5, sp_6, sp_7, sp_8, sp_9, sp_10, sp_11, sp_12, sp_13, se_0, se_1, se_2, se_3, se_4, se_5, se_6, se_7, se_8, se_9, se_10, se_11, se_12, se_13, sem_0, sem_1, sem_2, sem_3, sem_4, sem_5, kc_2, kl9_2, sr_2_0, kc_3, kl9_3, kc_4, kl9_4, sr_4_0, sr_4_2, sr_4_4, kc_8, kl9_8, sr_8_10, sr_8_4, sr_8_5, sr_8_6, sr_8_7, sr_8_9, kc_9, kl9_9, kc_10, kl9_10, kc_11, kl9_11, kc_12, kl9_12, kc_13, kl9_13, kc_14, kl9_14, kc_15, kl9_15, sr_15_0, sr_15_1, sr_15_2, sr_15_4, sr_15_5, sr_15_6, sr_15_7, sr_15_8, sr_15_9, kc_16, kl9_16, kc_17, kl9_17, kc_18, kl9_18, kc_19, kl9_19, kc_20, kl9_20, kc_21, kl9_21, kc_22, kl9_22, kc_23, kl9_23, kc_24, kl9_24, List.getD_cons_zero, List.getD_cons_succ, Bool.false_eq_true, wrn3, wrn1, cpmS, cpok9, upm_app, Int.reduceEq, and_self, and_true, true_and, and_false, false_and, if_true, if_false, ↓reduceIte, Int.reduceToNat, upm_f, Int.reduceNe, ne_eq, not_false_eq_true, not_true_eq_false, hf, or_false, swW_c, swW_n, List.mem_singleton, List.mem_cons, List.mem_nil_iff]
  repeat' (first
    | (with_reducible exact True.intro)
    | omega
    | (with_reducible rfl)
    | (with_reducible contradiction)
    | (with_reducible refine And.intro ?_ ?_)
    | intro _
    | ((with_reducible refine p_21x ?_ ?_ (fun h9 => ?_) (fun h9 => ?_)); (next => first | exact hB | (intro j; simp only [upm_app, Int.reduceEq, and_self, and_true, true_and, and_false, false_and, if_true, if_false, ↓reduceIte]; exact hB j) | omega | (with_reducible rfl) | ((try simp only [upm_app, Int.reduceEq, and_self, and_true, true_and, and_false, false_and, if_true, if_false, ↓reduceIte]); first | omega | (refine And.intro ?_ ?_ <;> omega) | (unfold w32; omega))); (next => first | exact hB | (intro j; simp only [upm_app, Int.reduceEq, and_self, and_true, true_and, and_false, false_and, if_true, if_false, ↓reduceIte]; exact hB j) | omega | (with_reducible rfl) | ((try simp only [upm_app, Int.reduceEq, and_self, and_true, true_and, and_false, false_and, if_true, if_false, ↓reduceIte]); first | omega | (refine And.intro ?_ ?_ <;> omega) | (unfold w32; omega))); all_goals ((try subst e9); (try subst f9); ((try simp only [upm_app, Int.reduceEq, and_self, and_true, true_and, and_false, false_and, if_true, if_false, ↓reduceIte] at h9) <;> (simp only [hdl_c, S9_1, S9_m, bud9, live9, inb9, wrn, wr9_14, wr9_15, wr9_16, wr9_17, tq9_14, tq9_15, tq9_16, tq9_17, tq_0, tq_1, tq_3, upr_rl, rl_0, rl_1, rl_2, rl_3, rl_4, rl_5, rl_6, rl_7, rl_8, rl_9, rl_10, rl_11, rl_12, rl_13, sp_0, sp_1, sp_2, sp_3, sp_4, sp_5, sp_6, sp_7, sp_8, sp_9, sp_10, sp_11, sp_12, sp_13, se_0, se_1, se_2, se_3, se_4, se_5, se_6, se_7, se_8, se_9, se_10, se_11, se_12, se_13, sem_0, sem_1, sem_2, sem_3, sem_4, sem_5, List.getD_cons_zero, List.getD_cons_succ, Bool.false_eq_true, wrn3, wrn1, cpmS, cpok9, if_true, if_false, ↓reduceIte, wc_21, wc_22, wc_23, wc_24, wc_25, wc_29, wc_36, wc_38, cl_22, runB, B22, ma_22, rho_20, wf_4_30, wf_4_34, wf_4_37, wf_4_40, cl_38, B38, ma_38, wf_4_9, wpf_4_30, wpopadd_pf_4_30, cl_23, B23, ma_23, rho_2, wpf_2_35, w_cst, w_ldi, w_ldj, w_lda, w_ljk, w_ldk, w_ldw, w_ldk2, w_ldt, w_ldtw, w_neg, w_cvb, w_cvs, w_cvc, w_cvj, w_add, w_sub, w_mul, w_ban, w_bor, w_bxo, w_shl, w_shr, w_ush, w_dvi, w_rmi, w_aldi, w_aldj, w_aldz, w_aldc, w_alda, w_ite, w_cmp, w_cmj, w_cz, w_cnot, w_cand, w_cor, w_nil, w_cons, w_cvi, w_csta, w_cvt, w_cvv, w_csv, w_cpy, w_seq, w_sbr, w_sbn, w_brk, w_ifs, w_ifx, w_ife, w_wk, w_rets, w_rtv, w_thr, w_asi, w_asj, w_asa, w_inc, w_exs, w_asti, w_astj, w_astz, w_astc, w_aopadd, w_aopsub, w_sw, if_true, if_false, ↓reduceIte, kc_2, kl9_2, sr_2_0, kc_3, kl9_3, kc_4, kl9_4, sr_4_0, sr_4_2, sr_4_4, kc_8, kl9_8, sr_8_10, sr_8_4, sr_8_5, sr_8_6, sr_8_7, sr_8_9, kc_9, kl9_9, kc_10, kl9_10, kc_11, kl9_11, kc_12, kl9_12, kc_13, kl9_13, kc_14, kl9_14, kc_15, kl9_15, sr_15_0, sr_15_1, sr_15_2, sr_15_4, sr_15_5, sr_15_6, sr_15_7, sr_15_8, sr_15_9, kc_16, kl9_16, kc_17, kl9_17, kc_18, kl9_18, kc_19, kl9_19, kc_20, kl9_20, kc_21, kl9_21, kc_22, kl9_22, kc_23, kl9_23, kc_24, kl9_24, upm_app, Int.reduceEq, and_self, and_true, true_and, and_false, false_and, if_true, if_false, ↓reduceIte, Int.reduceToNat, upm_f, Int.reduceNe, ne_eq, not_false_eq_true, not_true_eq_false, hf, or_false, swW_c, swW_n, List.mem_singleton, List.mem_cons, List.mem_nil_iff]; (try simp (disch := omega) only [w15_0, w15_1, w15_3, w15_4, w15_5, w15_6, w3_0, w3_1, w3_2, upm_app, Int.reduceEq, and_self, and_true, true_and, and_false, false_and, if_true, if_false, ↓reduceIte])))))
    | ((with_reducible refine p_24x ?_ ?_ (fun v9 _ h9 e9 => ?_) (fun v9 h9 => ?_)); (next => first | exact hB | (intro j; simp only [upm_app, Int.reduceEq, and_self, and_true, true_and, and_false, false_and, if_true, if_false, ↓reduceIte]; exact hB j) | omega | (with_reducible rfl) | ((try simp only [upm_app, Int.reduceEq, and_self, and_true, true_and, and_false, false_and, if_true, if_false, ↓reduceIte]); first | omega | (refine And.intro ?_ ?_ <;> omega) | (unfold w32; omega))); (next => first | exact hB | (intro j; simp only [upm_app, Int.reduceEq, and_self, and_true, true_and, and_false, false_and, if_true, if_false, ↓reduceIte]; exact hB j) | omega | (with_reducible rfl) | ((try simp only [upm_app, Int.reduceEq, and_self, and_true, true_and, and_false, false_and, if_true, if_false, ↓reduceIte]); first | omega | (refine And.intro ?_ ?_ <;> omega) | (unfold w32; omega))); all_goals ((try subst e9); (try subst f9); ((try simp only [upm_app, Int.reduceEq, and_self, and_true, true_and, and_false, false_and, if_true, if_false, ↓reduceIte] at h9) <;> ((try have hJ8 : JC 1 g tc (upm m 2 4 (m 2 4 + 1)) := by with_reducible (repeat (first | assumption | (refine JC_up ?_ (by first | decide | (unfold frC; omega)) (by first | (simp [BdC, hnd]; done) | (simp [BdC, hnd, upm, cpf] <;> first | omega | (unfold w32; omega))))))); (try have hA8 : 0 ≤ m 2 4 ∧ m 2 4 + 1 ≤ upm m 2 4 (m 2 4 + 1) 2 2 ∧ upm m 2 4 (m 2 4 + 1) 2 2 ≤ 76 := by (simp only [upm_app, Int.reduceEq, and_self, and_true, true_and, and_false, false_and, if_true, if_false, ↓reduceIte, Int.reduceToNat, upm_f, Int.reduceNe, ne_eq, not_false_eq_true, not_true_eq_false]; omega)); simp only [hdl_c, S9_1, S9_m, bud9, live9, inb9, wrn, wr9_14, wr9_15, wr9_16, wr9_17, tq9_14, tq9_15, tq9_16, tq9_17, tq_0, tq_1, tq_3, upr_rl, rl_0, rl_1, rl_2, rl_3, rl_4, rl_5, rl_6, rl_7, rl_8, rl_9, rl_10, rl_11, rl_12, rl_13, sp_0, sp_1, sp_2, sp_3, sp_4, sp_5, sp_6, sp_7, sp_8, sp_9, sp_10, sp_11, sp_12, sp_13, se_0, se_1, se_2, se_3, se_4, se_5, se_6, se_7, se_8, se_9, se_10, se_11, se_12, se_13, sem_0, sem_1, sem_2, sem_3, sem_4, sem_5, List.getD_cons_zero, List.getD_cons_succ, Bool.false_eq_true, wrn3, wrn1, cpmS, cpok9, if_true, if_false, ↓reduceIte, wc_21, wc_22, wc_23, wc_24, wc_25, wc_29, wc_36, wc_38, cl_22, runB, B22, ma_22, rho_20, wf_4_30, wf_4_34, wf_4_37, wf_4_40, cl_38, B38, ma_38, wf_4_9, wpf_4_30, wpopadd_pf_4_30, cl_23, B23, ma_23, rho_2, wpf_2_35, w_cst, w_ldi, w_ldj, w_lda, w_ljk, w_ldk, w_ldw, w_ldk2, w_ldt, w_ldtw, w_neg, w_cvb, w_cvs, w_cvc, w_cvj, w_add, w_sub, w_mul, w_ban, w_bor, w_bxo, w_shl, w_shr, w_ush, w_dvi, w_rmi, w_aldi, w_aldj, w_aldz, w_aldc, w_alda, w_ite, w_cmp, w_cmj, w_cz, w_cnot, w_cand, w_cor, w_nil, w_cons, w_cvi, w_csta, w_cvt, w_cvv, w_csv, w_cpy, w_seq, w_sbr, w_sbn, w_brk, w_ifs, w_ifx, w_ife, w_wk, w_rets, w_rtv, w_thr, w_asi, w_asj, w_asa, w_inc, w_exs, w_asti, w_astj, w_astz, w_astc, w_aopadd, w_aopsub, w_sw, if_true, if_false, ↓reduceIte, kc_2, kl9_2, sr_2_0, kc_3, kl9_3, kc_4, kl9_4, sr_4_0, sr_4_2, sr_4_4, kc_8, kl9_8, sr_8_10, sr_8_4, sr_8_5, sr_8_6, sr_8_7, sr_8_9, kc_9, kl9_9, kc_10, kl9_10, kc_11, kl9_11, kc_12, kl9_12, kc_13, kl9_13, kc_14, kl9_14, kc_15, kl9_15, sr_15_0, sr_15_1, sr_15_2, sr_15_4, sr_15_5, sr_15_6, sr_15_7, sr_15_8, sr_15_9, kc_16, kl9_16, kc_17, kl9_17, kc_18, kl9_18, kc_19, kl9_19, kc_20, kl9_20, kc_21, kl9_21, kc_22, kl9_22, kc_23, kl9_23, kc_24, kl9_24, upm_app, Int.reduceEq, and_self, and_true, true_and, and_false, false_and, if_true, if_false, ↓reduceIte, Int.reduceToNat, upm_f, Int.reduceNe, ne_eq, not_false_eq_true, not_true_eq_false, hf, or_false, swW_c, swW_n, List.mem_singleton, List.mem_cons, List.mem_nil_iff]; (try simp (disch := omega) only [w15_0, w15_1, w15_3, w15_4, w15_5, w15_6, w3_0, w3_1, w3_2, upm_app, Int.reduceEq, and_self, and_true, true_and, and_false, false_and, if_true, if_false, ↓reduceIte])))))
    | ((with_reducible refine f_25 (g := g) (tc := tc) (p := m 2 4) ?_ ?_ ?_ ?_ ?_ ?_ hJ8 (fun v9 m9 hJ9 h9 => ?_)); (next => exact hB8); (next => exact hf8); (next => exact hp8); (next => exact hA8); (next => simp only [upm_app, Int.reduceEq, and_self, and_true, true_and, and_false, false_and, if_true, if_false, ↓reduceIte, Int.reduceToNat, upm_f, Int.reduceNe, ne_eq, not_false_eq_true, not_true_eq_false]; omega); (next => simp only [upm_app, Int.reduceEq, and_self, and_true, true_and, and_false, false_and, if_true, if_false, ↓reduceIte, Int.reduceToNat, upm_f, Int.reduceNe, ne_eq, not_false_eq_true, not_true_eq_false]; exact hO _ (Int.le_refl _) (by omega)); simp only [hdl_c, S9_1, S9_m, bud9, live9, inb9, wrn, wr9_14, wr9_15, wr9_16, wr9_17, tq9_14, tq9_15, tq9_16, tq9_17, tq_0, tq_1, tq_3, upr_rl, rl_0, rl_1, rl_2, rl_3, rl_4, rl_5, rl_6, rl_7, rl_8, rl_9, rl_10, rl_11, rl_12, rl_13, sp_0, sp_1, sp_2, sp_3, sp_4, sp_5, sp_6, sp_7, sp_8, sp_9, sp_10, sp_11, sp_12, sp_13, se_0, se_1, se_2, se_3, se_4, se_5, se_6, se_7, se_8, se_9, se_10, se_11, se_12, se_13, sem_0, sem_1, sem_2, sem_3, sem_4, sem_5, List.getD_cons_zero, List.getD_cons_succ, Bool.false_eq_true, wrn3, wrn1, cpmS, cpok9, if_true, if_false, ↓reduceIte, wc_21, wc_22, wc_23, wc_24, wc_25, wc_29, wc_36, wc_38, cl_22, runB, B22, ma_22, rho_20, wf_4_30, wf_4_34, wf_4_37, wf_4_40, cl_38, B38, ma_38, wf_4_9, wpf_4_30, wpopadd_pf_4_30, cl_23, B23, ma_23, rho_2, wpf_2_35, w_cst, w_ldi, w_ldj, w_lda, w_ljk, w_ldk, w_ldw, w_ldk2, w_ldt, w_ldtw, w_neg, w_cvb, w_cvs, w_cvc, w_cvj, w_add, w_sub, w_mul, w_ban, w_bor, w_bxo, w_shl, w_shr, w_ush, w_dvi, w_rmi, w_aldi, w_aldj, w_aldz, w_aldc, w_alda, w_ite, w_cmp, w_cmj, w_cz, w_cnot, w_cand, w_cor, w_nil, w_cons, w_cvi, w_csta, w_cvt, w_cvv, w_csv, w_cpy, w_seq, w_sbr, w_sbn, w_brk, w_ifs, w_ifx, w_ife, w_wk, w_rets, w_rtv, w_thr, w_asi, w_asj, w_asa, w_inc, w_exs, w_asti, w_astj, w_astz, w_astc, w_aopadd, w_aopsub, w_sw, if_true, if_false, ↓reduceIte, kc_2, kl9_2, sr_2_0, kc_3, kl9_3, kc_4, kl9_4, sr_4_0, sr_4_2, sr_4_4, kc_8, kl9_8, sr_8_10, sr_8_4, sr_8_5, sr_8_6, sr_8_7, sr_8_9, kc_9, kl9_9, kc_10, kl9_10, kc_11, kl9_11, kc_12, kl9_12, kc_13, kl9_13, kc_14, kl9_14, kc_15, kl9_15, sr_15_0, sr_15_1, sr_15_2, sr_15_4, sr_15_5, sr_15_6, sr_15_7, sr_15_8, sr_15_9, kc_16, kl9_16, kc_17, kl9_17, kc_18, kl9_18, kc_19, kl9_19, kc_20, kl9_20, kc_21, kl9_21, kc_22, kl9_22, kc_23, kl9_23, kc_24, kl9_24, upm_app, Int.reduceEq, and_self, and_true, true_and, and_false, false_and, if_true, if_false, ↓reduceIte, Int.reduceToNat, upm_f, Int.reduceNe, ne_eq, not_false_eq_true, not_true_eq_false, hf, or_false, swW_c, swW_n, List.mem_singleton, List.mem_cons, List.mem_nil_iff]; refine hq _ _ hJ9 (CP_tr h9 hT8 ?_); (next => rw [lk_w (by omega)]; simp only [upm_app, Int.reduceEq, and_self, and_true, true_and, and_false, false_and, if_true, if_false, ↓reduceIte, Int.reduceToNat, upm_f, Int.reduceNe, ne_eq, not_false_eq_true, not_true_eq_false, sC_2]))
    | ((with_reducible refine f_29 (g := g) (tc := tc) (p := m 2 4) ?_ ?_ ?_ ?_ ?_ hJ8 (fun v9 m9 hJ9 h9 => ?_)); (next => exact hB8); (next => exact hf8); (next => exact hp8); (next => exact hA8); (next => simp only [upm_app, Int.reduceEq, and_self, and_true, true_and, and_false, false_and, if_true, if_false, ↓reduceIte, Int.reduceToNat, upm_f, Int.reduceNe, ne_eq, not_false_eq_true, not_true_eq_false]; omega); simp only [hdl_c, S9_1, S9_m, bud9, live9, inb9, wrn, wr9_14, wr9_15, wr9_16, wr9_17, tq9_14, tq9_15, tq9_16, tq9_17, tq_0, tq_1, tq_3, upr_rl, rl_0, rl_1, rl_2, rl_3, rl_4, rl_5, rl_6, rl_7, rl_8, rl_9, rl_10, rl_11, rl_12, rl_13, sp_0, sp_1, sp_2, sp_3, sp_4, sp_5, sp_6, sp_7, sp_8, sp_9, sp_10, sp_11, sp_12, sp_13, se_0, se_1, se_2, se_3, se_4, se_5, se_6, se_7, se_8, se_9, se_10, se_11, se_12, se_13, sem_0, sem_1, sem_2, sem_3, sem_4, sem_5, List.getD_cons_zero, List.getD_cons_succ, Bool.false_eq_true, wrn3, wrn1, cpmS, cpok9, if_true, if_false, ↓reduceIte, wc_21, wc_22, wc_23, wc_24, wc_25, wc_29, wc_36, wc_38, cl_22, runB, B22, ma_22, rho_20, wf_4_30, wf_4_34, wf_4_37, wf_4_40, cl_38, B38, ma_38, wf_4_9, wpf_4_30, wpopadd_pf_4_30, cl_23, B23, ma_23, rho_2, wpf_2_35, w_cst, w_ldi, w_ldj, w_lda, w_ljk, w_ldk, w_ldw, w_ldk2, w_ldt, w_ldtw, w_neg, w_cvb, w_cvs, w_cvc, w_cvj, w_add, w_sub, w_mul, w_ban, w_bor, w_bxo, w_shl, w_shr, w_ush, w_dvi, w_rmi, w_aldi, w_aldj, w_aldz, w_aldc, w_alda, w_ite, w_cmp, w_cmj, w_cz, w_cnot, w_cand, w_cor, w_nil, w_cons, w_cvi, w_csta, w_cvt, w_cvv, w_csv, w_cpy, w_seq, w_sbr, w_sbn, w_brk, w_ifs, w_ifx, w_ife, w_wk, w_rets, w_rtv, w_thr, w_asi, w_asj, w_asa, w_inc, w_exs, w_asti, w_astj, w_astz, w_astc, w_aopadd, w_aopsub, w_sw, if_true, if_false, ↓reduceIte, kc_2, kl9_2, sr_2_0, kc_3, kl9_3, kc_4, kl9_4, sr_4_0, sr_4_2, sr_4_4, kc_8, kl9_8, sr_8_10, sr_8_4, sr_8_5, sr_8_6, sr_8_7, sr_8_9, kc_9, kl9_9, kc_10, kl9_10, kc_11, kl9_11, kc_12, kl9_12, kc_13, kl9_13, kc_14, kl9_14, kc_15, kl9_15, sr_15_0, sr_15_1, sr_15_2, sr_15_4, sr_15_5, sr_15_6, sr_15_7, sr_15_8, sr_15_9, kc_16, kl9_16, kc_17, kl9_17, kc_18, kl9_18, kc_19, kl9_19, kc_20, kl9_20, kc_21, kl9_21, kc_22, kl9_22, kc_23, kl9_23, kc_24, kl9_24, upm_app, Int.reduceEq, and_self, and_true, true_and, and_false, false_and, if_true, if_false, ↓reduceIte, Int.reduceToNat, upm_f, Int.reduceNe, ne_eq, not_false_eq_true, not_true_eq_false, hf, or_false, swW_c, swW_n, List.mem_singleton, List.mem_cons, List.mem_nil_iff]; refine hq _ _ hJ9 (CP_tr h9 hT8 ?_); (next => rw [lk_o (by omega)]; simp only [upm_app, Int.reduceEq, and_self, and_true, true_and, and_false, false_and, if_true, if_false, ↓reduceIte, Int.reduceToNat, upm_f, Int.reduceNe, ne_eq, not_false_eq_true, not_true_eq_false, sC_2]))
    | ((with_reducible refine f_36 (g := g) (tc := tc) (p := m 2 4) ?_ ?_ ?_ ?_ ?_ hJ8 (fun v9 m9 hJ9 h9 => ?_)); (next => exact hB8); (next => exact hf8); (next => exact hp8); (next => exact hA8); (next => simp only [upm_app, Int.reduceEq, and_self, and_true, true_and, and_false, false_and, if_true, if_false, ↓reduceIte, Int.reduceToNat, upm_f, Int.reduceNe, ne_eq, not_false_eq_true, not_true_eq_false]; omega); simp only [hdl_c, S9_1, S9_m, bud9, live9, inb9, wrn, wr9_14, wr9_15, wr9_16, wr9_17, tq9_14, tq9_15, tq9_16, tq9_17, tq_0, tq_1, tq_3, upr_rl, rl_0, rl_1, rl_2, rl_3, rl_4, rl_5, rl_6, rl_7, rl_8, rl_9, rl_10, rl_11, rl_12, rl_13, sp_0, sp_1, sp_2, sp_3, sp_4, sp_5, sp_6, sp_7, sp_8, sp_9, sp_10, sp_11, sp_12, sp_13, se_0, se_1, se_2, se_3, se_4, se_5, se_6, se_7, se_8, se_9, se_10, se_11, se_12, se_13, sem_0, sem_1, sem_2, sem_3, sem_4, sem_5, List.getD_cons_zero, List.getD_cons_succ, Bool.false_eq_true, wrn3, wrn1, cpmS, cpok9, if_true, if_false, ↓reduceIte, wc_21, wc_22, wc_23, wc_24, wc_25, wc_29, wc_36, wc_38, cl_22, runB, B22, ma_22, rho_20, wf_4_30, wf_4_34, wf_4_37, wf_4_40, cl_38, B38, ma_38, wf_4_9, wpf_4_30, wpopadd_pf_4_30, cl_23, B23, ma_23, rho_2, wpf_2_35, w_cst, w_ldi, w_ldj, w_lda, w_ljk, w_ldk, w_ldw, w_ldk2, w_ldt, w_ldtw, w_neg, w_cvb, w_cvs, w_cvc, w_cvj, w_add, w_sub, w_mul, w_ban, w_bor, w_bxo, w_shl, w_shr, w_ush, w_dvi, w_rmi, w_aldi, w_aldj, w_aldz, w_aldc, w_alda, w_ite, w_cmp, w_cmj, w_cz, w_cnot, w_cand, w_cor, w_nil, w_cons, w_cvi, w_csta, w_cvt, w_cvv, w_csv, w_cpy, w_seq, w_sbr, w_sbn, w_brk, w_ifs, w_ifx, w_ife, w_wk, w_rets, w_rtv, w_thr, w_asi, w_asj, w_asa, w_inc, w_exs, w_asti, w_astj, w_astz, w_astc, w_aopadd, w_aopsub, w_sw, if_true, if_false, ↓reduceIte, kc_2, kl9_2, sr_2_0, kc_3, kl9_3, kc_4, kl9_4, sr_4_0, sr_4_2, sr_4_4, kc_8, kl9_8, sr_8_10, sr_8_4, sr_8_5, sr_8_6, sr_8_7, sr_8_9, kc_9, kl9_9, kc_10, kl9_10, kc_11, kl9_11, kc_12, kl9_12, kc_13, kl9_13, kc_14, kl9_14, kc_15, kl9_15, sr_15_0, sr_15_1, sr_15_2, sr_15_4, sr_15_5, sr_15_6, sr_15_7, sr_15_8, sr_15_9, kc_16, kl9_16, kc_17, kl9_17, kc_18, kl9_18, kc_19, kl9_19, kc_20, kl9_20, kc_21, kl9_21, kc_22, kl9_22, kc_23, kl9_23, kc_24, kl9_24, upm_app, Int.reduceEq, and_self, and_true, true_and, and_false, false_and, if_true, if_false, ↓reduceIte, Int.reduceToNat, upm_f, Int.reduceNe, ne_eq, not_false_eq_true, not_true_eq_false, hf, or_false, swW_c, swW_n, List.mem_singleton, List.mem_cons, List.mem_nil_iff]; refine hq _ _ hJ9 (CP_tr h9 hT8 ?_); (next => rw [lk_h (by omega)]; simp only [upm_app, Int.reduceEq, and_self, and_true, true_and, and_false, false_and, if_true, if_false, ↓reduceIte, Int.reduceToNat, upm_f, Int.reduceNe, ne_eq, not_false_eq_true, not_true_eq_false, sC_2]))
    | (exfalso; simp only [or_false] at *; omega)
    | ((with_reducible refine hq _ _ ?_ (CP_no ?_ ?_ ?_)); (next => with_reducible (repeat (first | assumption | (refine JC_up ?_ (by first | decide | (unfold frC; omega)) (by first | (simp [BdC, hnd]; done) | (simp [BdC, hnd, upm, cpf] <;> first | omega | (unfold w32; omega)))))); done); (next => repeat (first | exact TB_rf hr0 | refine TB_5 ?_ (by decide) | refine TB_4 ?_ (by (try simp only [upm_app, Int.reduceEq, and_self, and_true, true_and, and_false, false_and, if_true, if_false, ↓reduceIte, Int.reduceToNat, upm_f, Int.reduceNe, ne_eq, not_false_eq_true, not_true_eq_false]); first | done | omega | (split <;> omega) | (unfold w32; omega) | (unfold w32; (repeat' split) <;> omega) | (unfold w32 at *; omega)))); (next => (simp only [upm_app, Int.reduceEq, and_self, and_true, true_and, and_false, false_and, if_true, if_false, ↓reduceIte, Int.reduceToNat, upm_f, Int.reduceNe, ne_eq, not_false_eq_true, not_true_eq_false]; first | done | decide)); (next => first | exact lk_n (by omega) | (rw [lk_p (by omega)]; exact if_neg (by simp only [sC]; omega)) | (rw [lk_w (by omega)]; simp only [lkW, sC]; exact if_neg (fun q => by omega)) | (rw [lk_o (by omega)]; simp only [lkO, sC]; exact if_neg (fun q => by omega)) | (rw [lk_h (by omega)]; simp only [lkH, sC]; exact if_neg (fun q => by omega))))
    | ((with_reducible refine hq _ _ ?_ ?_); (next => with_reducible (repeat (first | assumption | (refine JC_up ?_ (by first | decide | (unfold frC; omega)) (by first | (simp [BdC, hnd]; done) | (simp [BdC, hnd, upm, cpf] <;> first | omega | (unfold w32; omega)))))); done); (next => refine CP_P ?_ ?_ ?_ ?_ ?_ ?_; (next => repeat (first | exact TB_rf hr0 | refine TB_5 ?_ (by decide) | refine TB_4 ?_ (by (try simp only [upm_app, Int.reduceEq, and_self, and_true, true_and, and_false, false_and, if_true, if_false, ↓reduceIte, Int.reduceToNat, upm_f, Int.reduceNe, ne_eq, not_false_eq_true, not_true_eq_false]); first | done | omega | (split <;> omega) | (unfold w32; omega) | (unfold w32; (repeat' split) <;> omega) | (unfold w32 at *; omega)))); (next => (try simp only [upm_app, Int.reduceEq, and_self, and_true, true_and, and_false, false_and, if_true, if_false, ↓reduceIte, Int.reduceToNat, upm_f, Int.reduceNe, ne_eq, not_false_eq_true, not_true_eq_false]); first | done | exact hf | omega); (next => (try simp only [upm_app, Int.reduceEq, and_self, and_true, true_and, and_false, false_and, if_true, if_false, ↓reduceIte, Int.reduceToNat, upm_f, Int.reduceNe, ne_eq, not_false_eq_true, not_true_eq_false]); first | done | omega | (split <;> omega) | (unfold w32; omega) | (unfold w32; (repeat' split) <;> omega) | (unfold w32 at *; omega)); (next => (try simp only [upm_app, Int.reduceEq, and_self, and_true, true_and, and_false, false_and, if_true, if_false, ↓reduceIte, Int.reduceToNat, upm_f, Int.reduceNe, ne_eq, not_false_eq_true, not_true_eq_false]); first | done | omega | (split <;> omega) | (unfold w32; omega) | (unfold w32; (repeat' split) <;> omega) | (unfold w32 at *; omega)); (next => (try simp only [upm_app, Int.reduceEq, and_self, and_true, true_and, and_false, false_and, if_true, if_false, ↓reduceIte, Int.reduceToNat, upm_f, Int.reduceNe, ne_eq, not_false_eq_true, not_true_eq_false]); first | done | omega | (split <;> omega) | (unfold w32; omega) | (unfold w32; (repeat' split) <;> omega) | (unfold w32 at *; omega)); (next => rw [lk_p (by omega), if_pos (by simp only [sC]; omega)]; refine some_e ?_ ?_ ?_ ?_ ?_ ?_; (next => first | rfl | ((try simp only [upm_app, Int.reduceEq, and_self, and_true, true_and, and_false, false_and, if_true, if_false, ↓reduceIte, Int.reduceToNat, upm_f, Int.reduceNe, ne_eq, not_false_eq_true, not_true_eq_false]); first | done | omega | (split <;> omega) | (unfold w32; omega) | (unfold w32; (repeat' split) <;> omega) | (unfold w32 at *; omega))); (next => rfl); (next => rfl); (next => rfl); (next => show kup (kvC m) (m 8 0) (kcd (m 3 (m 2 4))) = kup (kvC m) (m 8 0) _; congr 1; unfold kcd; (repeat' split) <;> (first | rfl | omega)); (next => (try simp only [upm_app, Int.reduceEq, and_self, and_true, true_and, and_false, false_and, if_true, if_false, ↓reduceIte, Int.reduceToNat, upm_f, Int.reduceNe, ne_eq, not_false_eq_true, not_true_eq_false]); first | done | omega | (split <;> omega) | (unfold w32; omega) | (unfold w32; (repeat' split) <;> omega) | (unfold w32 at *; omega)))))
    | (unfold w32; omega)
    | (simp (disch := omega) only [w32_eq]; omega)
    | (with_reducible show (_ : Int) ≤ _; simp [upm] <;> (first | omega | (unfold w32; omega)))
    | (with_reducible show (_ : Int) < _; simp [upm] <;> (first | omega | (unfold w32; omega))))

abbrev CFr (m m9 : Mem) : Prop := m9 3 = m 3 ∧ m9 2 2 = m 2 2 ∧ m9 2 3 = m 2 3 ∧ m 8 0 ≤ m9 8 0 ∧ CK m m9 ∧ FZ m m9
theorem CFr_rf (m : Mem) : CFr m m := ⟨rfl, rfl, rfl, Int.le_refl _, CK_rf m, fun _ _ _ => rfl⟩
theorem CFr_CP {m m9 m10 : Mem} {o : Option (KS × Int)} (h : CFr m m9) (q : CP o m9 m10) : CFr m m10 := by
  obtain ⟨a, b, c, d, e, f⟩ := h
  obtain ⟨-, -, a', b', c', d', e', f'⟩ := q
  exact ⟨a'.trans a, b'.trans b, c'.trans c, by omega, CK_tr e e' d, fun x q r => (f' x q r).trans (f x q r)⟩
theorem CFr_at {m m9 : Mem} {x : Int} (h : CFr m m9) : CFr m (upm m9 2 4 x) := by
  obtain ⟨a, b, c, d, e, f⟩ := h
  exact ⟨by rw [upm_f _ _ _ _ _ (by decide)]; exact a, by rw [upm_k (by decide)]; exact b, by rw [upm_k (by decide)]; exact c, by rw [upm_f _ _ _ _ _ (by decide)]; exact d, CK_2 e, fun x q r => by rw [upm_f _ _ _ _ _ q]; exact f x q r⟩
theorem OB_CK {m m' : Mem} (h : OB m) (e : CK m m') : OB m' := fun w w0 w1 => by
  obtain ⟨⟨a, -, -⟩, -, -, f, -⟩ := e
  rw [f]; exact h w (by omega) w1
set_option maxHeartbeats 4000000 in
theorem l17 {d : Nat} {tc e a b c f : Int} {g : Fg} {m : Mem} {Kn Kb : Rho → Sto → Prop} {Kr : Int → Sto → Prop} (hB : ∀ j, 0 ≤ m 3 j ∧ m 3 j < 256) (h0 : m 2 4 = 0 ∧ m 2 5 = 0 ∧ 0 ≤ m 2 2 ∧ m 2 2 ≤ 76) (hO : OB m) (hJ : JC 1 g tc m) (hq : ∀ i m', JC 1 g tc m' → (1 ≤ i ∧ i ≤ 76) → CFr m m' → (0 ≤ m' 2 4 ∧ m' 2 4 ≤ 80) → (m' 2 5 = 0 ∧ m' 2 4 ≤ m 2 2 ∧ lks (m 3) (m 2 2) 81 (sC m) 0 = some (sC m', m' 2 4) ∨ m' 2 5 ≠ 0 ∧ lks (m 3) (m 2 2) 81 (sC m) 0 = none) → Kn (rl [8, 2, 15, a, b, c, f, i, 0]) (S9 e m')) : ((whl false 35 (cand 0 (cz 1 (by decide) (ldi 8)) (cmp 2 (by decide) (ldi 7) (cst 76))) (seq 53 (cvv v_4_59 (acons (lda 0) (acons (lda 1) (acons (lda 2) (anil))))) (seq 56 (inc 7 1) (asi 8 (cvi v_4_63 (acons (lda 1) (acons (cst 59) (anil))))))) (rtv)) : SX 4).1.2 (Cl (d + 5)) Kn Kb Kr (rl [8, 2, 15, a, b, c, f, 0, 1]) (S9 e m) := by
  have hL := JC_l hJ
  generalize hR : lks (m 3) (m 2 2) 81 (sC m) 0 = R at hq
  refine whl_i (fun k r u => ∃ (i x : Int) (m9 : Mem), r = rl [8, 2, 15, a, b, c, f, i, x] ∧ u = S9 e m9 ∧ JC 1 g tc m9 ∧ 0 ≤ i ∧ i + k = 81 ∧ CFr m m9 ∧ (0 ≤ m9 2 4 ∧ m9 2 4 ≤ 80) ∧ (x = 1 ∧ m9 2 5 = 0 ∧ 2 * i ≤ m9 2 4 ∧ m9 2 4 ≤ m 2 2 ∧ lks (m 3) (m 2 2) k (sC m9) (m9 2 4) = R ∨ x = 0 ∧ (1 ≤ i ∧ i ≤ 76) ∧ (m9 2 5 = 0 ∧ m9 2 4 ≤ m 2 2 ∧ R = some (sC m9, m9 2 4) ∨ m9 2 5 ≠ 0 ∧ R = none))) 81 ?_ ?_
  next => exact ⟨0, 1, m, rfl, rfl, hJ, by decide, by decide, CFr_rf m, by omega, Or.inl ⟨rfl, h0.2.1, by omega, by omega, by rw [h0.1]; exact hR⟩⟩
  rintro k r u ⟨i, x, m9, rfl, rfl, hJ9, hi, hk, hF, hA, hc⟩
  obtain ⟨hF1, hF2, hF3, hF4, hF5, hF6⟩ := hF
  rcases hc with ⟨rfl, hf, h2i, hA2, hR9⟩ | ⟨rfl, hi2, hc⟩
  next =>
    obtain ⟨k, rfl⟩ : ∃ k9 : Nat, k = k9 + 1 := ⟨k - 1, by omega⟩
    simp only [cl_17, runB, B17, ma_17, rho_222, wf_4_30, wf_4_34, wf_4_37, wf_4_40, wpf_4_30, wpopadd_pf_4_30, wpf_4_34, wpopadd_pf_4_34, wpf_4_37, wpopadd_pf_4_37, wpf_4_40, wpopadd_pf_4_40, wc_18, wc_20, wc_28, wc_39, w_cst, w_ldi, w_ldj, w_lda, w_ljk, w_ldk, w_ldw, w_ldk2, w_ldt, w_ldtw, w_neg, w_cvb, w_cvs, w_cvc, w_cvj, w_add, w_sub, w_mul, w_ban, w_bor, w_bxo, w_shl, w_shr, w_ush, w_dvi, w_rmi, w_aldi, w_aldj, w_aldz, w_aldc, w_alda, w_ite, w_cmp, w_cmj, w_cz, w_cnot, w_cand, w_cor, w_nil, w_cons, w_cvi, w_csta, w_cvt, w_cvv, w_csv, w_cpy, w_seq, w_sbr, w_sbn, w_brk, w_ifs, w_ifx, w_ife, w_wk, w_rets, w_rtv, w_thr, w_asi, w_asj, w_asa, w_inc, w_exs, w_asti, w_astj, w_astz, w_astc, w_aopadd, w_aopsub, w_sw, if_true, if_false, ↓reduceIte, hdl_c, S9_1, S9_m, bud9, live9, inb9, wrn, wr9_14, wr9_15, wr9_16, wr9_17, tq9_14, tq9_15, tq9_16, tq9_17, tq_0, tq_1, tq_3, upr_rl, rl_0, rl_1, rl_2, rl_3, rl_4, rl_5, rl_6, rl_7, rl_8, rl_9, rl_10, rl_11, rl_12, rl_13, sp_0, sp_1, sp_2, sp_3, sp_4, sp_5, sp_6, sp_7, sp_8, sp_9, sp_10, sp_11, sp_12, sp_13, se_0, se_1, se_2, se_3, se_4, se_5, se_6, se_7, se_8, se_9, se_10, se_11, se_12, se_13, sem_0, sem_1, sem_2, sem_3, sem_4, sem_5, kc_2, kl9_2, sr_2_0, kc_3, kl9_3, kc_4, kl9_4, sr_4_0, sr_4_2, sr_4_4, kc_8, kl9_8, sr_8_10, sr_8_4, sr_8_5, sr_8_6, sr_8_7, sr_8_9, kc_9, kl9_9, kc_10, kl9_10, kc_11, kl9_11, kc_12, kl9_12, kc_13, kl9_13, kc_14, kl9_14, kc_15, kl9_15, sr_15_0, sr_15_1, sr_15_2, sr_15_4, sr_15_5, sr_15_6, sr_15_7, sr_15_8, sr_15_9, kc_16, kl9_16, kc_17, kl9_17, kc_18, kl9_18, kc_19, kl9_19, kc_20, kl9_20, kc_21, kl9_21, kc_22, kl9_22, kc_23, kl9_23, kc_24, kl9_24, List.getD_cons_zero, List.getD_cons_succ, Bool.false_eq_true, wrn3, wrn1, cpmS, cpok9, upm_app, Int.reduceEq, and_self, and_true, true_and, and_false, false_and, if_true, if_false, ↓reduceIte]
    repeat' (first
      | (with_reducible exact True.intro)
      | omega
      | (with_reducible rfl)
      | (with_reducible contradiction)
      | (with_reducible refine And.intro ?_ ?_)
      | intro _
      | ((with_reducible refine f_20 (g := g) (tc := tc) ?_ hf ⟨?_, ?_, ?_⟩ (OB_CK hO hF5) hJ9 (fun v9 m8 hJ8 h8 => ?_)); (next => rw [hF1]; exact hB); (next => omega); (next => omega); (next => omega); rw [hF1, hF2] at h8; have hF8 := CFr_CP ⟨hF1, hF2, hF3, hF4, hF5, hF6⟩ h8; obtain ⟨hG1, hG2, hG3, hG4, hG5, hG6⟩ := hF8; obtain ⟨hc8, hA8, -, -, -, -, -, -⟩ := h8; simp only [hdl_c, S9_1, S9_m, bud9, live9, inb9, wrn, wr9_14, wr9_15, wr9_16, wr9_17, tq9_14, tq9_15, tq9_16, tq9_17, tq_0, tq_1, tq_3, upr_rl, rl_0, rl_1, rl_2, rl_3, rl_4, rl_5, rl_6, rl_7, rl_8, rl_9, rl_10, rl_11, rl_12, rl_13, sp_0, sp_1, sp_2, sp_3, sp_4, sp_5, sp_6, sp_7, sp_8, sp_9, sp_10, sp_11, sp_12, sp_13, se_0, se_1, se_2, se_3, se_4, se_5, se_6, se_7, se_8, se_9, se_10, se_11, se_12, se_13, sem_0, sem_1, sem_2, sem_3, sem_4, sem_5, List.getD_cons_zero, List.getD_cons_succ, Bool.false_eq_true, wrn3, wrn1, cpmS, cpok9, if_true, if_false, ↓reduceIte, wc_18, wc_20, wc_28, wc_39, kc_2, kl9_2, sr_2_0, kc_3, kl9_3, kc_4, kl9_4, sr_4_0, sr_4_2, sr_4_4, kc_8, kl9_8, sr_8_10, sr_8_4, sr_8_5, sr_8_6, sr_8_7, sr_8_9, kc_9, kl9_9, kc_10, kl9_10, kc_11, kl9_11, kc_12, kl9_12, kc_13, kl9_13, kc_14, kl9_14, kc_15, kl9_15, sr_15_0, sr_15_1, sr_15_2, sr_15_4, sr_15_5, sr_15_6, sr_15_7, sr_15_8, sr_15_9, kc_16, kl9_16, kc_17, kl9_17, kc_18, kl9_18, kc_19, kl9_19, kc_20, kl9_20, kc_21, kl9_21, kc_22, kl9_22, kc_23, kl9_23, kc_24, kl9_24, upm_app, Int.reduceEq, and_self, and_true, true_and, and_false, false_and, if_true, if_false, ↓reduceIte])
      | ((with_reducible refine p_28x ?_ ?_ ?_ (fun _ h9 e9 => ?_) (fun h9 => ?_)); (next => exact hA8); (next => omega); (next => decide); all_goals ((try subst e9); simp only [hdl_c, S9_1, S9_m, bud9, live9, inb9, wrn, wr9_14, wr9_15, wr9_16, wr9_17, tq9_14, tq9_15, tq9_16, tq9_17, tq_0, tq_1, tq_3, upr_rl, rl_0, rl_1, rl_2, rl_3, rl_4, rl_5, rl_6, rl_7, rl_8, rl_9, rl_10, rl_11, rl_12, rl_13, sp_0, sp_1, sp_2, sp_3, sp_4, sp_5, sp_6, sp_7, sp_8, sp_9, sp_10, sp_11, sp_12, sp_13, se_0, se_1, se_2, se_3, se_4, se_5, se_6, se_7, se_8, se_9, se_10, se_11, se_12, se_13, sem_0, sem_1, sem_2, sem_3, sem_4, sem_5, List.getD_cons_zero, List.getD_cons_succ, Bool.false_eq_true, wrn3, wrn1, cpmS, cpok9, if_true, if_false, ↓reduceIte, wc_18, wc_20, wc_28, wc_39, kc_2, kl9_2, sr_2_0, kc_3, kl9_3, kc_4, kl9_4, sr_4_0, sr_4_2, sr_4_4, kc_8, kl9_8, sr_8_10, sr_8_4, sr_8_5, sr_8_6, sr_8_7, sr_8_9, kc_9, kl9_9, kc_10, kl9_10, kc_11, kl9_11, kc_12, kl9_12, kc_13, kl9_13, kc_14, kl9_14, kc_15, kl9_15, sr_15_0, sr_15_1, sr_15_2, sr_15_4, sr_15_5, sr_15_6, sr_15_7, sr_15_8, sr_15_9, kc_16, kl9_16, kc_17, kl9_17, kc_18, kl9_18, kc_19, kl9_19, kc_20, kl9_20, kc_21, kl9_21, kc_22, kl9_22, kc_23, kl9_23, kc_24, kl9_24, upm_app, Int.reduceEq, and_self, and_true, true_and, and_false, false_and, if_true, if_false, ↓reduceIte]; (try rw [hG1, hG2] at h9)))
      | ((with_reducible refine ⟨k, ?_, _, _, _, rfl, rfl, ?_, ?_, ?_, ?_, ?_, ?_⟩); (next => omega); (next => with_reducible (repeat (first | assumption | (refine JC_up ?_ (by first | decide | (unfold frC; omega)) (by first | (simp [BdC, hnd]; done) | (simp [BdC, hnd, upm, cpf] <;> first | omega | (unfold w32; omega)))))); done); (next => (try simp only [upm_app, Int.reduceEq, and_self, and_true, true_and, and_false, false_and, if_true, if_false, ↓reduceIte, Int.reduceToNat, upm_f, Int.reduceNe, ne_eq, not_false_eq_true, not_true_eq_false, sC]); first | done | omega | (split <;> omega) | (unfold w32; omega) | (unfold w32; (repeat' split) <;> omega) | (unfold w32 at *; omega)); (next => (try simp only [upm_app, Int.reduceEq, and_self, and_true, true_and, and_false, false_and, if_true, if_false, ↓reduceIte, Int.reduceToNat, upm_f, Int.reduceNe, ne_eq, not_false_eq_true, not_true_eq_false, sC]); first | done | omega | (split <;> omega) | (unfold w32; omega) | (unfold w32; (repeat' split) <;> omega) | (unfold w32 at *; omega)); (next => first | exact CFr_at ⟨hG1, hG2, hG3, hG4, hG5, hG6⟩ | exact ⟨hG1, hG2, hG3, hG4, hG5, hG6⟩); (next => (try simp only [upm_app, Int.reduceEq, and_self, and_true, true_and, and_false, false_and, if_true, if_false, ↓reduceIte, Int.reduceToNat, upm_f, Int.reduceNe, ne_eq, not_false_eq_true, not_true_eq_false, sC]); first | done | omega | (split <;> omega) | (unfold w32; omega) | (unfold w32; (repeat' split) <;> omega) | (unfold w32 at *; omega)); (next => rcases hc8 with ⟨c1, c2, c3⟩ | ⟨c1, c2⟩; (next => first | (refine Or.inl ⟨rfl, ?_, ?_, ?_, ?_⟩; (next => rw [upm_k (by decide)]; exact c1); (next => rw [upm_v]; have hlt := lk_r c2; rw [w32_eq (v := i + 1) (by omega) (by omega)]; omega); (next => rw [upm_v]; omega); (next => rw [sC_2, upm_v, ← lks_y k c2 ⟨h9.1.2, h9.2⟩]; exact hR9)) | (refine Or.inr ⟨rfl, ⟨?_, ?_⟩, Or.inl ⟨c1, (by omega), ?_⟩⟩; (next => unfold w32; omega); (next => unfold w32; omega); (next => rw [← hR9]; exact lks_x k c2 (fun q => h9 ⟨⟨c1, q.1⟩, q.2⟩)))); (next => first | (exact absurd h9.1.1 c1) | (refine Or.inr ⟨rfl, ⟨?_, ?_⟩, Or.inr ⟨c1, ?_⟩⟩; (next => unfold w32; omega); (next => unfold w32; omega); (next => rw [← hR9]; exact lks_n k c2)))))
      | (unfold w32; omega)
      | (simp (disch := omega) only [w32_eq]; omega)
      | (with_reducible show (_ : Int) ≤ _; simp [upm] <;> (first | omega | (unfold w32; omega)))
      | (with_reducible show (_ : Int) < _; simp [upm] <;> (first | omega | (unfold w32; omega))))
  next =>
    simp only [cl_17, runB, B17, ma_17, rho_222, wf_4_30, wf_4_34, wf_4_37, wf_4_40, wpf_4_30, wpopadd_pf_4_30, wpf_4_34, wpopadd_pf_4_34, wpf_4_37, wpopadd_pf_4_37, wpf_4_40, wpopadd_pf_4_40, wc_18, wc_20, wc_28, wc_39, w_cst, w_ldi, w_ldj, w_lda, w_ljk, w_ldk, w_ldw, w_ldk2, w_ldt, w_ldtw, w_neg, w_cvb, w_cvs, w_cvc, w_cvj, w_add, w_sub, w_mul, w_ban, w_bor, w_bxo, w_shl, w_shr, w_ush, w_dvi, w_rmi, w_aldi, w_aldj, w_aldz, w_aldc, w_alda, w_ite, w_cmp, w_cmj, w_cz, w_cnot, w_cand, w_cor, w_nil, w_cons, w_cvi, w_csta, w_cvt, w_cvv, w_csv, w_cpy, w_seq, w_sbr, w_sbn, w_brk, w_ifs, w_ifx, w_ife, w_wk, w_rets, w_rtv, w_thr, w_asi, w_asj, w_asa, w_inc, w_exs, w_asti, w_astj, w_astz, w_astc, w_aopadd, w_aopsub, w_sw, if_true, if_false, ↓reduceIte, hdl_c, S9_1, S9_m, bud9, live9, inb9, wrn, wr9_14, wr9_15, wr9_16, wr9_17, tq9_14, tq9_15, tq9_16, tq9_17, tq_0, tq_1, tq_3, upr_rl, rl_0, rl_1, rl_2, rl_3, rl_4, rl_5, rl_6, rl_7, rl_8, rl_9, rl_10, rl_11, rl_12, rl_13, sp_0, sp_1, sp_2, sp_3, sp_4, sp_5, sp_6, sp_7, sp_8, sp_9, sp_10, sp_11, sp_12, sp_13, se_0, se_1, se_2, se_3, se_4, se_5, se_6, se_7, se_8, se_9, se_10, se_11, se_12, se_13, sem_0, sem_1, sem_2, sem_3, sem_4, sem_5, kc_2, kl9_2, sr_2_0, kc_3, kl9_3, kc_4, kl9_4, sr_4_0, sr_4_2, sr_4_4, kc_8, kl9_8, sr_8_10, sr_8_4, sr_8_5, sr_8_6, sr_8_7, sr_8_9, kc_9, kl9_9, kc_10, kl9_10, kc_11, kl9_11, kc_12, kl9_12, kc_13, kl9_13, kc_14, kl9_14, kc_15, kl9_15, sr_15_0, sr_15_1, sr_15_2, sr_15_4, sr_15_5, sr_15_6, sr_15_7, sr_15_8, sr_15_9, kc_16, kl9_16, kc_17, kl9_17, kc_18, kl9_18, kc_19, kl9_19, kc_20, kl9_20, kc_21, kl9_21, kc_22, kl9_22, kc_23, kl9_23, kc_24, kl9_24, List.getD_cons_zero, List.getD_cons_succ, Bool.false_eq_true, wrn3, wrn1, cpmS, cpok9, upm_app, Int.reduceEq, and_self, and_true, true_and, and_false, false_and, if_true, if_false, ↓reduceIte]
    repeat' (first
      | (with_reducible exact True.intro)
      | omega
      | (with_reducible rfl)
      | (with_reducible contradiction)
      | (with_reducible refine And.intro ?_ ?_)
      | intro _
      | (exact hq _ _ hJ9 hi2 ⟨hF1, hF2, hF3, hF4, hF5, hF6⟩ hA hc)
      | (unfold w32; omega)
      | (simp (disch := omega) only [w32_eq]; omega)
      | (with_reducible show (_ : Int) ≤ _; simp [upm] <;> (first | omega | (unfold w32; omega)))
      | (with_reducible show (_ : Int) < _; simp [upm] <;> (first | omega | (unfold w32; omega))))

theorem CK_2l {m m' : Mem} {j v : Int} (h : CK (upm m 2 j v) m') : CK m m' := by
  unfold CK at h ⊢
  rw [kvC_2, upm_f m 2 j v 8 (by decide), upm_f m 2 j v 18 (by decide), upm_f m 2 j v 15 (by decide)] at h
  exact h
theorem CK_rs {m m9 m' : Mem} (h : CK m m9) (e : ∀ x, x ≠ 8 → x ≠ 2 → m' x = m9 x) (e84 : m' 8 8 = m9 8 8) (c1 : m' 8 1 = m 8 1) (c2 : m' 8 2 = m 8 2) (c3 : m' 8 3 = m 8 3) : CK m m' := by
  obtain ⟨⟨a, b, c⟩, d, f, i, j⟩ := h
  have ek : kvC m' = kvC m9 := kvC_e e84 (by rw [e 15 (by decide) (by decide)]) (fun x q => e x (by omega) (by omega))
  refine ⟨⟨by omega, by omega, by omega⟩, by rw [ek]; exact d, fun q => ⟨fun z => ?_, fun z w => absurd w (by omega)⟩, ?_, ?_⟩
  · rw [e 18 (by decide) (by decide)]; exact (f q).1 z
  · rw [e 15 (by decide) (by decide)]; exact i
  · rw [e 15 (by decide) (by decide)]; exact j
abbrev CQ (m m' : Mem) : Prop := m' 8 0 = m 8 0 ∧ m' 8 1 = m 8 1 ∧ m' 8 2 = m 8 2 ∧ m' 8 3 = m 8 3
abbrev K17 (tc v : Int) (m m' : Mem) : Prop := ((1 ≤ v ∧ kit (m 3) tc (sC m) = some (sC m') ∧ m 8 0 ≤ m' 8 0) ∨ (v < 0 ∧ kit (m 3) tc (sC m) = none ∧ CQ m m')) ∧ CK m m' ∧ FZ m m'
abbrev K16 (tc : Int) (m m' : Mem) : Prop := ((0 < tc ∧ kit (m 3) tc (sC m) = some (sC m') ∧ m' 1 12 = 0 ∧ m' 26 9 = 0 ∧ m 8 0 ≤ m' 8 0) ∨ ((tc = 0 ∨ kit (m 3) tc (sC m) = none) ∧ CQ m m' ∧ m' 1 12 = m 1 12 ∧ m' 26 9 = m 26 9)) ∧ CK m m' ∧ (∀ x, x ≠ 2 → (x < 8 ∨ 24 < x) → ∀ j, ¬ (x = 1 ∧ j = 12) → ¬ (x = 26 ∧ j = 9) → m' x j = m x j)
set_option maxHeartbeats 8000000 in
theorem f_17 {d : Nat} {tc e : Int} {g : Fg} {m : Mem} {Q : Int → Sto → Prop} (hB : ∀ j, 0 ≤ m 3 j ∧ m 3 j < 256) (hO : OB m) (hJ : JC 1 g tc m) (hq : ∀ v m', JC 1 g 0 m' → K17 tc v m m' → Q v (S9 e m')) : Cl (d + 6) 17 [8, 2, 15] Q (S9 e m) := by
  have hL := JC_l hJ
  have hs := JC_s hJ
  simp only [cl_17, runB, B17, ma_17, rho_222, wf_4_30, wf_4_34, wf_4_37, wf_4_40, wpf_4_30, wpopadd_pf_4_30, wpf_4_34, wpopadd_pf_4_34, wpf_4_37, wpopadd_pf_4_37, wpf_4_40, wpopadd_pf_4_40, wc_18, wc_20, wc_28, wc_39, w_cst, w_ldi, w_ldj, w_lda, w_ljk, w_ldk, w_ldw, w_ldk2, w_ldt, w_ldtw, w_neg, w_cvb, w_cvs, w_cvc, w_cvj, w_add, w_sub, w_mul, w_ban, w_bor, w_bxo, w_shl, w_shr, w_ush, w_dvi, w_rmi, w_aldi, w_aldj, w_aldz, w_aldc, w_alda, w_ite, w_cmp, w_cmj, w_cz, w_cnot, w_cand, w_cor, w_nil, w_cons, w_cvi, w_csta, w_cvt, w_cvv, w_csv, w_cpy, w_seq, w_sbr, w_sbn, w_brk, w_ifs, w_ifx, w_ife, w_wk, w_rets, w_rtv, w_thr, w_asi, w_asj, w_asa, w_inc, w_exs, w_asti, w_astj, w_astz, w_astc, w_aopadd, w_aopsub, w_sw, if_true, if_false, ↓reduceIte, hdl_c, S9_1, S9_m, bud9, live9, inb9, wrn, wr9_14, wr9_15, wr9_16, wr9_17, tq9_14, tq9_15, tq9_16, tq9_17, tq_0, tq_1, tq_3, upr_rl, rl_0, rl_1, rl_2, rl_3, rl_4, rl_5, rl_6, rl_7, rl_8, rl_9, rl_10, rl_11, rl_12, rl_13, sp_0, sp_1, sp_2, sp_3, sp_4, sp_5, sp_6, sp_7, sp_8, sp_9, sp_10, sp_11, sp_12, sp_13, se_0, se_1, se_2, se_3, se_4, se_5, se_6, se_7, se_8, se_9, se_10, se_11, se_12, se_13, sem_0, sem_1, sem_2, sem_3, sem_4, sem_5, kc_2, kl9_2, sr_2_0, kc_3, kl9_3, kc_4, kl9_4, sr_4_0, sr_4_2, sr_4_4, kc_8, kl9_8, sr_8_10, sr_8_4, sr_8_5, sr_8_6, sr_8_7, sr_8_9, kc_9, kl9_9, kc_10, kl9_10, kc_11, kl9_11, kc_12, kl9_12, kc_13, kl9_13, kc_14, kl9_14, kc_15, kl9_15, sr_15_0, sr_15_1, sr_15_2, sr_15_4, sr_15_5, sr_15_6, sr_15_7, sr_15_8, sr_15_9, kc_16, kl9_16, kc_17, kl9_17, kc_18, kl9_18, kc_19, kl9_19, kc_20, kl9_20, kc_21, kl9_21, kc_22, kl9_22, kc_23, kl9_23, kc_24, kl9_24, List.getD_cons_zero, List.getD_cons_succ, Bool.false_eq_true, wrn3, wrn1, cpmS, cpok9, upm_app, Int.reduceEq, and_self, and_true, true_and, and_false, false_and, if_true, if_false, ↓reduceIte]
  repeat' (first
    | (with_reducible exact True.intro)
    | omega
    | (with_reducible rfl)
    | (with_reducible contradiction)
    | (with_reducible refine And.intro ?_ ?_)
    | intro _
    | ((with_reducible refine p_18x ?_ ?_ (fun v9 L9 o9 hL9 ho9 => ?_)); (next => omega); (next => omega); rw [hs.1] at hL9 ho9; subst hL9; simp only [hdl_c, S9_1, S9_m, bud9, live9, inb9, wrn, wr9_14, wr9_15, wr9_16, wr9_17, tq9_14, tq9_15, tq9_16, tq9_17, tq_0, tq_1, tq_3, upr_rl, rl_0, rl_1, rl_2, rl_3, rl_4, rl_5, rl_6, rl_7, rl_8, rl_9, rl_10, rl_11, rl_12, rl_13, sp_0, sp_1, sp_2, sp_3, sp_4, sp_5, sp_6, sp_7, sp_8, sp_9, sp_10, sp_11, sp_12, sp_13, se_0, se_1, se_2, se_3, se_4, se_5, se_6, se_7, se_8, se_9, se_10, se_11, se_12, se_13, sem_0, sem_1, sem_2, sem_3, sem_4, sem_5, List.getD_cons_zero, List.getD_cons_succ, Bool.false_eq_true, wrn3, wrn1, cpmS, cpok9, if_true, if_false, ↓reduceIte, wc_18, wc_20, wc_28, wc_39, kc_2, kl9_2, sr_2_0, kc_3, kl9_3, kc_4, kl9_4, sr_4_0, sr_4_2, sr_4_4, kc_8, kl9_8, sr_8_10, sr_8_4, sr_8_5, sr_8_6, sr_8_7, sr_8_9, kc_9, kl9_9, kc_10, kl9_10, kc_11, kl9_11, kc_12, kl9_12, kc_13, kl9_13, kc_14, kl9_14, kc_15, kl9_15, sr_15_0, sr_15_1, sr_15_2, sr_15_4, sr_15_5, sr_15_6, sr_15_7, sr_15_8, sr_15_9, kc_16, kl9_16, kc_17, kl9_17, kc_18, kl9_18, kc_19, kl9_19, kc_20, kl9_20, kc_21, kl9_21, kc_22, kl9_22, kc_23, kl9_23, kc_24, kl9_24, upm_app, Int.reduceEq, and_self, and_true, true_and, and_false, false_and, if_true, if_false, ↓reduceIte])
    | ((with_reducible refine l17 (g := g) (tc := tc) ?_ ⟨?_, ?_, ?_, ?_⟩ ?_ ?_ (fun i9 m9 hJ9 hi9 hF9 hA9 hc9 => ?_)); (next => intro j; simp only [upm_app, Int.reduceEq, and_self, and_true, true_and, and_false, false_and, if_true, if_false, ↓reduceIte, Int.reduceToNat, upm_f, Int.reduceNe, ne_eq, not_false_eq_true, not_true_eq_false, sC_2]; exact hB j); (next => simp only [upm_app, Int.reduceEq, and_self, and_true, true_and, and_false, false_and, if_true, if_false, ↓reduceIte, Int.reduceToNat, upm_f, Int.reduceNe, ne_eq, not_false_eq_true, not_true_eq_false, sC_2]); (next => simp only [upm_app, Int.reduceEq, and_self, and_true, true_and, and_false, false_and, if_true, if_false, ↓reduceIte, Int.reduceToNat, upm_f, Int.reduceNe, ne_eq, not_false_eq_true, not_true_eq_false, sC_2]); (next => simp only [upm_app, Int.reduceEq, and_self, and_true, true_and, and_false, false_and, if_true, if_false, ↓reduceIte, Int.reduceToNat, upm_f, Int.reduceNe, ne_eq, not_false_eq_true, not_true_eq_false, sC_2]; omega); (next => simp only [upm_app, Int.reduceEq, and_self, and_true, true_and, and_false, false_and, if_true, if_false, ↓reduceIte, Int.reduceToNat, upm_f, Int.reduceNe, ne_eq, not_false_eq_true, not_true_eq_false, sC_2]; omega); (next => intro w w0 w1; simp only [upm_app, Int.reduceEq, and_self, and_true, true_and, and_false, false_and, if_true, if_false, ↓reduceIte, Int.reduceToNat, upm_f, Int.reduceNe, ne_eq, not_false_eq_true, not_true_eq_false, sC_2] at w0 ⊢; exact hO w w0 w1); (next => with_reducible (repeat (first | assumption | (refine JC_up ?_ (by first | decide | (unfold frC; omega)) (by first | (simp [BdC, hnd]; done) | (simp [BdC, hnd, upm, cpf] <;> first | omega | (unfold w32; omega)))))); done); obtain ⟨hF1, hF2, hF3, hF4, hF5, hF6⟩ := hF9; have hCK : CK m m9 := CK_2l (CK_2l (CK_2l (CK_2l hF5))); have hFZ : FZ m m9 := (fun x q r => (hF6 x q r).trans (by rw [upm_f _ _ _ _ _ q, upm_f _ _ _ _ _ q, upm_f _ _ _ _ _ q, upm_f _ _ _ _ _ q])); simp only [upm_app, Int.reduceEq, and_self, and_true, true_and, and_false, false_and, if_true, if_false, ↓reduceIte, Int.reduceToNat, upm_f, Int.reduceNe, ne_eq, not_false_eq_true, not_true_eq_false, sC_2] at hF1 hF2 hF3 hF4 hc9; simp only [hdl_c, S9_1, S9_m, bud9, live9, inb9, wrn, wr9_14, wr9_15, wr9_16, wr9_17, tq9_14, tq9_15, tq9_16, tq9_17, tq_0, tq_1, tq_3, upr_rl, rl_0, rl_1, rl_2, rl_3, rl_4, rl_5, rl_6, rl_7, rl_8, rl_9, rl_10, rl_11, rl_12, rl_13, sp_0, sp_1, sp_2, sp_3, sp_4, sp_5, sp_6, sp_7, sp_8, sp_9, sp_10, sp_11, sp_12, sp_13, se_0, se_1, se_2, se_3, se_4, se_5, se_6, se_7, se_8, se_9, se_10, se_11, se_12, se_13, sem_0, sem_1, sem_2, sem_3, sem_4, sem_5, List.getD_cons_zero, List.getD_cons_succ, Bool.false_eq_true, wrn3, wrn1, cpmS, cpok9, if_true, if_false, ↓reduceIte, wc_18, wc_20, wc_28, wc_39, kc_2, kl9_2, sr_2_0, kc_3, kl9_3, kc_4, kl9_4, sr_4_0, sr_4_2, sr_4_4, kc_8, kl9_8, sr_8_10, sr_8_4, sr_8_5, sr_8_6, sr_8_7, sr_8_9, kc_9, kl9_9, kc_10, kl9_10, kc_11, kl9_11, kc_12, kl9_12, kc_13, kl9_13, kc_14, kl9_14, kc_15, kl9_15, sr_15_0, sr_15_1, sr_15_2, sr_15_4, sr_15_5, sr_15_6, sr_15_7, sr_15_8, sr_15_9, kc_16, kl9_16, kc_17, kl9_17, kc_18, kl9_18, kc_19, kl9_19, kc_20, kl9_20, kc_21, kl9_21, kc_22, kl9_22, kc_23, kl9_23, kc_24, kl9_24, upm_app, Int.reduceEq, and_self, and_true, true_and, and_false, false_and, if_true, if_false, ↓reduceIte])
    | ((with_reducible refine p_39x ?_ ?_ (fun h9 => ?_) (fun _ h9 e9 f9 => ?_)); (next => omega); (next => omega); all_goals (simp only [hdl_c, S9_1, S9_m, bud9, live9, inb9, wrn, wr9_14, wr9_15, wr9_16, wr9_17, tq9_14, tq9_15, tq9_16, tq9_17, tq_0, tq_1, tq_3, upr_rl, rl_0, rl_1, rl_2, rl_3, rl_4, rl_5, rl_6, rl_7, rl_8, rl_9, rl_10, rl_11, rl_12, rl_13, sp_0, sp_1, sp_2, sp_3, sp_4, sp_5, sp_6, sp_7, sp_8, sp_9, sp_10, sp_11, sp_12, sp_13, se_0, se_1, se_2, se_3, se_4, se_5, se_6, se_7, se_8, se_9, se_10, se_11, se_12, se_13, sem_0, sem_1, sem_2, sem_3, sem_4, sem_5, List.getD_cons_zero, List.getD_cons_succ, Bool.false_eq_true, wrn3, wrn1, cpmS, cpok9, if_true, if_false, ↓reduceIte, wc_18, wc_20, wc_28, wc_39, kc_2, kl9_2, sr_2_0, kc_3, kl9_3, kc_4, kl9_4, sr_4_0, sr_4_2, sr_4_4, kc_8, kl9_8, sr_8_10, sr_8_4, sr_8_5, sr_8_6, sr_8_7, sr_8_9, kc_9, kl9_9, kc_10, kl9_10, kc_11, kl9_11, kc_12, kl9_12, kc_13, kl9_13, kc_14, kl9_14, kc_15, kl9_15, sr_15_0, sr_15_1, sr_15_2, sr_15_4, sr_15_5, sr_15_6, sr_15_7, sr_15_8, sr_15_9, kc_16, kl9_16, kc_17, kl9_17, kc_18, kl9_18, kc_19, kl9_19, kc_20, kl9_20, kc_21, kl9_21, kc_22, kl9_22, kc_23, kl9_23, kc_24, kl9_24, upm_app, Int.reduceEq, and_self, and_true, true_and, and_false, false_and, if_true, if_false, ↓reduceIte]))
    | ((with_reducible refine hq _ _ ?_ ⟨Or.inl ⟨?_, ?_, ?_⟩, ?_, ?_⟩); (next => repeat (first | exact JC_len hJ9 (by decide) (by decide) | (refine JC_up ?_ (by first | decide | (unfold frC; omega)) (by first | (simp [BdC, hnd]; done) | (simp [BdC, hnd, upm, cpf] <;> first | omega | (unfold w32; omega)))))); (next => omega); (next => rw [sC_2]; rcases hc9 with ⟨c1, c2, c3⟩ | ⟨c1, c2⟩; (next => exact kit_y c3 ⟨by omega, by omega⟩); (next => exact absurd h9.1 c1)); (next => simp only [upm_app, Int.reduceEq, and_self, and_true, true_and, and_false, false_and, if_true, if_false, ↓reduceIte, Int.reduceToNat, upm_f, Int.reduceNe, ne_eq, not_false_eq_true, not_true_eq_false, sC_2]; exact hF4); (next => exact CK_2 hCK); (next => intro x q r; (repeat rw [upm_f _ _ _ _ _ (by omega)]); exact hFZ x q r))
    | ((with_reducible refine hq _ _ ?_ ⟨Or.inr ⟨?_, ?_, ⟨?_, ?_, ?_, ?_⟩⟩, ?_, ?_⟩); (next => repeat (first | exact JC_len hJ9 (by decide) (by decide) | (refine JC_up ?_ (by first | decide | (unfold frC; omega)) (by first | (simp [BdC, hnd]; done) | (simp [BdC, hnd, upm, cpf] <;> first | omega | (unfold w32; omega)))))); (next => unfold w32; omega); (next => rcases hc9 with ⟨c1, c2, c3⟩ | ⟨c1, c2⟩; (next => exact kit_x c3 (fun q => h9 ⟨c1, by omega, by omega⟩)); (next => exact kit_n c2)); (next => simp only [upm_app, Int.reduceEq, and_self, and_true, true_and, and_false, false_and, if_true, if_false, ↓reduceIte, Int.reduceToNat, upm_f, Int.reduceNe, ne_eq, not_false_eq_true, not_true_eq_false, sC_2]); (next => simp only [upm_app, Int.reduceEq, and_self, and_true, true_and, and_false, false_and, if_true, if_false, ↓reduceIte, Int.reduceToNat, upm_f, Int.reduceNe, ne_eq, not_false_eq_true, not_true_eq_false, sC_2]); (next => simp only [upm_app, Int.reduceEq, and_self, and_true, true_and, and_false, false_and, if_true, if_false, ↓reduceIte, Int.reduceToNat, upm_f, Int.reduceNe, ne_eq, not_false_eq_true, not_true_eq_false, sC_2]); (next => simp only [upm_app, Int.reduceEq, and_self, and_true, true_and, and_false, false_and, if_true, if_false, ↓reduceIte, Int.reduceToNat, upm_f, Int.reduceNe, ne_eq, not_false_eq_true, not_true_eq_false, sC_2]); (next => refine CK_rs hCK (fun x q q2 => ?_) ?_ ?_ ?_ ?_; (next => (repeat rw [upm_f _ _ _ _ _ (by omega)])); all_goals (simp only [upm_app, Int.reduceEq, and_self, and_true, true_and, and_false, false_and, if_true, if_false, ↓reduceIte, Int.reduceToNat, upm_f, Int.reduceNe, ne_eq, not_false_eq_true, not_true_eq_false, sC_2])); (next => intro x q r; (repeat rw [upm_f _ _ _ _ _ (by omega)]); exact hFZ x q r))
    | (unfold w32; omega)
    | (simp (disch := omega) only [w32_eq]; omega)
    | (with_reducible show (_ : Int) ≤ _; simp [upm] <;> (first | omega | (unfold w32; omega)))
    | (with_reducible show (_ : Int) < _; simp [upm] <;> (first | omega | (unfold w32; omega))))

theorem CK_o {m m9 m' : Mem} (h : CK m m9) (e : ∀ x, 8 ≤ x ∧ x ≤ 24 → m' x = m9 x) : CK m m' := by
  have ek : kvC m' = kvC m9 := kvC_e (by rw [e 8 (by decide)]) (by rw [e 15 (by decide)]) (fun x q => e x (by omega))
  unfold CK at h ⊢
  rw [ek, e 8 (by decide), e 18 (by decide), e 15 (by decide)]
  exact h
end
section
/-! THE KITCHEN's text, the component's, with values -/
set_option maxHeartbeats 8000000 in
theorem f_16 {d : Nat} {tc e : Int} {g : Fg} {m : Mem} {Q : Int → Sto → Prop} (hB : ∀ j, 0 ≤ m 3 j ∧ m 3 j < 256) (hO : OB m) (hJ : JC 1 g tc m) (hq : ∀ v m', JC 1 g 0 m' → K16 tc m m' → Q v (S9 e m')) : Cl (d + 7) 16 [1] Q (S9 e m) := by
  have hL := JC_l hJ
  have hs := JC_s hJ
  simp only [cl_16, runB, B16, ma_16, rho_2, wf_1_10, wf_1_112, wf_1_26, wf_1_33, wf_1_51, wpf_1_123, wpopor_pf_1_123, wc_17, wc_40, cl_40, B40, ma_40, wpf_7_54, wpopadd_pf_7_54, wpopsub_pf_7_54, w_cst, w_ldi, w_ldj, w_lda, w_ljk, w_ldk, w_ldw, w_ldk2, w_ldt, w_ldtw, w_neg, w_cvb, w_cvs, w_cvc, w_cvj, w_add, w_sub, w_mul, w_ban, w_bor, w_bxo, w_shl, w_shr, w_ush, w_dvi, w_rmi, w_aldi, w_aldj, w_aldz, w_aldc, w_alda, w_ite, w_cmp, w_cmj, w_cz, w_cnot, w_cand, w_cor, w_nil, w_cons, w_cvi, w_csta, w_cvt, w_cvv, w_csv, w_cpy, w_seq, w_sbr, w_sbn, w_brk, w_ifs, w_ifx, w_ife, w_wk, w_rets, w_rtv, w_thr, w_asi, w_asj, w_asa, w_inc, w_exs, w_asti, w_astj, w_astz, w_astc, w_aopadd, w_aopsub, w_sw, if_true, if_false, ↓reduceIte, hdl_c, S9_1, S9_m, bud9, live9, inb9, wrn, wr9_14, wr9_15, wr9_16, wr9_17, tq9_14, tq9_15, tq9_16, tq9_17, tq_0, tq_1, tq_3, upr_rl, rl_0, rl_1, rl_2, rl_3, rl_4, rl_5, rl_6, rl_7, rl_8, rl_9, rl_10, rl_11, rl_12, rl_13, sp_0, sp_1, sp_2, sp_3, sp_4, sp_5, sp_6, sp_7, sp_8, sp_9, sp_10, sp_11, sp_12, sp_13, se_0, se_1, se_2, se_3, se_4, se_5, se_6, se_7, se_8, se_9, se_10, se_11, se_12, se_13, sem_0, sem_1, sem_2, sem_3, sem_4, sem_5, kc_1, kl9_1, sr_1_0, sr_1_1, sr_1_10, sr_1_11, sr_1_13, sr_1_2, sr_1_3, sr_1_4, sr_1_5, sr_1_6, sr_1_7, sr_1_8, sr_1_9, kc_26, kl9_26, sr_26_0, sr_26_1, sr_26_10, sr_26_11, sr_26_12, sr_26_2, sr_26_3, sr_26_7, kc_2, kl9_2, sr_2_0, kc_3, kl9_3, kc_4, kl9_4, sr_4_0, sr_4_2, sr_4_4, kc_8, kl9_8, sr_8_10, sr_8_4, sr_8_5, sr_8_6, sr_8_7, sr_8_9, kc_9, kl9_9, kc_10, kl9_10, kc_11, kl9_11, kc_12, kl9_12, kc_13, kl9_13, kc_14, kl9_14, kc_15, kl9_15, sr_15_0, sr_15_1, sr_15_2, sr_15_4, sr_15_5, sr_15_6, sr_15_7, sr_15_8, sr_15_9, kc_16, kl9_16, kc_17, kl9_17, kc_18, kl9_18, kc_19, kl9_19, kc_20, kl9_20, kc_21, kl9_21, kc_22, kl9_22, kc_23, kl9_23, kc_24, kl9_24, List.getD_cons_zero, List.getD_cons_succ, Bool.false_eq_true, wrn3, wrn1, cpmS, cpok9, upm_app, Int.reduceEq, and_self, and_true, true_and, and_false, false_and, if_true, if_false, ↓reduceIte]
  repeat' (first
    | (with_reducible exact True.intro)
    | omega
    | (with_reducible rfl)
    | (with_reducible contradiction)
    | (with_reducible refine And.intro ?_ ?_)
    | intro _
    | ((with_reducible refine f_17 (g := g) (tc := tc) hB hO hJ (fun v9 m9 hJ9 h9 => ?_)); obtain ⟨hc9, hCK, hFZ⟩ := h9; simp only [hdl_c, S9_1, S9_m, bud9, live9, inb9, wrn, wr9_14, wr9_15, wr9_16, wr9_17, tq9_14, tq9_15, tq9_16, tq9_17, tq_0, tq_1, tq_3, upr_rl, rl_0, rl_1, rl_2, rl_3, rl_4, rl_5, rl_6, rl_7, rl_8, rl_9, rl_10, rl_11, rl_12, rl_13, sp_0, sp_1, sp_2, sp_3, sp_4, sp_5, sp_6, sp_7, sp_8, sp_9, sp_10, sp_11, sp_12, sp_13, se_0, se_1, se_2, se_3, se_4, se_5, se_6, se_7, se_8, se_9, se_10, se_11, se_12, se_13, sem_0, sem_1, sem_2, sem_3, sem_4, sem_5, List.getD_cons_zero, List.getD_cons_succ, Bool.false_eq_true, wrn3, wrn1, cpmS, cpok9, if_true, if_false, ↓reduceIte, wc_17, wc_40, cl_40, runB, B40, ma_40, rho_2, wpf_7_54, wpopadd_pf_7_54, wpopsub_pf_7_54, w_cst, w_ldi, w_ldj, w_lda, w_ljk, w_ldk, w_ldw, w_ldk2, w_ldt, w_ldtw, w_neg, w_cvb, w_cvs, w_cvc, w_cvj, w_add, w_sub, w_mul, w_ban, w_bor, w_bxo, w_shl, w_shr, w_ush, w_dvi, w_rmi, w_aldi, w_aldj, w_aldz, w_aldc, w_alda, w_ite, w_cmp, w_cmj, w_cz, w_cnot, w_cand, w_cor, w_nil, w_cons, w_cvi, w_csta, w_cvt, w_cvv, w_csv, w_cpy, w_seq, w_sbr, w_sbn, w_brk, w_ifs, w_ifx, w_ife, w_wk, w_rets, w_rtv, w_thr, w_asi, w_asj, w_asa, w_inc, w_exs, w_asti, w_astj, w_astz, w_astc, w_aopadd, w_aopsub, w_sw, if_true, if_false, ↓reduceIte, kc_1, kl9_1, sr_1_0, sr_1_1, sr_1_10, sr_1_11, sr_1_13, sr_1_2, sr_1_3, sr_1_4, sr_1_5, sr_1_6, sr_1_7, sr_1_8, sr_1_9, kc_26, kl9_26, sr_26_0, sr_26_1, sr_26_10, sr_26_11, sr_26_12, sr_26_2, sr_26_3, sr_26_7, kc_2, kl9_2, sr_2_0, kc_3, kl9_3, kc_4, kl9_4, sr_4_0, sr_4_2, sr_4_4, kc_8, kl9_8, sr_8_10, sr_8_4, sr_8_5, sr_8_6, sr_8_7, sr_8_9, kc_9, kl9_9, kc_10, kl9_10, kc_11, kl9_11, kc_12, kl9_12, kc_13, kl9_13, kc_14, kl9_14, kc_15, kl9_15, sr_15_0, sr_15_1, sr_15_2, sr_15_4, sr_15_5, sr_15_6, sr_15_7, sr_15_8, sr_15_9, kc_16, kl9_16, kc_17, kl9_17, kc_18, kl9_18, kc_19, kl9_19, kc_20, kl9_20, kc_21, kl9_21, kc_22, kl9_22, kc_23, kl9_23, kc_24, kl9_24, upm_app, Int.reduceEq, and_self, and_true, true_and, and_false, false_and, if_true, if_false, ↓reduceIte])
    | ((with_reducible refine hq _ _ hJ9 ⟨Or.inr ⟨?_, ?_, ?_, ?_⟩, hCK, ?_⟩); (next => rcases hc9 with ⟨h1, h2, h3⟩ | ⟨h1, h2, h3⟩; (next => omega); (next => exact Or.inr h2)); (next => rcases hc9 with ⟨h1, h2, h3⟩ | ⟨h1, h2, h3⟩; (next => omega); (next => exact h3)); (next => rw [hFZ 1 (by decide) (Or.inl (by decide))]); (next => rw [hFZ 26 (by decide) (Or.inr (by decide))]); (next => intro x q r j _ _; rw [hFZ x q r]))
    | ((with_reducible refine hq _ _ ?_ ⟨Or.inl ⟨?_, ?_, ?_, ?_, ?_⟩, ?_, ?_⟩); (next => with_reducible (repeat (first | assumption | (refine JC_up ?_ (by first | decide | (unfold frC; omega)) (by first | (simp [BdC, hnd]; done) | (simp [BdC, hnd, upm, cpf] <;> first | omega | (unfold w32; omega)))))); done); (next => omega); (next => rcases hc9 with ⟨h1, h2, h3⟩ | ⟨h1, -⟩; (next => rw [h2]; refine congrArg some ?_; unfold sC; rw [show kvC (upm (upm m9 26 9 0) 1 12 0) = kvC m9 from kvC_e (by simp only [upm_app, Int.reduceEq, and_self, and_true, true_and, and_false, false_and, if_true, if_false, ↓reduceIte, Int.reduceToNat, upm_f, Int.reduceNe, ne_eq, not_false_eq_true, not_true_eq_false]) (by simp only [upm_app, Int.reduceEq, and_self, and_true, true_and, and_false, false_and, if_true, if_false, ↓reduceIte, Int.reduceToNat, upm_f, Int.reduceNe, ne_eq, not_false_eq_true, not_true_eq_false]) (fun x q => by (repeat rw [upm_f _ _ _ _ _ (by omega)]))]; simp only [upm_app, Int.reduceEq, and_self, and_true, true_and, and_false, false_and, if_true, if_false, ↓reduceIte, Int.reduceToNat, upm_f, Int.reduceNe, ne_eq, not_false_eq_true, not_true_eq_false]); (next => omega)); (next => simp only [upm_app, Int.reduceEq, and_self, and_true, true_and, and_false, false_and, if_true, if_false, ↓reduceIte, Int.reduceToNat, upm_f, Int.reduceNe, ne_eq, not_false_eq_true, not_true_eq_false]); (next => simp only [upm_app, Int.reduceEq, and_self, and_true, true_and, and_false, false_and, if_true, if_false, ↓reduceIte, Int.reduceToNat, upm_f, Int.reduceNe, ne_eq, not_false_eq_true, not_true_eq_false]); (next => rcases hc9 with ⟨h1, h2, h3⟩ | ⟨h1, -⟩; (next => simp only [upm_app, Int.reduceEq, and_self, and_true, true_and, and_false, false_and, if_true, if_false, ↓reduceIte, Int.reduceToNat, upm_f, Int.reduceNe, ne_eq, not_false_eq_true, not_true_eq_false]; exact h3); (next => omega)); (next => exact CK_o hCK (fun x q => by (repeat rw [upm_f _ _ _ _ _ (by omega)]))); (next => intro x q r j n1 n2; (repeat rw [upm_app, if_neg (by omega)]); rw [hFZ x q r]))
    | (have h0 : tc = 0 := by omega
       subst h0
       (with_reducible exact hq _ _ hJ ⟨Or.inr ⟨Or.inl rfl, ⟨rfl, rfl, rfl, rfl⟩, rfl, rfl⟩, CK_rf m, fun _ _ _ _ _ _ => rfl⟩))
    | (unfold w32; omega)
    | (simp (disch := omega) only [w32_eq]; omega)
    | (with_reducible show (_ : Int) ≤ _; simp [upm] <;> (first | omega | (unfold w32; omega)))
    | (with_reducible show (_ : Int) < _; simp [upm] <;> (first | omega | (unfold w32; omega))))
end
section
/-! all that THE KITCHEN tells, as the reference keeps it, with what was read so far -/
def kvR (m : Mem) : Int → Int := fun j =>
  if j < 100 then (if j - 0 < m 249 3 then m 251 (j - 0) else m 261 (j - 0 - m 249 3)) else
  if j < 120 then (if j - 100 < m 249 4 then m 252 (j - 100) else m 262 (4 * (j - 100 - m 249 4))) else
  if j < 140 then (if j - 120 < m 249 4 then m 253 (j - 120) else m 262 (4 * (j - 120 - m 249 4) + 1)) else
  if j < 160 then (if j - 140 < m 249 4 then m 254 (j - 140) else m 262 (4 * (j - 140 - m 249 4) + 2)) else
  if j < 200 then (if j - 160 < m 249 4 then m 255 (j - 160) else (if m 262 (4 * (j - 160 - m 249 4) + 3) = 1 then 1 else 0)) else
  if j < 210 then (if j - 200 < m 249 5 then m 258 (3 * (j - 200)) else m 263 (3 * (j - 200 - m 249 5))) else
  if j < 220 then (if j - 210 < m 249 5 then m 258 (3 * (j - 210) + 1) else m 263 (3 * (j - 210 - m 249 5) + 2)) else
  if j < 230 then (if j - 220 < m 249 5 then m 258 (3 * (j - 220) + 2) else 0) else
  if j < 300 then (if j - 230 < m 249 5 then m 256 (j - 230) else m 263 (3 * (j - 230 - m 249 5) + 1)) else
  if j < 310 then (if j - 300 < m 249 6 then m 257 (j - 300) else m 264 (2 * (j - 300 - m 249 6))) else
  if j < 320 then (if j - 310 < m 249 6 then m 258 (15 + 7 * (j - 310)) else m 264 (2 * (j - 310 - m 249 6) + 1)) else
  if j < 330 then (if j - 320 < m 249 6 then m 258 (16 + 7 * (j - 320)) else 0) else
  if j < 340 then (if j - 330 < m 249 6 then m 258 (17 + 7 * (j - 330)) else 0) else
  if j < 350 then (if j - 340 < m 249 6 then m 258 (18 + 7 * (j - 340)) else 0) else
  if j < 360 then (if j - 350 < m 249 6 then m 258 (19 + 7 * (j - 350)) else 0) else
  if j < 370 then (if j - 360 < m 249 6 then m 258 (20 + 7 * (j - 360)) else -1) else
  (if j - 370 < m 249 6 then m 258 (21 + 7 * (j - 370)) else 0)
theorem kvR_e {m m' : Mem} (e : ∀ x, (251 ≤ x ∧ x ≤ 258) ∨ (261 ≤ x ∧ x ≤ 264) → m' x = m x) (e9 : ∀ j, 3 ≤ j → j ≤ 6 → m' 249 j = m 249 j) : kvR m' = kvR m := by
  unfold kvR
  rw [e9 3 (by decide) (by decide), e9 4 (by decide) (by decide), e9 5 (by decide) (by decide), e9 6 (by decide) (by decide), e 251 (by omega), e 252 (by omega), e 253 (by omega), e 254 (by omega), e 255 (by omega), e 256 (by omega), e 257 (by omega), e 258 (by omega), e 261 (by omega), e 262 (by omega), e 263 (by omega), e 264 (by omega)]
theorem kvR_P (m : Mem) {n v x r : Int} (hr : r = m 249 26) (hn : n = m 249 3 + m 249 26) (hc : 0 ≤ m 249 26 ∧ n < 100) : kvR (upm (upm m 261 r v) 249 26 x) = kup (kvR m) n v := by
  funext j
  unfold kvR kup
  simp only [upm_app, Int.reduceEq, and_true, true_and, and_false, false_and, if_true, if_false, and_self]
  by_cases h0 : j < 100
  · (repeat rewrite [if_pos h0])
    by_cases z : j = n
    · subst z
      rw [if_neg (by omega), if_pos rfl]
      first | rfl | (repeat (first | rw [if_pos (by omega)] | rw [if_neg (by omega)]))
    · rewrite [if_neg z]
      by_cases w : j - 0 < m 249 3
      · (repeat rewrite [if_pos w]); rfl
      · (repeat rewrite [if_neg w]); first | rfl | (repeat rw [if_neg (by omega)])
  (repeat rewrite [if_neg h0])
  by_cases h1 : j < 120
  · (repeat rewrite [if_pos h1])
    rw [if_neg (show ¬ j = n by omega)]
  (repeat rewrite [if_neg h1])
  by_cases h2 : j < 140
  · (repeat rewrite [if_pos h2])
    rw [if_neg (show ¬ j = n by omega)]
  (repeat rewrite [if_neg h2])
  by_cases h3 : j < 160
  · (repeat rewrite [if_pos h3])
    rw [if_neg (show ¬ j = n by omega)]
  (repeat rewrite [if_neg h3])
  by_cases h4 : j < 200
  · (repeat rewrite [if_pos h4])
    rw [if_neg (show ¬ j = n by omega)]
  (repeat rewrite [if_neg h4])
  by_cases h5 : j < 210
  · (repeat rewrite [if_pos h5])
    rw [if_neg (show ¬ j = n by omega)]
  (repeat rewrite [if_neg h5])
  by_cases h6 : j < 220
  · (repeat rewrite [if_pos h6])
    rw [if_neg (show ¬ j = n by omega)]
  (repeat rewrite [if_neg h6])
  by_cases h7 : j < 230
  · (repeat rewrite [if_pos h7])
    rw [if_neg (show ¬ j = n by omega)]
  (repeat rewrite [if_neg h7])
  by_cases h8 : j < 300
  · (repeat rewrite [if_pos h8])
    rw [if_neg (show ¬ j = n by omega)]
  (repeat rewrite [if_neg h8])
  by_cases h9 : j < 310
  · (repeat rewrite [if_pos h9])
    rw [if_neg (show ¬ j = n by omega)]
  (repeat rewrite [if_neg h9])
  by_cases h10 : j < 320
  · (repeat rewrite [if_pos h10])
    rw [if_neg (show ¬ j = n by omega)]
  (repeat rewrite [if_neg h10])
  by_cases h11 : j < 330
  · (repeat rewrite [if_pos h11])
    rw [if_neg (show ¬ j = n by omega)]
  (repeat rewrite [if_neg h11])
  by_cases h12 : j < 340
  · (repeat rewrite [if_pos h12])
    rw [if_neg (show ¬ j = n by omega)]
  (repeat rewrite [if_neg h12])
  by_cases h13 : j < 350
  · (repeat rewrite [if_pos h13])
    rw [if_neg (show ¬ j = n by omega)]
  (repeat rewrite [if_neg h13])
  by_cases h14 : j < 360
  · (repeat rewrite [if_pos h14])
    rw [if_neg (show ¬ j = n by omega)]
  (repeat rewrite [if_neg h14])
  by_cases h15 : j < 370
  · (repeat rewrite [if_pos h15])
    rw [if_neg (show ¬ j = n by omega)]
  (repeat rewrite [if_neg h15])
  rw [if_neg (show ¬ j = n by omega)]
theorem kvR_W (m : Mem) {n k0 k1 k2 k3 a b s d x : Int} (hn : n = m 249 4 + m 249 27) (hc : 0 ≤ m 249 4 ∧ 0 ≤ m 249 27 ∧ n < 14) (h0 : k0 = 4 * m 249 27) (h1 : k1 = 4 * m 249 27 + 1) (h2 : k2 = 4 * m 249 27 + 2) (h3 : k3 = 4 * m 249 27 + 3) : kvR (upm (upm (upm (upm (upm m 262 k0 a) 262 k1 b) 262 k2 s) 262 k3 d) 249 27 x) = vW (kvR m) n a b s (if d = 1 then 1 else 0) := by
  funext j
  unfold kvR vW kup
  simp only [upm_app, Int.reduceEq, and_true, true_and, and_false, false_and, if_true, if_false, and_self]
  by_cases h0 : j < 100
  · (repeat rewrite [if_pos h0])
    rw [if_neg (show ¬ j = 160 + n by omega), if_neg (show ¬ j = 140 + n by omega), if_neg (show ¬ j = 120 + n by omega), if_neg (show ¬ j = 100 + n by omega)]
  (repeat rewrite [if_neg h0])
  by_cases h1 : j < 120
  · (repeat rewrite [if_pos h1])
    rw [if_neg (show ¬ j = 160 + n by omega), if_neg (show ¬ j = 140 + n by omega), if_neg (show ¬ j = 120 + n by omega)]
    by_cases z : j = 100 + n
    · subst z
      rw [if_neg (by omega), if_pos rfl]
      first | rfl | (repeat (first | rw [if_pos (by omega)] | rw [if_neg (by omega)]))
    · rewrite [if_neg z]
      by_cases w : j - 100 < m 249 4
      · (repeat rewrite [if_pos w]); rfl
      · (repeat rewrite [if_neg w]); first | rfl | (repeat rw [if_neg (by omega)])
  (repeat rewrite [if_neg h1])
  by_cases h2 : j < 140
  · (repeat rewrite [if_pos h2])
    rw [if_neg (show ¬ j = 160 + n by omega), if_neg (show ¬ j = 140 + n by omega), if_neg (show ¬ j = 100 + n by omega)]
    by_cases z : j = 120 + n
    · subst z
      rw [if_neg (by omega), if_pos rfl]
      first | rfl | (repeat (first | rw [if_pos (by omega)] | rw [if_neg (by omega)]))
    · rewrite [if_neg z]
      by_cases w : j - 120 < m 249 4
      · (repeat rewrite [if_pos w]); rfl
      · (repeat rewrite [if_neg w]); first | rfl | (repeat rw [if_neg (by omega)])
  (repeat rewrite [if_neg h2])
  by_cases h3 : j < 160
  · (repeat rewrite [if_pos h3])
    rw [if_neg (show ¬ j = 160 + n by omega), if_neg (show ¬ j = 120 + n by omega), if_neg (show ¬ j = 100 + n by omega)]
    by_cases z : j = 140 + n
    · subst z
      rw [if_neg (by omega), if_pos rfl]
      first | rfl | (repeat (first | rw [if_pos (by omega)] | rw [if_neg (by omega)]))
    · rewrite [if_neg z]
      by_cases w : j - 140 < m 249 4
      · (repeat rewrite [if_pos w]); rfl
      · (repeat rewrite [if_neg w]); first | rfl | (repeat rw [if_neg (by omega)])
  (repeat rewrite [if_neg h3])
  by_cases h4 : j < 200
  · (repeat rewrite [if_pos h4])
    rw [if_neg (show ¬ j = 140 + n by omega), if_neg (show ¬ j = 120 + n by omega), if_neg (show ¬ j = 100 + n by omega)]
    by_cases z : j = 160 + n
    · subst z
      rw [if_neg (by omega), if_pos rfl, show 4 * (160 + n - 160 - m 249 4) + 3 = k3 from by omega, if_pos rfl]
    · rewrite [if_neg z]
      by_cases w : j - 160 < m 249 4
      · (repeat rewrite [if_pos w]); rfl
      · (repeat rewrite [if_neg w]); simp only [show ¬ 4 * (j - 160 - m 249 4) + 3 = k3 by omega, show ¬ 4 * (j - 160 - m 249 4) + 3 = k2 by omega, show ¬ 4 * (j - 160 - m 249 4) + 3 = k1 by omega, show ¬ 4 * (j - 160 - m 249 4) + 3 = k0 by omega, if_false]
  (repeat rewrite [if_neg h4])
  by_cases h5 : j < 210
  · (repeat rewrite [if_pos h5])
    rw [if_neg (show ¬ j = 160 + n by omega), if_neg (show ¬ j = 140 + n by omega), if_neg (show ¬ j = 120 + n by omega), if_neg (show ¬ j = 100 + n by omega)]
  (repeat rewrite [if_neg h5])
  by_cases h6 : j < 220
  · (repeat rewrite [if_pos h6])
    rw [if_neg (show ¬ j = 160 + n by omega), if_neg (show ¬ j = 140 + n by omega), if_neg (show ¬ j = 120 + n by omega), if_neg (show ¬ j = 100 + n by omega)]
  (repeat rewrite [if_neg h6])
  by_cases h7 : j < 230
  · (repeat rewrite [if_pos h7])
    rw [if_neg (show ¬ j = 160 + n by omega), if_neg (show ¬ j = 140 + n by omega), if_neg (show ¬ j = 120 + n by omega), if_neg (show ¬ j = 100 + n by omega)]
  (repeat rewrite [if_neg h7])
  by_cases h8 : j < 300
  · (repeat rewrite [if_pos h8])
    rw [if_neg (show ¬ j = 160 + n by omega), if_neg (show ¬ j = 140 + n by omega), if_neg (show ¬ j = 120 + n by omega), if_neg (show ¬ j = 100 + n by omega)]
  (repeat rewrite [if_neg h8])
  by_cases h9 : j < 310
  · (repeat rewrite [if_pos h9])
    rw [if_neg (show ¬ j = 160 + n by omega), if_neg (show ¬ j = 140 + n by omega), if_neg (show ¬ j = 120 + n by omega), if_neg (show ¬ j = 100 + n by omega)]
  (repeat rewrite [if_neg h9])
  by_cases h10 : j < 320
  · (repeat rewrite [if_pos h10])
    rw [if_neg (show ¬ j = 160 + n by omega), if_neg (show ¬ j = 140 + n by omega), if_neg (show ¬ j = 120 + n by omega), if_neg (show ¬ j = 100 + n by omega)]
  (repeat rewrite [if_neg h10])
  by_cases h11 : j < 330
  · (repeat rewrite [if_pos h11])
    rw [if_neg (show ¬ j = 160 + n by omega), if_neg (show ¬ j = 140 + n by omega), if_neg (show ¬ j = 120 + n by omega), if_neg (show ¬ j = 100 + n by omega)]
  (repeat rewrite [if_neg h11])
  by_cases h12 : j < 340
  · (repeat rewrite [if_pos h12])
    rw [if_neg (show ¬ j = 160 + n by omega), if_neg (show ¬ j = 140 + n by omega), if_neg (show ¬ j = 120 + n by omega), if_neg (show ¬ j = 100 + n by omega)]
  (repeat rewrite [if_neg h12])
  by_cases h13 : j < 350
  · (repeat rewrite [if_pos h13])
    rw [if_neg (show ¬ j = 160 + n by omega), if_neg (show ¬ j = 140 + n by omega), if_neg (show ¬ j = 120 + n by omega), if_neg (show ¬ j = 100 + n by omega)]
  (repeat rewrite [if_neg h13])
  by_cases h14 : j < 360
  · (repeat rewrite [if_pos h14])
    rw [if_neg (show ¬ j = 160 + n by omega), if_neg (show ¬ j = 140 + n by omega), if_neg (show ¬ j = 120 + n by omega), if_neg (show ¬ j = 100 + n by omega)]
  (repeat rewrite [if_neg h14])
  by_cases h15 : j < 370
  · (repeat rewrite [if_pos h15])
    rw [if_neg (show ¬ j = 160 + n by omega), if_neg (show ¬ j = 140 + n by omega), if_neg (show ¬ j = 120 + n by omega), if_neg (show ¬ j = 100 + n by omega)]
  (repeat rewrite [if_neg h15])
  rw [if_neg (show ¬ j = 160 + n by omega), if_neg (show ¬ j = 140 + n by omega), if_neg (show ¬ j = 120 + n by omega), if_neg (show ¬ j = 100 + n by omega)]
theorem kvR_O (m : Mem) {n k0 k1 k2 h l c x : Int} (hn : n = m 249 5 + m 249 28) (hc : 0 ≤ m 249 5 ∧ 0 ≤ m 249 28 ∧ n < 5) (h0 : k0 = 3 * m 249 28) (h1 : k1 = 3 * m 249 28 + 1) (h2 : k2 = 3 * m 249 28 + 2) : kvR (upm (upm (upm (upm m 263 k0 h) 263 k1 c) 263 k2 l) 249 28 x) = vO (kvR m) n h l c := by
  funext j
  unfold kvR vO kup
  simp only [upm_app, Int.reduceEq, and_true, true_and, and_false, false_and, if_true, if_false, and_self]
  by_cases h0 : j < 100
  · (repeat rewrite [if_pos h0])
    rw [if_neg (show ¬ j = 230 + n by omega), if_neg (show ¬ j = 220 + n by omega), if_neg (show ¬ j = 210 + n by omega), if_neg (show ¬ j = 200 + n by omega)]
  (repeat rewrite [if_neg h0])
  by_cases h1 : j < 120
  · (repeat rewrite [if_pos h1])
    rw [if_neg (show ¬ j = 230 + n by omega), if_neg (show ¬ j = 220 + n by omega), if_neg (show ¬ j = 210 + n by omega), if_neg (show ¬ j = 200 + n by omega)]
  (repeat rewrite [if_neg h1])
  by_cases h2 : j < 140
  · (repeat rewrite [if_pos h2])
    rw [if_neg (show ¬ j = 230 + n by omega), if_neg (show ¬ j = 220 + n by omega), if_neg (show ¬ j = 210 + n by omega), if_neg (show ¬ j = 200 + n by omega)]
  (repeat rewrite [if_neg h2])
  by_cases h3 : j < 160
  · (repeat rewrite [if_pos h3])
    rw [if_neg (show ¬ j = 230 + n by omega), if_neg (show ¬ j = 220 + n by omega), if_neg (show ¬ j = 210 + n by omega), if_neg (show ¬ j = 200 + n by omega)]
  (repeat rewrite [if_neg h3])
  by_cases h4 : j < 200
  · (repeat rewrite [if_pos h4])
    rw [if_neg (show ¬ j = 230 + n by omega), if_neg (show ¬ j = 220 + n by omega), if_neg (show ¬ j = 210 + n by omega), if_neg (show ¬ j = 200 + n by omega)]
  (repeat rewrite [if_neg h4])
  by_cases h5 : j < 210
  · (repeat rewrite [if_pos h5])
    rw [if_neg (show ¬ j = 230 + n by omega), if_neg (show ¬ j = 220 + n by omega), if_neg (show ¬ j = 210 + n by omega)]
    by_cases z : j = 200 + n
    · subst z
      rw [if_neg (by omega), if_pos rfl]
      first | rfl | (repeat (first | rw [if_pos (by omega)] | rw [if_neg (by omega)]))
    · rewrite [if_neg z]
      by_cases w : j - 200 < m 249 5
      · (repeat rewrite [if_pos w]); rfl
      · (repeat rewrite [if_neg w]); first | rfl | (repeat rw [if_neg (by omega)])
  (repeat rewrite [if_neg h5])
  by_cases h6 : j < 220
  · (repeat rewrite [if_pos h6])
    rw [if_neg (show ¬ j = 230 + n by omega), if_neg (show ¬ j = 220 + n by omega), if_neg (show ¬ j = 200 + n by omega)]
    by_cases z : j = 210 + n
    · subst z
      rw [if_neg (by omega), if_pos rfl]
      first | rfl | (repeat (first | rw [if_pos (by omega)] | rw [if_neg (by omega)]))
    · rewrite [if_neg z]
      by_cases w : j - 210 < m 249 5
      · (repeat rewrite [if_pos w]); rfl
      · (repeat rewrite [if_neg w]); first | rfl | (repeat rw [if_neg (by omega)])
  (repeat rewrite [if_neg h6])
  by_cases h7 : j < 230
  · (repeat rewrite [if_pos h7])
    rw [if_neg (show ¬ j = 230 + n by omega), if_neg (show ¬ j = 210 + n by omega), if_neg (show ¬ j = 200 + n by omega)]
    by_cases z : j = 220 + n
    · subst z
      rw [if_neg (by omega), if_pos rfl]
      first | rfl | (repeat (first | rw [if_pos (by omega)] | rw [if_neg (by omega)]))
    · rewrite [if_neg z]
      by_cases w : j - 220 < m 249 5
      · (repeat rewrite [if_pos w]); rfl
      · (repeat rewrite [if_neg w]); first | rfl | (repeat rw [if_neg (by omega)])
  (repeat rewrite [if_neg h7])
  by_cases h8 : j < 300
  · (repeat rewrite [if_pos h8])
    rw [if_neg (show ¬ j = 220 + n by omega), if_neg (show ¬ j = 210 + n by omega), if_neg (show ¬ j = 200 + n by omega)]
    by_cases z : j = 230 + n
    · subst z
      rw [if_neg (by omega), if_pos rfl]
      first | rfl | (repeat (first | rw [if_pos (by omega)] | rw [if_neg (by omega)]))
    · rewrite [if_neg z]
      by_cases w : j - 230 < m 249 5
      · (repeat rewrite [if_pos w]); rfl
      · (repeat rewrite [if_neg w]); first | rfl | (repeat rw [if_neg (by omega)])
  (repeat rewrite [if_neg h8])
  by_cases h9 : j < 310
  · (repeat rewrite [if_pos h9])
    rw [if_neg (show ¬ j = 230 + n by omega), if_neg (show ¬ j = 220 + n by omega), if_neg (show ¬ j = 210 + n by omega), if_neg (show ¬ j = 200 + n by omega)]
  (repeat rewrite [if_neg h9])
  by_cases h10 : j < 320
  · (repeat rewrite [if_pos h10])
    rw [if_neg (show ¬ j = 230 + n by omega), if_neg (show ¬ j = 220 + n by omega), if_neg (show ¬ j = 210 + n by omega), if_neg (show ¬ j = 200 + n by omega)]
  (repeat rewrite [if_neg h10])
  by_cases h11 : j < 330
  · (repeat rewrite [if_pos h11])
    rw [if_neg (show ¬ j = 230 + n by omega), if_neg (show ¬ j = 220 + n by omega), if_neg (show ¬ j = 210 + n by omega), if_neg (show ¬ j = 200 + n by omega)]
  (repeat rewrite [if_neg h11])
  by_cases h12 : j < 340
  · (repeat rewrite [if_pos h12])
    rw [if_neg (show ¬ j = 230 + n by omega), if_neg (show ¬ j = 220 + n by omega), if_neg (show ¬ j = 210 + n by omega), if_neg (show ¬ j = 200 + n by omega)]
  (repeat rewrite [if_neg h12])
  by_cases h13 : j < 350
  · (repeat rewrite [if_pos h13])
    rw [if_neg (show ¬ j = 230 + n by omega), if_neg (show ¬ j = 220 + n by omega), if_neg (show ¬ j = 210 + n by omega), if_neg (show ¬ j = 200 + n by omega)]
  (repeat rewrite [if_neg h13])
  by_cases h14 : j < 360
  · (repeat rewrite [if_pos h14])
    rw [if_neg (show ¬ j = 230 + n by omega), if_neg (show ¬ j = 220 + n by omega), if_neg (show ¬ j = 210 + n by omega), if_neg (show ¬ j = 200 + n by omega)]
  (repeat rewrite [if_neg h14])
  by_cases h15 : j < 370
  · (repeat rewrite [if_pos h15])
    rw [if_neg (show ¬ j = 230 + n by omega), if_neg (show ¬ j = 220 + n by omega), if_neg (show ¬ j = 210 + n by omega), if_neg (show ¬ j = 200 + n by omega)]
  (repeat rewrite [if_neg h15])
  rw [if_neg (show ¬ j = 230 + n by omega), if_neg (show ¬ j = 220 + n by omega), if_neg (show ¬ j = 210 + n by omega), if_neg (show ¬ j = 200 + n by omega)]
theorem kvR_H (m : Mem) {n k0 k1 b l x : Int} (hn : n = m 249 6 + m 249 29) (hc : 0 ≤ m 249 6 ∧ 0 ≤ m 249 29 ∧ n < 5) (h0 : k0 = 2 * m 249 29) (h1 : k1 = 2 * m 249 29 + 1) : kvR (upm (upm (upm m 264 k0 b) 264 k1 l) 249 29 x) = vH (kvR m) n b l := by
  funext j
  unfold kvR vH kup
  simp only [upm_app, Int.reduceEq, and_true, true_and, and_false, false_and, if_true, if_false, and_self]
  by_cases h0 : j < 100
  · (repeat rewrite [if_pos h0])
    rw [if_neg (show ¬ j = 370 + n by omega), if_neg (show ¬ j = 360 + n by omega), if_neg (show ¬ j = 350 + n by omega), if_neg (show ¬ j = 340 + n by omega), if_neg (show ¬ j = 330 + n by omega), if_neg (show ¬ j = 320 + n by omega), if_neg (show ¬ j = 310 + n by omega), if_neg (show ¬ j = 300 + n by omega)]
  (repeat rewrite [if_neg h0])
  by_cases h1 : j < 120
  · (repeat rewrite [if_pos h1])
    rw [if_neg (show ¬ j = 370 + n by omega), if_neg (show ¬ j = 360 + n by omega), if_neg (show ¬ j = 350 + n by omega), if_neg (show ¬ j = 340 + n by omega), if_neg (show ¬ j = 330 + n by omega), if_neg (show ¬ j = 320 + n by omega), if_neg (show ¬ j = 310 + n by omega), if_neg (show ¬ j = 300 + n by omega)]
  (repeat rewrite [if_neg h1])
  by_cases h2 : j < 140
  · (repeat rewrite [if_pos h2])
    rw [if_neg (show ¬ j = 370 + n by omega), if_neg (show ¬ j = 360 + n by omega), if_neg (show ¬ j = 350 + n by omega), if_neg (show ¬ j = 340 + n by omega), if_neg (show ¬ j = 330 + n by omega), if_neg (show ¬ j = 320 + n by omega), if_neg (show ¬ j = 310 + n by omega), if_neg (show ¬ j = 300 + n by omega)]
  (repeat rewrite [if_neg h2])
  by_cases h3 : j < 160
  · (repeat rewrite [if_pos h3])
    rw [if_neg (show ¬ j = 370 + n by omega), if_neg (show ¬ j = 360 + n by omega), if_neg (show ¬ j = 350 + n by omega), if_neg (show ¬ j = 340 + n by omega), if_neg (show ¬ j = 330 + n by omega), if_neg (show ¬ j = 320 + n by omega), if_neg (show ¬ j = 310 + n by omega), if_neg (show ¬ j = 300 + n by omega)]
  (repeat rewrite [if_neg h3])
  by_cases h4 : j < 200
  · (repeat rewrite [if_pos h4])
    rw [if_neg (show ¬ j = 370 + n by omega), if_neg (show ¬ j = 360 + n by omega), if_neg (show ¬ j = 350 + n by omega), if_neg (show ¬ j = 340 + n by omega), if_neg (show ¬ j = 330 + n by omega), if_neg (show ¬ j = 320 + n by omega), if_neg (show ¬ j = 310 + n by omega), if_neg (show ¬ j = 300 + n by omega)]
  (repeat rewrite [if_neg h4])
  by_cases h5 : j < 210
  · (repeat rewrite [if_pos h5])
    rw [if_neg (show ¬ j = 370 + n by omega), if_neg (show ¬ j = 360 + n by omega), if_neg (show ¬ j = 350 + n by omega), if_neg (show ¬ j = 340 + n by omega), if_neg (show ¬ j = 330 + n by omega), if_neg (show ¬ j = 320 + n by omega), if_neg (show ¬ j = 310 + n by omega), if_neg (show ¬ j = 300 + n by omega)]
  (repeat rewrite [if_neg h5])
  by_cases h6 : j < 220
  · (repeat rewrite [if_pos h6])
    rw [if_neg (show ¬ j = 370 + n by omega), if_neg (show ¬ j = 360 + n by omega), if_neg (show ¬ j = 350 + n by omega), if_neg (show ¬ j = 340 + n by omega), if_neg (show ¬ j = 330 + n by omega), if_neg (show ¬ j = 320 + n by omega), if_neg (show ¬ j = 310 + n by omega), if_neg (show ¬ j = 300 + n by omega)]
  (repeat rewrite [if_neg h6])
  by_cases h7 : j < 230
  · (repeat rewrite [if_pos h7])
    rw [if_neg (show ¬ j = 370 + n by omega), if_neg (show ¬ j = 360 + n by omega), if_neg (show ¬ j = 350 + n by omega), if_neg (show ¬ j = 340 + n by omega), if_neg (show ¬ j = 330 + n by omega), if_neg (show ¬ j = 320 + n by omega), if_neg (show ¬ j = 310 + n by omega), if_neg (show ¬ j = 300 + n by omega)]
  (repeat rewrite [if_neg h7])
  by_cases h8 : j < 300
  · (repeat rewrite [if_pos h8])
    rw [if_neg (show ¬ j = 370 + n by omega), if_neg (show ¬ j = 360 + n by omega), if_neg (show ¬ j = 350 + n by omega), if_neg (show ¬ j = 340 + n by omega), if_neg (show ¬ j = 330 + n by omega), if_neg (show ¬ j = 320 + n by omega), if_neg (show ¬ j = 310 + n by omega), if_neg (show ¬ j = 300 + n by omega)]
  (repeat rewrite [if_neg h8])
  by_cases h9 : j < 310
  · (repeat rewrite [if_pos h9])
    rw [if_neg (show ¬ j = 370 + n by omega), if_neg (show ¬ j = 360 + n by omega), if_neg (show ¬ j = 350 + n by omega), if_neg (show ¬ j = 340 + n by omega), if_neg (show ¬ j = 330 + n by omega), if_neg (show ¬ j = 320 + n by omega), if_neg (show ¬ j = 310 + n by omega)]
    by_cases z : j = 300 + n
    · subst z
      rw [if_neg (by omega), if_pos rfl]
      first | rfl | (repeat (first | rw [if_pos (by omega)] | rw [if_neg (by omega)]))
    · rewrite [if_neg z]
      by_cases w : j - 300 < m 249 6
      · (repeat rewrite [if_pos w]); rfl
      · (repeat rewrite [if_neg w]); first | rfl | (repeat rw [if_neg (by omega)])
  (repeat rewrite [if_neg h9])
  by_cases h10 : j < 320
  · (repeat rewrite [if_pos h10])
    rw [if_neg (show ¬ j = 370 + n by omega), if_neg (show ¬ j = 360 + n by omega), if_neg (show ¬ j = 350 + n by omega), if_neg (show ¬ j = 340 + n by omega), if_neg (show ¬ j = 330 + n by omega), if_neg (show ¬ j = 320 + n by omega), if_neg (show ¬ j = 300 + n by omega)]
    by_cases z : j = 310 + n
    · subst z
      rw [if_neg (by omega), if_pos rfl]
      first | rfl | (repeat (first | rw [if_pos (by omega)] | rw [if_neg (by omega)]))
    · rewrite [if_neg z]
      by_cases w : j - 310 < m 249 6
      · (repeat rewrite [if_pos w]); rfl
      · (repeat rewrite [if_neg w]); first | rfl | (repeat rw [if_neg (by omega)])
  (repeat rewrite [if_neg h10])
  by_cases h11 : j < 330
  · (repeat rewrite [if_pos h11])
    rw [if_neg (show ¬ j = 370 + n by omega), if_neg (show ¬ j = 360 + n by omega), if_neg (show ¬ j = 350 + n by omega), if_neg (show ¬ j = 340 + n by omega), if_neg (show ¬ j = 330 + n by omega), if_neg (show ¬ j = 310 + n by omega), if_neg (show ¬ j = 300 + n by omega)]
    by_cases z : j = 320 + n
    · subst z
      rw [if_neg (by omega), if_pos rfl]
      first | rfl | (repeat (first | rw [if_pos (by omega)] | rw [if_neg (by omega)]))
    · rewrite [if_neg z]
      by_cases w : j - 320 < m 249 6
      · (repeat rewrite [if_pos w]); rfl
      · (repeat rewrite [if_neg w]); first | rfl | (repeat rw [if_neg (by omega)])
  (repeat rewrite [if_neg h11])
  by_cases h12 : j < 340
  · (repeat rewrite [if_pos h12])
    rw [if_neg (show ¬ j = 370 + n by omega), if_neg (show ¬ j = 360 + n by omega), if_neg (show ¬ j = 350 + n by omega), if_neg (show ¬ j = 340 + n by omega), if_neg (show ¬ j = 320 + n by omega), if_neg (show ¬ j = 310 + n by omega), if_neg (show ¬ j = 300 + n by omega)]
    by_cases z : j = 330 + n
    · subst z
      rw [if_neg (by omega), if_pos rfl]
      first | rfl | (repeat (first | rw [if_pos (by omega)] | rw [if_neg (by omega)]))
    · rewrite [if_neg z]
      by_cases w : j - 330 < m 249 6
      · (repeat rewrite [if_pos w]); rfl
      · (repeat rewrite [if_neg w]); first | rfl | (repeat rw [if_neg (by omega)])
  (repeat rewrite [if_neg h12])
  by_cases h13 : j < 350
  · (repeat rewrite [if_pos h13])
    rw [if_neg (show ¬ j = 370 + n by omega), if_neg (show ¬ j = 360 + n by omega), if_neg (show ¬ j = 350 + n by omega), if_neg (show ¬ j = 330 + n by omega), if_neg (show ¬ j = 320 + n by omega), if_neg (show ¬ j = 310 + n by omega), if_neg (show ¬ j = 300 + n by omega)]
    by_cases z : j = 340 + n
    · subst z
      rw [if_neg (by omega), if_pos rfl]
      first | rfl | (repeat (first | rw [if_pos (by omega)] | rw [if_neg (by omega)]))
    · rewrite [if_neg z]
      by_cases w : j - 340 < m 249 6
      · (repeat rewrite [if_pos w]); rfl
      · (repeat rewrite [if_neg w]); first | rfl | (repeat rw [if_neg (by omega)])
  (repeat rewrite [if_neg h13])
  by_cases h14 : j < 360
  · (repeat rewrite [if_pos h14])
    rw [if_neg (show ¬ j = 370 + n by omega), if_neg (show ¬ j = 360 + n by omega), if_neg (show ¬ j = 340 + n by omega), if_neg (show ¬ j = 330 + n by omega), if_neg (show ¬ j = 320 + n by omega), if_neg (show ¬ j = 310 + n by omega), if_neg (show ¬ j = 300 + n by omega)]
    by_cases z : j = 350 + n
    · subst z
      rw [if_neg (by omega), if_pos rfl]
      first | rfl | (repeat (first | rw [if_pos (by omega)] | rw [if_neg (by omega)]))
    · rewrite [if_neg z]
      by_cases w : j - 350 < m 249 6
      · (repeat rewrite [if_pos w]); rfl
      · (repeat rewrite [if_neg w]); first | rfl | (repeat rw [if_neg (by omega)])
  (repeat rewrite [if_neg h14])
  by_cases h15 : j < 370
  · (repeat rewrite [if_pos h15])
    rw [if_neg (show ¬ j = 370 + n by omega), if_neg (show ¬ j = 350 + n by omega), if_neg (show ¬ j = 340 + n by omega), if_neg (show ¬ j = 330 + n by omega), if_neg (show ¬ j = 320 + n by omega), if_neg (show ¬ j = 310 + n by omega), if_neg (show ¬ j = 300 + n by omega)]
    by_cases z : j = 360 + n
    · subst z
      rw [if_neg (by omega), if_pos rfl]
      first | rfl | (repeat (first | rw [if_pos (by omega)] | rw [if_neg (by omega)]))
    · rewrite [if_neg z]
      by_cases w : j - 360 < m 249 6
      · (repeat rewrite [if_pos w]); rfl
      · (repeat rewrite [if_neg w]); first | rfl | (repeat rw [if_neg (by omega)])
  (repeat rewrite [if_neg h15])
  rw [if_neg (show ¬ j = 360 + n by omega), if_neg (show ¬ j = 350 + n by omega), if_neg (show ¬ j = 340 + n by omega), if_neg (show ¬ j = 330 + n by omega), if_neg (show ¬ j = 320 + n by omega), if_neg (show ¬ j = 310 + n by omega), if_neg (show ¬ j = 300 + n by omega)]
  by_cases z : j = 370 + n
  · subst z
    rw [if_neg (by omega), if_pos rfl]
    first | rfl | (repeat (first | rw [if_pos (by omega)] | rw [if_neg (by omega)]))
  · rewrite [if_neg z]
    by_cases w : j - 370 < m 249 6
    · (repeat rewrite [if_pos w]); rfl
    · (repeat rewrite [if_neg w]); first | rfl | (repeat rw [if_neg (by omega)])
theorem kvR_P1 {m m' : Mem} {n r v : Int} (e : ∀ x, (251 ≤ x ∧ x ≤ 258) ∨ (261 ≤ x ∧ x ≤ 264) → x ≠ 261 → m' x = m x) (e9 : ∀ j, 3 ≤ j → j ≤ 6 → m' 249 j = m 249 j) (hr : r = m 249 26) (hn : n = m 249 3 + m 249 26) (hc : 0 ≤ m 249 26 ∧ n < 100) (c0 : m' 261 (1 * r + 0) = v) (ho : ∀ j, (j < 1 * r ∨ 1 * r + 0 < j) → m' 261 j = m 261 j) : kvR m' = kup (kvR m) n v := by
  have e2 : m' 261 = (upm (upm m 261 (1 * r + 0) v) 249 26 0) 261 := by
    funext j
    simp only [upm_app, Int.reduceEq, and_true, true_and, and_false, false_and, if_true, if_false, and_self]
    by_cases z0 : j = 1 * r + 0
    · rw [if_pos z0, z0]; exact c0
    rw [if_neg z0]
    exact ho j (by omega)
  have k := kvR_P m (n := n) (v := v) (x := 0) (r := 1 * r + 0) (by omega) hn hc
  rw [← k]
  refine kvR_e (fun x q => ?_) (fun j j0 j1 => ?_)
  · by_cases z : x = 261
    · rw [z]; exact e2
    · rw [e x q z]
      by_cases w : x = 249
      · omega
      · (repeat rw [upm_f _ _ _ _ _ (by omega)])
  · rw [e9 j j0 j1]
    rw [upm_k (by omega)]
    (repeat rw [upm_f _ _ _ _ _ (by decide)])
theorem kvR_W1 {m m' : Mem} {n r a b s d : Int} (e : ∀ x, (251 ≤ x ∧ x ≤ 258) ∨ (261 ≤ x ∧ x ≤ 264) → x ≠ 262 → m' x = m x) (e9 : ∀ j, 3 ≤ j → j ≤ 6 → m' 249 j = m 249 j) (hr : r = m 249 27) (hn : n = m 249 4 + m 249 27) (hc : 0 ≤ m 249 4 ∧ 0 ≤ m 249 27 ∧ n < 14) (c0 : m' 262 (4 * r + 0) = a) (c1 : m' 262 (4 * r + 1) = b) (c2 : m' 262 (4 * r + 2) = s) (c3 : m' 262 (4 * r + 3) = d) (ho : ∀ j, (j < 4 * r ∨ 4 * r + 3 < j) → m' 262 j = m 262 j) : kvR m' = vW (kvR m) n a b s (if d = 1 then 1 else 0) := by
  have e2 : m' 262 = (upm (upm (upm (upm (upm m 262 (4 * r + 0) a) 262 (4 * r + 1) b) 262 (4 * r + 2) s) 262 (4 * r + 3) d) 249 27 0) 262 := by
    funext j
    simp only [upm_app, Int.reduceEq, and_true, true_and, and_false, false_and, if_true, if_false, and_self]
    by_cases z3 : j = 4 * r + 3
    · rw [if_pos z3, z3]; exact c3
    rw [if_neg z3]
    by_cases z2 : j = 4 * r + 2
    · rw [if_pos z2, z2]; exact c2
    rw [if_neg z2]
    by_cases z1 : j = 4 * r + 1
    · rw [if_pos z1, z1]; exact c1
    rw [if_neg z1]
    by_cases z0 : j = 4 * r + 0
    · rw [if_pos z0, z0]; exact c0
    rw [if_neg z0]
    exact ho j (by omega)
  have k := kvR_W m (n := n) (a := a) (b := b) (s := s) (d := d) (x := 0) (k0 := 4 * r + 0) (k1 := 4 * r + 1) (k2 := 4 * r + 2) (k3 := 4 * r + 3) hn hc (by omega) (by omega) (by omega) (by omega)
  rw [← k]
  refine kvR_e (fun x q => ?_) (fun j j0 j1 => ?_)
  · by_cases z : x = 262
    · rw [z]; exact e2
    · rw [e x q z]
      by_cases w : x = 249
      · omega
      · (repeat rw [upm_f _ _ _ _ _ (by omega)])
  · rw [e9 j j0 j1]
    rw [upm_k (by omega)]
    (repeat rw [upm_f _ _ _ _ _ (by decide)])
theorem kvR_O1 {m m' : Mem} {n r h l c : Int} (e : ∀ x, (251 ≤ x ∧ x ≤ 258) ∨ (261 ≤ x ∧ x ≤ 264) → x ≠ 263 → m' x = m x) (e9 : ∀ j, 3 ≤ j → j ≤ 6 → m' 249 j = m 249 j) (hr : r = m 249 28) (hn : n = m 249 5 + m 249 28) (hc : 0 ≤ m 249 5 ∧ 0 ≤ m 249 28 ∧ n < 5) (c0 : m' 263 (3 * r + 0) = h) (c1 : m' 263 (3 * r + 1) = c) (c2 : m' 263 (3 * r + 2) = l) (ho : ∀ j, (j < 3 * r ∨ 3 * r + 2 < j) → m' 263 j = m 263 j) : kvR m' = vO (kvR m) n h l c := by
  have e2 : m' 263 = (upm (upm (upm (upm m 263 (3 * r + 0) h) 263 (3 * r + 1) c) 263 (3 * r + 2) l) 249 28 0) 263 := by
    funext j
    simp only [upm_app, Int.reduceEq, and_true, true_and, and_false, false_and, if_true, if_false, and_self]
    by_cases z2 : j = 3 * r + 2
    · rw [if_pos z2, z2]; exact c2
    rw [if_neg z2]
    by_cases z1 : j = 3 * r + 1
    · rw [if_pos z1, z1]; exact c1
    rw [if_neg z1]
    by_cases z0 : j = 3 * r + 0
    · rw [if_pos z0, z0]; exact c0
    rw [if_neg z0]
    exact ho j (by omega)
  have k := kvR_O m (n := n) (h := h) (l := l) (c := c) (x := 0) (k0 := 3 * r + 0) (k1 := 3 * r + 1) (k2 := 3 * r + 2) hn hc (by omega) (by omega) (by omega)
  rw [← k]
  refine kvR_e (fun x q => ?_) (fun j j0 j1 => ?_)
  · by_cases z : x = 263
    · rw [z]; exact e2
    · rw [e x q z]
      by_cases w : x = 249
      · omega
      · (repeat rw [upm_f _ _ _ _ _ (by omega)])
  · rw [e9 j j0 j1]
    rw [upm_k (by omega)]
    (repeat rw [upm_f _ _ _ _ _ (by decide)])
theorem kvR_H1 {m m' : Mem} {n r b l : Int} (e : ∀ x, (251 ≤ x ∧ x ≤ 258) ∨ (261 ≤ x ∧ x ≤ 264) → x ≠ 264 → m' x = m x) (e9 : ∀ j, 3 ≤ j → j ≤ 6 → m' 249 j = m 249 j) (hr : r = m 249 29) (hn : n = m 249 6 + m 249 29) (hc : 0 ≤ m 249 6 ∧ 0 ≤ m 249 29 ∧ n < 5) (c0 : m' 264 (2 * r + 0) = b) (c1 : m' 264 (2 * r + 1) = l) (ho : ∀ j, (j < 2 * r ∨ 2 * r + 1 < j) → m' 264 j = m 264 j) : kvR m' = vH (kvR m) n b l := by
  have e2 : m' 264 = (upm (upm (upm m 264 (2 * r + 0) b) 264 (2 * r + 1) l) 249 29 0) 264 := by
    funext j
    simp only [upm_app, Int.reduceEq, and_true, true_and, and_false, false_and, if_true, if_false, and_self]
    by_cases z1 : j = 2 * r + 1
    · rw [if_pos z1, z1]; exact c1
    rw [if_neg z1]
    by_cases z0 : j = 2 * r + 0
    · rw [if_pos z0, z0]; exact c0
    rw [if_neg z0]
    exact ho j (by omega)
  have k := kvR_H m (n := n) (b := b) (l := l) (x := 0) (k0 := 2 * r + 0) (k1 := 2 * r + 1) hn hc (by omega) (by omega)
  rw [← k]
  refine kvR_e (fun x q => ?_) (fun j j0 j1 => ?_)
  · by_cases z : x = 264
    · rw [z]; exact e2
    · rw [e x q z]
      by_cases w : x = 249
      · omega
      · (repeat rw [upm_f _ _ _ _ _ (by omega)])
  · rw [e9 j j0 j1]
    rw [upm_k (by omega)]
    (repeat rw [upm_f _ _ _ _ _ (by decide)])
end
section
/-! what was read is copied: with it, all that THE KITCHEN tells stays as it is -/
def kvW (z3 z4 z5 z6 : Int) (m : Mem) : Int → Int := fun j =>
  if j < 100 then (if j - 0 < m 249 3 then m 251 (j - 0) else m 261 (j - 0 - z3)) else
  if j < 120 then (if j - 100 < m 249 4 then m 252 (j - 100) else m 262 (4 * (j - 100 - z4))) else
  if j < 140 then (if j - 120 < m 249 4 then m 253 (j - 120) else m 262 (4 * (j - 120 - z4) + 1)) else
  if j < 160 then (if j - 140 < m 249 4 then m 254 (j - 140) else m 262 (4 * (j - 140 - z4) + 2)) else
  if j < 200 then (if j - 160 < m 249 4 then m 255 (j - 160) else (if m 262 (4 * (j - 160 - z4) + 3) = 1 then 1 else 0)) else
  if j < 210 then (if j - 200 < m 249 5 then m 258 (3 * (j - 200)) else m 263 (3 * (j - 200 - z5))) else
  if j < 220 then (if j - 210 < m 249 5 then m 258 (3 * (j - 210) + 1) else m 263 (3 * (j - 210 - z5) + 2)) else
  if j < 230 then (if j - 220 < m 249 5 then m 258 (3 * (j - 220) + 2) else 0) else
  if j < 300 then (if j - 230 < m 249 5 then m 256 (j - 230) else m 263 (3 * (j - 230 - z5) + 1)) else
  if j < 310 then (if j - 300 < m 249 6 then m 257 (j - 300) else m 264 (2 * (j - 300 - z6))) else
  if j < 320 then (if j - 310 < m 249 6 then m 258 (15 + 7 * (j - 310)) else m 264 (2 * (j - 310 - z6) + 1)) else
  if j < 330 then (if j - 320 < m 249 6 then m 258 (16 + 7 * (j - 320)) else 0) else
  if j < 340 then (if j - 330 < m 249 6 then m 258 (17 + 7 * (j - 330)) else 0) else
  if j < 350 then (if j - 340 < m 249 6 then m 258 (18 + 7 * (j - 340)) else 0) else
  if j < 360 then (if j - 350 < m 249 6 then m 258 (19 + 7 * (j - 350)) else 0) else
  if j < 370 then (if j - 360 < m 249 6 then m 258 (20 + 7 * (j - 360)) else -1) else
  (if j - 370 < m 249 6 then m 258 (21 + 7 * (j - 370)) else 0)
theorem kvW_b {z3 z4 z5 z6 : Int} {m m' : Mem} (e : ∀ x, (251 ≤ x ∧ x ≤ 258) ∨ (261 ≤ x ∧ x ≤ 264) → x ≠ 251 → m' x = m x) (e9 : ∀ j, 3 ≤ j → j ≤ 6 → j ≠ 3 → m' 249 j = m 249 j) (hc : m' 249 3 = m 249 3 + 1) (hq : 0 ≤ m 249 3 ∧ m 249 3 < 20) (v0 : m' 251 (m 249 3) = m 261 (m 249 3 - z3)) (g251 : ∀ j, j < m 249 3 → m' 251 j = m 251 j) : kvW z3 z4 z5 z6 m' = kvW z3 z4 z5 z6 m := by
  funext j
  unfold kvW
  rw [hc, e9 4 (by decide) (by decide) (by decide), e9 5 (by decide) (by decide) (by decide), e9 6 (by decide) (by decide) (by decide), e 252 (by omega) (by decide), e 253 (by omega) (by decide), e 254 (by omega) (by decide), e 255 (by omega) (by decide), e 256 (by omega) (by decide), e 257 (by omega) (by decide), e 258 (by omega) (by decide), e 261 (by omega) (by decide), e 262 (by omega) (by decide), e 263 (by omega) (by decide), e 264 (by omega) (by decide)]
  by_cases h0 : j < 100
  · (repeat rewrite [if_pos h0])
    by_cases w : j - 0 < m 249 3
    · rw [if_pos w, if_pos (by omega)]; exact g251 _ (by omega)
    · by_cases w2 : j - 0 < m 249 3 + 1
      · rw [if_pos w2, if_neg w]
        have ej : j = 0 + m 249 3 := by omega
        subst ej
        rw [show (((0 + m 249 3) - 0) : Int) = m 249 3 from by omega, v0]; (try rw [show (0 + m 249 3 - 0 - z3 : Int) = m 249 3 - z3 from by omega])
      · rw [if_neg w2, if_neg w]
  (repeat rewrite [if_neg h0])
  by_cases h1 : j < 120
  · (repeat rewrite [if_pos h1])
    rfl
  (repeat rewrite [if_neg h1])
  by_cases h2 : j < 140
  · (repeat rewrite [if_pos h2])
    rfl
  (repeat rewrite [if_neg h2])
  by_cases h3 : j < 160
  · (repeat rewrite [if_pos h3])
    rfl
  (repeat rewrite [if_neg h3])
  by_cases h4 : j < 200
  · (repeat rewrite [if_pos h4])
    rfl
  (repeat rewrite [if_neg h4])
  by_cases h5 : j < 210
  · (repeat rewrite [if_pos h5])
    rfl
  (repeat rewrite [if_neg h5])
  by_cases h6 : j < 220
  · (repeat rewrite [if_pos h6])
    rfl
  (repeat rewrite [if_neg h6])
  by_cases h7 : j < 230
  · (repeat rewrite [if_pos h7])
    rfl
  (repeat rewrite [if_neg h7])
  by_cases h8 : j < 300
  · (repeat rewrite [if_pos h8])
    rfl
  (repeat rewrite [if_neg h8])
  by_cases h9 : j < 310
  · (repeat rewrite [if_pos h9])
    rfl
  (repeat rewrite [if_neg h9])
  by_cases h10 : j < 320
  · (repeat rewrite [if_pos h10])
    rfl
  (repeat rewrite [if_neg h10])
  by_cases h11 : j < 330
  · (repeat rewrite [if_pos h11])
    rfl
  (repeat rewrite [if_neg h11])
  by_cases h12 : j < 340
  · (repeat rewrite [if_pos h12])
    rfl
  (repeat rewrite [if_neg h12])
  by_cases h13 : j < 350
  · (repeat rewrite [if_pos h13])
    rfl
  (repeat rewrite [if_neg h13])
  by_cases h14 : j < 360
  · (repeat rewrite [if_pos h14])
    rfl
  (repeat rewrite [if_neg h14])
  by_cases h15 : j < 370
  · (repeat rewrite [if_pos h15])
    rfl
  (repeat rewrite [if_neg h15])
  rfl
theorem kvW_c {z3 z4 z5 z6 : Int} {m m' : Mem} (e : ∀ x, (251 ≤ x ∧ x ≤ 258) ∨ (261 ≤ x ∧ x ≤ 264) → x ≠ 252 → x ≠ 253 → x ≠ 254 → x ≠ 255 → m' x = m x) (e9 : ∀ j, 3 ≤ j → j ≤ 6 → j ≠ 4 → m' 249 j = m 249 j) (hc : m' 249 4 = m 249 4 + 1) (hq : 0 ≤ m 249 4 ∧ m 249 4 < 20) (v1 : m' 252 (m 249 4) = m 262 (4 * (m 249 4 - z4))) (v2 : m' 253 (m 249 4) = m 262 (4 * (m 249 4 - z4) + 1)) (v3 : m' 254 (m 249 4) = m 262 (4 * (m 249 4 - z4) + 2)) (v4 : m' 255 (m 249 4) = (if m 262 (4 * (m 249 4 - z4) + 3) = 1 then 1 else 0)) (g252 : ∀ j, j < m 249 4 → m' 252 j = m 252 j) (g253 : ∀ j, j < m 249 4 → m' 253 j = m 253 j) (g254 : ∀ j, j < m 249 4 → m' 254 j = m 254 j) (g255 : ∀ j, j < m 249 4 → m' 255 j = m 255 j) : kvW z3 z4 z5 z6 m' = kvW z3 z4 z5 z6 m := by
  funext j
  unfold kvW
  rw [hc, e9 3 (by decide) (by decide) (by decide), e9 5 (by decide) (by decide) (by decide), e9 6 (by decide) (by decide) (by decide), e 251 (by omega) (by decide) (by decide) (by decide) (by decide), e 256 (by omega) (by decide) (by decide) (by decide) (by decide), e 257 (by omega) (by decide) (by decide) (by decide) (by decide), e 258 (by omega) (by decide) (by decide) (by decide) (by decide), e 261 (by omega) (by decide) (by decide) (by decide) (by decide), e 262 (by omega) (by decide) (by decide) (by decide) (by decide), e 263 (by omega) (by decide) (by decide) (by decide) (by decide), e 264 (by omega) (by decide) (by decide) (by decide) (by decide)]
  by_cases h0 : j < 100
  · (repeat rewrite [if_pos h0])
    rfl
  (repeat rewrite [if_neg h0])
  by_cases h1 : j < 120
  · (repeat rewrite [if_pos h1])
    by_cases w : j - 100 < m 249 4
    · rw [if_pos w, if_pos (by omega)]; exact g252 _ (by omega)
    · by_cases w2 : j - 100 < m 249 4 + 1
      · rw [if_pos w2, if_neg w]
        have ej : j = 100 + m 249 4 := by omega
        subst ej
        rw [show (((100 + m 249 4) - 100) : Int) = m 249 4 from by omega, v1]; (try rw [show (100 + m 249 4 - 100 - z4 : Int) = m 249 4 - z4 from by omega])
      · rw [if_neg w2, if_neg w]
  (repeat rewrite [if_neg h1])
  by_cases h2 : j < 140
  · (repeat rewrite [if_pos h2])
    by_cases w : j - 120 < m 249 4
    · rw [if_pos w, if_pos (by omega)]; exact g253 _ (by omega)
    · by_cases w2 : j - 120 < m 249 4 + 1
      · rw [if_pos w2, if_neg w]
        have ej : j = 120 + m 249 4 := by omega
        subst ej
        rw [show (((120 + m 249 4) - 120) : Int) = m 249 4 from by omega, v2]; (try rw [show (120 + m 249 4 - 120 - z4 : Int) = m 249 4 - z4 from by omega])
      · rw [if_neg w2, if_neg w]
  (repeat rewrite [if_neg h2])
  by_cases h3 : j < 160
  · (repeat rewrite [if_pos h3])
    by_cases w : j - 140 < m 249 4
    · rw [if_pos w, if_pos (by omega)]; exact g254 _ (by omega)
    · by_cases w2 : j - 140 < m 249 4 + 1
      · rw [if_pos w2, if_neg w]
        have ej : j = 140 + m 249 4 := by omega
        subst ej
        rw [show (((140 + m 249 4) - 140) : Int) = m 249 4 from by omega, v3]; (try rw [show (140 + m 249 4 - 140 - z4 : Int) = m 249 4 - z4 from by omega])
      · rw [if_neg w2, if_neg w]
  (repeat rewrite [if_neg h3])
  by_cases h4 : j < 200
  · (repeat rewrite [if_pos h4])
    by_cases w : j - 160 < m 249 4
    · rw [if_pos w, if_pos (by omega)]; exact g255 _ (by omega)
    · by_cases w2 : j - 160 < m 249 4 + 1
      · rw [if_pos w2, if_neg w]
        have ej : j = 160 + m 249 4 := by omega
        subst ej
        rw [show (((160 + m 249 4) - 160) : Int) = m 249 4 from by omega, v4]; (try rw [show (160 + m 249 4 - 160 - z4 : Int) = m 249 4 - z4 from by omega])
      · rw [if_neg w2, if_neg w]
  (repeat rewrite [if_neg h4])
  by_cases h5 : j < 210
  · (repeat rewrite [if_pos h5])
    rfl
  (repeat rewrite [if_neg h5])
  by_cases h6 : j < 220
  · (repeat rewrite [if_pos h6])
    rfl
  (repeat rewrite [if_neg h6])
  by_cases h7 : j < 230
  · (repeat rewrite [if_pos h7])
    rfl
  (repeat rewrite [if_neg h7])
  by_cases h8 : j < 300
  · (repeat rewrite [if_pos h8])
    rfl
  (repeat rewrite [if_neg h8])
  by_cases h9 : j < 310
  · (repeat rewrite [if_pos h9])
    rfl
  (repeat rewrite [if_neg h9])
  by_cases h10 : j < 320
  · (repeat rewrite [if_pos h10])
    rfl
  (repeat rewrite [if_neg h10])
  by_cases h11 : j < 330
  · (repeat rewrite [if_pos h11])
    rfl
  (repeat rewrite [if_neg h11])
  by_cases h12 : j < 340
  · (repeat rewrite [if_pos h12])
    rfl
  (repeat rewrite [if_neg h12])
  by_cases h13 : j < 350
  · (repeat rewrite [if_pos h13])
    rfl
  (repeat rewrite [if_neg h13])
  by_cases h14 : j < 360
  · (repeat rewrite [if_pos h14])
    rfl
  (repeat rewrite [if_neg h14])
  by_cases h15 : j < 370
  · (repeat rewrite [if_pos h15])
    rfl
  (repeat rewrite [if_neg h15])
  rfl
theorem kvW_d {z3 z4 z5 z6 : Int} {m m' : Mem} (e : ∀ x, (251 ≤ x ∧ x ≤ 258) ∨ (261 ≤ x ∧ x ≤ 264) → x ≠ 256 → x ≠ 258 → m' x = m x) (e9 : ∀ j, 3 ≤ j → j ≤ 6 → j ≠ 5 → m' 249 j = m 249 j) (hc : m' 249 5 = m 249 5 + 1) (hq : 0 ≤ m 249 5 ∧ m 249 5 < 5) (v5 : m' 258 (3 * m 249 5) = m 263 (3 * (m 249 5 - z5))) (v6 : m' 258 (3 * m 249 5 + 1) = m 263 (3 * (m 249 5 - z5) + 2)) (v7 : m' 258 (3 * m 249 5 + 2) = 0) (v8 : m' 256 (m 249 5) = m 263 (3 * (m 249 5 - z5) + 1)) (g256 : ∀ j, j < m 249 5 → m' 256 j = m 256 j) (ho : ∀ j, (j < 3 * m 249 5 ∨ 3 * m 249 5 + 2 < j) → m' 258 j = m 258 j) : kvW z3 z4 z5 z6 m' = kvW z3 z4 z5 z6 m := by
  funext j
  unfold kvW
  rw [hc, e9 3 (by decide) (by decide) (by decide), e9 4 (by decide) (by decide) (by decide), e9 6 (by decide) (by decide) (by decide), e 251 (by omega) (by decide) (by decide), e 252 (by omega) (by decide) (by decide), e 253 (by omega) (by decide) (by decide), e 254 (by omega) (by decide) (by decide), e 255 (by omega) (by decide) (by decide), e 257 (by omega) (by decide) (by decide), e 261 (by omega) (by decide) (by decide), e 262 (by omega) (by decide) (by decide), e 263 (by omega) (by decide) (by decide), e 264 (by omega) (by decide) (by decide)]
  by_cases h0 : j < 100
  · (repeat rewrite [if_pos h0])
    rfl
  (repeat rewrite [if_neg h0])
  by_cases h1 : j < 120
  · (repeat rewrite [if_pos h1])
    rfl
  (repeat rewrite [if_neg h1])
  by_cases h2 : j < 140
  · (repeat rewrite [if_pos h2])
    rfl
  (repeat rewrite [if_neg h2])
  by_cases h3 : j < 160
  · (repeat rewrite [if_pos h3])
    rfl
  (repeat rewrite [if_neg h3])
  by_cases h4 : j < 200
  · (repeat rewrite [if_pos h4])
    rfl
  (repeat rewrite [if_neg h4])
  by_cases h5 : j < 210
  · (repeat rewrite [if_pos h5])
    by_cases w : j - 200 < m 249 5
    · rw [if_pos w, if_pos (by omega)]; exact ho _ (by omega)
    · by_cases w2 : j - 200 < m 249 5 + 1
      · rw [if_pos w2, if_neg w]
        have ej : j = 200 + m 249 5 := by omega
        subst ej
        rw [show ((3 * ((200 + m 249 5) - 200)) : Int) = (3 * m 249 5) from by omega, v5]; (try rw [show (200 + m 249 5 - 200 - z5 : Int) = m 249 5 - z5 from by omega])
      · rw [if_neg w2, if_neg w]
  (repeat rewrite [if_neg h5])
  by_cases h6 : j < 220
  · (repeat rewrite [if_pos h6])
    by_cases w : j - 210 < m 249 5
    · rw [if_pos w, if_pos (by omega)]; exact ho _ (by omega)
    · by_cases w2 : j - 210 < m 249 5 + 1
      · rw [if_pos w2, if_neg w]
        have ej : j = 210 + m 249 5 := by omega
        subst ej
        rw [show ((3 * ((210 + m 249 5) - 210) + 1) : Int) = (3 * m 249 5 + 1) from by omega, v6]; (try rw [show (210 + m 249 5 - 210 - z5 : Int) = m 249 5 - z5 from by omega])
      · rw [if_neg w2, if_neg w]
  (repeat rewrite [if_neg h6])
  by_cases h7 : j < 230
  · (repeat rewrite [if_pos h7])
    by_cases w : j - 220 < m 249 5
    · rw [if_pos w, if_pos (by omega)]; exact ho _ (by omega)
    · by_cases w2 : j - 220 < m 249 5 + 1
      · rw [if_pos w2, if_neg w]
        have ej : j = 220 + m 249 5 := by omega
        subst ej
        rw [show ((3 * ((220 + m 249 5) - 220) + 2) : Int) = (3 * m 249 5 + 2) from by omega, v7]; (try rw [show (220 + m 249 5 - 220 - z5 : Int) = m 249 5 - z5 from by omega])
      · rw [if_neg w2, if_neg w]
  (repeat rewrite [if_neg h7])
  by_cases h8 : j < 300
  · (repeat rewrite [if_pos h8])
    by_cases w : j - 230 < m 249 5
    · rw [if_pos w, if_pos (by omega)]; exact g256 _ (by omega)
    · by_cases w2 : j - 230 < m 249 5 + 1
      · rw [if_pos w2, if_neg w]
        have ej : j = 230 + m 249 5 := by omega
        subst ej
        rw [show (((230 + m 249 5) - 230) : Int) = m 249 5 from by omega, v8]; (try rw [show (230 + m 249 5 - 230 - z5 : Int) = m 249 5 - z5 from by omega])
      · rw [if_neg w2, if_neg w]
  (repeat rewrite [if_neg h8])
  by_cases h9 : j < 310
  · (repeat rewrite [if_pos h9])
    rfl
  (repeat rewrite [if_neg h9])
  by_cases h10 : j < 320
  · (repeat rewrite [if_pos h10])
    by_cases w : j - 310 < m 249 6
    · (repeat rewrite [if_pos w]); exact ho _ (by omega)
    · (repeat rewrite [if_neg w]); rfl
  (repeat rewrite [if_neg h10])
  by_cases h11 : j < 330
  · (repeat rewrite [if_pos h11])
    by_cases w : j - 320 < m 249 6
    · (repeat rewrite [if_pos w]); exact ho _ (by omega)
    · (repeat rewrite [if_neg w]); rfl
  (repeat rewrite [if_neg h11])
  by_cases h12 : j < 340
  · (repeat rewrite [if_pos h12])
    by_cases w : j - 330 < m 249 6
    · (repeat rewrite [if_pos w]); exact ho _ (by omega)
    · (repeat rewrite [if_neg w]); rfl
  (repeat rewrite [if_neg h12])
  by_cases h13 : j < 350
  · (repeat rewrite [if_pos h13])
    by_cases w : j - 340 < m 249 6
    · (repeat rewrite [if_pos w]); exact ho _ (by omega)
    · (repeat rewrite [if_neg w]); rfl
  (repeat rewrite [if_neg h13])
  by_cases h14 : j < 360
  · (repeat rewrite [if_pos h14])
    by_cases w : j - 350 < m 249 6
    · (repeat rewrite [if_pos w]); exact ho _ (by omega)
    · (repeat rewrite [if_neg w]); rfl
  (repeat rewrite [if_neg h14])
  by_cases h15 : j < 370
  · (repeat rewrite [if_pos h15])
    by_cases w : j - 360 < m 249 6
    · (repeat rewrite [if_pos w]); exact ho _ (by omega)
    · (repeat rewrite [if_neg w]); rfl
  (repeat rewrite [if_neg h15])
  by_cases w : j - 370 < m 249 6
  · (repeat rewrite [if_pos w]); exact ho _ (by omega)
  · (repeat rewrite [if_neg w]); rfl
theorem kvW_e {z3 z4 z5 z6 : Int} {m m' : Mem} (e : ∀ x, (251 ≤ x ∧ x ≤ 258) ∨ (261 ≤ x ∧ x ≤ 264) → x ≠ 257 → x ≠ 258 → m' x = m x) (e9 : ∀ j, 3 ≤ j → j ≤ 6 → j ≠ 6 → m' 249 j = m 249 j) (hc : m' 249 6 = m 249 6 + 1) (hq : 0 ≤ m 249 6 ∧ m 249 6 < 5) (h5 : m 249 5 ≤ 5) (v9 : m' 257 (m 249 6) = m 264 (2 * (m 249 6 - z6))) (v10 : m' 258 (15 + 7 * m 249 6) = m 264 (2 * (m 249 6 - z6) + 1)) (v11 : m' 258 (16 + 7 * m 249 6) = 0) (v12 : m' 258 (17 + 7 * m 249 6) = 0) (v13 : m' 258 (18 + 7 * m 249 6) = 0) (v14 : m' 258 (19 + 7 * m 249 6) = 0) (v15 : m' 258 (20 + 7 * m 249 6) = -1) (v16 : m' 258 (21 + 7 * m 249 6) = 0) (g257 : ∀ j, j < m 249 6 → m' 257 j = m 257 j) (ho : ∀ j, (j < 15 + 7 * m 249 6 ∨ 21 + 7 * m 249 6 < j) → m' 258 j = m 258 j) : kvW z3 z4 z5 z6 m' = kvW z3 z4 z5 z6 m := by
  funext j
  unfold kvW
  rw [hc, e9 3 (by decide) (by decide) (by decide), e9 4 (by decide) (by decide) (by decide), e9 5 (by decide) (by decide) (by decide), e 251 (by omega) (by decide) (by decide), e 252 (by omega) (by decide) (by decide), e 253 (by omega) (by decide) (by decide), e 254 (by omega) (by decide) (by decide), e 255 (by omega) (by decide) (by decide), e 256 (by omega) (by decide) (by decide), e 261 (by omega) (by decide) (by decide), e 262 (by omega) (by decide) (by decide), e 263 (by omega) (by decide) (by decide), e 264 (by omega) (by decide) (by decide)]
  by_cases h0 : j < 100
  · (repeat rewrite [if_pos h0])
    rfl
  (repeat rewrite [if_neg h0])
  by_cases h1 : j < 120
  · (repeat rewrite [if_pos h1])
    rfl
  (repeat rewrite [if_neg h1])
  by_cases h2 : j < 140
  · (repeat rewrite [if_pos h2])
    rfl
  (repeat rewrite [if_neg h2])
  by_cases h3 : j < 160
  · (repeat rewrite [if_pos h3])
    rfl
  (repeat rewrite [if_neg h3])
  by_cases h4 : j < 200
  · (repeat rewrite [if_pos h4])
    rfl
  (repeat rewrite [if_neg h4])
  by_cases h5 : j < 210
  · (repeat rewrite [if_pos h5])
    by_cases w : j - 200 < m 249 5
    · (repeat rewrite [if_pos w]); exact ho _ (by omega)
    · (repeat rewrite [if_neg w]); rfl
  (repeat rewrite [if_neg h5])
  by_cases h6 : j < 220
  · (repeat rewrite [if_pos h6])
    by_cases w : j - 210 < m 249 5
    · (repeat rewrite [if_pos w]); exact ho _ (by omega)
    · (repeat rewrite [if_neg w]); rfl
  (repeat rewrite [if_neg h6])
  by_cases h7 : j < 230
  · (repeat rewrite [if_pos h7])
    by_cases w : j - 220 < m 249 5
    · (repeat rewrite [if_pos w]); exact ho _ (by omega)
    · (repeat rewrite [if_neg w]); rfl
  (repeat rewrite [if_neg h7])
  by_cases h8 : j < 300
  · (repeat rewrite [if_pos h8])
    rfl
  (repeat rewrite [if_neg h8])
  by_cases h9 : j < 310
  · (repeat rewrite [if_pos h9])
    by_cases w : j - 300 < m 249 6
    · rw [if_pos w, if_pos (by omega)]; exact g257 _ (by omega)
    · by_cases w2 : j - 300 < m 249 6 + 1
      · rw [if_pos w2, if_neg w]
        have ej : j = 300 + m 249 6 := by omega
        subst ej
        rw [show (((300 + m 249 6) - 300) : Int) = m 249 6 from by omega, v9]; (try rw [show (300 + m 249 6 - 300 - z6 : Int) = m 249 6 - z6 from by omega])
      · rw [if_neg w2, if_neg w]
  (repeat rewrite [if_neg h9])
  by_cases h10 : j < 320
  · (repeat rewrite [if_pos h10])
    by_cases w : j - 310 < m 249 6
    · rw [if_pos w, if_pos (by omega)]; exact ho _ (by omega)
    · by_cases w2 : j - 310 < m 249 6 + 1
      · rw [if_pos w2, if_neg w]
        have ej : j = 310 + m 249 6 := by omega
        subst ej
        rw [show ((15 + 7 * ((310 + m 249 6) - 310)) : Int) = (15 + 7 * m 249 6) from by omega, v10]; (try rw [show (310 + m 249 6 - 310 - z6 : Int) = m 249 6 - z6 from by omega])
      · rw [if_neg w2, if_neg w]
  (repeat rewrite [if_neg h10])
  by_cases h11 : j < 330
  · (repeat rewrite [if_pos h11])
    by_cases w : j - 320 < m 249 6
    · rw [if_pos w, if_pos (by omega)]; exact ho _ (by omega)
    · by_cases w2 : j - 320 < m 249 6 + 1
      · rw [if_pos w2, if_neg w]
        have ej : j = 320 + m 249 6 := by omega
        subst ej
        rw [show ((16 + 7 * ((320 + m 249 6) - 320)) : Int) = (16 + 7 * m 249 6) from by omega, v11]; (try rw [show (320 + m 249 6 - 320 - z6 : Int) = m 249 6 - z6 from by omega])
      · rw [if_neg w2, if_neg w]
  (repeat rewrite [if_neg h11])
  by_cases h12 : j < 340
  · (repeat rewrite [if_pos h12])
    by_cases w : j - 330 < m 249 6
    · rw [if_pos w, if_pos (by omega)]; exact ho _ (by omega)
    · by_cases w2 : j - 330 < m 249 6 + 1
      · rw [if_pos w2, if_neg w]
        have ej : j = 330 + m 249 6 := by omega
        subst ej
        rw [show ((17 + 7 * ((330 + m 249 6) - 330)) : Int) = (17 + 7 * m 249 6) from by omega, v12]; (try rw [show (330 + m 249 6 - 330 - z6 : Int) = m 249 6 - z6 from by omega])
      · rw [if_neg w2, if_neg w]
  (repeat rewrite [if_neg h12])
  by_cases h13 : j < 350
  · (repeat rewrite [if_pos h13])
    by_cases w : j - 340 < m 249 6
    · rw [if_pos w, if_pos (by omega)]; exact ho _ (by omega)
    · by_cases w2 : j - 340 < m 249 6 + 1
      · rw [if_pos w2, if_neg w]
        have ej : j = 340 + m 249 6 := by omega
        subst ej
        rw [show ((18 + 7 * ((340 + m 249 6) - 340)) : Int) = (18 + 7 * m 249 6) from by omega, v13]; (try rw [show (340 + m 249 6 - 340 - z6 : Int) = m 249 6 - z6 from by omega])
      · rw [if_neg w2, if_neg w]
  (repeat rewrite [if_neg h13])
  by_cases h14 : j < 360
  · (repeat rewrite [if_pos h14])
    by_cases w : j - 350 < m 249 6
    · rw [if_pos w, if_pos (by omega)]; exact ho _ (by omega)
    · by_cases w2 : j - 350 < m 249 6 + 1
      · rw [if_pos w2, if_neg w]
        have ej : j = 350 + m 249 6 := by omega
        subst ej
        rw [show ((19 + 7 * ((350 + m 249 6) - 350)) : Int) = (19 + 7 * m 249 6) from by omega, v14]; (try rw [show (350 + m 249 6 - 350 - z6 : Int) = m 249 6 - z6 from by omega])
      · rw [if_neg w2, if_neg w]
  (repeat rewrite [if_neg h14])
  by_cases h15 : j < 370
  · (repeat rewrite [if_pos h15])
    by_cases w : j - 360 < m 249 6
    · rw [if_pos w, if_pos (by omega)]; exact ho _ (by omega)
    · by_cases w2 : j - 360 < m 249 6 + 1
      · rw [if_pos w2, if_neg w]
        have ej : j = 360 + m 249 6 := by omega
        subst ej
        rw [show ((20 + 7 * ((360 + m 249 6) - 360)) : Int) = (20 + 7 * m 249 6) from by omega, v15]; (try rw [show (360 + m 249 6 - 360 - z6 : Int) = m 249 6 - z6 from by omega])
      · rw [if_neg w2, if_neg w]
  (repeat rewrite [if_neg h15])
  by_cases w : j - 370 < m 249 6
  · rw [if_pos w, if_pos (by omega)]; exact ho _ (by omega)
  · by_cases w2 : j - 370 < m 249 6 + 1
    · rw [if_pos w2, if_neg w]
      have ej : j = 370 + m 249 6 := by omega
      subst ej
      rw [show ((21 + 7 * ((370 + m 249 6) - 370)) : Int) = (21 + 7 * m 249 6) from by omega, v16]; (try rw [show (370 + m 249 6 - 370 - z6 : Int) = m 249 6 - z6 from by omega])
    · rw [if_neg w2, if_neg w]
end
