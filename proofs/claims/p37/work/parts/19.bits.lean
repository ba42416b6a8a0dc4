section
/-! bits of an int -/
def tb (x : Int) (k : Nat) : Bool := (Int32.ofInt x).toBitVec.getLsbD k
theorem sh_am : ∀ n : Nat, n < 32 → ((Int32.ofInt (n : Int) &&& 31).toBitVec.smod 32).toNat = n := by decide +kernel
theorem ofI_ofI (x : Int32) : Int32.ofInt x.toInt = x := Int32.ofInt_toInt x
theorem tb_and (x y : Int) (k : Nat) : tb (iand x y) k = (tb x k && tb y k) := by
  unfold tb iand; rw [ofI_ofI]; simp
theorem tb_or (x y : Int) (k : Nat) : tb (ior x y) k = (tb x k || tb y k) := by
  unfold tb ior; rw [ofI_ofI]; simp
theorem tb_xor (x y : Int) (k : Nat) : tb (ixor x y) k = (tb x k ^^ tb y k) := by
  unfold tb ixor; rw [ofI_ofI]; simp
theorem tb_m1 {k : Nat} (h : k < 32) : tb (-1) k = true := by
  have : ∀ k : Nat, k < 32 → tb (-1) k = true := by decide +kernel
  exact this k h
theorem tb_0 (k : Nat) : tb 0 k = false := by
  unfold tb
  show (0 : BitVec 32).getLsbD k = false
  simp
theorem tb_shl {x : Int} {p k : Nat} (hp : p < 32) (hk : k < 32) : tb (ishl x p) k = (decide (p ≤ k) && tb x (k - p)) := by
  unfold tb ishl
  rw [ofI_ofI, Int32.toBitVec_shiftLeft]
  have e := sh_am p hp
  rw [BitVec.shiftLeft_eq', e, BitVec.getLsbD_shiftLeft]
  by_cases h : k < p
  · simp [h, Nat.not_le.mpr h]
  · simp [h, hk, Nat.not_lt.mp h]
theorem tb_ext {x y : Int} (hx : inI x) (hy : inI y) (h : ∀ k, k < 32 → tb x k = tb y k) : x = y := by
  rw [← ofI_inj hx hy, ← Int32.toBitVec_inj]
  apply BitVec.eq_of_getLsbD_eq
  intro i hi
  exact h i hi
theorem iand_in (x y : Int) : inI (iand x y) := toInt_in _
theorem ior_in (x y : Int) : inI (ior x y) := toInt_in _
theorem tb_1 {k : Nat} (h : k < 32) : tb 1 k = decide (k = 0) := by
  have : ∀ k : Nat, k < 32 → tb 1 k = decide (k = 0) := by decide +kernel
  exact this k h
theorem tb_bit {p k : Nat} (hp : p < 32) (hk : k < 32) : tb (ishl 1 p) k = decide (k = p) := by
  rw [tb_shl hp hk]
  by_cases h : p ≤ k
  · rw [tb_1 (by omega)]
    simp [h]
    omega
  · simp [h]; omega
/-- the bit, as the two programs ask for it -/
theorem bit_ask {x : Int} {p : Nat} (hp : p < 32) : iand (ishr x p) 1 = if tb x p then 1 else 0 := by
  refine tb_ext (iand_in _ _) (by unfold inI; split <;> omega) (fun k hk => ?_)
  rw [tb_and, tb_1 hk]
  by_cases h0 : k = 0
  · subst h0
    have : tb (ishr x p) 0 = tb x p := by
      unfold tb ishr
      rw [ofI_ofI, Int32.toBitVec_shiftRight]
      have e := sh_am p hp
      rw [BitVec.sshiftRight_eq', e, BitVec.getLsbD_sshiftRight]
      simp [hp]
    rw [this]
    by_cases hb : tb x p = true
    · simp [hb, tb_1]
    · have hb' : tb x p = false := by simpa using hb
      simp [hb', tb_0]
  · by_cases hb : tb x p = true
    · rw [if_pos hb, tb_1 hk]; simp [h0]
    · rw [if_neg hb, tb_0]; simp [h0]
end
section
/-! loops by unrolling and induction -/
end
section
/-! the text: sign and end -/
theorem upm_s (m : Mem) (a j v : Int) : upm m a j v a j = v := by unfold upm; rw [if_pos ⟨rfl, rfl⟩]
theorem upm_a (m : Mem) (a j v x y : Int) (h : x ≠ a) : upm m a j v x y = m x y := by unfold upm; rw [if_neg (fun q => h q.1)]
theorem upm_j (m : Mem) (a j v x y : Int) (h : y ≠ j) : upm m a j v x y = m x y := by unfold upm; rw [if_neg (fun q => h q.2)]
/-- byte k of v, as both take it -/
def byt (v k : Int) : Int := iand (ishr v (24 - 8 * k)) 255
def tapeOf (m m' : Mem) (a b l n v : Int) : Prop := (∀ x j, ¬ (x = a ∧ l ≤ j ∧ j < l + 4) → ¬ (x = b ∧ j = n) → m' x j = m x j) ∧ (∀ k, 0 ≤ k → k < 4 → m' a (l + k) = byt v k) ∧ m' b n = l + 4
theorem t_signM {d : Nat} {v e : Int} {m : Mem} {Q : Int → Sto → Prop} (h1 : 0 ≤ m 249 18) (h2 : m 249 18 ≤ 80) (h : (76 < m 249 18 → Q (-1) (S9 e (upm m 249 0 0))) ∧ (m 249 18 ≤ 76 → ∀ m', tapeOf (upm m 249 0 0) m' 260 249 (m 249 18) 18 v → Q (m 249 18 + 4) (S9 e m'))) : Cl (d + 2) 167 [249, v] Q (S9 e m) := by
  simp only [cl_167, runB, B167, ma_167, rho_20, wf_13_160, wf_13_42, wpf_13_126, wpf_13_160, wpopadd_pf_13_160, w_cst, w_ldi, w_ldj, w_lda, w_ljk, w_ldk, w_ldw, w_ldk2, w_ldt, w_ldtw, w_neg, w_cvb, w_cvs, w_cvc, w_cvj, w_add, w_sub, w_mul, w_ban, w_bor, w_bxo, w_shl, w_shr, w_ush, w_dvi, w_rmi, w_aldi, w_aldj, w_aldz, w_aldc, w_alda, w_ite, w_cmp, w_cmj, w_cz, w_cnot, w_cand, w_cor, w_nil, w_cons, w_cvi, w_csta, w_cvt, w_cvv, w_csv, w_cpy, w_seq, w_sbr, w_sbn, w_brk, w_ifs, w_ifx, w_ife, w_wk, w_rets, w_rtv, w_thr, w_asi, w_asj, w_asa, w_inc, w_exs, w_asti, w_astj, w_astz, w_astc, w_aopadd, w_aopsub, w_sw, hdl_c, S9_1, S9_m, bud9, live9, inb9, wrn, wr9_14, wr9_15, wr9_16, wr9_17, tq9_14, tq9_15, tq9_16, tq9_17, tq_0, tq_1, tq_3, upr_rl, rl_0, rl_1, rl_2, rl_3, rl_4, rl_5, rl_6, rl_7, rl_8, rl_9, rl_10, rl_11, rl_12, rl_13, sp_0, sp_1, sp_2, sp_3, sp_4, sp_5, sp_6, sp_7, sp_8, sp_9, sp_10, sp_11, sp_12, sp_13, se_0, se_1, se_2, se_3, se_4, se_5, se_6, se_7, se_8, se_9, se_10, se_11, se_12, se_13, sem_0, sem_1, sem_2, sem_3, sem_4, sem_5, sr_249_55, sr_249_40, sr_249_17, kc_249, sr_249_11, sr_249_8, sr_249_70, sr_249_2, sr_249_67, sr_249_24, sr_249_64, sr_249_58, sr_249_42, sr_249_61, sr_249_41, sr_249_16, sr_249_34, sr_249_15, sr_249_43, sr_249_68, sr_249_63, sr_249_71, sr_249_13, sr_249_35, sr_249_31, sr_249_12, sr_249_52, sr_249_30, sr_249_9, sr_249_22, sr_249_54, sr_249_10, sr_249_57, sr_249_50, sr_249_25, sr_249_69, sr_249_23, kl9_249, sr_249_14, sr_249_51, kc_260, kl9_260]
  simp [upm_s, upm_a, upm_j]
  refine ⟨h.1, fun h3 => whl_i (fun k r u => ∃ i m2, r = rl [249, v, i] ∧ u = S9 e m2 ∧ 0 ≤ i ∧ i + k = 4 ∧ (∀ x j, ¬ (x = 260 ∧ m 249 18 ≤ j ∧ j < m 249 18 + 4) → m2 x j = upm m 249 0 0 x j) ∧ ∀ t, 0 ≤ t → t < i → m2 260 (m 249 18 + t) = byt v t) 4 ⟨0, _, rfl, rfl, by decide, by decide, fun _ _ _ => rfl, fun t h1 h2 => absurd h2 (by omega)⟩ ?_⟩
  have h9 := h.2 h3
  rintro k r u ⟨i, m2, rfl, rfl, hi, hk, hf, hb⟩
  have hl : m2 249 18 = m 249 18 := by rw [hf _ _ (by omega), upm_j _ _ _ _ _ _ (by decide)]
  simp only [cl_167, runB, B167, ma_167, rho_20, wf_13_160, wf_13_42, wpf_13_126, wpf_13_160, wpopadd_pf_13_160, w_cst, w_ldi, w_ldj, w_lda, w_ljk, w_ldk, w_ldw, w_ldk2, w_ldt, w_ldtw, w_neg, w_cvb, w_cvs, w_cvc, w_cvj, w_add, w_sub, w_mul, w_ban, w_bor, w_bxo, w_shl, w_shr, w_ush, w_dvi, w_rmi, w_aldi, w_aldj, w_aldz, w_aldc, w_alda, w_ite, w_cmp, w_cmj, w_cz, w_cnot, w_cand, w_cor, w_nil, w_cons, w_cvi, w_csta, w_cvt, w_cvv, w_csv, w_cpy, w_seq, w_sbr, w_sbn, w_brk, w_ifs, w_ifx, w_ife, w_wk, w_rets, w_rtv, w_thr, w_asi, w_asj, w_asa, w_inc, w_exs, w_asti, w_astj, w_astz, w_astc, w_aopadd, w_aopsub, w_sw, hdl_c, S9_1, S9_m, bud9, live9, inb9, wrn, wr9_14, wr9_15, wr9_16, wr9_17, tq9_14, tq9_15, tq9_16, tq9_17, tq_0, tq_1, tq_3, upr_rl, rl_0, rl_1, rl_2, rl_3, rl_4, rl_5, rl_6, rl_7, rl_8, rl_9, rl_10, rl_11, rl_12, rl_13, sp_0, sp_1, sp_2, sp_3, sp_4, sp_5, sp_6, sp_7, sp_8, sp_9, sp_10, sp_11, sp_12, sp_13, se_0, se_1, se_2, se_3, se_4, se_5, se_6, se_7, se_8, se_9, se_10, se_11, se_12, se_13, sem_0, sem_1, sem_2, sem_3, sem_4, sem_5, sr_249_55, sr_249_40, sr_249_17, kc_249, sr_249_11, sr_249_8, sr_249_70, sr_249_2, sr_249_67, sr_249_24, sr_249_64, sr_249_58, sr_249_42, sr_249_61, sr_249_41, sr_249_16, sr_249_34, sr_249_15, sr_249_43, sr_249_68, sr_249_63, sr_249_71, sr_249_13, sr_249_35, sr_249_31, sr_249_12, sr_249_52, sr_249_30, sr_249_9, sr_249_22, sr_249_54, sr_249_10, sr_249_57, sr_249_50, sr_249_25, sr_249_69, sr_249_23, kl9_249, sr_249_14, sr_249_51, kc_260, kl9_260, hl]
  simp (disch := omega) only [w32_eq]
  refine ⟨fun h4 => ⟨by decide, by decide, by decide, by decide, ⟨by decide, by omega, by omega⟩, trivial, k - 1, by omega, i + 1, _, rfl, rfl, by omega, by omega, ?_, ?_⟩, fun h4 => ⟨by decide, by decide, by decide, by decide, ?_⟩⟩
  · intro x j hx
    rw [← hf x j hx]
    unfold upm
    rw [if_neg (by omega)]
  · intro t ht1 ht2
    unfold upm
    by_cases ht : t = i
    · subst ht; rw [if_pos ⟨rfl, rfl⟩]; rfl
    · rw [if_neg (by omega)]; exact hb t ht1 (by omega)
  · rw [upm_s]
    refine h9 _ ⟨fun x j hx hj => ?_, fun t ht1 ht2 => ?_, upm_s _ _ _ _⟩
    · unfold upm
      rw [if_neg hj]; exact hf x j hx
    · rw [upm_a _ _ _ _ _ _ (by decide)]; exact hb t ht1 (by omega)
end
section
/-! the text, on both sides -/
theorem tb_shr {x : Int} {p k : Nat} (hp : p < 32) (hk : p + k < 32) : tb (ishr x p) k = tb x (p + k) := by
  unfold tb ishr
  rw [ofI_ofI, Int32.toBitVec_shiftRight]
  have e := sh_am p hp
  rw [BitVec.sshiftRight_eq', e, BitVec.getLsbD_sshiftRight]
  simp [hk, show k < 32 by omega, show ¬ 32 ≤ k by omega]
theorem tb_ushr {x : Int} {p k : Nat} (hp : p < 32) (hk : p + k < 32) : tb (iushr x p) k = tb x (p + k) := by
  unfold tb iushr
  rw [ofI_ofI, UInt32.toBitVec_toInt32, UInt32.toBitVec_shiftRight]
  have e : ∀ p : Nat, p < 32 → (((Int32.ofInt (p : Int)).toUInt32 &&& Int32.toUInt32 31).toBitVec % 32).toNat = p := by decide +kernel
  rw [BitVec.ushiftRight_eq', e p hp, BitVec.getLsbD_ushiftRight]
  rfl
theorem t255 : ∀ k : Nat, k < 32 → tb 255 k = decide (k < 8) := by decide +kernel
theorem byt_u {v : Int} {p : Nat} (hp : p ≤ 24) : iand (iushr v p) 255 = iand (ishr v p) 255 := by
  refine tb_ext (iand_in _ _) (iand_in _ _) (fun k hk => ?_)
  rw [tb_and, tb_and, t255 k hk]
  by_cases h : k < 8
  · rw [tb_shr (by omega) (by omega), tb_ushr (by omega) (by omega)]
  · simp [h]
theorem i2c_255 (a : Int) : i2c (iand a 255) = iand a 255 := by
  unfold i2c iand
  rw [ofI_ofI]
  exact congrArg Int32.toInt (sc_c2 (Int32.ofInt a))
theorem and255 (a : Int) : 0 ≤ iand a 255 ∧ iand a 255 < 256 := by
  unfold iand
  obtain ⟨j, hj, e⟩ := pk_andE (Int32.ofInt a) (m := 255) 8 (by decide)
  have e2 : Int32.ofInt a &&& Int32.ofInt 255 = nI j := e
  rw [e2]
  have : ∀ j : Nat, j < 256 → 0 ≤ (nI j).toInt ∧ (nI j).toInt < 256 := by decide +kernel
  exact this j hj
theorem byt_in (v k : Int) : 0 ≤ byt v k ∧ byt v k < 256 := and255 _
theorem byt_i {v i : Int} (h0 : 0 ≤ i) (h1 : i ≤ 3) : iand (iushr v (24 - 8 * i)) 255 = byt v i := by
  have e : 24 - 8 * i = (((24 - 8 * i).toNat : Nat) : Int) := by omega
  unfold byt
  rw [e]
  exact byt_u (by omega)
/-- the component's sign -/
theorem t_sign {d : Nat} {v e : Int} {m : Mem} {Q : Int → Sto → Prop} (h1 : 0 ≤ m 2 1) (h2 : m 2 1 ≤ 80) (h : (76 < m 2 1 → Q (-1) (S9 e m)) ∧ (m 2 1 ≤ 76 → ∀ m', tapeOf m m' 3 2 (m 2 1) 1 v → Q (m 2 1 + 4) (S9 e m'))) : Cl (d + 2) 12 [1, v] Q (S9 e m) := by
  simp only [cl_12, runB, B12, ma_12, rho_20, wf_1_10, wc_13, cl_13, B13, ma_13, wf_2_15, wf_2_9, wpf_2_15, wpopadd_pf_2_15, w_cst, w_ldi, w_ldj, w_lda, w_ljk, w_ldk, w_ldw, w_ldk2, w_ldt, w_ldtw, w_neg, w_cvb, w_cvs, w_cvc, w_cvj, w_add, w_sub, w_mul, w_ban, w_bor, w_bxo, w_shl, w_shr, w_ush, w_dvi, w_rmi, w_aldi, w_aldj, w_aldz, w_aldc, w_alda, w_ite, w_cmp, w_cmj, w_cz, w_cnot, w_cand, w_cor, w_nil, w_cons, w_cvi, w_csta, w_cvt, w_cvv, w_csv, w_cpy, w_seq, w_sbr, w_sbn, w_brk, w_ifs, w_ifx, w_ife, w_wk, w_rets, w_rtv, w_thr, w_asi, w_asj, w_asa, w_inc, w_exs, w_asti, w_astj, w_astz, w_astc, w_aopadd, w_aopsub, w_sw, if_true, if_false, ↓reduceIte, hdl_c, S9_1, S9_m, bud9, live9, inb9, wrn, wr9_14, wr9_15, wr9_16, wr9_17, tq9_14, tq9_15, tq9_16, tq9_17, tq_0, tq_1, tq_3, upr_rl, rl_0, rl_1, rl_2, rl_3, rl_4, rl_5, rl_6, rl_7, rl_8, rl_9, rl_10, rl_11, rl_12, rl_13, sp_0, sp_1, sp_2, sp_3, sp_4, sp_5, sp_6, sp_7, sp_8, sp_9, sp_10, sp_11, sp_12, sp_13, se_0, se_1, se_2, se_3, se_4, se_5, se_6, se_7, se_8, se_9, se_10, se_11, se_12, se_13, sem_0, sem_1, sem_2, sem_3, sem_4, sem_5, sr_1_9, sr_1_11, sr_1_13, kl9_1, sr_1_10, sr_1_1, sr_1_7, sr_1_0, sr_1_5, sr_1_6, sr_1_8, kc_1, sr_1_3, sr_1_4, sr_1_2, sr_2_0, kl9_2, kc_2, kc_3, kl9_3]
  simp (disch := omega) only [w32_eq]
  simp [upm_s, upm_a, upm_j]
  refine ⟨fun h3 => h.1 (by omega), fun h3 => whl_i (fun k r u => ∃ i m2, r = rl [2, v, 24 - 8 * i] ∧ u = S9 e m2 ∧ 0 ≤ i ∧ i + k = 4 ∧ (∀ x j, ¬ (x = 3 ∧ m 2 1 ≤ j ∧ j < m 2 1 + 4) → ¬ (x = 2 ∧ j = 1) → m2 x j = m x j) ∧ (∀ t, 0 ≤ t → t < i → m2 3 (m 2 1 + t) = byt v t) ∧ m2 2 1 = m 2 1 + i) 4 ⟨0, _, rfl, rfl, by decide, by decide, fun _ _ _ _ => rfl, fun t h1 h2 => absurd h2 (by omega), by omega⟩ ?_⟩
  have h9 := h.2 (by omega)
  rintro k r u ⟨i, m2, rfl, rfl, hi, hk, hf, hb, hl⟩
  simp only [cl_13, runB, B13, ma_13, rho_20, wf_2_15, wf_2_9, wpf_2_15, wpopadd_pf_2_15, w_cst, w_ldi, w_ldj, w_lda, w_ljk, w_ldk, w_ldw, w_ldk2, w_ldt, w_ldtw, w_neg, w_cvb, w_cvs, w_cvc, w_cvj, w_add, w_sub, w_mul, w_ban, w_bor, w_bxo, w_shl, w_shr, w_ush, w_dvi, w_rmi, w_aldi, w_aldj, w_aldz, w_aldc, w_alda, w_ite, w_cmp, w_cmj, w_cz, w_cnot, w_cand, w_cor, w_nil, w_cons, w_cvi, w_csta, w_cvt, w_cvv, w_csv, w_cpy, w_seq, w_sbr, w_sbn, w_brk, w_ifs, w_ifx, w_ife, w_wk, w_rets, w_rtv, w_thr, w_asi, w_asj, w_asa, w_inc, w_exs, w_asti, w_astj, w_astz, w_astc, w_aopadd, w_aopsub, w_sw, if_true, if_false, ↓reduceIte, hdl_c, S9_1, S9_m, bud9, live9, inb9, wrn, wr9_14, wr9_15, wr9_16, wr9_17, tq9_14, tq9_15, tq9_16, tq9_17, tq_0, tq_1, tq_3, upr_rl, rl_0, rl_1, rl_2, rl_3, rl_4, rl_5, rl_6, rl_7, rl_8, rl_9, rl_10, rl_11, rl_12, rl_13, sp_0, sp_1, sp_2, sp_3, sp_4, sp_5, sp_6, sp_7, sp_8, sp_9, sp_10, sp_11, sp_12, sp_13, se_0, se_1, se_2, se_3, se_4, se_5, se_6, se_7, se_8, se_9, se_10, se_11, se_12, se_13, sem_0, sem_1, sem_2, sem_3, sem_4, sem_5, sr_1_9, sr_1_11, sr_1_13, kl9_1, sr_1_10, sr_1_1, sr_1_7, sr_1_0, sr_1_5, sr_1_6, sr_1_8, kc_1, sr_1_3, sr_1_4, sr_1_2, sr_2_0, kl9_2, kc_2, kc_3, kl9_3, hl]
  by_cases h4 : i = 4
  · subst h4
    refine ⟨fun h => absurd h (by omega), fun _ => ⟨by decide, by decide, h9 m2 ⟨hf, fun t a b => hb t a b, hl⟩⟩⟩
  · rw [byt_i hi (by omega)]
    have e2 : i2c (byt v i) = byt v i := i2c_255 _
    rw [e2, upm_a _ _ _ _ _ _ (by decide), hl]
    simp (disch := omega) only [w32_eq]
    have hby := byt_in v i
    refine ⟨fun _ => ⟨by decide, by decide, by decide, by decide, ⟨by decide, by omega, by omega⟩, ⟨by omega, by omega⟩, by decide, by decide, by decide, k - 1, by omega, i + 1, _, by rw [show 24 - 8 * i + -8 = 24 - 8 * (i + 1) by omega], rfl, by omega, by omega, fun x j hx hj => ?_, fun t ht1 ht2 => ?_, ?_⟩, fun h => absurd (show 0 ≤ 24 - 8 * i by omega) h⟩
    · unfold upm
      rw [if_neg hj, if_neg (by omega)]
      exact hf x j hx hj
    · rw [upm_a _ _ _ _ _ _ (by decide)]
      unfold upm
      by_cases ht : t = i
      · subst ht; rw [if_pos ⟨rfl, rfl⟩]
      · rw [if_neg (by omega)]; exact hb t ht1 (by omega)
    · rw [upm_s]; omega
end
section
/-! the component's bounds -/
abbrev hnd (a : Int) : Prop := a = 21 ∨ (31 ≤ a ∧ a < 192 ∧ a % 10 = 7) ∨ (219 ≤ a ∧ a < 249 ∧ a % 10 = 5)
def BdC (tc a j v : Int) : Prop :=
  if a = 2 then (j = 1 → v = tc) else
  if a = 4 then ((j = 1 → 0 ≤ v ∧ v ≤ 40) ∧ (j = 3 → 0 ≤ v ∧ v ≤ 40)) else
  if a = 8 then ((j = 0 → 0 ≤ v ∧ v ≤ 10) ∧ (j = 1 → 0 ≤ v ∧ v ≤ 14) ∧ (j = 2 → 0 ≤ v ∧ v ≤ 5) ∧ (j = 3 → 0 ≤ v ∧ v ≤ 5)) else
  if a = 10 then 0 ≤ v ∧ v ≤ 9 else
  if a = 11 then 0 ≤ v ∧ v ≤ 9 else
  if a = 12 then 0 ≤ v ∧ v ≤ 9 else
  if a = 191 then ((j = 6 → 0 ≤ v ∧ v ≤ 10) ∧ (j = 7 → v ≤ 2147483647)) else
  if a = 194 then 0 ≤ v ∧ v ≤ 9 else
  if a = 211 then ((j = 4 → 0 ≤ v ∧ v ≤ 8) ∧ (j = 8 → 0 ≤ v ∧ v ≤ 10)) else
  if a = 212 then 0 ≤ v ∧ v ≤ 9 else
  if a = 25 then (j = 7 → 0 ≤ v ∧ v ≤ 1) else
  if a = 1 then (j = 14 → 0 ≤ v ∧ v ≤ 16) else
  if hnd a then 0 ≤ v ∧ v ≤ 1 else
  if a = 193 then v ≤ 2147483647 else
  if a = 195 then v ≤ 2147483647 else
  if a = 206 then v ≤ 2147483647 else
  if a = 207 then v ≤ 2147483647 else
  if a = 196 then ((j = 8 → v ≤ 10) ∧ (j = 10 → v ≤ 2147483647)) else
  if a = 205 then (j = 9 → v ≤ 5) else True
/-- what is told of a call: cells that stay as they are told -/
abbrev Fg : Type := (Int → Int → Prop) × Mem
/-- the cells that no call of that level writes -/
abbrev frC (l : Nat) (a j : Int) : Prop := 249 ≤ a ∨ (1 ≤ l ∧ (a = 3 ∨ (a = 211 ∧ j = 4) ∨ a = 212 ∨ a = 213)) ∨ (2 ≤ l ∧ (8 ≤ a ∧ a ≤ 14)) ∨ (3 ≤ l ∧ a = 1 ∧ j = 12) ∨ (4 ≤ l ∧ (a = 5 ∨ (a = 4 ∧ j = 1) ∨ (15 ≤ a ∧ a ≤ 24) ∨ (a = 26 ∧ 8 ≤ j) ∨ (31 ≤ a ∧ a ≤ 190) ∨ (217 ≤ a ∧ a ≤ 248 ∧ a ≠ 218)))
def LVC (l : Nat) (g : Fg) : Prop := ∀ x j, g.1 x j → frC l x j
theorem frC_le {l l' : Nat} (h : l ≤ l') {x j : Int} (q : frC l x j) : frC l' x j := by
  unfold frC at q ⊢
  rcases q with q | ⟨q, r⟩ | ⟨q, r⟩ | ⟨q, r⟩ | ⟨q, r⟩
  · exact Or.inl q
  · exact Or.inr (Or.inl ⟨by omega, r⟩)
  · exact Or.inr (Or.inr (Or.inl ⟨by omega, r⟩))
  · exact Or.inr (Or.inr (Or.inr (Or.inl ⟨by omega, r⟩)))
  · exact Or.inr (Or.inr (Or.inr (Or.inr ⟨by omega, r⟩)))
def JC (l : Nat) (g : Fg) (tc : Int) (m : Mem) : Prop := ((0 ≤ tc ∧ tc ≤ 80) ∧ LVC l g) ∧ (∀ x j, g.1 x j → m x j = g.2 x j) ∧ ∀ a j, BdC tc a j (m a j)
theorem JC_up {l : Nat} {g : Fg} {tc : Int} {m : Mem} {a j v : Int} (h : JC l g tc m) (ha : ¬ frC l a j) (hv : BdC tc a j v) : JC l g tc (upm m a j v) := by
  refine ⟨h.1, fun x y hx => ?_, fun x y => ?_⟩
  · unfold upm; rw [if_neg (by rintro ⟨rfl, rfl⟩; exact ha (h.1.2 _ _ hx))]; exact h.2.1 x y hx
  · unfold upm
    split
    · rename_i q; rw [q.1, q.2]; exact hv
    · exact h.2.2 x y
theorem JC_l {l : Nat} {g : Fg} {tc : Int} {m : Mem} (h : JC l g tc m) : LVC l g := h.1.2
theorem JC_of {l l' : Nat} {g : Fg} {tc : Int} {m : Mem} (_ : LVC l g) (h : JC l g tc m) (hl : l ≤ l') : JC l' g tc m := ⟨⟨h.1.1, fun x j q => frC_le hl (h.1.2 x j q)⟩, h.2⟩
theorem JC_dn {l l' : Nat} {g : Fg} {tc : Int} {m : Mem} (hL : LVC l g) (h : JC l' g tc m) : JC l g tc m := ⟨⟨h.1.1, hL⟩, h.2⟩
theorem JC_len {l : Nat} {g : Fg} {tc : Int} {m : Mem} {v : Int} (h : JC l g tc m) (h0 : 0 ≤ v) (h1 : v ≤ 80) : JC l g v (upm m 2 1 v) := by
  refine ⟨⟨⟨h0, h1⟩, h.1.2⟩, fun x y hx => ?_, fun x y => ?_⟩
  · unfold upm; rw [if_neg (by rintro ⟨rfl, rfl⟩; have := h.1.2 _ _ hx; unfold frC at this; omega)]; exact h.2.1 x y hx
  · by_cases hx : x = 2
    · subst hx
      unfold upm BdC
      simp
      intro hy; simp [hy]
    · rw [upm_a _ _ _ _ _ _ hx]
      have := h.2.2 x y
      unfold BdC at this ⊢
      rw [if_neg hx] at this ⊢
      exact this
theorem JC_s {l : Nat} {g : Fg} {tc : Int} {m : Mem} (h : JC l g tc m) : m 2 1 = tc ∧ 0 ≤ tc ∧ tc ≤ 80 ∧ 0 ≤ m 4 1 ∧ m 4 1 ≤ 40 ∧ 0 ≤ m 4 3 ∧ m 4 3 ≤ 40 ∧ 0 ≤ m 8 0 ∧ m 8 0 ≤ 10 ∧ 0 ≤ m 8 1 ∧ m 8 1 ≤ 14 ∧ 0 ≤ m 8 2 ∧ m 8 2 ≤ 5 ∧ 0 ≤ m 8 3 ∧ m 8 3 ≤ 5 ∧ 0 ≤ m 191 6 ∧ m 191 6 ≤ 10 ∧ 0 ≤ m 211 4 ∧ m 211 4 ≤ 8 ∧ 0 ≤ m 211 8 ∧ m 211 8 ≤ 10 ∧ 0 ≤ m 1 14 ∧ m 1 14 ≤ 16 ∧ 0 ≤ m 25 7 ∧ m 25 7 ≤ 1 ∧ m 191 7 ≤ 2147483647 ∧ m 196 8 ≤ 10 ∧ m 205 9 ≤ 5 ∧ m 196 10 ≤ 2147483647 := by
  have a1 := h.2.2 2 1
  have a2 := h.2.2 4 1
  have a3 := h.2.2 4 3
  have a4 := h.2.2 8 0
  have a5 := h.2.2 8 1
  have a6 := h.2.2 8 2
  have a7 := h.2.2 8 3
  have a8 := h.2.2 191 6
  have a9 := h.2.2 211 4
  have b1 := h.2.2 211 8
  have b2 := h.2.2 1 14
  have b3 := h.2.2 25 7
  have b4 := h.2.2 191 7
  have b5 := h.2.2 196 8
  have b6 := h.2.2 205 9
  have b7 := h.2.2 196 10
  have h1 := h.1
  simp [BdC, hnd] at a1 a2 a3 a4 a5 a6 a7 a8 a9 b1 b2 b3 b4 b5 b6 b7
  omega
theorem JC_10 {l : Nat} {g : Fg} {tc : Int} {m : Mem} (h : JC l g tc m) (j : Int) : 0 ≤ m 10 j ∧ m 10 j ≤ 9 := by have := h.2.2 10 j; simpa [BdC] using this
theorem JC_11 {l : Nat} {g : Fg} {tc : Int} {m : Mem} (h : JC l g tc m) (j : Int) : 0 ≤ m 11 j ∧ m 11 j ≤ 9 := by have := h.2.2 11 j; simpa [BdC] using this
theorem JC_12 {l : Nat} {g : Fg} {tc : Int} {m : Mem} (h : JC l g tc m) (j : Int) : 0 ≤ m 12 j ∧ m 12 j ≤ 9 := by have := h.2.2 12 j; simpa [BdC] using this
theorem JC_194 {l : Nat} {g : Fg} {tc : Int} {m : Mem} (h : JC l g tc m) (j : Int) : 0 ≤ m 194 j ∧ m 194 j ≤ 9 := by have := h.2.2 194 j; simpa [BdC] using this
theorem JC_212 {l : Nat} {g : Fg} {tc : Int} {m : Mem} (h : JC l g tc m) (j : Int) : 0 ≤ m 212 j ∧ m 212 j ≤ 9 := by have := h.2.2 212 j; simpa [BdC] using this
theorem JC_h {l : Nat} {g : Fg} {tc : Int} {m : Mem} (h : JC l g tc m) (j : Int) : 0 ≤ m 21 j ∧ m 21 j ≤ 1 := by have := h.2.2 21 j; simpa [BdC, hnd] using this
theorem JC_193 {l : Nat} {g : Fg} {tc : Int} {m : Mem} (h : JC l g tc m) (j : Int) : m 193 j ≤ 2147483647 := by have := h.2.2 193 j; simpa [BdC, hnd] using this
theorem JC_195 {l : Nat} {g : Fg} {tc : Int} {m : Mem} (h : JC l g tc m) (j : Int) : m 195 j ≤ 2147483647 := by have := h.2.2 195 j; simpa [BdC, hnd] using this
theorem JC_206 {l : Nat} {g : Fg} {tc : Int} {m : Mem} (h : JC l g tc m) (j : Int) : m 206 j ≤ 2147483647 := by have := h.2.2 206 j; simpa [BdC, hnd] using this
theorem JC_207 {l : Nat} {g : Fg} {tc : Int} {m : Mem} (h : JC l g tc m) (j : Int) : m 207 j ≤ 2147483647 := by have := h.2.2 207 j; simpa [BdC, hnd] using this
theorem wrn3 (e : Int) (m : Mem) (a j v : Int) : wr (S9 e m) 3 a j v = S9 e (upm m a j v) := rfl
theorem wrn1 (e : Int) (m : Mem) (a j v : Int) : wr (S9 e m) 1 a j v = S9 e (upm m a j v) := rfl
/-! THE TEXT's readers -/
theorem BdC_s {tc a j v : Int} (h : a ≠ 1 ∧ a ≠ 2 ∧ a ≠ 4 ∧ a ≠ 8 ∧ a ≠ 10 ∧ a ≠ 11 ∧ a ≠ 12 ∧ a ≠ 25 ∧ a ≠ 191 ∧ a ≠ 194 ∧ a ≠ 211 ∧ a ≠ 212 ∧ a ≠ 193 ∧ a ≠ 195 ∧ a ≠ 206 ∧ a ≠ 207 ∧ a ≠ 196 ∧ a ≠ 205 ∧ ¬ hnd a) : BdC tc a j v := by
  unfold BdC
  obtain ⟨h1, h2, h3, h4, h5, h6, h12, h7, h8, h9, h10, h11, k1, k2, k3, k4, k5, k6, h13⟩ := h
  rw [if_neg h2, if_neg h3, if_neg h4, if_neg h5, if_neg h6, if_neg h12, if_neg h8, if_neg h9, if_neg h10, if_neg h11, if_neg h7, if_neg h1, if_neg h13, if_neg k1, if_neg k2, if_neg k3, if_neg k4, if_neg k5, if_neg k6]
  trivial
def cpf (m : Mem) (a i b j n : Int) : Mem := fun x y => if x = b ∧ j ≤ y ∧ y < j + n then m a (y - j + i) else m x y
theorem cpmS (e : Int) (m : Mem) (a i b j n : Int) : cpm (S9 e m) a i b j n = S9 e (cpf m a i b j n) := rfl
theorem cpok9 (e : Int) (m : Mem) (a i b j n : Int) : cpok (S9 e m) a i b j n = ((0 < a ∧ a < 289 ∧ kcls a = 14) ∧ (0 < b ∧ b < 289 ∧ kcls b = 14) ∧ 0 ≤ i ∧ 0 ≤ j ∧ 0 ≤ n ∧ i + n ≤ klen a ∧ j + n ≤ klen b) := rfl
theorem JC_cp {l : Nat} {g : Fg} {tc : Int} {m : Mem} {a i b j n : Int} (h : JC l g tc m) (ha : ∀ j, ¬ frC l b j) (hv : ∀ y v, BdC tc b y v) : JC l g tc (cpf m a i b j n) := by
  refine ⟨h.1, fun x y hx => ?_, fun x y => ?_⟩
  · unfold cpf; rw [if_neg (by rintro ⟨rfl, -⟩; exact ha y (h.1.2 _ _ hx))]; exact h.2.1 x y hx
  · unfold cpf
    split
    · rename_i q; rw [q.1]; exact hv y _
    · exact h.2.2 x y
theorem hnd_ne {a : Int} (h : hnd a) : a ≠ 2 ∧ a ≠ 4 ∧ a ≠ 8 ∧ a ≠ 10 ∧ a ≠ 11 ∧ a ≠ 12 ∧ a ≠ 191 ∧ a ≠ 194 ∧ a ≠ 211 ∧ a ≠ 212 ∧ a ≠ 25 ∧ a ≠ 1 := by unfold hnd at h; omega
theorem BdC_h {tc a j v : Int} (h : hnd a) : BdC tc a j v ↔ 0 ≤ v ∧ v ≤ 1 := by
  obtain ⟨h1, h2, h3, h4, h5, h6, h7, h8, h9, h10, h11, h12⟩ := hnd_ne h
  unfold BdC
  rw [if_neg h1, if_neg h2, if_neg h3, if_neg h4, if_neg h5, if_neg h6, if_neg h7, if_neg h8, if_neg h9, if_neg h10, if_neg h11, if_neg h12, if_pos h]
theorem JC_cph {l : Nat} {g : Fg} {tc : Int} {m : Mem} {a i b j n : Int} (h : JC l g tc m) (hb : ∀ j, ¬ frC l b j) (ha : hnd a) (hh : hnd b) : JC l g tc (cpf m a i b j n) := by
  refine ⟨h.1, fun x y hx => ?_, fun x y => ?_⟩
  · unfold cpf; rw [if_neg (by rintro ⟨rfl, -⟩; exact hb y (h.1.2 _ _ hx))]; exact h.2.1 x y hx
  · unfold cpf
    split
    · rename_i q; rw [q.1]; exact (BdC_h hh).2 ((BdC_h ha).1 (h.2.2 a _))
    · exact h.2.2 x y
theorem rlp2 {a0 a1 : Int} : rl [a0, a1] = rl [a0, a1, 0] := by funext j; unfold rl; rcases j with _ | j <;> (try rfl) <;> (repeat (rcases j with _ | j <;> (try rfl)))
theorem rlp3 {a0 a1 a2 : Int} : rl [a0, a1, a2] = rl [a0, a1, a2, 0] := by funext j; unfold rl; rcases j with _ | j <;> (try rfl) <;> (repeat (rcases j with _ | j <;> (try rfl)))
theorem rlp3_2 {a0 a1 a2 : Int} : rl [a0, a1, a2] = rl [a0, a1, a2, 0, 0] := by funext j; unfold rl; rcases j with _ | j <;> (try rfl) <;> (repeat (rcases j with _ | j <;> (try rfl)))
theorem rlp3_3 {a0 a1 a2 : Int} : rl [a0, a1, a2] = rl [a0, a1, a2, 0, 0, 0] := by funext j; unfold rl; rcases j with _ | j <;> (try rfl) <;> (repeat (rcases j with _ | j <;> (try rfl)))
theorem rlp4 {a0 a1 a2 a3 : Int} : rl [a0, a1, a2, a3] = rl [a0, a1, a2, a3, 0] := by funext j; unfold rl; rcases j with _ | j <;> (try rfl) <;> (repeat (rcases j with _ | j <;> (try rfl)))
theorem rlp4_2 {a0 a1 a2 a3 : Int} : rl [a0, a1, a2, a3] = rl [a0, a1, a2, a3, 0, 0] := by funext j; unfold rl; rcases j with _ | j <;> (try rfl) <;> (repeat (rcases j with _ | j <;> (try rfl)))
theorem rlp5 {a0 a1 a2 a3 a4 : Int} : rl [a0, a1, a2, a3, a4] = rl [a0, a1, a2, a3, a4, 0] := by funext j; unfold rl; rcases j with _ | j <;> (try rfl) <;> (repeat (rcases j with _ | j <;> (try rfl)))
theorem rlp5_2 {a0 a1 a2 a3 a4 : Int} : rl [a0, a1, a2, a3, a4] = rl [a0, a1, a2, a3, a4, 0, 0] := by funext j; unfold rl; rcases j with _ | j <;> (try rfl) <;> (repeat (rcases j with _ | j <;> (try rfl)))
theorem rlp6 {a0 a1 a2 a3 a4 a5 : Int} : rl [a0, a1, a2, a3, a4, a5] = rl [a0, a1, a2, a3, a4, a5, 0] := by funext j; unfold rl; rcases j with _ | j <;> (try rfl) <;> (repeat (rcases j with _ | j <;> (try rfl)))
theorem rlp6_2 {a0 a1 a2 a3 a4 a5 : Int} : rl [a0, a1, a2, a3, a4, a5] = rl [a0, a1, a2, a3, a4, a5, 0, 0] := by funext j; unfold rl; rcases j with _ | j <;> (try rfl) <;> (repeat (rcases j with _ | j <;> (try rfl)))
theorem rlp7_2 {a0 a1 a2 a3 a4 a5 a6 : Int} : rl [a0, a1, a2, a3, a4, a5, a6] = rl [a0, a1, a2, a3, a4, a5, a6, 0, 0] := by funext j; unfold rl; rcases j with _ | j <;> (try rfl) <;> (repeat (rcases j with _ | j <;> (try rfl)))
theorem rlp8 {a0 a1 a2 a3 a4 a5 a6 a7 : Int} : rl [a0, a1, a2, a3, a4, a5, a6, a7] = rl [a0, a1, a2, a3, a4, a5, a6, a7, 0] := by funext j; unfold rl; rcases j with _ | j <;> (try rfl) <;> (repeat (rcases j with _ | j <;> (try rfl)))
theorem rlp9 {a0 a1 a2 a3 a4 a5 a6 a7 a8 : Int} : rl [a0, a1, a2, a3, a4, a5, a6, a7, a8] = rl [a0, a1, a2, a3, a4, a5, a6, a7, a8, 0] := by funext j; unfold rl; rcases j with _ | j <;> (try rfl) <;> (repeat (rcases j with _ | j <;> (try rfl)))
theorem rlp9_2 {a0 a1 a2 a3 a4 a5 a6 a7 a8 : Int} : rl [a0, a1, a2, a3, a4, a5, a6, a7, a8] = rl [a0, a1, a2, a3, a4, a5, a6, a7, a8, 0, 0] := by funext j; unfold rl; rcases j with _ | j <;> (try rfl) <;> (repeat (rcases j with _ | j <;> (try rfl)))
theorem rlp10 {a0 a1 a2 a3 a4 a5 a6 a7 a8 a9 : Int} : rl [a0, a1, a2, a3, a4, a5, a6, a7, a8, a9] = rl [a0, a1, a2, a3, a4, a5, a6, a7, a8, a9, 0] := by funext j; unfold rl; rcases j with _ | j <;> (try rfl) <;> (repeat (rcases j with _ | j <;> (try rfl)))
theorem rlp11_2 {a0 a1 a2 a3 a4 a5 a6 a7 a8 a9 a10 : Int} : rl [a0, a1, a2, a3, a4, a5, a6, a7, a8, a9, a10] = rl [a0, a1, a2, a3, a4, a5, a6, a7, a8, a9, a10, 0, 0] := by funext j; unfold rl; rcases j with _ | j <;> (try rfl) <;> (repeat (rcases j with _ | j <;> (try rfl)))
theorem JC_sz {l : Nat} {g : Fg} {tc : Int} {m : Mem} (h : JC l g tc m) : w32 (m 191 6 - 1) = m 191 6 - 1 ∧ m 191 6 - 1 ≤ 9 := by
  have := JC_s h
  unfold w32
  omega
end
section
/-! the reference's bounds -/
def RBd (pl j v : Int) : Prop :=
  (j % 52 < 15 → j % 52 % 3 = 1 → -1 ≤ v ∧ v ≤ pl - 1) ∧
  (15 ≤ j % 52 → j % 52 < 50 → (j % 52 - 15) % 7 = 0 → 0 ≤ v ∧ v ≤ pl - 1) ∧
  (15 ≤ j % 52 → j % 52 < 50 → (j % 52 - 15) % 7 = 3 → 0 ≤ v ∧ v ≤ 1) ∧
  (15 ≤ j % 52 → j % 52 < 50 → (j % 52 - 15) % 7 = 5 → -1 ≤ v ∧ v ≤ 4)
def BdR (tc pl a j v : Int) : Prop :=
  if a = 249 then ((j = 18 → v = tc) ∧ (j = 1 → 0 ≤ v ∧ v ≤ 24) ∧ (j = 3 → 0 ≤ v ∧ v ≤ pl) ∧ (j = 4 → 0 ≤ v ∧ v ≤ 14) ∧ (j = 5 → 0 ≤ v ∧ v ≤ 5) ∧ (j = 6 → 0 ≤ v ∧ v ≤ 5) ∧ (j = 32 → 0 ≤ v ∧ v ≤ 80) ∧ (j = 39 → 0 ≤ v ∧ v ≤ 15) ∧ (j = 53 → 0 ≤ v ∧ v ≤ 10) ∧ (j = 62 → 0 ≤ v ∧ v ≤ 8) ∧ (j = 66 → 0 ≤ v ∧ v ≤ 10) ∧ (j = 44 → 0 ≤ v ∧ v ≤ 60)) else
  if a = 252 then 0 ≤ v ∧ v ≤ pl - 1 else
  if a = 253 then 0 ≤ v ∧ v ≤ pl - 1 else
  if a = 254 then 0 ≤ v ∧ v ≤ 9 else
  if a = 258 then RBd pl j v else
  if a = 259 then RBd pl j v else
  if a = 269 then RBd pl j v else
  if a = 287 then RBd pl j v else
  if a = 273 then 0 ≤ v ∧ v ≤ 1000000 else
  if a = 274 then 0 ≤ v ∧ v ≤ 1000000 else
  if a = 275 then 0 ≤ v ∧ v ≤ 9 else
  if a = 278 then 0 ≤ v ∧ v ≤ 4 else True
/-- the height of the stack ahead of each code -/
def hgt (c : Int → Int) : Nat → Int
  | 0 => 0
  | k + 1 => hgt c k + (if c k = 3000 then 0 else if 2000 ≤ c k then -1 else 1)
def okc (h v : Int) : Prop := (v = 3000 → 1 ≤ h) ∧ (v ≠ 3000 → 2000 ≤ v → 2 ≤ h) ∧ (v < 2000 → v ≤ 1007)
def COK (c : Int → Int) (n : Int) : Prop := ∀ k : Nat, (k : Int) < n → okc (hgt c k) (c k)
/-- the cells that no call of that level writes -/
abbrev frR (l : Nat) (a j : Int) : Prop := a < 249 ∨ 288 ≤ a ∨ (1 ≤ l ∧ (a = 260 ∨ a = 281 ∨ a = 282 ∨ (a = 249 ∧ j = 62))) ∨ (2 ≤ l ∧ ((251 ≤ a ∧ a ≤ 257) ∨ (a = 249 ∧ 3 ≤ j ∧ j ≤ 6))) ∨ (3 ≤ l ∧ (a = 285 ∨ a = 286 ∨ (a = 249 ∧ j = 7))) ∨ (4 ≤ l ∧ (a = 265 ∨ a = 258 ∨ a = 269 ∨ a = 287 ∨ (a = 249 ∧ (j = 32 ∨ j = 39))))
def LVR (l : Nat) (g : Fg) : Prop := ∀ x j, g.1 x j → frR l x j
theorem frR_le {l l' : Nat} (h : l ≤ l') {x j : Int} (q : frR l x j) : frR l' x j := by
  unfold frR at q ⊢
  rcases q with q | q | ⟨q, r⟩ | ⟨q, r⟩ | ⟨q, r⟩ | ⟨q, r⟩
  · exact Or.inl q
  · exact Or.inr (Or.inl q)
  · exact Or.inr (Or.inr (Or.inl ⟨by omega, r⟩))
  · exact Or.inr (Or.inr (Or.inr (Or.inl ⟨by omega, r⟩)))
  · exact Or.inr (Or.inr (Or.inr (Or.inr (Or.inl ⟨by omega, r⟩))))
  · exact Or.inr (Or.inr (Or.inr (Or.inr (Or.inr ⟨by omega, r⟩))))
def JB (l : Nat) (g : Fg) (tc pl : Int) (m : Mem) : Prop := ((0 ≤ tc ∧ tc ≤ 80) ∧ LVR l g) ∧ (1 ≤ pl ∧ pl ≤ 10) ∧ (∀ x j, g.1 x j → m x j = g.2 x j) ∧ ∀ a j, BdR tc pl a j (m a j)
def JS (pl : Int) (m : Mem) : Prop := (m 249 3 = pl ∨ m 249 3 = 0 ∧ pl = 1) ∧ (∀ w, 0 ≤ w → w < m 249 4 → 1 ≤ m 254 w) ∧ COK (m 265) (m 249 32)
def JR (l : Nat) (g : Fg) (tc pl : Int) (m : Mem) : Prop := JB l g tc pl m ∧ JS pl m
theorem JB_up {l : Nat} {g : Fg} {tc pl : Int} {m : Mem} {a j v : Int} (h : JB l g tc pl m) (ha : ¬ frR l a j) (hv : BdR tc pl a j v) : JB l g tc pl (upm m a j v) := by
  refine ⟨h.1, h.2.1, fun x y hx => ?_, fun x y => ?_⟩
  · unfold upm; rw [if_neg (by rintro ⟨rfl, rfl⟩; exact ha (h.1.2 _ _ hx))]; exact h.2.2.1 x y hx
  · unfold upm
    split
    · rename_i q; rw [q.1, q.2]; exact hv
    · exact h.2.2.2 x y
abbrev frc (a j : Int) : Prop := a ≠ 254 ∧ a ≠ 265 ∧ (a = 249 → j ≠ 3 ∧ j ≠ 4 ∧ j ≠ 32)
theorem JS_up {pl : Int} {m : Mem} {a j v : Int} (h : JS pl m) (hf : frc a j) : JS pl (upm m a j v) := by
  have e3 : upm m a j v 249 3 = m 249 3 := by unfold upm; rw [if_neg]; rintro ⟨h1, h2⟩; exact (hf.2.2 h1.symm).1 h2.symm
  have e4 : upm m a j v 249 4 = m 249 4 := by unfold upm; rw [if_neg]; rintro ⟨h1, h2⟩; exact (hf.2.2 h1.symm).2.1 h2.symm
  have e32 : upm m a j v 249 32 = m 249 32 := by unfold upm; rw [if_neg]; rintro ⟨h1, h2⟩; exact (hf.2.2 h1.symm).2.2 h2.symm
  have e5 : upm m a j v 254 = m 254 := by funext y; unfold upm; rw [if_neg]; rintro ⟨h1, h2⟩; exact hf.1 h1.symm
  have e6 : upm m a j v 265 = m 265 := by funext y; unfold upm; rw [if_neg]; rintro ⟨h1, h2⟩; exact hf.2.1 h1.symm
  unfold JS
  rw [e3, e4, e5, e6, e32]
  exact h
theorem JR_up {l : Nat} {g : Fg} {tc pl : Int} {m : Mem} {a j v : Int} (h : JR l g tc pl m) (ha : ¬ frR l a j) (hf : frc a j) (hv : BdR tc pl a j v) : JR l g tc pl (upm m a j v) := ⟨JB_up h.1 ha hv, JS_up h.2 hf⟩
theorem JR_l {l : Nat} {g : Fg} {tc pl : Int} {m : Mem} (h : JR l g tc pl m) : LVR l g := h.1.1.2
theorem JR_of {l l' : Nat} {g : Fg} {tc pl : Int} {m : Mem} (_ : LVR l g) (h : JR l g tc pl m) (hl : l ≤ l') : JR l' g tc pl m := ⟨⟨⟨h.1.1.1, fun x j q => frR_le hl (h.1.1.2 x j q)⟩, h.1.2⟩, h.2⟩
theorem JR_dn {l l' : Nat} {g : Fg} {tc pl : Int} {m : Mem} (hL : LVR l g) (h : JR l' g tc pl m) : JR l g tc pl m := ⟨⟨⟨h.1.1.1, hL⟩, h.1.2⟩, h.2⟩
theorem JB_len {l : Nat} {g : Fg} {tc pl : Int} {m : Mem} {v : Int} (h : JB l g tc pl m) (h0 : 0 ≤ v) (h1 : v ≤ 80) : JB l g v pl (upm m 249 18 v) := by
  refine ⟨⟨⟨h0, h1⟩, h.1.2⟩, h.2.1, fun x y hx => ?_, fun x y => ?_⟩
  · unfold upm; rw [if_neg (by rintro ⟨rfl, rfl⟩; have := h.1.2 _ _ hx; unfold frR at this; omega)]; exact h.2.2.1 x y hx
  · have h9 := h.2.2.2 x y
    by_cases hx : x = 249
    · subst hx
      unfold upm BdR at *
      rw [if_pos rfl] at *
      by_cases hy : y = 18
      · subst hy; simp
      · rw [if_neg (fun q => hy q.2)]
        exact ⟨fun q => absurd q hy, h9.2⟩
    · rw [upm_a _ _ _ _ _ _ hx]
      unfold BdR at h9 ⊢
      rw [if_neg hx] at h9 ⊢
      exact h9
theorem JR_len {l : Nat} {g : Fg} {tc pl : Int} {m : Mem} {v : Int} (h : JR l g tc pl m) (h0 : 0 ≤ v) (h1 : v ≤ 80) : JR l g v pl (upm m 249 18 v) := ⟨JB_len h.1 h0 h1, JS_up h.2 ⟨by decide, by decide, fun _ => ⟨by decide, by decide, by decide⟩⟩⟩
theorem JB_s {l : Nat} {g : Fg} {tc pl : Int} {m : Mem} (h : JB l g tc pl m) : m 249 18 = tc ∧ 0 ≤ tc ∧ tc ≤ 80 ∧ 1 ≤ pl ∧ pl ≤ 10 ∧ 0 ≤ m 249 1 ∧ m 249 1 ≤ 24 ∧ 0 ≤ m 249 3 ∧ m 249 3 ≤ pl ∧ 0 ≤ m 249 4 ∧ m 249 4 ≤ 14 ∧ 0 ≤ m 249 5 ∧ m 249 5 ≤ 5 ∧ 0 ≤ m 249 6 ∧ m 249 6 ≤ 5 ∧ 0 ≤ m 249 32 ∧ m 249 32 ≤ 80 ∧ 0 ≤ m 249 39 ∧ m 249 39 ≤ 15 ∧ 0 ≤ m 249 53 ∧ m 249 53 ≤ 10 ∧ 0 ≤ m 249 62 ∧ m 249 62 ≤ 8 ∧ 0 ≤ m 249 66 ∧ m 249 66 ≤ 10 ∧ 0 ≤ m 249 44 ∧ m 249 44 ≤ 60 := by
  have a1 := h.2.2.2 249 18
  have a2 := h.2.2.2 249 1
  have a3 := h.2.2.2 249 3
  have a4 := h.2.2.2 249 4
  have a5 := h.2.2.2 249 5
  have a6 := h.2.2.2 249 6
  have a7 := h.2.2.2 249 32
  have a8 := h.2.2.2 249 39
  have a9 := h.2.2.2 249 53
  have b1 := h.2.2.2 249 62
  have b2 := h.2.2.2 249 66
  have b3 := h.2.2.2 249 44
  have h1 := h.1
  have h2 := h.2.1
  simp [BdR] at a1 a2 a3 a4 a5 a6 a7 a8 a9 b1 b2 b3
  omega
theorem JR_s {l : Nat} {g : Fg} {tc pl : Int} {m : Mem} (h : JR l g tc pl m) : m 249 18 = tc ∧ 0 ≤ tc ∧ tc ≤ 80 ∧ 1 ≤ pl ∧ pl ≤ 10 ∧ 0 ≤ m 249 1 ∧ m 249 1 ≤ 24 ∧ 0 ≤ m 249 3 ∧ m 249 3 ≤ pl ∧ 0 ≤ m 249 4 ∧ m 249 4 ≤ 14 ∧ 0 ≤ m 249 5 ∧ m 249 5 ≤ 5 ∧ 0 ≤ m 249 6 ∧ m 249 6 ≤ 5 ∧ 0 ≤ m 249 32 ∧ m 249 32 ≤ 80 ∧ 0 ≤ m 249 39 ∧ m 249 39 ≤ 15 ∧ 0 ≤ m 249 53 ∧ m 249 53 ≤ 10 ∧ 0 ≤ m 249 62 ∧ m 249 62 ≤ 8 ∧ 0 ≤ m 249 66 ∧ m 249 66 ≤ 10 ∧ 0 ≤ m 249 44 ∧ m 249 44 ≤ 60 ∧ (m 249 3 = pl ∨ m 249 3 = 0 ∧ pl = 1) := by
  have h1 := JB_s h.1
  have h2 := h.2.1
  omega
theorem JB_252 {l : Nat} {g : Fg} {tc pl : Int} {m : Mem} (h : JB l g tc pl m) (j : Int) : 0 ≤ m 252 j ∧ m 252 j ≤ pl - 1 := by have := h.2.2.2 252 j; simpa [BdR] using this
theorem JB_253 {l : Nat} {g : Fg} {tc pl : Int} {m : Mem} (h : JB l g tc pl m) (j : Int) : 0 ≤ m 253 j ∧ m 253 j ≤ pl - 1 := by have := h.2.2.2 253 j; simpa [BdR] using this
theorem JB_254 {l : Nat} {g : Fg} {tc pl : Int} {m : Mem} (h : JB l g tc pl m) (j : Int) : 0 ≤ m 254 j ∧ m 254 j ≤ 9 := by have := h.2.2.2 254 j; simpa [BdR] using this
theorem JB_273 {l : Nat} {g : Fg} {tc pl : Int} {m : Mem} (h : JB l g tc pl m) (j : Int) : 0 ≤ m 273 j ∧ m 273 j ≤ 1000000 := by have := h.2.2.2 273 j; simpa [BdR] using this
theorem JB_274 {l : Nat} {g : Fg} {tc pl : Int} {m : Mem} (h : JB l g tc pl m) (j : Int) : 0 ≤ m 274 j ∧ m 274 j ≤ 1000000 := by have := h.2.2.2 274 j; simpa [BdR] using this
theorem JB_275 {l : Nat} {g : Fg} {tc pl : Int} {m : Mem} (h : JB l g tc pl m) (j : Int) : 0 ≤ m 275 j ∧ m 275 j ≤ 9 := by have := h.2.2.2 275 j; simpa [BdR] using this
theorem JB_278 {l : Nat} {g : Fg} {tc pl : Int} {m : Mem} (h : JB l g tc pl m) (j : Int) : 0 ≤ m 278 j ∧ m 278 j ≤ 4 := by have := h.2.2.2 278 j; simpa [BdR] using this
theorem JB_n {l : Nat} {g : Fg} {tc pl : Int} {m : Mem} (h : JB l g tc pl m) (b j : Int) (hb : b = 258 ∨ b = 259 ∨ b = 269 ∨ b = 287) : RBd pl j (m b j) := by
  have := h.2.2.2 b j
  rcases hb with rfl | rfl | rfl | rfl <;> simpa [BdR] using this
theorem BdR_n {tc pl b j v : Int} (hb : b = 258 ∨ b = 259 ∨ b = 269 ∨ b = 287) (h : RBd pl j v) : BdR tc pl b j v := by
  rcases hb with rfl | rfl | rfl | rfl <;> simpa [BdR] using h
theorem rb_i {pl j v : Int} (h0 : 0 ≤ j) (h1 : j < 52) : RBd pl j v ↔ ((j < 15 → j % 3 = 1 → -1 ≤ v ∧ v ≤ pl - 1) ∧ (15 ≤ j → j < 50 → (j - 15) % 7 = 0 → 0 ≤ v ∧ v ≤ pl - 1) ∧ (15 ≤ j → j < 50 → (j - 15) % 7 = 3 → 0 ≤ v ∧ v ≤ 1) ∧ (15 ≤ j → j < 50 → (j - 15) % 7 = 5 → -1 ≤ v ∧ v ≤ 4)) := by
  unfold RBd
  rw [Int.emod_eq_of_lt h0 h1]
theorem w15_0 {p : Int} (h0 : 0 ≤ p) (h1 : p ≤ 4) : w32 (15 + 7 * p + 0) = 15 + 7 * p := by unfold w32; omega
theorem w15_1 {p : Int} (h0 : 0 ≤ p) (h1 : p ≤ 4) : w32 (15 + 7 * p + 1) = 16 + 7 * p := by unfold w32; omega
theorem w15_3 {p : Int} (h0 : 0 ≤ p) (h1 : p ≤ 4) : w32 (15 + 7 * p + 3) = 18 + 7 * p := by unfold w32; omega
theorem w15_4 {p : Int} (h0 : 0 ≤ p) (h1 : p ≤ 4) : w32 (15 + 7 * p + 4) = 19 + 7 * p := by unfold w32; omega
theorem w15_5 {p : Int} (h0 : 0 ≤ p) (h1 : p ≤ 4) : w32 (15 + 7 * p + 5) = 20 + 7 * p := by unfold w32; omega
theorem w15_6 {p : Int} (h0 : 0 ≤ p) (h1 : p ≤ 4) : w32 (15 + 7 * p + 6) = 21 + 7 * p := by unfold w32; omega
theorem w3_0 {q : Int} (h0 : 0 ≤ q) (h1 : q ≤ 4) : w32 (w32 (3 * q) + 0) = 3 * q := by unfold w32; omega
theorem w3_1 {q : Int} (h0 : 0 ≤ q) (h1 : q ≤ 4) : w32 (w32 (3 * q) + 1) = 3 * q + 1 := by unfold w32; omega
theorem w3_2 {q : Int} (h0 : 0 ≤ q) (h1 : q ≤ 4) : w32 (w32 (3 * q) + 2) = 3 * q + 2 := by unfold w32; omega
theorem JB_p {l : Nat} {g : Fg} {tc pl : Int} {m : Mem} (h : JB l g tc pl m) (p : Int) (b : Int) (hb : b = 258 ∨ b = 259 ∨ b = 269 ∨ b = 287) : 0 ≤ p → p ≤ 4 → 0 ≤ m b (15 + 7 * p) ∧ m b (15 + 7 * p) ≤ pl - 1 ∧ 0 ≤ m b (18 + 7 * p) ∧ m b (18 + 7 * p) ≤ 1 ∧ -1 ≤ m b (20 + 7 * p) ∧ m b (20 + 7 * p) ≤ 4 := by
  intro h0 h1
  have a1 := JB_n h b (15 + 7 * p) hb
  have a2 := JB_n h b (18 + 7 * p) hb
  have a3 := JB_n h b (20 + 7 * p) hb
  rw [rb_i (by omega) (by omega)] at a1 a2 a3
  obtain ⟨-, c1, -, -⟩ := a1
  obtain ⟨-, -, c2, -⟩ := a2
  obtain ⟨-, -, -, c3⟩ := a3
  have d1 := c1 (by omega) (by omega) (by omega)
  have d2 := c2 (by omega) (by omega) (by omega)
  have d3 := c3 (by omega) (by omega) (by omega)
  exact ⟨d1.1, d1.2, d2.1, d2.2, d3.1, d3.2⟩
theorem JB_q {l : Nat} {g : Fg} {tc pl : Int} {m : Mem} (h : JB l g tc pl m) (q : Int) (b : Int) (hb : b = 258 ∨ b = 259 ∨ b = 269 ∨ b = 287) : 0 ≤ q → q ≤ 4 → -1 ≤ m b (3 * q + 1) ∧ m b (3 * q + 1) ≤ pl - 1 := by
  intro h0 h1
  have a1 := JB_n h b (3 * q + 1) hb
  rw [rb_i (by omega) (by omega)] at a1
  exact a1.1 (by omega) (by omega)
abbrev JR_p {l : Nat} {g : Fg} {tc pl : Int} {m : Mem} (h : JR l g tc pl m) (p : Int) := JB_p h.1 p 258 (.inl rfl)
abbrev JR_t {l : Nat} {g : Fg} {tc pl : Int} {m : Mem} (h : JR l g tc pl m) (p : Int) := JB_p h.1 p 259 (.inr (.inl rfl))
abbrev JR_q {l : Nat} {g : Fg} {tc pl : Int} {m : Mem} (h : JR l g tc pl m) (q : Int) := JB_q h.1 q 258 (.inl rfl)
abbrev JR_252 {l : Nat} {g : Fg} {tc pl : Int} {m : Mem} (h : JR l g tc pl m) (j : Int) := JB_252 h.1 j
abbrev JR_253 {l : Nat} {g : Fg} {tc pl : Int} {m : Mem} (h : JR l g tc pl m) (j : Int) := JB_253 h.1 j
abbrev JR_254 {l : Nat} {g : Fg} {tc pl : Int} {m : Mem} (h : JR l g tc pl m) (j : Int) := JB_254 h.1 j
abbrev JR_273 {l : Nat} {g : Fg} {tc pl : Int} {m : Mem} (h : JR l g tc pl m) (j : Int) := JB_273 h.1 j
abbrev JR_274 {l : Nat} {g : Fg} {tc pl : Int} {m : Mem} (h : JR l g tc pl m) (j : Int) := JB_274 h.1 j
abbrev JR_275 {l : Nat} {g : Fg} {tc pl : Int} {m : Mem} (h : JR l g tc pl m) (j : Int) := JB_275 h.1 j
abbrev JR_278 {l : Nat} {g : Fg} {tc pl : Int} {m : Mem} (h : JR l g tc pl m) (j : Int) := JB_278 h.1 j
theorem rb_at {pl p v : Int} (h : 0 ≤ p ∧ p ≤ 4) (hv : 0 ≤ v ∧ v ≤ pl - 1) : RBd pl (15 + 7 * p) v := by
  rw [rb_i (by omega) (by omega)]; omega
theorem rb_us {pl p v : Int} (h : 0 ≤ p ∧ p ≤ 4) (hv : 0 ≤ v ∧ v ≤ 1) : RBd pl (18 + 7 * p) v := by
  rw [rb_i (by omega) (by omega)]; omega
theorem rb_ho {pl p v : Int} (h : 0 ≤ p ∧ p ≤ 4) (hv : -1 ≤ v ∧ v ≤ 4) : RBd pl (20 + 7 * p) v := by
  rw [rb_i (by omega) (by omega)]; omega
theorem rb_on {pl q v : Int} (h : 0 ≤ q ∧ q ≤ 4) (hv : -1 ≤ v ∧ v ≤ pl - 1) : RBd pl (3 * q + 1) v := by
  rw [rb_i (by omega) (by omega)]; omega
theorem JR_1 {l : Nat} {g : Fg} {tc pl : Int} {m : Mem} (h : JR l g tc pl m) : JB l g tc pl m := h.1
theorem rb_free {pl j v : Int} (h : 0 ≤ j ∧ j < 52) (h1 : j < 15 → j % 3 ≠ 1) (h2 : 15 ≤ j → j < 50 → (j - 15) % 7 ≠ 0 ∧ (j - 15) % 7 ≠ 3 ∧ (j - 15) % 7 ≠ 5) : RBd pl j v := by
  rw [rb_i h.1 h.2]; omega
theorem upm_self (m : Mem) (a j : Int) : upm m a j (m a j) = m := by
  funext x y; unfold upm; split
  · rename_i h; rw [h.1, h.2]
  · rfl
theorem upm_same (m : Mem) (a j v w : Int) : upm (upm m a j v) a j w = upm m a j w := by
  funext x y; unfold upm; split <;> simp_all
/-- what queries keep: what is now, and the way's length -/
def JW (l : Nat) (g : Fg) (tc pl : Int) (N : Int → Int) (W : Int) (m : Mem) : Prop := JR l g tc pl m ∧ m 258 = N ∧ m 249 53 = W
abbrev frw (a j : Int) : Prop := a ≠ 258 ∧ (a = 249 → j ≠ 53)
theorem JW_up {l : Nat} {g : Fg} {tc pl W : Int} {N : Int → Int} {m : Mem} {a j v : Int} (h : JW l g tc pl N W m) (ha : ¬ frR l a j) (hf : frc a j) (hw : frw a j) (hv : BdR tc pl a j v) : JW l g tc pl N W (upm m a j v) := by
  refine ⟨JR_up h.1 ha hf hv, ?_, ?_⟩
  · have e5 : upm m a j v 258 = m 258 := by funext y; unfold upm; rw [if_neg]; rintro ⟨h1, h2⟩; exact hw.1 h1.symm
    rw [e5]; exact h.2.1
  · have e3 : upm m a j v 249 53 = m 249 53 := by unfold upm; rw [if_neg]; rintro ⟨h1, h2⟩; exact hw.2 h1.symm h2.symm
    rw [e3]; exact h.2.2
theorem JW_l {l : Nat} {g : Fg} {tc pl W : Int} {N : Int → Int} {m : Mem} (h : JW l g tc pl N W m) : LVR l g := JR_l h.1
theorem JW_of {l l' : Nat} {g : Fg} {tc pl W : Int} {N : Int → Int} {m : Mem} (hL : LVR l g) (h : JW l g tc pl N W m) (hl : l ≤ l') : JW l' g tc pl N W m := ⟨JR_of hL h.1 hl, h.2⟩
theorem JW_dn {l l' : Nat} {g : Fg} {tc pl W : Int} {N : Int → Int} {m : Mem} (hL : LVR l g) (h : JW l' g tc pl N W m) : JW l g tc pl N W m := ⟨JR_dn hL h.1, h.2⟩
theorem JW_s {l : Nat} {g : Fg} {tc pl W : Int} {N : Int → Int} {m : Mem} (h : JW l g tc pl N W m) : m 249 18 = tc ∧ 0 ≤ tc ∧ tc ≤ 80 ∧ 1 ≤ pl ∧ pl ≤ 10 ∧ 0 ≤ m 249 1 ∧ m 249 1 ≤ 24 ∧ 0 ≤ m 249 3 ∧ m 249 3 ≤ pl ∧ 0 ≤ m 249 4 ∧ m 249 4 ≤ 14 ∧ 0 ≤ m 249 5 ∧ m 249 5 ≤ 5 ∧ 0 ≤ m 249 6 ∧ m 249 6 ≤ 5 ∧ 0 ≤ m 249 32 ∧ m 249 32 ≤ 80 ∧ 0 ≤ m 249 39 ∧ m 249 39 ≤ 15 ∧ 0 ≤ W ∧ W ≤ 10 ∧ 0 ≤ m 249 62 ∧ m 249 62 ≤ 8 ∧ 0 ≤ m 249 66 ∧ m 249 66 ≤ 10 ∧ 0 ≤ m 249 44 ∧ m 249 44 ≤ 60 ∧ (m 249 3 = pl ∨ m 249 3 = 0 ∧ pl = 1) ∧ m 249 53 = W := by
  have h1 := JR_s h.1
  have h2 := h.2.2
  omega
theorem JW_p {l : Nat} {g : Fg} {tc pl W : Int} {N : Int → Int} {m : Mem} (h : JW l g tc pl N W m) (p : Int) : 0 ≤ p → p ≤ 4 → 0 ≤ N (15 + 7 * p) ∧ N (15 + 7 * p) ≤ pl - 1 ∧ 0 ≤ N (18 + 7 * p) ∧ N (18 + 7 * p) ≤ 1 ∧ -1 ≤ N (20 + 7 * p) ∧ N (20 + 7 * p) ≤ 4 := by
  have := JR_p h.1 p
  rw [h.2.1] at this
  exact this
theorem JW_q {l : Nat} {g : Fg} {tc pl W : Int} {N : Int → Int} {m : Mem} (h : JW l g tc pl N W m) (q : Int) : 0 ≤ q → q ≤ 4 → -1 ≤ N (3 * q + 1) ∧ N (3 * q + 1) ≤ pl - 1 := by
  have := JR_q h.1 q
  rw [h.2.1] at this
  exact this
theorem JW_mk {l : Nat} {g : Fg} {tc pl : Int} {m : Mem} (h : JR l g tc pl m) : JW l g tc pl (m 258) (m 249 53) m := ⟨h, rfl, rfl⟩
theorem JW_1 {l : Nat} {g : Fg} {tc pl W : Int} {N : Int → Int} {m : Mem} (h : JW l g tc pl N W m) : JR l g tc pl m := h.1
theorem JW_2 {l : Nat} {g : Fg} {tc pl W : Int} {N : Int → Int} {m : Mem} (h : JW l g tc pl N W m) : m 258 = N := h.2.1
theorem upm_58 {m : Mem} {a j v : Int} (h : 258 ≠ a) : upm m a j v 258 = m 258 := by
  funext y; unfold upm; rw [if_neg]; rintro ⟨h1, h2⟩; exact h h1
theorem upm_app (f : Mem) (a j v x y : Int) : upm f a j v x y = if x = a ∧ y = j then v else f x y := rfl
theorem upm_comm {m : Mem} {a j v b i w : Int} (h : ¬ (a = b ∧ j = i)) : upm (upm m a j v) b i w = upm (upm m b i w) a j v := by
  funext x y
  simp only [upm_app]
  split <;> split <;> first | rfl | (exfalso; omega)
theorem rb_eq {pl i j v : Int} (h : RBd pl i v) (e : j % 52 = i % 52) : RBd pl j v := by
  unfold RBd at *
  rw [e]; exact h
theorem JW_n {l : Nat} {g : Fg} {tc pl W : Int} {N : Int → Int} {m : Mem} (h : JW l g tc pl N W m) (j : Int) : RBd pl j (N j) := by
  have := JB_n h.1.1 258 j (.inl rfl)
  rw [h.2.1] at this
  exact this

theorem p_169 {d : Nat} {e : Int} {m : Mem} {Q : Int → Sto → Prop} {a b c : Int} (hq : ∀ v, (v = 1 ∧ b ≤ a ∧ a ≤ c ∨ v = 0 ∧ (a < b ∨ c < a)) → Q v (S9 e m)) : Cl (d + 1) 169 [a, b, c] Q (S9 e m) := by
  simp only [cl_169, runB, B169, ma_169, rho_111, w_cst, w_ldi, w_ldj, w_lda, w_ljk, w_ldk, w_ldw, w_ldk2, w_ldt, w_ldtw, w_neg, w_cvb, w_cvs, w_cvc, w_cvj, w_add, w_sub, w_mul, w_ban, w_bor, w_bxo, w_shl, w_shr, w_ush, w_dvi, w_rmi, w_aldi, w_aldj, w_aldz, w_aldc, w_alda, w_ite, w_cmp, w_cmj, w_cz, w_cnot, w_cand, w_cor, w_nil, w_cons, w_cvi, w_csta, w_cvt, w_cvv, w_csv, w_cpy, w_seq, w_sbr, w_sbn, w_brk, w_ifs, w_ifx, w_ife, w_wk, w_rets, w_rtv, w_thr, w_asi, w_asj, w_asa, w_inc, w_exs, w_asti, w_astj, w_astz, w_astc, w_aopadd, w_aopsub, w_sw, if_true, if_false, ↓reduceIte, hdl_c, S9_1, S9_m, bud9, live9, inb9, wrn, wr9_14, wr9_15, wr9_16, wr9_17, tq9_14, tq9_15, tq9_16, tq9_17, tq_0, tq_1, tq_3, upr_rl, rl_0, rl_1, rl_2, rl_3, rl_4, rl_5, rl_6, rl_7, rl_8, rl_9, rl_10, rl_11, rl_12, rl_13, sp_0, sp_1, sp_2, sp_3, sp_4, sp_5, sp_6, sp_7, sp_8, sp_9, sp_10, sp_11, sp_12, sp_13, se_0, se_1, se_2, se_3, se_4, se_5, se_6, se_7, se_8, se_9, se_10, se_11, se_12, se_13, sem_0, sem_1, sem_2, sem_3, sem_4, sem_5, sr_249_16, sr_249_50, sr_249_43, sr_249_64, sr_249_9, sr_249_54, sr_249_40, sr_249_14, sr_249_68, sr_249_17, sr_249_57, sr_249_10, sr_249_23, sr_249_13, sr_249_63, sr_249_31, sr_249_51, sr_249_24, sr_249_69, sr_249_8, sr_249_30, sr_249_2, sr_249_71, sr_249_22, kl9_249, sr_249_67, sr_249_55, sr_249_41, sr_249_35, sr_249_11, sr_249_12, sr_249_52, sr_249_42, kc_249, sr_249_34, sr_249_70, sr_249_61, sr_249_58, sr_249_15, sr_249_25, List.getD_cons_zero, List.getD_cons_succ, Bool.false_eq_true, wrn3, wrn1, cpmS, cpok9]
  repeat' (first
    | (with_reducible exact True.intro)
    | (with_reducible rfl)
    | (with_reducible refine And.intro ?_ ?_)
    | intro _
    | (with_reducible refine hq _ ?_)
    | omega
    | (with_reducible contradiction)
    | (unfold w32; omega)
    | (simp (disch := omega) only [w32_eq]; omega)
    | (with_reducible show (_ : Int) ≤ _; simp [upm] <;> (first | omega | (unfold w32; omega)))
    | (with_reducible show (_ : Int) < _; simp [upm] <;> (first | omega | (unfold w32; omega))))

theorem p_178 {d : Nat} {e : Int} {m : Mem} {Q : Int → Sto → Prop} {a : Int} (hq : ∀ v, (v = 0 ∧ a = 0 ∨ v = 1 ∧ a ≠ 0) → Q v (S9 e m)) : Cl (d + 1) 178 [a] Q (S9 e m) := by
  simp only [cl_178, runB, B178, ma_178, rho_0, w_cst, w_ldi, w_ldj, w_lda, w_ljk, w_ldk, w_ldw, w_ldk2, w_ldt, w_ldtw, w_neg, w_cvb, w_cvs, w_cvc, w_cvj, w_add, w_sub, w_mul, w_ban, w_bor, w_bxo, w_shl, w_shr, w_ush, w_dvi, w_rmi, w_aldi, w_aldj, w_aldz, w_aldc, w_alda, w_ite, w_cmp, w_cmj, w_cz, w_cnot, w_cand, w_cor, w_nil, w_cons, w_cvi, w_csta, w_cvt, w_cvv, w_csv, w_cpy, w_seq, w_sbr, w_sbn, w_brk, w_ifs, w_ifx, w_ife, w_wk, w_rets, w_rtv, w_thr, w_asi, w_asj, w_asa, w_inc, w_exs, w_asti, w_astj, w_astz, w_astc, w_aopadd, w_aopsub, w_sw, if_true, if_false, ↓reduceIte, hdl_c, S9_1, S9_m, bud9, live9, inb9, wrn, wr9_14, wr9_15, wr9_16, wr9_17, tq9_14, tq9_15, tq9_16, tq9_17, tq_0, tq_1, tq_3, upr_rl, rl_0, rl_1, rl_2, rl_3, rl_4, rl_5, rl_6, rl_7, rl_8, rl_9, rl_10, rl_11, rl_12, rl_13, sp_0, sp_1, sp_2, sp_3, sp_4, sp_5, sp_6, sp_7, sp_8, sp_9, sp_10, sp_11, sp_12, sp_13, se_0, se_1, se_2, se_3, se_4, se_5, se_6, se_7, se_8, se_9, se_10, se_11, se_12, se_13, sem_0, sem_1, sem_2, sem_3, sem_4, sem_5, sr_249_16, sr_249_50, sr_249_43, sr_249_64, sr_249_9, sr_249_54, sr_249_40, sr_249_14, sr_249_68, sr_249_17, sr_249_57, sr_249_10, sr_249_23, sr_249_13, sr_249_63, sr_249_31, sr_249_51, sr_249_24, sr_249_69, sr_249_8, sr_249_30, sr_249_2, sr_249_71, sr_249_22, kl9_249, sr_249_67, sr_249_55, sr_249_41, sr_249_35, sr_249_11, sr_249_12, sr_249_52, sr_249_42, kc_249, sr_249_34, sr_249_70, sr_249_61, sr_249_58, sr_249_15, sr_249_25, List.getD_cons_zero, List.getD_cons_succ, Bool.false_eq_true, wrn3, wrn1, cpmS, cpok9]
  repeat' (first
    | (with_reducible exact True.intro)
    | (with_reducible rfl)
    | (with_reducible refine And.intro ?_ ?_)
    | intro _
    | (with_reducible refine hq _ ?_)
    | omega
    | (with_reducible contradiction)
    | (unfold w32; omega)
    | (simp (disch := omega) only [w32_eq]; omega)
    | (with_reducible show (_ : Int) ≤ _; simp [upm] <;> (first | omega | (unfold w32; omega)))
    | (with_reducible show (_ : Int) < _; simp [upm] <;> (first | omega | (unfold w32; omega))))

theorem p_188 {d : Nat} {e : Int} {m : Mem} {Q : Int → Sto → Prop} {a : Int} (ha : 0 ≤ a ∧ a ≤ 4) (hq : Q (15 + 7 * a) (S9 e m)) : Cl (d + 1) 188 [a] Q (S9 e m) := by
  have e1 : w32 (15 + w32 (7 * a)) = 15 + 7 * a := by unfold w32; omega
  simp only [cl_188, runB, B188, ma_188, rho_0, w_cst, w_ldi, w_ldj, w_lda, w_ljk, w_ldk, w_ldw, w_ldk2, w_ldt, w_ldtw, w_neg, w_cvb, w_cvs, w_cvc, w_cvj, w_add, w_sub, w_mul, w_ban, w_bor, w_bxo, w_shl, w_shr, w_ush, w_dvi, w_rmi, w_aldi, w_aldj, w_aldz, w_aldc, w_alda, w_ite, w_cmp, w_cmj, w_cz, w_cnot, w_cand, w_cor, w_nil, w_cons, w_cvi, w_csta, w_cvt, w_cvv, w_csv, w_cpy, w_seq, w_sbr, w_sbn, w_brk, w_ifs, w_ifx, w_ife, w_wk, w_rets, w_rtv, w_thr, w_asi, w_asj, w_asa, w_inc, w_exs, w_asti, w_astj, w_astz, w_astc, w_aopadd, w_aopsub, w_sw, if_true, if_false, ↓reduceIte, hdl_c, S9_1, S9_m, bud9, live9, inb9, wrn, wr9_14, wr9_15, wr9_16, wr9_17, tq9_14, tq9_15, tq9_16, tq9_17, tq_0, tq_1, tq_3, upr_rl, rl_0, rl_1, rl_2, rl_3, rl_4, rl_5, rl_6, rl_7, rl_8, rl_9, rl_10, rl_11, rl_12, rl_13, sp_0, sp_1, sp_2, sp_3, sp_4, sp_5, sp_6, sp_7, sp_8, sp_9, sp_10, sp_11, sp_12, sp_13, se_0, se_1, se_2, se_3, se_4, se_5, se_6, se_7, se_8, se_9, se_10, se_11, se_12, se_13, sem_0, sem_1, sem_2, sem_3, sem_4, sem_5, sr_249_16, sr_249_50, sr_249_43, sr_249_64, sr_249_9, sr_249_54, sr_249_40, sr_249_14, sr_249_68, sr_249_17, sr_249_57, sr_249_10, sr_249_23, sr_249_13, sr_249_63, sr_249_31, sr_249_51, sr_249_24, sr_249_69, sr_249_8, sr_249_30, sr_249_2, sr_249_71, sr_249_22, kl9_249, sr_249_67, sr_249_55, sr_249_41, sr_249_35, sr_249_11, sr_249_12, sr_249_52, sr_249_42, kc_249, sr_249_34, sr_249_70, sr_249_61, sr_249_58, sr_249_15, sr_249_25, List.getD_cons_zero, List.getD_cons_succ, Bool.false_eq_true, wrn3, wrn1, cpmS, cpok9, e1]
  repeat' (first
    | (with_reducible exact True.intro)
    | (with_reducible rfl)
    | (with_reducible refine And.intro ?_ ?_)
    | intro _
    | exact hq
    | omega
    | (with_reducible contradiction)
    | (unfold w32; omega)
    | (simp (disch := omega) only [w32_eq]; omega)
    | (with_reducible show (_ : Int) ≤ _; simp [upm] <;> (first | omega | (unfold w32; omega)))
    | (with_reducible show (_ : Int) < _; simp [upm] <;> (first | omega | (unfold w32; omega))))

theorem p_199 {d : Nat} {e : Int} {m : Mem} {Q : Int → Sto → Prop} {a b : Int} (hq : ∀ v, (v = 1 ∧ iand (ishr a b) 1 = 1 ∨ v = 0 ∧ iand (ishr a b) 1 ≠ 1) → Q v (S9 e m)) : Cl (d + 1) 199 [a, b] Q (S9 e m) := by
  simp only [cl_199, runB, B199, ma_199, rho_00, w_cst, w_ldi, w_ldj, w_lda, w_ljk, w_ldk, w_ldw, w_ldk2, w_ldt, w_ldtw, w_neg, w_cvb, w_cvs, w_cvc, w_cvj, w_add, w_sub, w_mul, w_ban, w_bor, w_bxo, w_shl, w_shr, w_ush, w_dvi, w_rmi, w_aldi, w_aldj, w_aldz, w_aldc, w_alda, w_ite, w_cmp, w_cmj, w_cz, w_cnot, w_cand, w_cor, w_nil, w_cons, w_cvi, w_csta, w_cvt, w_cvv, w_csv, w_cpy, w_seq, w_sbr, w_sbn, w_brk, w_ifs, w_ifx, w_ife, w_wk, w_rets, w_rtv, w_thr, w_asi, w_asj, w_asa, w_inc, w_exs, w_asti, w_astj, w_astz, w_astc, w_aopadd, w_aopsub, w_sw, if_true, if_false, ↓reduceIte, hdl_c, S9_1, S9_m, bud9, live9, inb9, wrn, wr9_14, wr9_15, wr9_16, wr9_17, tq9_14, tq9_15, tq9_16, tq9_17, tq_0, tq_1, tq_3, upr_rl, rl_0, rl_1, rl_2, rl_3, rl_4, rl_5, rl_6, rl_7, rl_8, rl_9, rl_10, rl_11, rl_12, rl_13, sp_0, sp_1, sp_2, sp_3, sp_4, sp_5, sp_6, sp_7, sp_8, sp_9, sp_10, sp_11, sp_12, sp_13, se_0, se_1, se_2, se_3, se_4, se_5, se_6, se_7, se_8, se_9, se_10, se_11, se_12, se_13, sem_0, sem_1, sem_2, sem_3, sem_4, sem_5, sr_249_16, sr_249_50, sr_249_43, sr_249_64, sr_249_9, sr_249_54, sr_249_40, sr_249_14, sr_249_68, sr_249_17, sr_249_57, sr_249_10, sr_249_23, sr_249_13, sr_249_63, sr_249_31, sr_249_51, sr_249_24, sr_249_69, sr_249_8, sr_249_30, sr_249_2, sr_249_71, sr_249_22, kl9_249, sr_249_67, sr_249_55, sr_249_41, sr_249_35, sr_249_11, sr_249_12, sr_249_52, sr_249_42, kc_249, sr_249_34, sr_249_70, sr_249_61, sr_249_58, sr_249_15, sr_249_25, List.getD_cons_zero, List.getD_cons_succ, Bool.false_eq_true, wrn3, wrn1, cpmS, cpok9]
  repeat' (first
    | (with_reducible exact True.intro)
    | (with_reducible rfl)
    | (with_reducible refine And.intro ?_ ?_)
    | intro _
    | (with_reducible refine hq _ ?_)
    | omega
    | (with_reducible contradiction)
    | (unfold w32; omega)
    | (simp (disch := omega) only [w32_eq]; omega)
    | (with_reducible show (_ : Int) ≤ _; simp [upm] <;> (first | omega | (unfold w32; omega)))
    | (with_reducible show (_ : Int) < _; simp [upm] <;> (first | omega | (unfold w32; omega))))

theorem p_209 {d : Nat} {e : Int} {m : Mem} {Q : Int → Sto → Prop} {a b c : Int} (hq : ∀ v, True → Q v (S9 e m)) : Cl (d + 2) 209 [a, b, c] Q (S9 e m) := by
  simp only [cl_209, runB, B209, ma_209, rho_000, wc_178, w_cst, w_ldi, w_ldj, w_lda, w_ljk, w_ldk, w_ldw, w_ldk2, w_ldt, w_ldtw, w_neg, w_cvb, w_cvs, w_cvc, w_cvj, w_add, w_sub, w_mul, w_ban, w_bor, w_bxo, w_shl, w_shr, w_ush, w_dvi, w_rmi, w_aldi, w_aldj, w_aldz, w_aldc, w_alda, w_ite, w_cmp, w_cmj, w_cz, w_cnot, w_cand, w_cor, w_nil, w_cons, w_cvi, w_csta, w_cvt, w_cvv, w_csv, w_cpy, w_seq, w_sbr, w_sbn, w_brk, w_ifs, w_ifx, w_ife, w_wk, w_rets, w_rtv, w_thr, w_asi, w_asj, w_asa, w_inc, w_exs, w_asti, w_astj, w_astz, w_astc, w_aopadd, w_aopsub, w_sw, if_true, if_false, ↓reduceIte, hdl_c, S9_1, S9_m, bud9, live9, inb9, wrn, wr9_14, wr9_15, wr9_16, wr9_17, tq9_14, tq9_15, tq9_16, tq9_17, tq_0, tq_1, tq_3, upr_rl, rl_0, rl_1, rl_2, rl_3, rl_4, rl_5, rl_6, rl_7, rl_8, rl_9, rl_10, rl_11, rl_12, rl_13, sp_0, sp_1, sp_2, sp_3, sp_4, sp_5, sp_6, sp_7, sp_8, sp_9, sp_10, sp_11, sp_12, sp_13, se_0, se_1, se_2, se_3, se_4, se_5, se_6, se_7, se_8, se_9, se_10, se_11, se_12, se_13, sem_0, sem_1, sem_2, sem_3, sem_4, sem_5, sr_249_16, sr_249_50, sr_249_43, sr_249_64, sr_249_9, sr_249_54, sr_249_40, sr_249_14, sr_249_68, sr_249_17, sr_249_57, sr_249_10, sr_249_23, sr_249_13, sr_249_63, sr_249_31, sr_249_51, sr_249_24, sr_249_69, sr_249_8, sr_249_30, sr_249_2, sr_249_71, sr_249_22, kl9_249, sr_249_67, sr_249_55, sr_249_41, sr_249_35, sr_249_11, sr_249_12, sr_249_52, sr_249_42, kc_249, sr_249_34, sr_249_70, sr_249_61, sr_249_58, sr_249_15, sr_249_25, List.getD_cons_zero, List.getD_cons_succ, Bool.false_eq_true, wrn3, wrn1, cpmS, cpok9, swW_c, swW_n, List.mem_singleton, List.mem_cons, List.mem_nil_iff]
  repeat' (first
    | (with_reducible exact True.intro)
    | (with_reducible rfl)
    | (with_reducible refine And.intro ?_ ?_)
    | intro _
    | (with_reducible refine p_178 (fun v9 h9 => ?_); simp only [hdl_c, S9_1, S9_m, bud9, live9, inb9, wrn, wr9_14, wr9_15, wr9_16, wr9_17, tq9_14, tq9_15, tq9_16, tq9_17, tq_0, tq_1, tq_3, upr_rl, rl_0, rl_1, rl_2, rl_3, rl_4, rl_5, rl_6, rl_7, rl_8, rl_9, rl_10, rl_11, rl_12, rl_13, sp_0, sp_1, sp_2, sp_3, sp_4, sp_5, sp_6, sp_7, sp_8, sp_9, sp_10, sp_11, sp_12, sp_13, se_0, se_1, se_2, se_3, se_4, se_5, se_6, se_7, se_8, se_9, se_10, se_11, se_12, se_13, sem_0, sem_1, sem_2, sem_3, sem_4, sem_5, List.getD_cons_zero, List.getD_cons_succ, Bool.false_eq_true, wrn3, wrn1, cpmS, cpok9, if_true, if_false, ↓reduceIte, wc_178, sr_249_16, sr_249_50, sr_249_43, sr_249_64, sr_249_9, sr_249_54, sr_249_40, sr_249_14, sr_249_68, sr_249_17, sr_249_57, sr_249_10, sr_249_23, sr_249_13, sr_249_63, sr_249_31, sr_249_51, sr_249_24, sr_249_69, sr_249_8, sr_249_30, sr_249_2, sr_249_71, sr_249_22, kl9_249, sr_249_67, sr_249_55, sr_249_41, sr_249_35, sr_249_11, sr_249_12, sr_249_52, sr_249_42, kc_249, sr_249_34, sr_249_70, sr_249_61, sr_249_58, sr_249_15, sr_249_25, swW_c, swW_n, List.mem_singleton, List.mem_cons, List.mem_nil_iff])
    | (with_reducible refine hq _ ?_)
    | omega
    | (with_reducible contradiction)
    | (unfold w32; omega)
    | (simp (disch := omega) only [w32_eq]; omega)
    | (with_reducible show (_ : Int) ≤ _; simp [upm] <;> (first | omega | (unfold w32; omega)))
    | (with_reducible show (_ : Int) < _; simp [upm] <;> (first | omega | (unfold w32; omega))))

theorem p_194 {d : Nat} {e : Int} {m : Mem} {Q : Int → Sto → Prop} {a : Int} (h0 : 0 ≤ m 249 3 ∧ m 249 3 ≤ 10) (hq : ∀ v, (v = 1 ∧ 0 ≤ a ∧ a < m 249 3 ∨ v = 0 ∧ (a < 0 ∨ m 249 3 ≤ a)) → Q v (S9 e m)) : Cl (d + 2) 194 [249, a] Q (S9 e m) := by
  have e1 : w32 (m 249 3 - 1) = m 249 3 - 1 := by unfold w32; omega
  simp only [cl_194, runB, B194, ma_194, rho_20, wf_13_133, wc_169, w_cst, w_ldi, w_ldj, w_lda, w_ljk, w_ldk, w_ldw, w_ldk2, w_ldt, w_ldtw, w_neg, w_cvb, w_cvs, w_cvc, w_cvj, w_add, w_sub, w_mul, w_ban, w_bor, w_bxo, w_shl, w_shr, w_ush, w_dvi, w_rmi, w_aldi, w_aldj, w_aldz, w_aldc, w_alda, w_ite, w_cmp, w_cmj, w_cz, w_cnot, w_cand, w_cor, w_nil, w_cons, w_cvi, w_csta, w_cvt, w_cvv, w_csv, w_cpy, w_seq, w_sbr, w_sbn, w_brk, w_ifs, w_ifx, w_ife, w_wk, w_rets, w_rtv, w_thr, w_asi, w_asj, w_asa, w_inc, w_exs, w_asti, w_astj, w_astz, w_astc, w_aopadd, w_aopsub, w_sw, if_true, if_false, ↓reduceIte, hdl_c, S9_1, S9_m, bud9, live9, inb9, wrn, wr9_14, wr9_15, wr9_16, wr9_17, tq9_14, tq9_15, tq9_16, tq9_17, tq_0, tq_1, tq_3, upr_rl, rl_0, rl_1, rl_2, rl_3, rl_4, rl_5, rl_6, rl_7, rl_8, rl_9, rl_10, rl_11, rl_12, rl_13, sp_0, sp_1, sp_2, sp_3, sp_4, sp_5, sp_6, sp_7, sp_8, sp_9, sp_10, sp_11, sp_12, sp_13, se_0, se_1, se_2, se_3, se_4, se_5, se_6, se_7, se_8, se_9, se_10, se_11, se_12, se_13, sem_0, sem_1, sem_2, sem_3, sem_4, sem_5, sr_249_16, sr_249_50, sr_249_43, sr_249_64, sr_249_9, sr_249_54, sr_249_40, sr_249_14, sr_249_68, sr_249_17, sr_249_57, sr_249_10, sr_249_23, sr_249_13, sr_249_63, sr_249_31, sr_249_51, sr_249_24, sr_249_69, sr_249_8, sr_249_30, sr_249_2, sr_249_71, sr_249_22, kl9_249, sr_249_67, sr_249_55, sr_249_41, sr_249_35, sr_249_11, sr_249_12, sr_249_52, sr_249_42, kc_249, sr_249_34, sr_249_70, sr_249_61, sr_249_58, sr_249_15, sr_249_25, List.getD_cons_zero, List.getD_cons_succ, Bool.false_eq_true, wrn3, wrn1, cpmS, cpok9, e1]
  repeat' (first
    | (with_reducible exact True.intro)
    | (with_reducible rfl)
    | (with_reducible refine And.intro ?_ ?_)
    | intro _
    | (with_reducible refine p_169 (fun v9 h9 => ?_); simp only [hdl_c, S9_1, S9_m, bud9, live9, inb9, wrn, wr9_14, wr9_15, wr9_16, wr9_17, tq9_14, tq9_15, tq9_16, tq9_17, tq_0, tq_1, tq_3, upr_rl, rl_0, rl_1, rl_2, rl_3, rl_4, rl_5, rl_6, rl_7, rl_8, rl_9, rl_10, rl_11, rl_12, rl_13, sp_0, sp_1, sp_2, sp_3, sp_4, sp_5, sp_6, sp_7, sp_8, sp_9, sp_10, sp_11, sp_12, sp_13, se_0, se_1, se_2, se_3, se_4, se_5, se_6, se_7, se_8, se_9, se_10, se_11, se_12, se_13, sem_0, sem_1, sem_2, sem_3, sem_4, sem_5, List.getD_cons_zero, List.getD_cons_succ, Bool.false_eq_true, wrn3, wrn1, cpmS, cpok9, if_true, if_false, ↓reduceIte, wc_169, sr_249_16, sr_249_50, sr_249_43, sr_249_64, sr_249_9, sr_249_54, sr_249_40, sr_249_14, sr_249_68, sr_249_17, sr_249_57, sr_249_10, sr_249_23, sr_249_13, sr_249_63, sr_249_31, sr_249_51, sr_249_24, sr_249_69, sr_249_8, sr_249_30, sr_249_2, sr_249_71, sr_249_22, kl9_249, sr_249_67, sr_249_55, sr_249_41, sr_249_35, sr_249_11, sr_249_12, sr_249_52, sr_249_42, kc_249, sr_249_34, sr_249_70, sr_249_61, sr_249_58, sr_249_15, sr_249_25, e1])
    | (with_reducible refine hq _ ?_)
    | omega
    | (with_reducible contradiction)
    | (unfold w32; omega)
    | (simp (disch := omega) only [w32_eq]; omega)
    | (with_reducible show (_ : Int) ≤ _; simp [upm] <;> (first | omega | (unfold w32; omega)))
    | (with_reducible show (_ : Int) < _; simp [upm] <;> (first | omega | (unfold w32; omega))))

theorem p_201 {d : Nat} {e : Int} {m : Mem} {Q : Int → Sto → Prop} {a : Int} (h0 : 0 ≤ m 249 5 ∧ m 249 5 ≤ 5) (hq : ∀ v, (v = 1 ∧ 0 ≤ a ∧ a < m 249 5 ∨ v = 0 ∧ (a < 0 ∨ m 249 5 ≤ a)) → Q v (S9 e m)) : Cl (d + 2) 201 [249, a] Q (S9 e m) := by
  have e1 : w32 (m 249 5 - 1) = m 249 5 - 1 := by unfold w32; omega
  simp only [cl_201, runB, B201, ma_201, rho_20, wf_13_140, wc_169, w_cst, w_ldi, w_ldj, w_lda, w_ljk, w_ldk, w_ldw, w_ldk2, w_ldt, w_ldtw, w_neg, w_cvb, w_cvs, w_cvc, w_cvj, w_add, w_sub, w_mul, w_ban, w_bor, w_bxo, w_shl, w_shr, w_ush, w_dvi, w_rmi, w_aldi, w_aldj, w_aldz, w_aldc, w_alda, w_ite, w_cmp, w_cmj, w_cz, w_cnot, w_cand, w_cor, w_nil, w_cons, w_cvi, w_csta, w_cvt, w_cvv, w_csv, w_cpy, w_seq, w_sbr, w_sbn, w_brk, w_ifs, w_ifx, w_ife, w_wk, w_rets, w_rtv, w_thr, w_asi, w_asj, w_asa, w_inc, w_exs, w_asti, w_astj, w_astz, w_astc, w_aopadd, w_aopsub, w_sw, if_true, if_false, ↓reduceIte, hdl_c, S9_1, S9_m, bud9, live9, inb9, wrn, wr9_14, wr9_15, wr9_16, wr9_17, tq9_14, tq9_15, tq9_16, tq9_17, tq_0, tq_1, tq_3, upr_rl, rl_0, rl_1, rl_2, rl_3, rl_4, rl_5, rl_6, rl_7, rl_8, rl_9, rl_10, rl_11, rl_12, rl_13, sp_0, sp_1, sp_2, sp_3, sp_4, sp_5, sp_6, sp_7, sp_8, sp_9, sp_10, sp_11, sp_12, sp_13, se_0, se_1, se_2, se_3, se_4, se_5, se_6, se_7, se_8, se_9, se_10, se_11, se_12, se_13, sem_0, sem_1, sem_2, sem_3, sem_4, sem_5, sr_249_16, sr_249_50, sr_249_43, sr_249_64, sr_249_9, sr_249_54, sr_249_40, sr_249_14, sr_249_68, sr_249_17, sr_249_57, sr_249_10, sr_249_23, sr_249_13, sr_249_63, sr_249_31, sr_249_51, sr_249_24, sr_249_69, sr_249_8, sr_249_30, sr_249_2, sr_249_71, sr_249_22, kl9_249, sr_249_67, sr_249_55, sr_249_41, sr_249_35, sr_249_11, sr_249_12, sr_249_52, sr_249_42, kc_249, sr_249_34, sr_249_70, sr_249_61, sr_249_58, sr_249_15, sr_249_25, List.getD_cons_zero, List.getD_cons_succ, Bool.false_eq_true, wrn3, wrn1, cpmS, cpok9, e1]
  repeat' (first
    | (with_reducible exact True.intro)
    | (with_reducible rfl)
    | (with_reducible refine And.intro ?_ ?_)
    | intro _
    | (with_reducible refine p_169 (fun v9 h9 => ?_); simp only [hdl_c, S9_1, S9_m, bud9, live9, inb9, wrn, wr9_14, wr9_15, wr9_16, wr9_17, tq9_14, tq9_15, tq9_16, tq9_17, tq_0, tq_1, tq_3, upr_rl, rl_0, rl_1, rl_2, rl_3, rl_4, rl_5, rl_6, rl_7, rl_8, rl_9, rl_10, rl_11, rl_12, rl_13, sp_0, sp_1, sp_2, sp_3, sp_4, sp_5, sp_6, sp_7, sp_8, sp_9, sp_10, sp_11, sp_12, sp_13, se_0, se_1, se_2, se_3, se_4, se_5, se_6, se_7, se_8, se_9, se_10, se_11, se_12, se_13, sem_0, sem_1, sem_2, sem_3, sem_4, sem_5, List.getD_cons_zero, List.getD_cons_succ, Bool.false_eq_true, wrn3, wrn1, cpmS, cpok9, if_true, if_false, ↓reduceIte, wc_169, sr_249_16, sr_249_50, sr_249_43, sr_249_64, sr_249_9, sr_249_54, sr_249_40, sr_249_14, sr_249_68, sr_249_17, sr_249_57, sr_249_10, sr_249_23, sr_249_13, sr_249_63, sr_249_31, sr_249_51, sr_249_24, sr_249_69, sr_249_8, sr_249_30, sr_249_2, sr_249_71, sr_249_22, kl9_249, sr_249_67, sr_249_55, sr_249_41, sr_249_35, sr_249_11, sr_249_12, sr_249_52, sr_249_42, kc_249, sr_249_34, sr_249_70, sr_249_61, sr_249_58, sr_249_15, sr_249_25, e1])
    | (with_reducible refine hq _ ?_)
    | omega
    | (with_reducible contradiction)
    | (unfold w32; omega)
    | (simp (disch := omega) only [w32_eq]; omega)
    | (with_reducible show (_ : Int) ≤ _; simp [upm] <;> (first | omega | (unfold w32; omega)))
    | (with_reducible show (_ : Int) < _; simp [upm] <;> (first | omega | (unfold w32; omega))))

theorem p_205 {d : Nat} {e : Int} {m : Mem} {Q : Int → Sto → Prop} {a : Int} (h0 : 0 ≤ m 249 6 ∧ m 249 6 ≤ 5) (hq : ∀ v, (v = 1 ∧ 0 ≤ a ∧ a < m 249 6 ∨ v = 0 ∧ (a < 0 ∨ m 249 6 ≤ a)) → Q v (S9 e m)) : Cl (d + 2) 205 [249, a] Q (S9 e m) := by
  have e1 : w32 (m 249 6 - 1) = m 249 6 - 1 := by unfold w32; omega
  simp only [cl_205, runB, B205, ma_205, rho_20, wf_13_143, wc_169, w_cst, w_ldi, w_ldj, w_lda, w_ljk, w_ldk, w_ldw, w_ldk2, w_ldt, w_ldtw, w_neg, w_cvb, w_cvs, w_cvc, w_cvj, w_add, w_sub, w_mul, w_ban, w_bor, w_bxo, w_shl, w_shr, w_ush, w_dvi, w_rmi, w_aldi, w_aldj, w_aldz, w_aldc, w_alda, w_ite, w_cmp, w_cmj, w_cz, w_cnot, w_cand, w_cor, w_nil, w_cons, w_cvi, w_csta, w_cvt, w_cvv, w_csv, w_cpy, w_seq, w_sbr, w_sbn, w_brk, w_ifs, w_ifx, w_ife, w_wk, w_rets, w_rtv, w_thr, w_asi, w_asj, w_asa, w_inc, w_exs, w_asti, w_astj, w_astz, w_astc, w_aopadd, w_aopsub, w_sw, if_true, if_false, ↓reduceIte, hdl_c, S9_1, S9_m, bud9, live9, inb9, wrn, wr9_14, wr9_15, wr9_16, wr9_17, tq9_14, tq9_15, tq9_16, tq9_17, tq_0, tq_1, tq_3, upr_rl, rl_0, rl_1, rl_2, rl_3, rl_4, rl_5, rl_6, rl_7, rl_8, rl_9, rl_10, rl_11, rl_12, rl_13, sp_0, sp_1, sp_2, sp_3, sp_4, sp_5, sp_6, sp_7, sp_8, sp_9, sp_10, sp_11, sp_12, sp_13, se_0, se_1, se_2, se_3, se_4, se_5, se_6, se_7, se_8, se_9, se_10, se_11, se_12, se_13, sem_0, sem_1, sem_2, sem_3, sem_4, sem_5, sr_249_16, sr_249_50, sr_249_43, sr_249_64, sr_249_9, sr_249_54, sr_249_40, sr_249_14, sr_249_68, sr_249_17, sr_249_57, sr_249_10, sr_249_23, sr_249_13, sr_249_63, sr_249_31, sr_249_51, sr_249_24, sr_249_69, sr_249_8, sr_249_30, sr_249_2, sr_249_71, sr_249_22, kl9_249, sr_249_67, sr_249_55, sr_249_41, sr_249_35, sr_249_11, sr_249_12, sr_249_52, sr_249_42, kc_249, sr_249_34, sr_249_70, sr_249_61, sr_249_58, sr_249_15, sr_249_25, List.getD_cons_zero, List.getD_cons_succ, Bool.false_eq_true, wrn3, wrn1, cpmS, cpok9, e1]
  repeat' (first
    | (with_reducible exact True.intro)
    | (with_reducible rfl)
    | (with_reducible refine And.intro ?_ ?_)
    | intro _
    | (with_reducible refine p_169 (fun v9 h9 => ?_); simp only [hdl_c, S9_1, S9_m, bud9, live9, inb9, wrn, wr9_14, wr9_15, wr9_16, wr9_17, tq9_14, tq9_15, tq9_16, tq9_17, tq_0, tq_1, tq_3, upr_rl, rl_0, rl_1, rl_2, rl_3, rl_4, rl_5, rl_6, rl_7, rl_8, rl_9, rl_10, rl_11, rl_12, rl_13, sp_0, sp_1, sp_2, sp_3, sp_4, sp_5, sp_6, sp_7, sp_8, sp_9, sp_10, sp_11, sp_12, sp_13, se_0, se_1, se_2, se_3, se_4, se_5, se_6, se_7, se_8, se_9, se_10, se_11, se_12, se_13, sem_0, sem_1, sem_2, sem_3, sem_4, sem_5, List.getD_cons_zero, List.getD_cons_succ, Bool.false_eq_true, wrn3, wrn1, cpmS, cpok9, if_true, if_false, ↓reduceIte, wc_169, sr_249_16, sr_249_50, sr_249_43, sr_249_64, sr_249_9, sr_249_54, sr_249_40, sr_249_14, sr_249_68, sr_249_17, sr_249_57, sr_249_10, sr_249_23, sr_249_13, sr_249_63, sr_249_31, sr_249_51, sr_249_24, sr_249_69, sr_249_8, sr_249_30, sr_249_2, sr_249_71, sr_249_22, kl9_249, sr_249_67, sr_249_55, sr_249_41, sr_249_35, sr_249_11, sr_249_12, sr_249_52, sr_249_42, kc_249, sr_249_34, sr_249_70, sr_249_61, sr_249_58, sr_249_15, sr_249_25, e1])
    | (with_reducible refine hq _ ?_)
    | omega
    | (with_reducible contradiction)
    | (unfold w32; omega)
    | (simp (disch := omega) only [w32_eq]; omega)
    | (with_reducible show (_ : Int) ≤ _; simp [upm] <;> (first | omega | (unfold w32; omega)))
    | (with_reducible show (_ : Int) < _; simp [upm] <;> (first | omega | (unfold w32; omega))))

theorem p_197 {d : Nat} {e : Int} {m : Mem} {Q : Int → Sto → Prop} {a : Int} (h0 : 0 ≤ m 249 4 ∧ m 249 4 ≤ 14) (hq : ∀ v, (v = 1 ∧ 0 ≤ a ∧ a < m 249 4 ∨ v = 0 ∧ (a < 0 ∨ m 249 4 ≤ a)) → Q v (S9 e m)) : Cl (d + 2) 197 [249, a] Q (S9 e m) := by
  have e1 : w32 (m 249 4 - 1) = m 249 4 - 1 := by unfold w32; omega
  simp only [cl_197, runB, B197, ma_197, rho_20, wf_13_146, wc_169, w_cst, w_ldi, w_ldj, w_lda, w_ljk, w_ldk, w_ldw, w_ldk2, w_ldt, w_ldtw, w_neg, w_cvb, w_cvs, w_cvc, w_cvj, w_add, w_sub, w_mul, w_ban, w_bor, w_bxo, w_shl, w_shr, w_ush, w_dvi, w_rmi, w_aldi, w_aldj, w_aldz, w_aldc, w_alda, w_ite, w_cmp, w_cmj, w_cz, w_cnot, w_cand, w_cor, w_nil, w_cons, w_cvi, w_csta, w_cvt, w_cvv, w_csv, w_cpy, w_seq, w_sbr, w_sbn, w_brk, w_ifs, w_ifx, w_ife, w_wk, w_rets, w_rtv, w_thr, w_asi, w_asj, w_asa, w_inc, w_exs, w_asti, w_astj, w_astz, w_astc, w_aopadd, w_aopsub, w_sw, if_true, if_false, ↓reduceIte, hdl_c, S9_1, S9_m, bud9, live9, inb9, wrn, wr9_14, wr9_15, wr9_16, wr9_17, tq9_14, tq9_15, tq9_16, tq9_17, tq_0, tq_1, tq_3, upr_rl, rl_0, rl_1, rl_2, rl_3, rl_4, rl_5, rl_6, rl_7, rl_8, rl_9, rl_10, rl_11, rl_12, rl_13, sp_0, sp_1, sp_2, sp_3, sp_4, sp_5, sp_6, sp_7, sp_8, sp_9, sp_10, sp_11, sp_12, sp_13, se_0, se_1, se_2, se_3, se_4, se_5, se_6, se_7, se_8, se_9, se_10, se_11, se_12, se_13, sem_0, sem_1, sem_2, sem_3, sem_4, sem_5, sr_249_16, sr_249_50, sr_249_43, sr_249_64, sr_249_9, sr_249_54, sr_249_40, sr_249_14, sr_249_68, sr_249_17, sr_249_57, sr_249_10, sr_249_23, sr_249_13, sr_249_63, sr_249_31, sr_249_51, sr_249_24, sr_249_69, sr_249_8, sr_249_30, sr_249_2, sr_249_71, sr_249_22, kl9_249, sr_249_67, sr_249_55, sr_249_41, sr_249_35, sr_249_11, sr_249_12, sr_249_52, sr_249_42, kc_249, sr_249_34, sr_249_70, sr_249_61, sr_249_58, sr_249_15, sr_249_25, List.getD_cons_zero, List.getD_cons_succ, Bool.false_eq_true, wrn3, wrn1, cpmS, cpok9, e1]
  repeat' (first
    | (with_reducible exact True.intro)
    | (with_reducible rfl)
    | (with_reducible refine And.intro ?_ ?_)
    | intro _
    | (with_reducible refine p_169 (fun v9 h9 => ?_); simp only [hdl_c, S9_1, S9_m, bud9, live9, inb9, wrn, wr9_14, wr9_15, wr9_16, wr9_17, tq9_14, tq9_15, tq9_16, tq9_17, tq_0, tq_1, tq_3, upr_rl, rl_0, rl_1, rl_2, rl_3, rl_4, rl_5, rl_6, rl_7, rl_8, rl_9, rl_10, rl_11, rl_12, rl_13, sp_0, sp_1, sp_2, sp_3, sp_4, sp_5, sp_6, sp_7, sp_8, sp_9, sp_10, sp_11, sp_12, sp_13, se_0, se_1, se_2, se_3, se_4, se_5, se_6, se_7, se_8, se_9, se_10, se_11, se_12, se_13, sem_0, sem_1, sem_2, sem_3, sem_4, sem_5, List.getD_cons_zero, List.getD_cons_succ, Bool.false_eq_true, wrn3, wrn1, cpmS, cpok9, if_true, if_false, ↓reduceIte, wc_169, sr_249_16, sr_249_50, sr_249_43, sr_249_64, sr_249_9, sr_249_54, sr_249_40, sr_249_14, sr_249_68, sr_249_17, sr_249_57, sr_249_10, sr_249_23, sr_249_13, sr_249_63, sr_249_31, sr_249_51, sr_249_24, sr_249_69, sr_249_8, sr_249_30, sr_249_2, sr_249_71, sr_249_22, kl9_249, sr_249_67, sr_249_55, sr_249_41, sr_249_35, sr_249_11, sr_249_12, sr_249_52, sr_249_42, kc_249, sr_249_34, sr_249_70, sr_249_61, sr_249_58, sr_249_15, sr_249_25, e1])
    | (with_reducible refine hq _ ?_)
    | omega
    | (with_reducible contradiction)
    | (unfold w32; omega)
    | (simp (disch := omega) only [w32_eq]; omega)
    | (with_reducible show (_ : Int) ≤ _; simp [upm] <;> (first | omega | (unfold w32; omega)))
    | (with_reducible show (_ : Int) < _; simp [upm] <;> (first | omega | (unfold w32; omega))))

theorem p_198 {d : Nat} {e : Int} {m : Mem} {Q : Int → Sto → Prop} {a : Int} (ha : 0 ≤ a ∧ a < 14) (hq : ∀ v, (v = 0 ∨ v = 1) → Q v (S9 e m)) : Cl (d + 2) 198 [249, a] Q (S9 e m) := by
  simp only [cl_198, runB, B198, ma_198, rho_20, wf_13_26, wf_13_36, wc_199, w_cst, w_ldi, w_ldj, w_lda, w_ljk, w_ldk, w_ldw, w_ldk2, w_ldt, w_ldtw, w_neg, w_cvb, w_cvs, w_cvc, w_cvj, w_add, w_sub, w_mul, w_ban, w_bor, w_bxo, w_shl, w_shr, w_ush, w_dvi, w_rmi, w_aldi, w_aldj, w_aldz, w_aldc, w_alda, w_ite, w_cmp, w_cmj, w_cz, w_cnot, w_cand, w_cor, w_nil, w_cons, w_cvi, w_csta, w_cvt, w_cvv, w_csv, w_cpy, w_seq, w_sbr, w_sbn, w_brk, w_ifs, w_ifx, w_ife, w_wk, w_rets, w_rtv, w_thr, w_asi, w_asj, w_asa, w_inc, w_exs, w_asti, w_astj, w_astz, w_astc, w_aopadd, w_aopsub, w_sw, if_true, if_false, ↓reduceIte, hdl_c, S9_1, S9_m, bud9, live9, inb9, wrn, wr9_14, wr9_15, wr9_16, wr9_17, tq9_14, tq9_15, tq9_16, tq9_17, tq_0, tq_1, tq_3, upr_rl, rl_0, rl_1, rl_2, rl_3, rl_4, rl_5, rl_6, rl_7, rl_8, rl_9, rl_10, rl_11, rl_12, rl_13, sp_0, sp_1, sp_2, sp_3, sp_4, sp_5, sp_6, sp_7, sp_8, sp_9, sp_10, sp_11, sp_12, sp_13, se_0, se_1, se_2, se_3, se_4, se_5, se_6, se_7, se_8, se_9, se_10, se_11, se_12, se_13, sem_0, sem_1, sem_2, sem_3, sem_4, sem_5, sr_249_16, sr_249_50, sr_249_43, sr_249_64, sr_249_9, sr_249_54, sr_249_40, sr_249_14, sr_249_68, sr_249_17, sr_249_57, sr_249_10, sr_249_23, sr_249_13, sr_249_63, sr_249_31, sr_249_51, sr_249_24, sr_249_69, sr_249_8, sr_249_30, sr_249_2, sr_249_71, sr_249_22, kl9_249, sr_249_67, sr_249_55, sr_249_41, sr_249_35, sr_249_11, sr_249_12, sr_249_52, sr_249_42, kc_249, sr_249_34, sr_249_70, sr_249_61, sr_249_58, sr_249_15, sr_249_25, kl9_255, kc_255, kl9_258, kc_258, List.getD_cons_zero, List.getD_cons_succ, Bool.false_eq_true, wrn3, wrn1, cpmS, cpok9]
  repeat' (first
    | (with_reducible exact True.intro)
    | (with_reducible rfl)
    | (with_reducible refine And.intro ?_ ?_)
    | intro _
    | (with_reducible refine p_199 (fun v9 h9 => ?_); simp only [hdl_c, S9_1, S9_m, bud9, live9, inb9, wrn, wr9_14, wr9_15, wr9_16, wr9_17, tq9_14, tq9_15, tq9_16, tq9_17, tq_0, tq_1, tq_3, upr_rl, rl_0, rl_1, rl_2, rl_3, rl_4, rl_5, rl_6, rl_7, rl_8, rl_9, rl_10, rl_11, rl_12, rl_13, sp_0, sp_1, sp_2, sp_3, sp_4, sp_5, sp_6, sp_7, sp_8, sp_9, sp_10, sp_11, sp_12, sp_13, se_0, se_1, se_2, se_3, se_4, se_5, se_6, se_7, se_8, se_9, se_10, se_11, se_12, se_13, sem_0, sem_1, sem_2, sem_3, sem_4, sem_5, List.getD_cons_zero, List.getD_cons_succ, Bool.false_eq_true, wrn3, wrn1, cpmS, cpok9, if_true, if_false, ↓reduceIte, wc_199, sr_249_16, sr_249_50, sr_249_43, sr_249_64, sr_249_9, sr_249_54, sr_249_40, sr_249_14, sr_249_68, sr_249_17, sr_249_57, sr_249_10, sr_249_23, sr_249_13, sr_249_63, sr_249_31, sr_249_51, sr_249_24, sr_249_69, sr_249_8, sr_249_30, sr_249_2, sr_249_71, sr_249_22, kl9_249, sr_249_67, sr_249_55, sr_249_41, sr_249_35, sr_249_11, sr_249_12, sr_249_52, sr_249_42, kc_249, sr_249_34, sr_249_70, sr_249_61, sr_249_58, sr_249_15, sr_249_25, kl9_255, kc_255, kl9_258, kc_258])
    | (with_reducible refine hq _ ?_)
    | omega
    | (with_reducible contradiction)
    | (unfold w32; omega)
    | (simp (disch := omega) only [w32_eq]; omega)
    | (with_reducible show (_ : Int) ≤ _; simp [upm] <;> (first | omega | (unfold w32; omega)))
    | (with_reducible show (_ : Int) < _; simp [upm] <;> (first | omega | (unfold w32; omega))))

theorem p_203 {d : Nat} {e : Int} {m : Mem} {Q : Int → Sto → Prop} {a : Int} (ha : 0 ≤ a ∧ a ≤ 4) (hq : Q (m 258 (20 + 7 * a)) (S9 e m)) : Cl (d + 2) 203 [249, a] Q (S9 e m) := by
  simp only [cl_203, runB, B203, ma_203, rho_20, wf_13_36, wc_188, w_cst, w_ldi, w_ldj, w_lda, w_ljk, w_ldk, w_ldw, w_ldk2, w_ldt, w_ldtw, w_neg, w_cvb, w_cvs, w_cvc, w_cvj, w_add, w_sub, w_mul, w_ban, w_bor, w_bxo, w_shl, w_shr, w_ush, w_dvi, w_rmi, w_aldi, w_aldj, w_aldz, w_aldc, w_alda, w_ite, w_cmp, w_cmj, w_cz, w_cnot, w_cand, w_cor, w_nil, w_cons, w_cvi, w_csta, w_cvt, w_cvv, w_csv, w_cpy, w_seq, w_sbr, w_sbn, w_brk, w_ifs, w_ifx, w_ife, w_wk, w_rets, w_rtv, w_thr, w_asi, w_asj, w_asa, w_inc, w_exs, w_asti, w_astj, w_astz, w_astc, w_aopadd, w_aopsub, w_sw, if_true, if_false, ↓reduceIte, hdl_c, S9_1, S9_m, bud9, live9, inb9, wrn, wr9_14, wr9_15, wr9_16, wr9_17, tq9_14, tq9_15, tq9_16, tq9_17, tq_0, tq_1, tq_3, upr_rl, rl_0, rl_1, rl_2, rl_3, rl_4, rl_5, rl_6, rl_7, rl_8, rl_9, rl_10, rl_11, rl_12, rl_13, sp_0, sp_1, sp_2, sp_3, sp_4, sp_5, sp_6, sp_7, sp_8, sp_9, sp_10, sp_11, sp_12, sp_13, se_0, se_1, se_2, se_3, se_4, se_5, se_6, se_7, se_8, se_9, se_10, se_11, se_12, se_13, sem_0, sem_1, sem_2, sem_3, sem_4, sem_5, sr_249_16, sr_249_50, sr_249_43, sr_249_64, sr_249_9, sr_249_54, sr_249_40, sr_249_14, sr_249_68, sr_249_17, sr_249_57, sr_249_10, sr_249_23, sr_249_13, sr_249_63, sr_249_31, sr_249_51, sr_249_24, sr_249_69, sr_249_8, sr_249_30, sr_249_2, sr_249_71, sr_249_22, kl9_249, sr_249_67, sr_249_55, sr_249_41, sr_249_35, sr_249_11, sr_249_12, sr_249_52, sr_249_42, kc_249, sr_249_34, sr_249_70, sr_249_61, sr_249_58, sr_249_15, sr_249_25, kl9_258, kc_258, List.getD_cons_zero, List.getD_cons_succ, Bool.false_eq_true, wrn3, wrn1, cpmS, cpok9]
  repeat' (first
    | (with_reducible exact True.intro)
    | (with_reducible rfl)
    | (with_reducible refine And.intro ?_ ?_)
    | intro _
    | (with_reducible refine p_188 ?_ ?_; (next => first | omega | (with_reducible rfl) | decide | (unfold w32; omega) | (simp (disch := omega) only [w32_eq]; omega) | (simp [upm] <;> (first | omega | (unfold w32; omega)))); simp only [hdl_c, S9_1, S9_m, bud9, live9, inb9, wrn, wr9_14, wr9_15, wr9_16, wr9_17, tq9_14, tq9_15, tq9_16, tq9_17, tq_0, tq_1, tq_3, upr_rl, rl_0, rl_1, rl_2, rl_3, rl_4, rl_5, rl_6, rl_7, rl_8, rl_9, rl_10, rl_11, rl_12, rl_13, sp_0, sp_1, sp_2, sp_3, sp_4, sp_5, sp_6, sp_7, sp_8, sp_9, sp_10, sp_11, sp_12, sp_13, se_0, se_1, se_2, se_3, se_4, se_5, se_6, se_7, se_8, se_9, se_10, se_11, se_12, se_13, sem_0, sem_1, sem_2, sem_3, sem_4, sem_5, List.getD_cons_zero, List.getD_cons_succ, Bool.false_eq_true, wrn3, wrn1, cpmS, cpok9, if_true, if_false, ↓reduceIte, wc_188, sr_249_16, sr_249_50, sr_249_43, sr_249_64, sr_249_9, sr_249_54, sr_249_40, sr_249_14, sr_249_68, sr_249_17, sr_249_57, sr_249_10, sr_249_23, sr_249_13, sr_249_63, sr_249_31, sr_249_51, sr_249_24, sr_249_69, sr_249_8, sr_249_30, sr_249_2, sr_249_71, sr_249_22, kl9_249, sr_249_67, sr_249_55, sr_249_41, sr_249_35, sr_249_11, sr_249_12, sr_249_52, sr_249_42, kc_249, sr_249_34, sr_249_70, sr_249_61, sr_249_58, sr_249_15, sr_249_25, kl9_258, kc_258]; (try simp (disch := omega) only [w15_0, w15_1, w15_3, w15_4, w15_5, w15_6, w3_0, w3_1, w3_2]))
    | exact hq
    | omega
    | (with_reducible contradiction)
    | (unfold w32; omega)
    | (simp (disch := omega) only [w32_eq]; omega)
    | (with_reducible show (_ : Int) ≤ _; simp [upm] <;> (first | omega | (unfold w32; omega)))
    | (with_reducible show (_ : Int) < _; simp [upm] <;> (first | omega | (unfold w32; omega))))

theorem p_211 {d : Nat} {e : Int} {m : Mem} {Q : Int → Sto → Prop} {a : Int} (h0 : 0 ≤ m 249 5 ∧ m 249 5 ≤ 5) (hq : ∀ v, (v = 1 ∧ 0 ≤ a ∧ a < m 249 5 ∨ v = 0) → Q v (S9 e m)) : Cl (d + 3) 211 [249, a] Q (S9 e m) := by
  simp only [cl_211, runB, B211, ma_211, rho_20, wf_13_36, wc_201, w_cst, w_ldi, w_ldj, w_lda, w_ljk, w_ldk, w_ldw, w_ldk2, w_ldt, w_ldtw, w_neg, w_cvb, w_cvs, w_cvc, w_cvj, w_add, w_sub, w_mul, w_ban, w_bor, w_bxo, w_shl, w_shr, w_ush, w_dvi, w_rmi, w_aldi, w_aldj, w_aldz, w_aldc, w_alda, w_ite, w_cmp, w_cmj, w_cz, w_cnot, w_cand, w_cor, w_nil, w_cons, w_cvi, w_csta, w_cvt, w_cvv, w_csv, w_cpy, w_seq, w_sbr, w_sbn, w_brk, w_ifs, w_ifx, w_ife, w_wk, w_rets, w_rtv, w_thr, w_asi, w_asj, w_asa, w_inc, w_exs, w_asti, w_astj, w_astz, w_astc, w_aopadd, w_aopsub, w_sw, if_true, if_false, ↓reduceIte, hdl_c, S9_1, S9_m, bud9, live9, inb9, wrn, wr9_14, wr9_15, wr9_16, wr9_17, tq9_14, tq9_15, tq9_16, tq9_17, tq_0, tq_1, tq_3, upr_rl, rl_0, rl_1, rl_2, rl_3, rl_4, rl_5, rl_6, rl_7, rl_8, rl_9, rl_10, rl_11, rl_12, rl_13, sp_0, sp_1, sp_2, sp_3, sp_4, sp_5, sp_6, sp_7, sp_8, sp_9, sp_10, sp_11, sp_12, sp_13, se_0, se_1, se_2, se_3, se_4, se_5, se_6, se_7, se_8, se_9, se_10, se_11, se_12, se_13, sem_0, sem_1, sem_2, sem_3, sem_4, sem_5, sr_249_16, sr_249_50, sr_249_43, sr_249_64, sr_249_9, sr_249_54, sr_249_40, sr_249_14, sr_249_68, sr_249_17, sr_249_57, sr_249_10, sr_249_23, sr_249_13, sr_249_63, sr_249_31, sr_249_51, sr_249_24, sr_249_69, sr_249_8, sr_249_30, sr_249_2, sr_249_71, sr_249_22, kl9_249, sr_249_67, sr_249_55, sr_249_41, sr_249_35, sr_249_11, sr_249_12, sr_249_52, sr_249_42, kc_249, sr_249_34, sr_249_70, sr_249_61, sr_249_58, sr_249_15, sr_249_25, kl9_258, kc_258, List.getD_cons_zero, List.getD_cons_succ, Bool.false_eq_true, wrn3, wrn1, cpmS, cpok9]
  repeat' (first
    | (with_reducible exact True.intro)
    | (with_reducible rfl)
    | (with_reducible refine And.intro ?_ ?_)
    | intro _
    | (with_reducible refine p_201 ?_ (fun v9 h9 => ?_); (next => first | omega | (with_reducible rfl) | decide | (unfold w32; omega) | (simp (disch := omega) only [w32_eq]; omega) | (simp [upm] <;> (first | omega | (unfold w32; omega)))); simp only [hdl_c, S9_1, S9_m, bud9, live9, inb9, wrn, wr9_14, wr9_15, wr9_16, wr9_17, tq9_14, tq9_15, tq9_16, tq9_17, tq_0, tq_1, tq_3, upr_rl, rl_0, rl_1, rl_2, rl_3, rl_4, rl_5, rl_6, rl_7, rl_8, rl_9, rl_10, rl_11, rl_12, rl_13, sp_0, sp_1, sp_2, sp_3, sp_4, sp_5, sp_6, sp_7, sp_8, sp_9, sp_10, sp_11, sp_12, sp_13, se_0, se_1, se_2, se_3, se_4, se_5, se_6, se_7, se_8, se_9, se_10, se_11, se_12, se_13, sem_0, sem_1, sem_2, sem_3, sem_4, sem_5, List.getD_cons_zero, List.getD_cons_succ, Bool.false_eq_true, wrn3, wrn1, cpmS, cpok9, if_true, if_false, ↓reduceIte, wc_201, sr_249_16, sr_249_50, sr_249_43, sr_249_64, sr_249_9, sr_249_54, sr_249_40, sr_249_14, sr_249_68, sr_249_17, sr_249_57, sr_249_10, sr_249_23, sr_249_13, sr_249_63, sr_249_31, sr_249_51, sr_249_24, sr_249_69, sr_249_8, sr_249_30, sr_249_2, sr_249_71, sr_249_22, kl9_249, sr_249_67, sr_249_55, sr_249_41, sr_249_35, sr_249_11, sr_249_12, sr_249_52, sr_249_42, kc_249, sr_249_34, sr_249_70, sr_249_61, sr_249_58, sr_249_15, sr_249_25, kl9_258, kc_258])
    | (with_reducible refine hq _ ?_)
    | omega
    | (with_reducible contradiction)
    | (unfold w32; omega)
    | (simp (disch := omega) only [w32_eq]; omega)
    | (with_reducible show (_ : Int) ≤ _; simp [upm] <;> (first | omega | (unfold w32; omega)))
    | (with_reducible show (_ : Int) < _; simp [upm] <;> (first | omega | (unfold w32; omega))))

theorem p_239 {d : Nat} {e : Int} {m : Mem} {Q : Int → Sto → Prop} {a : Int} (h0 : 0 ≤ m 249 6 ∧ m 249 6 ≤ 5) (hq : ∀ v, (v = 1 ∧ 0 ≤ a ∧ a < m 249 6 ∧ 0 ≤ m 258 (20 + 7 * a) ∨ v = 0) → Q v (S9 e m)) : Cl (d + 3) 239 [249, a] Q (S9 e m) := by
  simp only [cl_239, runB, B239, ma_239, rho_20, wc_203, wc_205, w_cst, w_ldi, w_ldj, w_lda, w_ljk, w_ldk, w_ldw, w_ldk2, w_ldt, w_ldtw, w_neg, w_cvb, w_cvs, w_cvc, w_cvj, w_add, w_sub, w_mul, w_ban, w_bor, w_bxo, w_shl, w_shr, w_ush, w_dvi, w_rmi, w_aldi, w_aldj, w_aldz, w_aldc, w_alda, w_ite, w_cmp, w_cmj, w_cz, w_cnot, w_cand, w_cor, w_nil, w_cons, w_cvi, w_csta, w_cvt, w_cvv, w_csv, w_cpy, w_seq, w_sbr, w_sbn, w_brk, w_ifs, w_ifx, w_ife, w_wk, w_rets, w_rtv, w_thr, w_asi, w_asj, w_asa, w_inc, w_exs, w_asti, w_astj, w_astz, w_astc, w_aopadd, w_aopsub, w_sw, if_true, if_false, ↓reduceIte, hdl_c, S9_1, S9_m, bud9, live9, inb9, wrn, wr9_14, wr9_15, wr9_16, wr9_17, tq9_14, tq9_15, tq9_16, tq9_17, tq_0, tq_1, tq_3, upr_rl, rl_0, rl_1, rl_2, rl_3, rl_4, rl_5, rl_6, rl_7, rl_8, rl_9, rl_10, rl_11, rl_12, rl_13, sp_0, sp_1, sp_2, sp_3, sp_4, sp_5, sp_6, sp_7, sp_8, sp_9, sp_10, sp_11, sp_12, sp_13, se_0, se_1, se_2, se_3, se_4, se_5, se_6, se_7, se_8, se_9, se_10, se_11, se_12, se_13, sem_0, sem_1, sem_2, sem_3, sem_4, sem_5, sr_249_16, sr_249_50, sr_249_43, sr_249_64, sr_249_9, sr_249_54, sr_249_40, sr_249_14, sr_249_68, sr_249_17, sr_249_57, sr_249_10, sr_249_23, sr_249_13, sr_249_63, sr_249_31, sr_249_51, sr_249_24, sr_249_69, sr_249_8, sr_249_30, sr_249_2, sr_249_71, sr_249_22, kl9_249, sr_249_67, sr_249_55, sr_249_41, sr_249_35, sr_249_11, sr_249_12, sr_249_52, sr_249_42, kc_249, sr_249_34, sr_249_70, sr_249_61, sr_249_58, sr_249_15, sr_249_25, kl9_258, kc_258, List.getD_cons_zero, List.getD_cons_succ, Bool.false_eq_true, wrn3, wrn1, cpmS, cpok9]
  repeat' (first
    | (with_reducible exact True.intro)
    | (with_reducible rfl)
    | (with_reducible refine And.intro ?_ ?_)
    | intro _
    | (with_reducible refine p_203 ?_ ?_; (next => first | omega | (with_reducible rfl) | decide | (unfold w32; omega) | (simp (disch := omega) only [w32_eq]; omega) | (simp [upm] <;> (first | omega | (unfold w32; omega)))); simp only [hdl_c, S9_1, S9_m, bud9, live9, inb9, wrn, wr9_14, wr9_15, wr9_16, wr9_17, tq9_14, tq9_15, tq9_16, tq9_17, tq_0, tq_1, tq_3, upr_rl, rl_0, rl_1, rl_2, rl_3, rl_4, rl_5, rl_6, rl_7, rl_8, rl_9, rl_10, rl_11, rl_12, rl_13, sp_0, sp_1, sp_2, sp_3, sp_4, sp_5, sp_6, sp_7, sp_8, sp_9, sp_10, sp_11, sp_12, sp_13, se_0, se_1, se_2, se_3, se_4, se_5, se_6, se_7, se_8, se_9, se_10, se_11, se_12, se_13, sem_0, sem_1, sem_2, sem_3, sem_4, sem_5, List.getD_cons_zero, List.getD_cons_succ, Bool.false_eq_true, wrn3, wrn1, cpmS, cpok9, if_true, if_false, ↓reduceIte, wc_203, wc_205, sr_249_16, sr_249_50, sr_249_43, sr_249_64, sr_249_9, sr_249_54, sr_249_40, sr_249_14, sr_249_68, sr_249_17, sr_249_57, sr_249_10, sr_249_23, sr_249_13, sr_249_63, sr_249_31, sr_249_51, sr_249_24, sr_249_69, sr_249_8, sr_249_30, sr_249_2, sr_249_71, sr_249_22, kl9_249, sr_249_67, sr_249_55, sr_249_41, sr_249_35, sr_249_11, sr_249_12, sr_249_52, sr_249_42, kc_249, sr_249_34, sr_249_70, sr_249_61, sr_249_58, sr_249_15, sr_249_25, kl9_258, kc_258]; (try simp (disch := omega) only [w15_0, w15_1, w15_3, w15_4, w15_5, w15_6, w3_0, w3_1, w3_2]))
    | (with_reducible refine p_205 ?_ (fun v9 h9 => ?_); (next => first | omega | (with_reducible rfl) | decide | (unfold w32; omega) | (simp (disch := omega) only [w32_eq]; omega) | (simp [upm] <;> (first | omega | (unfold w32; omega)))); simp only [hdl_c, S9_1, S9_m, bud9, live9, inb9, wrn, wr9_14, wr9_15, wr9_16, wr9_17, tq9_14, tq9_15, tq9_16, tq9_17, tq_0, tq_1, tq_3, upr_rl, rl_0, rl_1, rl_2, rl_3, rl_4, rl_5, rl_6, rl_7, rl_8, rl_9, rl_10, rl_11, rl_12, rl_13, sp_0, sp_1, sp_2, sp_3, sp_4, sp_5, sp_6, sp_7, sp_8, sp_9, sp_10, sp_11, sp_12, sp_13, se_0, se_1, se_2, se_3, se_4, se_5, se_6, se_7, se_8, se_9, se_10, se_11, se_12, se_13, sem_0, sem_1, sem_2, sem_3, sem_4, sem_5, List.getD_cons_zero, List.getD_cons_succ, Bool.false_eq_true, wrn3, wrn1, cpmS, cpok9, if_true, if_false, ↓reduceIte, wc_203, wc_205, sr_249_16, sr_249_50, sr_249_43, sr_249_64, sr_249_9, sr_249_54, sr_249_40, sr_249_14, sr_249_68, sr_249_17, sr_249_57, sr_249_10, sr_249_23, sr_249_13, sr_249_63, sr_249_31, sr_249_51, sr_249_24, sr_249_69, sr_249_8, sr_249_30, sr_249_2, sr_249_71, sr_249_22, kl9_249, sr_249_67, sr_249_55, sr_249_41, sr_249_35, sr_249_11, sr_249_12, sr_249_52, sr_249_42, kc_249, sr_249_34, sr_249_70, sr_249_61, sr_249_58, sr_249_15, sr_249_25, kl9_258, kc_258])
    | (with_reducible refine hq _ ?_)
    | omega
    | (with_reducible contradiction)
    | (unfold w32; omega)
    | (simp (disch := omega) only [w32_eq]; omega)
    | (with_reducible show (_ : Int) ≤ _; simp [upm] <;> (first | omega | (unfold w32; omega)))
    | (with_reducible show (_ : Int) < _; simp [upm] <;> (first | omega | (unfold w32; omega))))

theorem p_245 {d : Nat} {e : Int} {m : Mem} {Q : Int → Sto → Prop} {a b c : Int} (h0 : 0 ≤ m 249 6 ∧ m 249 6 ≤ 5) (h1 : 0 ≤ m 249 5 ∧ m 249 5 ≤ 5) (hq : ∀ v, (v = 1 ∧ 0 ≤ a ∧ a < m 249 6 ∧ 0 ≤ b ∧ b < m 249 5 ∧ 1 ≤ c ∧ c ≤ 99 ∨ v = 0) → Q v (S9 e m)) : Cl (d + 4) 245 [249, a, b, c] Q (S9 e m) := by
  simp only [cl_245, runB, B245, ma_245, rho_2000, wc_169, wc_205, wc_211, w_cst, w_ldi, w_ldj, w_lda, w_ljk, w_ldk, w_ldw, w_ldk2, w_ldt, w_ldtw, w_neg, w_cvb, w_cvs, w_cvc, w_cvj, w_add, w_sub, w_mul, w_ban, w_bor, w_bxo, w_shl, w_shr, w_ush, w_dvi, w_rmi, w_aldi, w_aldj, w_aldz, w_aldc, w_alda, w_ite, w_cmp, w_cmj, w_cz, w_cnot, w_cand, w_cor, w_nil, w_cons, w_cvi, w_csta, w_cvt, w_cvv, w_csv, w_cpy, w_seq, w_sbr, w_sbn, w_brk, w_ifs, w_ifx, w_ife, w_wk, w_rets, w_rtv, w_thr, w_asi, w_asj, w_asa, w_inc, w_exs, w_asti, w_astj, w_astz, w_astc, w_aopadd, w_aopsub, w_sw, if_true, if_false, ↓reduceIte, hdl_c, S9_1, S9_m, bud9, live9, inb9, wrn, wr9_14, wr9_15, wr9_16, wr9_17, tq9_14, tq9_15, tq9_16, tq9_17, tq_0, tq_1, tq_3, upr_rl, rl_0, rl_1, rl_2, rl_3, rl_4, rl_5, rl_6, rl_7, rl_8, rl_9, rl_10, rl_11, rl_12, rl_13, sp_0, sp_1, sp_2, sp_3, sp_4, sp_5, sp_6, sp_7, sp_8, sp_9, sp_10, sp_11, sp_12, sp_13, se_0, se_1, se_2, se_3, se_4, se_5, se_6, se_7, se_8, se_9, se_10, se_11, se_12, se_13, sem_0, sem_1, sem_2, sem_3, sem_4, sem_5, sr_249_16, sr_249_50, sr_249_43, sr_249_64, sr_249_9, sr_249_54, sr_249_40, sr_249_14, sr_249_68, sr_249_17, sr_249_57, sr_249_10, sr_249_23, sr_249_13, sr_249_63, sr_249_31, sr_249_51, sr_249_24, sr_249_69, sr_249_8, sr_249_30, sr_249_2, sr_249_71, sr_249_22, kl9_249, sr_249_67, sr_249_55, sr_249_41, sr_249_35, sr_249_11, sr_249_12, sr_249_52, sr_249_42, kc_249, sr_249_34, sr_249_70, sr_249_61, sr_249_58, sr_249_15, sr_249_25, kl9_258, kc_258, List.getD_cons_zero, List.getD_cons_succ, Bool.false_eq_true, wrn3, wrn1, cpmS, cpok9]
  repeat' (first
    | (with_reducible exact True.intro)
    | (with_reducible rfl)
    | (with_reducible refine And.intro ?_ ?_)
    | intro _
    | (with_reducible refine p_169 (fun v9 h9 => ?_); simp only [hdl_c, S9_1, S9_m, bud9, live9, inb9, wrn, wr9_14, wr9_15, wr9_16, wr9_17, tq9_14, tq9_15, tq9_16, tq9_17, tq_0, tq_1, tq_3, upr_rl, rl_0, rl_1, rl_2, rl_3, rl_4, rl_5, rl_6, rl_7, rl_8, rl_9, rl_10, rl_11, rl_12, rl_13, sp_0, sp_1, sp_2, sp_3, sp_4, sp_5, sp_6, sp_7, sp_8, sp_9, sp_10, sp_11, sp_12, sp_13, se_0, se_1, se_2, se_3, se_4, se_5, se_6, se_7, se_8, se_9, se_10, se_11, se_12, se_13, sem_0, sem_1, sem_2, sem_3, sem_4, sem_5, List.getD_cons_zero, List.getD_cons_succ, Bool.false_eq_true, wrn3, wrn1, cpmS, cpok9, if_true, if_false, ↓reduceIte, wc_169, wc_205, wc_211, sr_249_16, sr_249_50, sr_249_43, sr_249_64, sr_249_9, sr_249_54, sr_249_40, sr_249_14, sr_249_68, sr_249_17, sr_249_57, sr_249_10, sr_249_23, sr_249_13, sr_249_63, sr_249_31, sr_249_51, sr_249_24, sr_249_69, sr_249_8, sr_249_30, sr_249_2, sr_249_71, sr_249_22, kl9_249, sr_249_67, sr_249_55, sr_249_41, sr_249_35, sr_249_11, sr_249_12, sr_249_52, sr_249_42, kc_249, sr_249_34, sr_249_70, sr_249_61, sr_249_58, sr_249_15, sr_249_25, kl9_258, kc_258])
    | (with_reducible refine p_205 ?_ (fun v9 h9 => ?_); (next => first | omega | (with_reducible rfl) | decide | (unfold w32; omega) | (simp (disch := omega) only [w32_eq]; omega) | (simp [upm] <;> (first | omega | (unfold w32; omega)))); simp only [hdl_c, S9_1, S9_m, bud9, live9, inb9, wrn, wr9_14, wr9_15, wr9_16, wr9_17, tq9_14, tq9_15, tq9_16, tq9_17, tq_0, tq_1, tq_3, upr_rl, rl_0, rl_1, rl_2, rl_3, rl_4, rl_5, rl_6, rl_7, rl_8, rl_9, rl_10, rl_11, rl_12, rl_13, sp_0, sp_1, sp_2, sp_3, sp_4, sp_5, sp_6, sp_7, sp_8, sp_9, sp_10, sp_11, sp_12, sp_13, se_0, se_1, se_2, se_3, se_4, se_5, se_6, se_7, se_8, se_9, se_10, se_11, se_12, se_13, sem_0, sem_1, sem_2, sem_3, sem_4, sem_5, List.getD_cons_zero, List.getD_cons_succ, Bool.false_eq_true, wrn3, wrn1, cpmS, cpok9, if_true, if_false, ↓reduceIte, wc_169, wc_205, wc_211, sr_249_16, sr_249_50, sr_249_43, sr_249_64, sr_249_9, sr_249_54, sr_249_40, sr_249_14, sr_249_68, sr_249_17, sr_249_57, sr_249_10, sr_249_23, sr_249_13, sr_249_63, sr_249_31, sr_249_51, sr_249_24, sr_249_69, sr_249_8, sr_249_30, sr_249_2, sr_249_71, sr_249_22, kl9_249, sr_249_67, sr_249_55, sr_249_41, sr_249_35, sr_249_11, sr_249_12, sr_249_52, sr_249_42, kc_249, sr_249_34, sr_249_70, sr_249_61, sr_249_58, sr_249_15, sr_249_25, kl9_258, kc_258])
    | (with_reducible refine p_211 ?_ (fun v9 h9 => ?_); (next => first | omega | (with_reducible rfl) | decide | (unfold w32; omega) | (simp (disch := omega) only [w32_eq]; omega) | (simp [upm] <;> (first | omega | (unfold w32; omega)))); simp only [hdl_c, S9_1, S9_m, bud9, live9, inb9, wrn, wr9_14, wr9_15, wr9_16, wr9_17, tq9_14, tq9_15, tq9_16, tq9_17, tq_0, tq_1, tq_3, upr_rl, rl_0, rl_1, rl_2, rl_3, rl_4, rl_5, rl_6, rl_7, rl_8, rl_9, rl_10, rl_11, rl_12, rl_13, sp_0, sp_1, sp_2, sp_3, sp_4, sp_5, sp_6, sp_7, sp_8, sp_9, sp_10, sp_11, sp_12, sp_13, se_0, se_1, se_2, se_3, se_4, se_5, se_6, se_7, se_8, se_9, se_10, se_11, se_12, se_13, sem_0, sem_1, sem_2, sem_3, sem_4, sem_5, List.getD_cons_zero, List.getD_cons_succ, Bool.false_eq_true, wrn3, wrn1, cpmS, cpok9, if_true, if_false, ↓reduceIte, wc_169, wc_205, wc_211, sr_249_16, sr_249_50, sr_249_43, sr_249_64, sr_249_9, sr_249_54, sr_249_40, sr_249_14, sr_249_68, sr_249_17, sr_249_57, sr_249_10, sr_249_23, sr_249_13, sr_249_63, sr_249_31, sr_249_51, sr_249_24, sr_249_69, sr_249_8, sr_249_30, sr_249_2, sr_249_71, sr_249_22, kl9_249, sr_249_67, sr_249_55, sr_249_41, sr_249_35, sr_249_11, sr_249_12, sr_249_52, sr_249_42, kc_249, sr_249_34, sr_249_70, sr_249_61, sr_249_58, sr_249_15, sr_249_25, kl9_258, kc_258])
    | (with_reducible refine hq _ ?_)
    | omega
    | (with_reducible contradiction)
    | (unfold w32; omega)
    | (simp (disch := omega) only [w32_eq]; omega)
    | (with_reducible show (_ : Int) ≤ _; simp [upm] <;> (first | omega | (unfold w32; omega)))
    | (with_reducible show (_ : Int) < _; simp [upm] <;> (first | omega | (unfold w32; omega))))

theorem sLen_le : ∀ n : Nat, n < 8 → sLen.getD n 0 ≤ 1000 := by decide +kernel
end
section
/-! small rows that many parts need -/
theorem JW_len {l : Nat} {g : Fg} {tc pl W : Int} {N : Int → Int} {m : Mem} {v : Int} (h : JW l g tc pl N W m) (h0 : 0 ≤ v) (h1 : v ≤ 80) : JW l g v pl N W (upm m 249 18 v) := by
  refine ⟨JR_len h.1 h0 h1, ?_, ?_⟩
  · rw [upm_58 (by decide)]; exact h.2.1
  · have e3 : upm m 249 18 v 249 53 = m 249 53 := by simp [upm_app]
    rw [e3]; exact h.2.2
theorem JW_len0 {l : Nat} {g : Fg} {tc pl W : Int} {N : Int → Int} {m : Mem} (h : JW l g tc pl N W m) : JW l g 0 pl N W (upm m 249 18 0) := JW_len h (by decide) (by decide)
theorem upm_v (m : Mem) (a j v : Int) : upm m a j v a j = v := by simp [upm_app]
theorem upm_k {m : Mem} {a j v y : Int} (h : y ≠ j) : upm m a j v a y = m a y := by rw [upm_app, if_neg (fun q => h q.2)]
theorem stx_c {v : Int} (h : -8 ≤ v ∧ v ≤ -1) : stx v := h
end
section
/-! the readers of the reference -/
theorem dig {v t : Int} (h0 : 0 ≤ v) (h1 : v ≤ 99) (h2 : 48 ≤ t) (h3 : t ≤ 57) : w32 (w32 (w32 (10 * v) + t) - 48) = 10 * v + t - 48 := by
  rw [w32_eq (v := 10 * v) (by omega) (by omega), w32_eq (v := 10 * v + t) (by omega) (by omega), w32_eq (by omega) (by omega)]
theorem p_184b {d : Nat} {e : Int} {m : Mem} {Q : Int → Sto → Prop} (h0 : 0 ≤ m 249 19) (h1 : m 249 20 ≤ 80) (hq : ∀ v, (v = 1 ∧ m 249 19 < m 249 20 ∧ 48 ≤ m 260 (m 249 19) ∧ m 260 (m 249 19) ≤ 57 ∨ v = 0 ∧ ¬ (m 249 19 < m 249 20 ∧ 48 ≤ m 260 (m 249 19) ∧ m 260 (m 249 19) ≤ 57)) → Q v (S9 e m)) : Cl (d + 2) 184 [249] Q (S9 e m) := by
  simp only [cl_184, runB, B184, ma_184, rho_2, wf_13_163, wf_13_175, wf_13_42, wc_169, w_cst, w_ldi, w_ldj, w_lda, w_ljk, w_ldk, w_ldw, w_ldk2, w_ldt, w_ldtw, w_neg, w_cvb, w_cvs, w_cvc, w_cvj, w_add, w_sub, w_mul, w_ban, w_bor, w_bxo, w_shl, w_shr, w_ush, w_dvi, w_rmi, w_aldi, w_aldj, w_aldz, w_aldc, w_alda, w_ite, w_cmp, w_cmj, w_cz, w_cnot, w_cand, w_cor, w_nil, w_cons, w_cvi, w_csta, w_cvt, w_cvv, w_csv, w_cpy, w_seq, w_sbr, w_sbn, w_brk, w_ifs, w_ifx, w_ife, w_wk, w_rets, w_rtv, w_thr, w_asi, w_asj, w_asa, w_inc, w_exs, w_asti, w_astj, w_astz, w_astc, w_aopadd, w_aopsub, w_sw, if_true, if_false, ↓reduceIte, hdl_c, S9_1, S9_m, bud9, live9, inb9, wrn, wr9_14, wr9_15, wr9_16, wr9_17, tq9_14, tq9_15, tq9_16, tq9_17, tq_0, tq_1, tq_3, upr_rl, rl_0, rl_1, rl_2, rl_3, rl_4, rl_5, rl_6, rl_7, rl_8, rl_9, rl_10, rl_11, rl_12, rl_13, sp_0, sp_1, sp_2, sp_3, sp_4, sp_5, sp_6, sp_7, sp_8, sp_9, sp_10, sp_11, sp_12, sp_13, se_0, se_1, se_2, se_3, se_4, se_5, se_6, se_7, se_8, se_9, se_10, se_11, se_12, se_13, sem_0, sem_1, sem_2, sem_3, sem_4, sem_5, sr_249_52, sr_249_10, sr_249_24, sr_249_16, sr_249_67, sr_249_11, sr_249_57, sr_249_41, kl9_249, sr_249_34, sr_249_68, sr_249_9, sr_249_58, sr_249_51, kc_249, sr_249_64, sr_249_69, sr_249_17, sr_249_35, sr_249_12, sr_249_54, sr_249_13, sr_249_43, sr_249_31, sr_249_23, sr_249_50, sr_249_25, sr_249_42, sr_249_63, sr_249_61, sr_249_40, sr_249_55, sr_249_14, sr_249_30, sr_249_15, sr_249_2, sr_249_70, sr_249_22, sr_249_71, sr_249_8, kc_260, kl9_260, List.getD_cons_zero, List.getD_cons_succ, Bool.false_eq_true, wrn3, wrn1, cpmS, cpok9]
  repeat' (first
    | (with_reducible exact True.intro)
    | (with_reducible rfl)
    | (with_reducible refine And.intro ?_ ?_)
    | intro _
    | (with_reducible refine p_169 (fun v9 h9 => ?_); simp only [hdl_c, S9_1, S9_m, bud9, live9, inb9, wrn, wr9_14, wr9_15, wr9_16, wr9_17, tq9_14, tq9_15, tq9_16, tq9_17, tq_0, tq_1, tq_3, upr_rl, rl_0, rl_1, rl_2, rl_3, rl_4, rl_5, rl_6, rl_7, rl_8, rl_9, rl_10, rl_11, rl_12, rl_13, sp_0, sp_1, sp_2, sp_3, sp_4, sp_5, sp_6, sp_7, sp_8, sp_9, sp_10, sp_11, sp_12, sp_13, se_0, se_1, se_2, se_3, se_4, se_5, se_6, se_7, se_8, se_9, se_10, se_11, se_12, se_13, sem_0, sem_1, sem_2, sem_3, sem_4, sem_5, List.getD_cons_zero, List.getD_cons_succ, Bool.false_eq_true, wrn3, wrn1, cpmS, cpok9, if_true, if_false, ↓reduceIte, wc_169, sr_249_52, sr_249_10, sr_249_24, sr_249_16, sr_249_67, sr_249_11, sr_249_57, sr_249_41, kl9_249, sr_249_34, sr_249_68, sr_249_9, sr_249_58, sr_249_51, kc_249, sr_249_64, sr_249_69, sr_249_17, sr_249_35, sr_249_12, sr_249_54, sr_249_13, sr_249_43, sr_249_31, sr_249_23, sr_249_50, sr_249_25, sr_249_42, sr_249_63, sr_249_61, sr_249_40, sr_249_55, sr_249_14, sr_249_30, sr_249_15, sr_249_2, sr_249_70, sr_249_22, sr_249_71, sr_249_8, kc_260, kl9_260]; (try simp (disch := omega) only [w15_0, w15_1, w15_3, w15_4, w15_5, w15_6, w3_0, w3_1, w3_2, upm_app, Int.reduceEq, and_self, and_true, true_and, and_false, false_and, if_true, if_false, ↓reduceIte]))
    | (with_reducible refine hq _ ?_)
    | omega
    | (with_reducible contradiction)
    | (unfold w32; omega)
    | (simp (disch := omega) only [w32_eq]; omega)
    | (with_reducible show (_ : Int) ≤ _; simp [upm] <;> (first | omega | (unfold w32; omega)))
    | (with_reducible show (_ : Int) < _; simp [upm] <;> (first | omega | (unfold w32; omega))))
end
section
/-! THE KITCHEN is read by the reference -/
abbrev WY (P a b c : Int) : Prop := 0 ≤ a ∧ a < P ∧ 0 ≤ b ∧ b < P ∧ 1 ≤ c ∧ c ≤ 9
abbrev PY (P a : Int) : Prop := 0 ≤ a ∧ a < P
def KRc (m : Mem) : Prop := m 249 20 ≤ 76 ∧ 0 ≤ m 249 26 ∧ m 249 3 + m 249 26 ≤ 10 ∧ 0 ≤ m 249 27 ∧ m 249 4 + m 249 27 ≤ 14 ∧ 0 ≤ m 249 28 ∧ m 249 5 + m 249 28 ≤ 5 ∧ 0 ≤ m 249 29 ∧ m 249 6 + m 249 29 ≤ 5
def KRf (P a b c : Int) (m : Mem) : Prop := (∀ k, 0 ≤ k → k < a → WY P (m 262 (4 * k)) (m 262 (4 * k + 1)) (m 262 (4 * k + 2))) ∧
  (∀ k, 0 ≤ k → k < b → PY P (m 263 (3 * k + 2))) ∧ (∀ k, 0 ≤ k → k < c → PY P (m 264 (2 * k + 1)))
def KR (m : Mem) : Prop := KRc m ∧ KRf (m 249 3 + m 249 26) (m 249 27) (m 249 28) (m 249 29) m
abbrev nKR (m : Mem) (a j : Int) : Prop := (a = 249 → j ≠ 3 ∧ j ≠ 4 ∧ j ≠ 5 ∧ j ≠ 6 ∧ j ≠ 20 ∧ j ≠ 26 ∧ j ≠ 27 ∧ j ≠ 28 ∧ j ≠ 29) ∧ (a = 262 → 4 * m 249 27 ≤ j) ∧ (a = 263 → 3 * m 249 28 ≤ j) ∧ (a = 264 → 2 * m 249 29 ≤ j)
theorem upn {m : Mem} {a j v b y : Int} (h : b = a → y ≠ j) : upm m a j v b y = m b y := by
  unfold upm; rw [if_neg]; rintro ⟨h1, h2⟩; exact h h1 h2
theorem KRf_up {P x y z : Int} {m : Mem} {a j v : Int} (h : KRf P x y z m) (h2 : a = 262 → 4 * x ≤ j) (h3 : a = 263 → 3 * y ≤ j) (h4 : a = 264 → 2 * z ≤ j) : KRf P x y z (upm m a j v) := by
  refine ⟨fun k q0 q1 => ?_, fun k q0 q1 => ?_, fun k q0 q1 => ?_⟩
  · have := h.1 k q0 q1
    rw [upn (fun e => by have := h2 e.symm; omega), upn (fun e => by have := h2 e.symm; omega), upn (fun e => by have := h2 e.symm; omega)]
    exact this
  · have := h.2.1 k q0 q1
    rw [upn (fun e => by have := h3 e.symm; omega)]
    exact this
  · have := h.2.2 k q0 q1
    rw [upn (fun e => by have := h4 e.symm; omega)]
    exact this
theorem KR_up {m : Mem} {a j v : Int} (h : KR m) (hn : nKR m a j) : KR (upm m a j v) := by
  obtain ⟨n1, n2, n3, n4⟩ := hn
  have e3 : upm m a j v 249 3 = m 249 3 := upn (fun q => by have := n1 q.symm; omega)
  have e4 : upm m a j v 249 4 = m 249 4 := upn (fun q => by have := n1 q.symm; omega)
  have e5 : upm m a j v 249 5 = m 249 5 := upn (fun q => by have := n1 q.symm; omega)
  have e6 : upm m a j v 249 6 = m 249 6 := upn (fun q => by have := n1 q.symm; omega)
  have e20 : upm m a j v 249 20 = m 249 20 := upn (fun q => by have := n1 q.symm; omega)
  have e26 : upm m a j v 249 26 = m 249 26 := upn (fun q => by have := n1 q.symm; omega)
  have e27 : upm m a j v 249 27 = m 249 27 := upn (fun q => by have := n1 q.symm; omega)
  have e28 : upm m a j v 249 28 = m 249 28 := upn (fun q => by have := n1 q.symm; omega)
  have e29 : upm m a j v 249 29 = m 249 29 := upn (fun q => by have := n1 q.symm; omega)
  unfold KR KRc
  rw [e3, e4, e5, e6, e20, e26, e27, e28, e29]
  exact ⟨h.1, KRf_up h.2 n2 n3 n4⟩
theorem KR_26 {m : Mem} {n : Int} (h : KR m) (e : n = m 249 26 + 1) (hl : m 249 3 + m 249 26 < 10) : KR (upm m 249 26 n) := by
  subst e
  obtain ⟨⟨c1, c2, c3, c4, c5, c6, c7, c8, c9⟩, f1, f2, f3⟩ := h
  unfold KR KRc KRf
  simp only [upm_app, Int.reduceEq, and_self, and_true, true_and, and_false, false_and, if_true, if_false, ↓reduceIte]
  refine ⟨⟨c1, by omega, by omega, c4, c5, c6, c7, c8, c9⟩, fun k q0 q1 => ?_, fun k q0 q1 => ?_, fun k q0 q1 => ?_⟩
  · have := f1 k q0 q1; omega
  · have := f2 k q0 q1; omega
  · have := f3 k q0 q1; omega
theorem KR_27 {m : Mem} {n : Int} (h : KR m) (e : n = m 249 27 + 1) (hl : m 249 4 + m 249 27 < 14) (hw : WY (m 249 3 + m 249 26) (m 262 (4 * m 249 27)) (m 262 (4 * m 249 27 + 1)) (m 262 (4 * m 249 27 + 2))) : KR (upm m 249 27 n) := by
  subst e
  obtain ⟨⟨c1, c2, c3, c4, c5, c6, c7, c8, c9⟩, f1, f2, f3⟩ := h
  unfold KR KRc KRf
  simp only [upm_app, Int.reduceEq, and_self, and_true, true_and, and_false, false_and, if_true, if_false, ↓reduceIte]
  refine ⟨⟨c1, c2, c3, by omega, by omega, c6, c7, c8, c9⟩, fun k q0 q1 => ?_, f2, f3⟩
  by_cases hk : k = m 249 27
  · rw [hk]; exact hw
  · exact f1 k q0 (by omega)
theorem KR_28 {m : Mem} {n : Int} (h : KR m) (e : n = m 249 28 + 1) (hl : m 249 5 + m 249 28 < 5) (hw : PY (m 249 3 + m 249 26) (m 263 (3 * m 249 28 + 2))) : KR (upm m 249 28 n) := by
  subst e
  obtain ⟨⟨c1, c2, c3, c4, c5, c6, c7, c8, c9⟩, f1, f2, f3⟩ := h
  unfold KR KRc KRf
  simp only [upm_app, Int.reduceEq, and_self, and_true, true_and, and_false, false_and, if_true, if_false, ↓reduceIte]
  refine ⟨⟨c1, c2, c3, c4, c5, by omega, by omega, c8, c9⟩, f1, fun k q0 q1 => ?_, f3⟩
  by_cases hk : k = m 249 28
  · rw [hk]; exact hw
  · exact f2 k q0 (by omega)
theorem KR_29 {m : Mem} {n : Int} (h : KR m) (e : n = m 249 29 + 1) (hl : m 249 6 + m 249 29 < 5) (hw : PY (m 249 3 + m 249 26) (m 264 (2 * m 249 29 + 1))) : KR (upm m 249 29 n) := by
  subst e
  obtain ⟨⟨c1, c2, c3, c4, c5, c6, c7, c8, c9⟩, f1, f2, f3⟩ := h
  unfold KR KRc KRf
  simp only [upm_app, Int.reduceEq, and_self, and_true, true_and, and_false, false_and, if_true, if_false, ↓reduceIte]
  refine ⟨⟨c1, c2, c3, c4, c5, c6, c7, by omega, by omega⟩, f1, f2, fun k q0 q1 => ?_⟩
  by_cases hk : k = m 249 29
  · rw [hk]; exact hw
  · exact f3 k q0 (by omega)
abbrev RP (m m' : Mem) (v : Int) : Prop := (0 ≤ m' 249 19 ∧ m' 249 19 ≤ 80 ∧ m' 249 20 = m 249 20) ∧ (v = 0 ∨ v = 1 ∧ KR m' ∧ m 249 19 ≤ m' 249 19 ∧ m' 249 19 ≤ m' 249 20)
theorem l_fbt : ((sLen.getD (-1 - (-1 - ((1 : Nat) : Int)) : Int).toNat 0 : Nat) : Int) = 3 := by decide
theorem l_dig : ((sLen.getD (-1 - (-1 - ((2 : Nat) : Int)) : Int).toNat 0 : Nat) : Int) = 9 := by decide
theorem l_all : ((sLen.getD (-1 - (-1 - ((0 : Nat) : Int)) : Int).toNat 0 : Nat) : Int) = 6 := by decide
end
section
/-! THE KITCHEN's call of the reference -/
theorem BdR_mono {tc pl pl' a j v : Int} (h : BdR tc pl a j v) (hp : pl ≤ pl') : BdR tc pl' a j v := by
  have hR : ∀ {x y : Int}, RBd pl x y → RBd pl' x y := by
    intro x y q
    refine ⟨fun a1 a2 => ?_, fun a1 a2 a3 => ?_, q.2.2.1, q.2.2.2⟩
    · have := q.1 a1 a2; omega
    · have := q.2.1 a1 a2 a3; omega
  unfold BdR at h ⊢
  by_cases q : a = 249
  · rw [if_pos q] at h ⊢
    exact ⟨h.1, h.2.1, fun e => by have := h.2.2.1 e; omega, h.2.2.2⟩
  rw [if_neg q] at h ⊢
  by_cases q : a = 252
  · rw [if_pos q] at h ⊢; omega
  rw [if_neg q] at h ⊢
  by_cases q : a = 253
  · rw [if_pos q] at h ⊢; omega
  rw [if_neg q] at h ⊢
  by_cases q : a = 254
  · rw [if_pos q] at h ⊢; exact h
  rw [if_neg q] at h ⊢
  by_cases q : a = 258
  · rw [if_pos q] at h ⊢; exact hR h
  rw [if_neg q] at h ⊢
  by_cases q : a = 259
  · rw [if_pos q] at h ⊢; exact hR h
  rw [if_neg q] at h ⊢
  by_cases q : a = 269
  · rw [if_pos q] at h ⊢; exact hR h
  rw [if_neg q] at h ⊢
  by_cases q : a = 287
  · rw [if_pos q] at h ⊢; exact hR h
  rw [if_neg q] at h ⊢
  exact h
theorem JB_mono {l : Nat} {g : Fg} {tc pl pl' : Int} {m : Mem} (h : JB l g tc pl m) (hp : pl ≤ pl') (hp2 : pl' ≤ 10) : JB l g tc pl' m := ⟨h.1, ⟨by have := h.2.1; omega, hp2⟩, h.2.2.1, fun a j => BdR_mono (h.2.2.2 a j) hp⟩
def KC (g : Fg) (pl a b c f P : Int) (m : Mem) : Prop := JB 1 g 0 pl m ∧ (∀ w, 0 ≤ w → w < m 249 4 → 1 ≤ m 254 w) ∧ COK (m 265) (m 249 32) ∧ (m 249 26 = a ∧ m 249 27 = b ∧ m 249 28 = c ∧ m 249 29 = f) ∧ KRf P b c f m
abbrev nKC (a j : Int) : Prop := a ≠ 254 ∧ a ≠ 262 ∧ a ≠ 263 ∧ a ≠ 264 ∧ a ≠ 265 ∧ (a = 249 → j ≠ 4 ∧ j ≠ 26 ∧ j ≠ 27 ∧ j ≠ 28 ∧ j ≠ 29 ∧ j ≠ 32)
theorem KC_up {g : Fg} {pl x y z t P : Int} {m : Mem} {a j v : Int} (h : KC g pl x y z t P m) (ha : ¬ frR 1 a j) (hn : nKC a j) (hv : BdR 0 pl a j v) : KC g pl x y z t P (upm m a j v) := by
  obtain ⟨hB, hw, hC, hc, hf⟩ := h
  obtain ⟨n1, n2, n3, n4, n5, n6⟩ := hn
  have e4 : upm m a j v 249 4 = m 249 4 := upn (fun q => by have := n6 q.symm; omega)
  have e26 : upm m a j v 249 26 = m 249 26 := upn (fun q => by have := n6 q.symm; omega)
  have e27 : upm m a j v 249 27 = m 249 27 := upn (fun q => by have := n6 q.symm; omega)
  have e28 : upm m a j v 249 28 = m 249 28 := upn (fun q => by have := n6 q.symm; omega)
  have e29 : upm m a j v 249 29 = m 249 29 := upn (fun q => by have := n6 q.symm; omega)
  have e32 : upm m a j v 249 32 = m 249 32 := upn (fun q => by have := n6 q.symm; omega)
  have e54 : upm m a j v 254 = m 254 := by funext y; exact upm_a _ _ _ _ _ _ (fun q => n1 q.symm)
  have e65 : upm m a j v 265 = m 265 := by funext y; exact upm_a _ _ _ _ _ _ (fun q => n5 q.symm)
  unfold KC
  rw [e4, e26, e27, e28, e29, e32, e54, e65]
  exact ⟨JB_up hB ha hv, hw, hC, hc, KRf_up hf (fun q => absurd q n2) (fun q => absurd q n3) (fun q => absurd q n4)⟩
theorem KC_254 {g : Fg} {pl x y z t P : Int} {m : Mem} {j v : Int} (h : KC g pl x y z t P m) (hj : m 249 4 ≤ j) (hv : 0 ≤ v ∧ v ≤ 9) : KC g pl x y z t P (upm m 254 j v) := by
  obtain ⟨hB, hw, hC, hc, hf⟩ := h
  have e9 : ∀ y, upm m 254 j v 249 y = m 249 y := fun y => upm_a _ _ _ _ _ _ (by decide)
  have e65 : upm m 254 j v 265 = m 265 := by funext y; exact upm_a _ _ _ _ _ _ (by decide)
  refine ⟨JB_up hB (by unfold frR; omega) (by simp [BdR]; exact hv), ?_, ?_, ?_, KRf_up hf (fun q => absurd q (by decide)) (fun q => absurd q (by decide)) (fun q => absurd q (by decide))⟩
  · intro w q0 q1
    rw [e9] at q1
    rw [upm_k (by omega)]
    exact hw w q0 q1
  · rw [e9, e65]; exact hC
  · rw [e9, e9, e9, e9]; exact hc
theorem KC_4 {g : Fg} {pl x y z t P : Int} {m : Mem} {v : Int} (h : KC g pl x y z t P m) (hv : v = m 249 4 + 1) (hl : 0 ≤ v ∧ v ≤ 14) (h1 : 1 ≤ m 254 (m 249 4)) : KC g pl x y z t P (upm m 249 4 v) := by
  obtain ⟨hB, hw, hC, hc, hf⟩ := h
  have e9 : ∀ y, y ≠ 4 → upm m 249 4 v 249 y = m 249 y := fun y hy => upm_k hy
  have e65 : upm m 249 4 v 265 = m 265 := by funext y; exact upm_a _ _ _ _ _ _ (by decide)
  have e54 : upm m 249 4 v 254 = m 254 := by funext y; exact upm_a _ _ _ _ _ _ (by decide)
  refine ⟨JB_up hB (by unfold frR; omega) (by simp [BdR]; exact hl), ?_, ?_, ?_, KRf_up hf (fun q => absurd q (by decide)) (fun q => absurd q (by decide)) (fun q => absurd q (by decide))⟩
  · intro w q0 q1
    rw [upm_v] at q1
    rw [e54]
    by_cases e : w = m 249 4
    · rw [e]; exact h1
    · exact hw w q0 (by omega)
  · rw [e9 32 (by decide), e65]; exact hC
  · rw [e9 26 (by decide), e9 27 (by decide), e9 28 (by decide), e9 29 (by decide)]; exact hc
theorem rb_one {pl p i v : Int} (hp : 0 ≤ p ∧ p ≤ 4) (hi : 0 ≤ i ∧ i ≤ 6) (h0 : i = 0 → 0 ≤ v ∧ v ≤ pl - 1) (h3 : i = 3 → 0 ≤ v ∧ v ≤ 1) (h5 : i = 5 → -1 ≤ v ∧ v ≤ 4) : RBd pl (15 + 7 * p + i) v := by
  rw [rb_i (by omega) (by omega)]
  refine ⟨fun q => absurd q (by omega), fun q0 q1 q2 => h0 (by omega), fun q0 q1 q2 => h3 (by omega), fun q0 q1 q2 => h5 (by omega)⟩
theorem KC_s {g : Fg} {pl x y z t P : Int} {m : Mem} (h : KC g pl x y z t P m) : 1 ≤ pl ∧ pl ≤ 10 ∧ m 249 26 = x ∧ m 249 27 = y ∧ m 249 28 = z ∧ m 249 29 = t := ⟨h.1.2.1.1, h.1.2.1.2, h.2.2.2.1⟩
theorem w1p {q : Int} (h0 : 0 ≤ q ∧ q ≤ 300) : w32 (q + 1) = q + 1 := by unfold w32; omega
theorem KR_00 {m : Mem} (h : m 249 20 ≤ 76 ∧ m 249 26 = 0 ∧ m 249 27 = 0 ∧ m 249 28 = 0 ∧ m 249 29 = 0 ∧ m 249 3 ≤ 10 ∧ m 249 4 ≤ 14 ∧ m 249 5 ≤ 5 ∧ m 249 6 ≤ 5) : KR m := by
  refine ⟨by unfold KRc; omega, fun k h0 h1 => absurd h1 (by omega), fun k h0 h1 => absurd h1 (by omega), fun k h0 h1 => absurd h1 (by omega)⟩
theorem KC_end {g : Fg} {pl A B C F P : Int} {m : Mem} (h : KC g pl A B C F P m) (h3 : m 249 3 = pl ∨ m 249 3 = 0 ∧ pl = 1) : JR 1 g 0 pl m := ⟨h.1, h3, h.2.1, h.2.2.1⟩
theorem KC_beg {g : Fg} {pl W : Int} {N : Int → Int} {m : Mem} (h : JW 1 g 0 pl N W m) (hK : KR m) : ∃ pl', (m 249 3 + m 249 26 = pl' ∨ m 249 3 + m 249 26 = 0 ∧ pl' = 1) ∧ m 249 3 + m 249 26 ≤ pl' ∧ KC g pl' (m 249 26) (m 249 27) (m 249 28) (m 249 29) (m 249 3 + m 249 26) m := by
  have hs := JW_s h
  have h3 := (JW_1 h).2.1
  have hc := hK.1
  unfold KRc at hc
  by_cases e : m 249 3 + m 249 26 = 0
  · exact ⟨1, Or.inr ⟨e, rfl⟩, by omega, JB_mono (JW_1 h).1 (by omega) (by omega), (JW_1 h).2.2.1, (JW_1 h).2.2.2, ⟨rfl, rfl, rfl, rfl⟩, hK.2⟩
  · exact ⟨m 249 3 + m 249 26, Or.inl rfl, Int.le_refl _, JB_mono (JW_1 h).1 (by omega) (by omega), (JW_1 h).2.2.1, (JW_1 h).2.2.2, ⟨rfl, rfl, rfl, rfl⟩, hK.2⟩
end
section
/-! the component's text, to the letter: limit (2,2), more than that (2,3), where one reads (2,4), failed (2,5) -/
abbrev dgt (T : Int → Int) (L p : Int) : Prop := p < L ∧ 48 ≤ T p ∧ T p ≤ 57
abbrev let1 (T : Int → Int) (L P p : Int) : Prop := p < L ∧ 97 ≤ T p ∧ T p < 97 + P
/-- digits read on: their number, and where they end -/
def nv (T : Int → Int) (L : Int) : Nat → Int → Int → Int × Int
  | 0, v, p => (v, p)
  | n + 1, v, p => if dgt T L p then nv T L n (10 * v + T p - 48) (p + 1) else (v, p)
theorem nv_0 {T : Int → Int} {L v p : Int} : nv T L 0 v p = (v, p) := rfl
theorem nv_y {T : Int → Int} {L v p : Int} (n : Nat) (h : dgt T L p) : nv T L (n + 1) v p = nv T L n (10 * v + T p - 48) (p + 1) := by
  show (if dgt T L p then _ else _) = _
  rw [if_pos h]
theorem nv_n {T : Int → Int} {L v p : Int} (n : Nat) (h : ¬ dgt T L p) : nv T L n v p = (v, p) := by
  cases n with
  | zero => rfl
  | succ n => show (if dgt T L p then _ else _) = _; rw [if_neg h]
theorem nv_r {T : Int → Int} {L : Int} : ∀ (n : Nat) (v p : Int), 0 ≤ v → p ≤ (nv T L n v p).2 ∧ (nv T L n v p).2 ≤ p + n ∧ (p ≤ L → (nv T L n v p).2 ≤ L) ∧ 0 ≤ (nv T L n v p).1
  | 0, v, p, h0 => ⟨Int.le_refl _, by show p ≤ p + 0; omega, fun h => h, h0⟩
  | n + 1, v, p, h0 => by
    by_cases h : dgt T L p
    · rw [nv_y n h]
      obtain ⟨a, b, c, d⟩ := nv_r (T := T) (L := L) n (10 * v + T p - 48) (p + 1) (by omega)
      exact ⟨by omega, by omega, fun h9 => c (by omega), d⟩
    · rw [nv_n _ h]
      refine ⟨Int.le_refl _, ?_, fun h => h, h0⟩
      show p ≤ p + _; omega
theorem p_21x {d : Nat} {e : Int} {m : Mem} {Q : Int → Sto → Prop} (h0 : 0 ≤ m 2 4 ∧ m 2 4 ≤ 80) (h1 : m 2 2 ≤ 80) (hq1 : (m 2 5 = 0 ∧ m 2 4 < m 2 2) → Q (m 3 (m 2 4)) (S9 e m)) (hq : ¬ (m 2 5 = 0 ∧ m 2 4 < m 2 2) → Q (-1) (S9 e m)) : Cl (d + 1) 21 [2] Q (S9 e m) := by
  simp only [cl_21, runB, B21, ma_21, rho_2, wf_2_25, wf_2_32, wf_2_35, wf_2_9, w_cst, w_ldi, w_ldj, w_lda, w_ljk, w_ldk, w_ldw, w_ldk2, w_ldt, w_ldtw, w_neg, w_cvb, w_cvs, w_cvc, w_cvj, w_add, w_sub, w_mul, w_ban, w_bor, w_bxo, w_shl, w_shr, w_ush, w_dvi, w_rmi, w_aldi, w_aldj, w_aldz, w_aldc, w_alda, w_ite, w_cmp, w_cmj, w_cz, w_cnot, w_cand, w_cor, w_nil, w_cons, w_cvi, w_csta, w_cvt, w_cvv, w_csv, w_cpy, w_seq, w_sbr, w_sbn, w_brk, w_ifs, w_ifx, w_ife, w_wk, w_rets, w_rtv, w_thr, w_asi, w_asj, w_asa, w_inc, w_exs, w_asti, w_astj, w_astz, w_astc, w_aopadd, w_aopsub, w_sw, if_true, if_false, ↓reduceIte, hdl_c, S9_1, S9_m, bud9, live9, inb9, wrn, wr9_14, wr9_15, wr9_16, wr9_17, tq9_14, tq9_15, tq9_16, tq9_17, tq_0, tq_1, tq_3, upr_rl, rl_0, rl_1, rl_2, rl_3, rl_4, rl_5, rl_6, rl_7, rl_8, rl_9, rl_10, rl_11, rl_12, rl_13, sp_0, sp_1, sp_2, sp_3, sp_4, sp_5, sp_6, sp_7, sp_8, sp_9, sp_10, sp_11, sp_12, sp_13, se_0, se_1, se_2, se_3, se_4, se_5, se_6, se_7, se_8, se_9, se_10, se_11, se_12, se_13, sem_0, sem_1, sem_2, sem_3, sem_4, sem_5, kc_2, kl9_2, sr_2_0, kl9_3, kc_3, List.getD_cons_zero, List.getD_cons_succ, Bool.false_eq_true, wrn3, wrn1, cpmS, cpok9]
  repeat' (first
    | (with_reducible exact True.intro)
    | (with_reducible rfl)
    | (with_reducible refine And.intro ?_ ?_)
    | intro _
    | (with_reducible refine hq1 ?_ <;> (first | omega | (unfold w32; omega) | (unfold w32 at *; omega)))
    | (with_reducible refine hq ?_ <;> (first | omega | (unfold w32; omega) | (unfold w32 at *; omega)))
    | omega
    | (with_reducible contradiction)
    | (unfold w32; omega)
    | (simp (disch := omega) only [w32_eq]; omega)
    | (with_reducible show (_ : Int) ≤ _; simp [upm] <;> (first | omega | (unfold w32; omega)))
    | (with_reducible show (_ : Int) < _; simp [upm] <;> (first | omega | (unfold w32; omega))))

theorem p_31x {d : Nat} {e : Int} {m : Mem} {Q : Int → Sto → Prop} (h0 : 0 ≤ m 2 4 ∧ m 2 4 ≤ 80) (h1 : m 2 2 ≤ 80) (hq1 : ((m 2 5 = 0 ∧ m 2 4 < m 2 2) ∧ 48 ≤ m 3 (m 2 4) ∧ m 3 (m 2 4) ≤ 57) → Q 1 (S9 e m)) (hq : ¬ ((m 2 5 = 0 ∧ m 2 4 < m 2 2) ∧ 48 ≤ m 3 (m 2 4) ∧ m 3 (m 2 4) ≤ 57) → Q 0 (S9 e m)) : Cl (d + 2) 31 [2] Q (S9 e m) := by
  simp only [cl_31, runB, B31, ma_31, rho_2, wc_21, w_cst, w_ldi, w_ldj, w_lda, w_ljk, w_ldk, w_ldw, w_ldk2, w_ldt, w_ldtw, w_neg, w_cvb, w_cvs, w_cvc, w_cvj, w_add, w_sub, w_mul, w_ban, w_bor, w_bxo, w_shl, w_shr, w_ush, w_dvi, w_rmi, w_aldi, w_aldj, w_aldz, w_aldc, w_alda, w_ite, w_cmp, w_cmj, w_cz, w_cnot, w_cand, w_cor, w_nil, w_cons, w_cvi, w_csta, w_cvt, w_cvv, w_csv, w_cpy, w_seq, w_sbr, w_sbn, w_brk, w_ifs, w_ifx, w_ife, w_wk, w_rets, w_rtv, w_thr, w_asi, w_asj, w_asa, w_inc, w_exs, w_asti, w_astj, w_astz, w_astc, w_aopadd, w_aopsub, w_sw, if_true, if_false, ↓reduceIte, hdl_c, S9_1, S9_m, bud9, live9, inb9, wrn, wr9_14, wr9_15, wr9_16, wr9_17, tq9_14, tq9_15, tq9_16, tq9_17, tq_0, tq_1, tq_3, upr_rl, rl_0, rl_1, rl_2, rl_3, rl_4, rl_5, rl_6, rl_7, rl_8, rl_9, rl_10, rl_11, rl_12, rl_13, sp_0, sp_1, sp_2, sp_3, sp_4, sp_5, sp_6, sp_7, sp_8, sp_9, sp_10, sp_11, sp_12, sp_13, se_0, se_1, se_2, se_3, se_4, se_5, se_6, se_7, se_8, se_9, se_10, se_11, se_12, se_13, sem_0, sem_1, sem_2, sem_3, sem_4, sem_5, kc_2, kl9_2, sr_2_0, kl9_3, kc_3, List.getD_cons_zero, List.getD_cons_succ, Bool.false_eq_true, wrn3, wrn1, cpmS, cpok9]
  repeat' (first
    | (with_reducible exact True.intro)
    | (with_reducible rfl)
    | (with_reducible refine And.intro ?_ ?_)
    | intro _
    | ((with_reducible refine p_21x ?_ ?_ (fun h9 => ?_) (fun h9 => ?_)); (next => first | exact hB | (intro j; simp only [upm_app, Int.reduceEq, and_self, and_true, true_and, and_false, false_and, if_true, if_false, ↓reduceIte]; exact hB j) | omega | (with_reducible rfl) | ((try simp only [upm_app, Int.reduceEq, and_self, and_true, true_and, and_false, false_and, if_true, if_false, ↓reduceIte]); first | omega | (refine And.intro ?_ ?_ <;> omega) | (unfold w32; omega))); (next => first | exact hB | (intro j; simp only [upm_app, Int.reduceEq, and_self, and_true, true_and, and_false, false_and, if_true, if_false, ↓reduceIte]; exact hB j) | omega | (with_reducible rfl) | ((try simp only [upm_app, Int.reduceEq, and_self, and_true, true_and, and_false, false_and, if_true, if_false, ↓reduceIte]); first | omega | (refine And.intro ?_ ?_ <;> omega) | (unfold w32; omega))); all_goals ((try subst e9); (try subst f9); ((try simp only [upm_app, Int.reduceEq, and_self, and_true, true_and, and_false, false_and, if_true, if_false, ↓reduceIte] at h9) <;> (simp only [hdl_c, S9_1, S9_m, bud9, live9, inb9, wrn, wr9_14, wr9_15, wr9_16, wr9_17, tq9_14, tq9_15, tq9_16, tq9_17, tq_0, tq_1, tq_3, upr_rl, rl_0, rl_1, rl_2, rl_3, rl_4, rl_5, rl_6, rl_7, rl_8, rl_9, rl_10, rl_11, rl_12, rl_13, sp_0, sp_1, sp_2, sp_3, sp_4, sp_5, sp_6, sp_7, sp_8, sp_9, sp_10, sp_11, sp_12, sp_13, se_0, se_1, se_2, se_3, se_4, se_5, se_6, se_7, se_8, se_9, se_10, se_11, se_12, se_13, sem_0, sem_1, sem_2, sem_3, sem_4, sem_5, List.getD_cons_zero, List.getD_cons_succ, Bool.false_eq_true, wrn3, wrn1, cpmS, cpok9, if_true, if_false, ↓reduceIte, wc_21, kc_2, kl9_2, sr_2_0, kl9_3, kc_3]; (try simp (disch := omega) only [w15_0, w15_1, w15_3, w15_4, w15_5, w15_6, w3_0, w3_1, w3_2, upm_app, Int.reduceEq, and_self, and_true, true_and, and_false, false_and, if_true, if_false, ↓reduceIte])))))
    | (with_reducible refine hq1 ?_ <;> (first | omega | (unfold w32; omega) | (unfold w32 at *; omega)))
    | (with_reducible refine hq ?_ <;> (first | omega | (unfold w32; omega) | (unfold w32 at *; omega)))
    | omega
    | (with_reducible contradiction)
    | (unfold w32; omega)
    | (simp (disch := omega) only [w32_eq]; omega)
    | (with_reducible show (_ : Int) ≤ _; simp [upm] <;> (first | omega | (unfold w32; omega)))
    | (with_reducible show (_ : Int) < _; simp [upm] <;> (first | omega | (unfold w32; omega))))

theorem p_28x {d : Nat} {e : Int} {m : Mem} {Q : Int → Sto → Prop} {a : Int} (h0 : 0 ≤ m 2 4 ∧ m 2 4 ≤ 80) (h1 : m 2 2 ≤ 80) (ha : 0 ≤ a) (hq1 : ∀ x, ((m 2 5 = 0 ∧ m 2 4 < m 2 2) ∧ m 3 (m 2 4) = a) → x = m 2 4 + 1 → Q 1 (S9 e (upm m 2 4 x))) (hq : ¬ ((m 2 5 = 0 ∧ m 2 4 < m 2 2) ∧ m 3 (m 2 4) = a) → Q 0 (S9 e m)) : Cl (d + 2) 28 [2, a] Q (S9 e m) := by
  simp only [cl_28, runB, B28, ma_28, rho_20, wpf_2_32, wpopadd_pf_2_32, wc_21, w_cst, w_ldi, w_ldj, w_lda, w_ljk, w_ldk, w_ldw, w_ldk2, w_ldt, w_ldtw, w_neg, w_cvb, w_cvs, w_cvc, w_cvj, w_add, w_sub, w_mul, w_ban, w_bor, w_bxo, w_shl, w_shr, w_ush, w_dvi, w_rmi, w_aldi, w_aldj, w_aldz, w_aldc, w_alda, w_ite, w_cmp, w_cmj, w_cz, w_cnot, w_cand, w_cor, w_nil, w_cons, w_cvi, w_csta, w_cvt, w_cvv, w_csv, w_cpy, w_seq, w_sbr, w_sbn, w_brk, w_ifs, w_ifx, w_ife, w_wk, w_rets, w_rtv, w_thr, w_asi, w_asj, w_asa, w_inc, w_exs, w_asti, w_astj, w_astz, w_astc, w_aopadd, w_aopsub, w_sw, if_true, if_false, ↓reduceIte, hdl_c, S9_1, S9_m, bud9, live9, inb9, wrn, wr9_14, wr9_15, wr9_16, wr9_17, tq9_14, tq9_15, tq9_16, tq9_17, tq_0, tq_1, tq_3, upr_rl, rl_0, rl_1, rl_2, rl_3, rl_4, rl_5, rl_6, rl_7, rl_8, rl_9, rl_10, rl_11, rl_12, rl_13, sp_0, sp_1, sp_2, sp_3, sp_4, sp_5, sp_6, sp_7, sp_8, sp_9, sp_10, sp_11, sp_12, sp_13, se_0, se_1, se_2, se_3, se_4, se_5, se_6, se_7, se_8, se_9, se_10, se_11, se_12, se_13, sem_0, sem_1, sem_2, sem_3, sem_4, sem_5, kc_2, kl9_2, sr_2_0, kl9_3, kc_3, List.getD_cons_zero, List.getD_cons_succ, Bool.false_eq_true, wrn3, wrn1, cpmS, cpok9]
  repeat' (first
    | (with_reducible exact True.intro)
    | (with_reducible rfl)
    | (with_reducible refine And.intro ?_ ?_)
    | intro _
    | ((with_reducible refine p_21x ?_ ?_ (fun h9 => ?_) (fun h9 => ?_)); (next => first | exact hB | (intro j; simp only [upm_app, Int.reduceEq, and_self, and_true, true_and, and_false, false_and, if_true, if_false, ↓reduceIte]; exact hB j) | omega | (with_reducible rfl) | ((try simp only [upm_app, Int.reduceEq, and_self, and_true, true_and, and_false, false_and, if_true, if_false, ↓reduceIte]); first | omega | (refine And.intro ?_ ?_ <;> omega) | (unfold w32; omega))); (next => first | exact hB | (intro j; simp only [upm_app, Int.reduceEq, and_self, and_true, true_and, and_false, false_and, if_true, if_false, ↓reduceIte]; exact hB j) | omega | (with_reducible rfl) | ((try simp only [upm_app, Int.reduceEq, and_self, and_true, true_and, and_false, false_and, if_true, if_false, ↓reduceIte]); first | omega | (refine And.intro ?_ ?_ <;> omega) | (unfold w32; omega))); all_goals ((try subst e9); (try subst f9); ((try simp only [upm_app, Int.reduceEq, and_self, and_true, true_and, and_false, false_and, if_true, if_false, ↓reduceIte] at h9) <;> (simp only [hdl_c, S9_1, S9_m, bud9, live9, inb9, wrn, wr9_14, wr9_15, wr9_16, wr9_17, tq9_14, tq9_15, tq9_16, tq9_17, tq_0, tq_1, tq_3, upr_rl, rl_0, rl_1, rl_2, rl_3, rl_4, rl_5, rl_6, rl_7, rl_8, rl_9, rl_10, rl_11, rl_12, rl_13, sp_0, sp_1, sp_2, sp_3, sp_4, sp_5, sp_6, sp_7, sp_8, sp_9, sp_10, sp_11, sp_12, sp_13, se_0, se_1, se_2, se_3, se_4, se_5, se_6, se_7, se_8, se_9, se_10, se_11, se_12, se_13, sem_0, sem_1, sem_2, sem_3, sem_4, sem_5, List.getD_cons_zero, List.getD_cons_succ, Bool.false_eq_true, wrn3, wrn1, cpmS, cpok9, if_true, if_false, ↓reduceIte, wc_21, kc_2, kl9_2, sr_2_0, kl9_3, kc_3]; (try simp (disch := omega) only [w15_0, w15_1, w15_3, w15_4, w15_5, w15_6, w3_0, w3_1, w3_2, upm_app, Int.reduceEq, and_self, and_true, true_and, and_false, false_and, if_true, if_false, ↓reduceIte])))))
    | (with_reducible refine hq1 _ ?_ ?_ <;> (first | omega | (unfold w32; omega) | (unfold w32 at *; omega)))
    | (with_reducible refine hq ?_ <;> (first | omega | (unfold w32; omega) | (unfold w32 at *; omega)))
    | omega
    | (with_reducible contradiction)
    | (unfold w32; omega)
    | (simp (disch := omega) only [w32_eq]; omega)
    | (with_reducible show (_ : Int) ≤ _; simp [upm] <;> (first | omega | (unfold w32; omega)))
    | (with_reducible show (_ : Int) < _; simp [upm] <;> (first | omega | (unfold w32; omega))))

theorem p_24x {d : Nat} {e : Int} {m : Mem} {Q : Int → Sto → Prop} (h0 : 0 ≤ m 2 4 ∧ m 2 4 ≤ 80) (h1 : m 2 2 ≤ 80) (hq1 : ∀ v x, m 2 5 = 0 → x = m 2 4 + 1 → Q v (S9 e (upm m 2 4 x))) (hq : ∀ v, m 2 5 ≠ 0 → Q v (S9 e m)) : Cl (d + 1) 24 [2] Q (S9 e m) := by
  simp only [cl_24, runB, B24, ma_24, rho_2, wf_2_35, wpf_2_32, wpopadd_pf_2_32, w_cst, w_ldi, w_ldj, w_lda, w_ljk, w_ldk, w_ldw, w_ldk2, w_ldt, w_ldtw, w_neg, w_cvb, w_cvs, w_cvc, w_cvj, w_add, w_sub, w_mul, w_ban, w_bor, w_bxo, w_shl, w_shr, w_ush, w_dvi, w_rmi, w_aldi, w_aldj, w_aldz, w_aldc, w_alda, w_ite, w_cmp, w_cmj, w_cz, w_cnot, w_cand, w_cor, w_nil, w_cons, w_cvi, w_csta, w_cvt, w_cvv, w_csv, w_cpy, w_seq, w_sbr, w_sbn, w_brk, w_ifs, w_ifx, w_ife, w_wk, w_rets, w_rtv, w_thr, w_asi, w_asj, w_asa, w_inc, w_exs, w_asti, w_astj, w_astz, w_astc, w_aopadd, w_aopsub, w_sw, if_true, if_false, ↓reduceIte, hdl_c, S9_1, S9_m, bud9, live9, inb9, wrn, wr9_14, wr9_15, wr9_16, wr9_17, tq9_14, tq9_15, tq9_16, tq9_17, tq_0, tq_1, tq_3, upr_rl, rl_0, rl_1, rl_2, rl_3, rl_4, rl_5, rl_6, rl_7, rl_8, rl_9, rl_10, rl_11, rl_12, rl_13, sp_0, sp_1, sp_2, sp_3, sp_4, sp_5, sp_6, sp_7, sp_8, sp_9, sp_10, sp_11, sp_12, sp_13, se_0, se_1, se_2, se_3, se_4, se_5, se_6, se_7, se_8, se_9, se_10, se_11, se_12, se_13, sem_0, sem_1, sem_2, sem_3, sem_4, sem_5, kc_2, kl9_2, sr_2_0, kl9_3, kc_3, List.getD_cons_zero, List.getD_cons_succ, Bool.false_eq_true, wrn3, wrn1, cpmS, cpok9]
  repeat' (first
    | (with_reducible exact True.intro)
    | (with_reducible rfl)
    | (with_reducible refine And.intro ?_ ?_)
    | intro _
    | (with_reducible refine hq1 _ _ ?_ ?_ <;> (first | omega | (unfold w32; omega) | (unfold w32 at *; omega)))
    | (with_reducible refine hq _ ?_ <;> (first | omega | (unfold w32; omega) | (unfold w32 at *; omega)))
    | omega
    | (with_reducible contradiction)
    | (unfold w32; omega)
    | (simp (disch := omega) only [w32_eq]; omega)
    | (with_reducible show (_ : Int) ≤ _; simp [upm] <;> (first | omega | (unfold w32; omega)))
    | (with_reducible show (_ : Int) < _; simp [upm] <;> (first | omega | (unfold w32; omega))))

theorem p_27x {d : Nat} {e : Int} {m : Mem} {Q : Int → Sto → Prop} {a : Int} (h0 : 0 ≤ m 2 4 ∧ m 2 4 ≤ 80) (h1 : m 2 2 ≤ 80) (hB : ∀ j, 0 ≤ m 3 j ∧ m 3 j < 256) (ha : a = 0 ∨ a = 1) (hq1 : ∀ v x, ((m 2 5 = 0 ∧ m 2 4 < m 2 2) ∧ 48 + a ≤ m 3 (m 2 4) ∧ m 3 (m 2 4) ≤ 57) → v = m 3 (m 2 4) - 48 → x = m 2 4 + 1 → Q v (S9 e (upm m 2 4 x))) (hq : ¬ ((m 2 5 = 0 ∧ m 2 4 < m 2 2) ∧ 48 + a ≤ m 3 (m 2 4) ∧ m 3 (m 2 4) ≤ 57) → Q a (S9 e (upm m 2 5 1))) : Cl (d + 2) 27 [2, a] Q (S9 e m) := by
  have hb := hB (m 2 4)
  simp only [cl_27, runB, B27, ma_27, rho_20, wpf_2_32, wpopadd_pf_2_32, wpf_2_35, wc_21, w_cst, w_ldi, w_ldj, w_lda, w_ljk, w_ldk, w_ldw, w_ldk2, w_ldt, w_ldtw, w_neg, w_cvb, w_cvs, w_cvc, w_cvj, w_add, w_sub, w_mul, w_ban, w_bor, w_bxo, w_shl, w_shr, w_ush, w_dvi, w_rmi, w_aldi, w_aldj, w_aldz, w_aldc, w_alda, w_ite, w_cmp, w_cmj, w_cz, w_cnot, w_cand, w_cor, w_nil, w_cons, w_cvi, w_csta, w_cvt, w_cvv, w_csv, w_cpy, w_seq, w_sbr, w_sbn, w_brk, w_ifs, w_ifx, w_ife, w_wk, w_rets, w_rtv, w_thr, w_asi, w_asj, w_asa, w_inc, w_exs, w_asti, w_astj, w_astz, w_astc, w_aopadd, w_aopsub, w_sw, if_true, if_false, ↓reduceIte, hdl_c, S9_1, S9_m, bud9, live9, inb9, wrn, wr9_14, wr9_15, wr9_16, wr9_17, tq9_14, tq9_15, tq9_16, tq9_17, tq_0, tq_1, tq_3, upr_rl, rl_0, rl_1, rl_2, rl_3, rl_4, rl_5, rl_6, rl_7, rl_8, rl_9, rl_10, rl_11, rl_12, rl_13, sp_0, sp_1, sp_2, sp_3, sp_4, sp_5, sp_6, sp_7, sp_8, sp_9, sp_10, sp_11, sp_12, sp_13, se_0, se_1, se_2, se_3, se_4, se_5, se_6, se_7, se_8, se_9, se_10, se_11, se_12, se_13, sem_0, sem_1, sem_2, sem_3, sem_4, sem_5, kc_2, kl9_2, sr_2_0, kl9_3, kc_3, List.getD_cons_zero, List.getD_cons_succ, Bool.false_eq_true, wrn3, wrn1, cpmS, cpok9]
  repeat' (first
    | (with_reducible exact True.intro)
    | (with_reducible rfl)
    | (with_reducible refine And.intro ?_ ?_)
    | intro _
    | ((with_reducible refine p_21x ?_ ?_ (fun h9 => ?_) (fun h9 => ?_)); (next => first | exact hB | (intro j; simp only [upm_app, Int.reduceEq, and_self, and_true, true_and, and_false, false_and, if_true, if_false, ↓reduceIte]; exact hB j) | omega | (with_reducible rfl) | ((try simp only [upm_app, Int.reduceEq, and_self, and_true, true_and, and_false, false_and, if_true, if_false, ↓reduceIte]); first | omega | (refine And.intro ?_ ?_ <;> omega) | (unfold w32; omega))); (next => first | exact hB | (intro j; simp only [upm_app, Int.reduceEq, and_self, and_true, true_and, and_false, false_and, if_true, if_false, ↓reduceIte]; exact hB j) | omega | (with_reducible rfl) | ((try simp only [upm_app, Int.reduceEq, and_self, and_true, true_and, and_false, false_and, if_true, if_false, ↓reduceIte]); first | omega | (refine And.intro ?_ ?_ <;> omega) | (unfold w32; omega))); all_goals ((try subst e9); (try subst f9); ((try simp only [upm_app, Int.reduceEq, and_self, and_true, true_and, and_false, false_and, if_true, if_false, ↓reduceIte] at h9) <;> (simp only [hdl_c, S9_1, S9_m, bud9, live9, inb9, wrn, wr9_14, wr9_15, wr9_16, wr9_17, tq9_14, tq9_15, tq9_16, tq9_17, tq_0, tq_1, tq_3, upr_rl, rl_0, rl_1, rl_2, rl_3, rl_4, rl_5, rl_6, rl_7, rl_8, rl_9, rl_10, rl_11, rl_12, rl_13, sp_0, sp_1, sp_2, sp_3, sp_4, sp_5, sp_6, sp_7, sp_8, sp_9, sp_10, sp_11, sp_12, sp_13, se_0, se_1, se_2, se_3, se_4, se_5, se_6, se_7, se_8, se_9, se_10, se_11, se_12, se_13, sem_0, sem_1, sem_2, sem_3, sem_4, sem_5, List.getD_cons_zero, List.getD_cons_succ, Bool.false_eq_true, wrn3, wrn1, cpmS, cpok9, if_true, if_false, ↓reduceIte, wc_21, kc_2, kl9_2, sr_2_0, kl9_3, kc_3]; (try simp (disch := omega) only [w15_0, w15_1, w15_3, w15_4, w15_5, w15_6, w3_0, w3_1, w3_2, upm_app, Int.reduceEq, and_self, and_true, true_and, and_false, false_and, if_true, if_false, ↓reduceIte])))))
    | (with_reducible refine hq1 _ _ ?_ ?_ ?_ <;> (first | omega | (unfold w32; omega) | (unfold w32 at *; omega)))
    | (with_reducible refine hq ?_ <;> (first | omega | (unfold w32; omega) | (unfold w32 at *; omega)))
    | omega
    | (with_reducible contradiction)
    | (unfold w32; omega)
    | (simp (disch := omega) only [w32_eq]; omega)
    | (with_reducible show (_ : Int) ≤ _; simp [upm] <;> (first | omega | (unfold w32; omega)))
    | (with_reducible show (_ : Int) < _; simp [upm] <;> (first | omega | (unfold w32; omega))))

theorem p_26x {d : Nat} {e : Int} {m : Mem} {Q : Int → Sto → Prop} {a b : Int} (h0 : 0 ≤ m 2 4 ∧ m 2 4 ≤ 80) (h1 : m 2 2 ≤ 80) (hB : ∀ j, 0 ≤ m 3 j ∧ m 3 j < 256) (ha : 0 ≤ a ∧ a ≤ 10) (hb9 : -1 ≤ b ∧ b ≤ 300) (hq1 : ∀ v x, ((m 2 5 = 0 ∧ m 2 4 < m 2 2) ∧ 97 ≤ m 3 (m 2 4) ∧ m 3 (m 2 4) < 97 + a ∧ m 3 (m 2 4) - 97 ≠ b) → v = m 3 (m 2 4) - 97 → x = m 2 4 + 1 → Q v (S9 e (upm m 2 4 x))) (hq : ¬ ((m 2 5 = 0 ∧ m 2 4 < m 2 2) ∧ 97 ≤ m 3 (m 2 4) ∧ m 3 (m 2 4) < 97 + a ∧ m 3 (m 2 4) - 97 ≠ b) → Q (-1) (S9 e (upm m 2 5 1))) : Cl (d + 2) 26 [2, a, b] Q (S9 e m) := by
  have hb := hB (m 2 4)
  simp only [cl_26, runB, B26, ma_26, rho_200, wpf_2_32, wpopadd_pf_2_32, wpf_2_35, wc_21, w_cst, w_ldi, w_ldj, w_lda, w_ljk, w_ldk, w_ldw, w_ldk2, w_ldt, w_ldtw, w_neg, w_cvb, w_cvs, w_cvc, w_cvj, w_add, w_sub, w_mul, w_ban, w_bor, w_bxo, w_shl, w_shr, w_ush, w_dvi, w_rmi, w_aldi, w_aldj, w_aldz, w_aldc, w_alda, w_ite, w_cmp, w_cmj, w_cz, w_cnot, w_cand, w_cor, w_nil, w_cons, w_cvi, w_csta, w_cvt, w_cvv, w_csv, w_cpy, w_seq, w_sbr, w_sbn, w_brk, w_ifs, w_ifx, w_ife, w_wk, w_rets, w_rtv, w_thr, w_asi, w_asj, w_asa, w_inc, w_exs, w_asti, w_astj, w_astz, w_astc, w_aopadd, w_aopsub, w_sw, if_true, if_false, ↓reduceIte, hdl_c, S9_1, S9_m, bud9, live9, inb9, wrn, wr9_14, wr9_15, wr9_16, wr9_17, tq9_14, tq9_15, tq9_16, tq9_17, tq_0, tq_1, tq_3, upr_rl, rl_0, rl_1, rl_2, rl_3, rl_4, rl_5, rl_6, rl_7, rl_8, rl_9, rl_10, rl_11, rl_12, rl_13, sp_0, sp_1, sp_2, sp_3, sp_4, sp_5, sp_6, sp_7, sp_8, sp_9, sp_10, sp_11, sp_12, sp_13, se_0, se_1, se_2, se_3, se_4, se_5, se_6, se_7, se_8, se_9, se_10, se_11, se_12, se_13, sem_0, sem_1, sem_2, sem_3, sem_4, sem_5, kc_2, kl9_2, sr_2_0, kl9_3, kc_3, List.getD_cons_zero, List.getD_cons_succ, Bool.false_eq_true, wrn3, wrn1, cpmS, cpok9]
  repeat' (first
    | (with_reducible exact True.intro)
    | (with_reducible rfl)
    | (with_reducible refine And.intro ?_ ?_)
    | intro _
    | ((with_reducible refine p_21x ?_ ?_ (fun h9 => ?_) (fun h9 => ?_)); (next => first | exact hB | (intro j; simp only [upm_app, Int.reduceEq, and_self, and_true, true_and, and_false, false_and, if_true, if_false, ↓reduceIte]; exact hB j) | omega | (with_reducible rfl) | ((try simp only [upm_app, Int.reduceEq, and_self, and_true, true_and, and_false, false_and, if_true, if_false, ↓reduceIte]); first | omega | (refine And.intro ?_ ?_ <;> omega) | (unfold w32; omega))); (next => first | exact hB | (intro j; simp only [upm_app, Int.reduceEq, and_self, and_true, true_and, and_false, false_and, if_true, if_false, ↓reduceIte]; exact hB j) | omega | (with_reducible rfl) | ((try simp only [upm_app, Int.reduceEq, and_self, and_true, true_and, and_false, false_and, if_true, if_false, ↓reduceIte]); first | omega | (refine And.intro ?_ ?_ <;> omega) | (unfold w32; omega))); all_goals ((try subst e9); (try subst f9); ((try simp only [upm_app, Int.reduceEq, and_self, and_true, true_and, and_false, false_and, if_true, if_false, ↓reduceIte] at h9) <;> (simp only [hdl_c, S9_1, S9_m, bud9, live9, inb9, wrn, wr9_14, wr9_15, wr9_16, wr9_17, tq9_14, tq9_15, tq9_16, tq9_17, tq_0, tq_1, tq_3, upr_rl, rl_0, rl_1, rl_2, rl_3, rl_4, rl_5, rl_6, rl_7, rl_8, rl_9, rl_10, rl_11, rl_12, rl_13, sp_0, sp_1, sp_2, sp_3, sp_4, sp_5, sp_6, sp_7, sp_8, sp_9, sp_10, sp_11, sp_12, sp_13, se_0, se_1, se_2, se_3, se_4, se_5, se_6, se_7, se_8, se_9, se_10, se_11, se_12, se_13, sem_0, sem_1, sem_2, sem_3, sem_4, sem_5, List.getD_cons_zero, List.getD_cons_succ, Bool.false_eq_true, wrn3, wrn1, cpmS, cpok9, if_true, if_false, ↓reduceIte, wc_21, kc_2, kl9_2, sr_2_0, kl9_3, kc_3]; (try simp (disch := omega) only [w15_0, w15_1, w15_3, w15_4, w15_5, w15_6, w3_0, w3_1, w3_2, upm_app, Int.reduceEq, and_self, and_true, true_and, and_false, false_and, if_true, if_false, ↓reduceIte])))))
    | (with_reducible refine hq1 _ _ ?_ ?_ ?_ <;> (first | omega | (unfold w32; omega) | (unfold w32 at *; omega)))
    | (with_reducible refine hq ?_ <;> (first | omega | (unfold w32; omega) | (unfold w32 at *; omega)))
    | omega
    | (with_reducible contradiction)
    | (unfold w32; omega)
    | (simp (disch := omega) only [w32_eq]; omega)
    | (with_reducible show (_ : Int) ≤ _; simp [upm] <;> (first | omega | (unfold w32; omega)))
    | (with_reducible show (_ : Int) < _; simp [upm] <;> (first | omega | (unfold w32; omega))))

theorem p_32x {d : Nat} {e : Int} {m : Mem} {Q : Int → Sto → Prop} {a : Int} (h0 : 0 ≤ m 2 4 ∧ m 2 4 ≤ 80) (h1 : m 2 2 ≤ 80) (ha : 0 ≤ a) (hq1 : ∀ v x, ((m 2 5 = 0 ∧ m 2 4 < m 2 2) ∧ m 3 (m 2 4) = a) → x = m 2 4 + 1 → Q v (S9 e (upm m 2 4 x))) (hq : ∀ v, ¬ ((m 2 5 = 0 ∧ m 2 4 < m 2 2) ∧ m 3 (m 2 4) = a) → Q v (S9 e (upm m 2 5 1))) : Cl (d + 3) 32 [2, a] Q (S9 e m) := by
  simp only [cl_32, runB, B32, ma_32, rho_20, wpf_2_35, wc_28, w_cst, w_ldi, w_ldj, w_lda, w_ljk, w_ldk, w_ldw, w_ldk2, w_ldt, w_ldtw, w_neg, w_cvb, w_cvs, w_cvc, w_cvj, w_add, w_sub, w_mul, w_ban, w_bor, w_bxo, w_shl, w_shr, w_ush, w_dvi, w_rmi, w_aldi, w_aldj, w_aldz, w_aldc, w_alda, w_ite, w_cmp, w_cmj, w_cz, w_cnot, w_cand, w_cor, w_nil, w_cons, w_cvi, w_csta, w_cvt, w_cvv, w_csv, w_cpy, w_seq, w_sbr, w_sbn, w_brk, w_ifs, w_ifx, w_ife, w_wk, w_rets, w_rtv, w_thr, w_asi, w_asj, w_asa, w_inc, w_exs, w_asti, w_astj, w_astz, w_astc, w_aopadd, w_aopsub, w_sw, if_true, if_false, ↓reduceIte, hdl_c, S9_1, S9_m, bud9, live9, inb9, wrn, wr9_14, wr9_15, wr9_16, wr9_17, tq9_14, tq9_15, tq9_16, tq9_17, tq_0, tq_1, tq_3, upr_rl, rl_0, rl_1, rl_2, rl_3, rl_4, rl_5, rl_6, rl_7, rl_8, rl_9, rl_10, rl_11, rl_12, rl_13, sp_0, sp_1, sp_2, sp_3, sp_4, sp_5, sp_6, sp_7, sp_8, sp_9, sp_10, sp_11, sp_12, sp_13, se_0, se_1, se_2, se_3, se_4, se_5, se_6, se_7, se_8, se_9, se_10, se_11, se_12, se_13, sem_0, sem_1, sem_2, sem_3, sem_4, sem_5, kc_2, kl9_2, sr_2_0, kl9_3, kc_3, List.getD_cons_zero, List.getD_cons_succ, Bool.false_eq_true, wrn3, wrn1, cpmS, cpok9]
  repeat' (first
    | (with_reducible exact True.intro)
    | (with_reducible rfl)
    | (with_reducible refine And.intro ?_ ?_)
    | intro _
    | ((with_reducible refine p_28x ?_ ?_ ?_ (fun _ h9 e9 => ?_) (fun h9 => ?_)); (next => first | exact hB | (intro j; simp only [upm_app, Int.reduceEq, and_self, and_true, true_and, and_false, false_and, if_true, if_false, ↓reduceIte]; exact hB j) | omega | (with_reducible rfl) | ((try simp only [upm_app, Int.reduceEq, and_self, and_true, true_and, and_false, false_and, if_true, if_false, ↓reduceIte]); first | omega | (refine And.intro ?_ ?_ <;> omega) | (unfold w32; omega))); (next => first | exact hB | (intro j; simp only [upm_app, Int.reduceEq, and_self, and_true, true_and, and_false, false_and, if_true, if_false, ↓reduceIte]; exact hB j) | omega | (with_reducible rfl) | ((try simp only [upm_app, Int.reduceEq, and_self, and_true, true_and, and_false, false_and, if_true, if_false, ↓reduceIte]); first | omega | (refine And.intro ?_ ?_ <;> omega) | (unfold w32; omega))); (next => first | exact hB | (intro j; simp only [upm_app, Int.reduceEq, and_self, and_true, true_and, and_false, false_and, if_true, if_false, ↓reduceIte]; exact hB j) | omega | (with_reducible rfl) | ((try simp only [upm_app, Int.reduceEq, and_self, and_true, true_and, and_false, false_and, if_true, if_false, ↓reduceIte]); first | omega | (refine And.intro ?_ ?_ <;> omega) | (unfold w32; omega))); all_goals ((try subst e9); (try subst f9); ((try simp only [upm_app, Int.reduceEq, and_self, and_true, true_and, and_false, false_and, if_true, if_false, ↓reduceIte] at h9) <;> (simp only [hdl_c, S9_1, S9_m, bud9, live9, inb9, wrn, wr9_14, wr9_15, wr9_16, wr9_17, tq9_14, tq9_15, tq9_16, tq9_17, tq_0, tq_1, tq_3, upr_rl, rl_0, rl_1, rl_2, rl_3, rl_4, rl_5, rl_6, rl_7, rl_8, rl_9, rl_10, rl_11, rl_12, rl_13, sp_0, sp_1, sp_2, sp_3, sp_4, sp_5, sp_6, sp_7, sp_8, sp_9, sp_10, sp_11, sp_12, sp_13, se_0, se_1, se_2, se_3, se_4, se_5, se_6, se_7, se_8, se_9, se_10, se_11, se_12, se_13, sem_0, sem_1, sem_2, sem_3, sem_4, sem_5, List.getD_cons_zero, List.getD_cons_succ, Bool.false_eq_true, wrn3, wrn1, cpmS, cpok9, if_true, if_false, ↓reduceIte, wc_28, kc_2, kl9_2, sr_2_0, kl9_3, kc_3]; (try simp (disch := omega) only [w15_0, w15_1, w15_3, w15_4, w15_5, w15_6, w3_0, w3_1, w3_2, upm_app, Int.reduceEq, and_self, and_true, true_and, and_false, false_and, if_true, if_false, ↓reduceIte])))))
    | (with_reducible refine hq1 _ _ ?_ ?_ <;> (first | omega | (unfold w32; omega) | (unfold w32 at *; omega)))
    | (with_reducible refine hq _ ?_ <;> (first | omega | (unfold w32; omega) | (unfold w32 at *; omega)))
    | omega
    | (with_reducible contradiction)
    | (unfold w32; omega)
    | (simp (disch := omega) only [w32_eq]; omega)
    | (with_reducible show (_ : Int) ≤ _; simp [upm] <;> (first | omega | (unfold w32; omega)))
    | (with_reducible show (_ : Int) < _; simp [upm] <;> (first | omega | (unfold w32; omega))))

theorem p_34x {d : Nat} {e : Int} {m : Mem} {Q : Int → Sto → Prop} {a : Int} (hq1 : ∀ v, m 2 5 = 0 → Q v (S9 e (upm (upm m 2 5 1) 2 4 a))) (hq : ∀ v, m 2 5 ≠ 0 → Q v (S9 e m)) : Cl (d + 1) 34 [2, a] Q (S9 e m) := by
  simp only [cl_34, runB, B34, ma_34, rho_20, wf_2_35, wpf_2_32, wpopadd_pf_2_32, wpf_2_35, w_cst, w_ldi, w_ldj, w_lda, w_ljk, w_ldk, w_ldw, w_ldk2, w_ldt, w_ldtw, w_neg, w_cvb, w_cvs, w_cvc, w_cvj, w_add, w_sub, w_mul, w_ban, w_bor, w_bxo, w_shl, w_shr, w_ush, w_dvi, w_rmi, w_aldi, w_aldj, w_aldz, w_aldc, w_alda, w_ite, w_cmp, w_cmj, w_cz, w_cnot, w_cand, w_cor, w_nil, w_cons, w_cvi, w_csta, w_cvt, w_cvv, w_csv, w_cpy, w_seq, w_sbr, w_sbn, w_brk, w_ifs, w_ifx, w_ife, w_wk, w_rets, w_rtv, w_thr, w_asi, w_asj, w_asa, w_inc, w_exs, w_asti, w_astj, w_astz, w_astc, w_aopadd, w_aopsub, w_sw, if_true, if_false, ↓reduceIte, hdl_c, S9_1, S9_m, bud9, live9, inb9, wrn, wr9_14, wr9_15, wr9_16, wr9_17, tq9_14, tq9_15, tq9_16, tq9_17, tq_0, tq_1, tq_3, upr_rl, rl_0, rl_1, rl_2, rl_3, rl_4, rl_5, rl_6, rl_7, rl_8, rl_9, rl_10, rl_11, rl_12, rl_13, sp_0, sp_1, sp_2, sp_3, sp_4, sp_5, sp_6, sp_7, sp_8, sp_9, sp_10, sp_11, sp_12, sp_13, se_0, se_1, se_2, se_3, se_4, se_5, se_6, se_7, se_8, se_9, se_10, se_11, se_12, se_13, sem_0, sem_1, sem_2, sem_3, sem_4, sem_5, kc_2, kl9_2, sr_2_0, kl9_3, kc_3, List.getD_cons_zero, List.getD_cons_succ, Bool.false_eq_true, wrn3, wrn1, cpmS, cpok9]
  repeat' (first
    | (with_reducible exact True.intro)
    | (with_reducible rfl)
    | (with_reducible refine And.intro ?_ ?_)
    | intro _
    | (with_reducible refine hq1 _ ?_ <;> (first | omega | (unfold w32; omega) | (unfold w32 at *; omega)))
    | (with_reducible refine hq _ ?_ <;> (first | omega | (unfold w32; omega) | (unfold w32 at *; omega)))
    | omega
    | (with_reducible contradiction)
    | (unfold w32; omega)
    | (simp (disch := omega) only [w32_eq]; omega)
    | (with_reducible show (_ : Int) ≤ _; simp [upm] <;> (first | omega | (unfold w32; omega)))
    | (with_reducible show (_ : Int) < _; simp [upm] <;> (first | omega | (unfold w32; omega))))

theorem p_39x {d : Nat} {e : Int} {m : Mem} {Q : Int → Sto → Prop} (h0 : 0 ≤ m 2 4) (h1 : 0 ≤ m 2 2) (hq1 : (m 2 5 = 0 ∧ m 2 2 ≤ m 2 4 ∧ m 2 3 = 0) → Q (-1) (S9 e (upm m 2 1 0))) (hq : ∀ v, ¬ (m 2 5 = 0 ∧ m 2 2 ≤ m 2 4 ∧ m 2 3 = 0) → 0 ≤ v → v = m 2 4 ∨ v = m 2 2 → Q v (S9 e (upm m 2 1 0))) : Cl (d + 1) 39 [2] Q (S9 e m) := by
  simp only [cl_39, runB, B39, ma_39, rho_2, wf_2_25, wf_2_28, wf_2_32, wf_2_35, wpf_2_15, wpopadd_pf_2_15, w_cst, w_ldi, w_ldj, w_lda, w_ljk, w_ldk, w_ldw, w_ldk2, w_ldt, w_ldtw, w_neg, w_cvb, w_cvs, w_cvc, w_cvj, w_add, w_sub, w_mul, w_ban, w_bor, w_bxo, w_shl, w_shr, w_ush, w_dvi, w_rmi, w_aldi, w_aldj, w_aldz, w_aldc, w_alda, w_ite, w_cmp, w_cmj, w_cz, w_cnot, w_cand, w_cor, w_nil, w_cons, w_cvi, w_csta, w_cvt, w_cvv, w_csv, w_cpy, w_seq, w_sbr, w_sbn, w_brk, w_ifs, w_ifx, w_ife, w_wk, w_rets, w_rtv, w_thr, w_asi, w_asj, w_asa, w_inc, w_exs, w_asti, w_astj, w_astz, w_astc, w_aopadd, w_aopsub, w_sw, if_true, if_false, ↓reduceIte, hdl_c, S9_1, S9_m, bud9, live9, inb9, wrn, wr9_14, wr9_15, wr9_16, wr9_17, tq9_14, tq9_15, tq9_16, tq9_17, tq_0, tq_1, tq_3, upr_rl, rl_0, rl_1, rl_2, rl_3, rl_4, rl_5, rl_6, rl_7, rl_8, rl_9, rl_10, rl_11, rl_12, rl_13, sp_0, sp_1, sp_2, sp_3, sp_4, sp_5, sp_6, sp_7, sp_8, sp_9, sp_10, sp_11, sp_12, sp_13, se_0, se_1, se_2, se_3, se_4, se_5, se_6, se_7, se_8, se_9, se_10, se_11, se_12, se_13, sem_0, sem_1, sem_2, sem_3, sem_4, sem_5, kc_2, kl9_2, sr_2_0, kl9_3, kc_3, List.getD_cons_zero, List.getD_cons_succ, Bool.false_eq_true, wrn3, wrn1, cpmS, cpok9, upm_app, Int.reduceEq, and_self, and_true, true_and, and_false, false_and, if_true, if_false, ↓reduceIte]
  repeat' (first
    | (with_reducible exact True.intro)
    | (with_reducible rfl)
    | (with_reducible refine And.intro ?_ ?_)
    | intro _
    | (with_reducible refine hq1 ?_ <;> (first | omega | (unfold w32; omega) | (unfold w32 at *; omega)))
    | (with_reducible refine hq _ ?_ ?_ ?_ <;> (first | omega | (unfold w32; omega) | (unfold w32 at *; omega)))
    | omega
    | (with_reducible contradiction)
    | (unfold w32; omega)
    | (simp (disch := omega) only [w32_eq]; omega)
    | (with_reducible show (_ : Int) ≤ _; simp [upm] <;> (first | omega | (unfold w32; omega)))
    | (with_reducible show (_ : Int) < _; simp [upm] <;> (first | omega | (unfold w32; omega))))

theorem p_18x {d : Nat} {e : Int} {m : Mem} {Q : Int → Sto → Prop} {a : Int} (h0 : 0 ≤ m 2 1 ∧ m 2 1 ≤ 80) (h1 : 0 ≤ a ∧ a ≤ 80) (hq : ∀ v L o, L = min (m 2 1) a → (o = 0 ∧ m 2 1 ≤ a ∨ o = 1 ∧ a < m 2 1) → Q v (S9 e (upm (upm (upm (upm m 2 2 L) 2 3 o) 2 4 0) 2 5 0))) : Cl (d + 2) 18 [2, a] Q (S9 e m) := by
  simp only [cl_18, runB, B18, ma_18, rho_20, wf_2_15, wpf_2_25, wpf_2_28, wpf_2_32, wpopadd_pf_2_32, wpf_2_35, wc_19, cl_19, B19, ma_19, rho_00, w_cst, w_ldi, w_ldj, w_lda, w_ljk, w_ldk, w_ldw, w_ldk2, w_ldt, w_ldtw, w_neg, w_cvb, w_cvs, w_cvc, w_cvj, w_add, w_sub, w_mul, w_ban, w_bor, w_bxo, w_shl, w_shr, w_ush, w_dvi, w_rmi, w_aldi, w_aldj, w_aldz, w_aldc, w_alda, w_ite, w_cmp, w_cmj, w_cz, w_cnot, w_cand, w_cor, w_nil, w_cons, w_cvi, w_csta, w_cvt, w_cvv, w_csv, w_cpy, w_seq, w_sbr, w_sbn, w_brk, w_ifs, w_ifx, w_ife, w_wk, w_rets, w_rtv, w_thr, w_asi, w_asj, w_asa, w_inc, w_exs, w_asti, w_astj, w_astz, w_astc, w_aopadd, w_aopsub, w_sw, if_true, if_false, ↓reduceIte, hdl_c, S9_1, S9_m, bud9, live9, inb9, wrn, wr9_14, wr9_15, wr9_16, wr9_17, tq9_14, tq9_15, tq9_16, tq9_17, tq_0, tq_1, tq_3, upr_rl, rl_0, rl_1, rl_2, rl_3, rl_4, rl_5, rl_6, rl_7, rl_8, rl_9, rl_10, rl_11, rl_12, rl_13, sp_0, sp_1, sp_2, sp_3, sp_4, sp_5, sp_6, sp_7, sp_8, sp_9, sp_10, sp_11, sp_12, sp_13, se_0, se_1, se_2, se_3, se_4, se_5, se_6, se_7, se_8, se_9, se_10, se_11, se_12, se_13, sem_0, sem_1, sem_2, sem_3, sem_4, sem_5, kc_2, kl9_2, sr_2_0, kl9_3, kc_3, List.getD_cons_zero, List.getD_cons_succ, Bool.false_eq_true, wrn3, wrn1, cpmS, cpok9, upm_app, Int.reduceEq, and_self, and_true, true_and, and_false, false_and, if_true, if_false, ↓reduceIte]
  repeat' (first
    | (with_reducible exact True.intro)
    | (with_reducible rfl)
    | (with_reducible refine And.intro ?_ ?_)
    | intro _
    | (with_reducible refine hq _ _ _ ?_ ?_ <;> (first | omega | (unfold w32; omega) | (unfold w32 at *; omega)))
    | omega
    | (with_reducible contradiction)
    | (unfold w32; omega)
    | (simp (disch := omega) only [w32_eq]; omega)
    | (with_reducible show (_ : Int) ≤ _; simp [upm] <;> (first | omega | (unfold w32; omega)))
    | (with_reducible show (_ : Int) < _; simp [upm] <;> (first | omega | (unfold w32; omega))))

theorem p_30x {d : Nat} {e : Int} {m : Mem} {Q : Int → Sto → Prop} {a : Int} (h0 : 0 ≤ m 2 4 ∧ m 2 4 ≤ 80) (h1 : m 2 2 ≤ 80) (hB : ∀ j, 0 ≤ m 3 j ∧ m 3 j < 256) (ha : 1 ≤ a ∧ a ≤ 3) (hf : m 2 5 = 0) (hq1 : ∀ v x, dgt (m 3) (m 2 2) (m 2 4) → v = (nv (m 3) (m 2 2) a.toNat 0 (m 2 4)).1 → x = (nv (m 3) (m 2 2) a.toNat 0 (m 2 4)).2 → Q v (S9 e (upm m 2 4 x))) (hq : ¬ dgt (m 3) (m 2 2) (m 2 4) → Q 0 (S9 e (upm m 2 5 1))) : Cl (d + 3) 30 [2, a] Q (S9 e m) := by
  have hb := hB (m 2 4)
  simp only [cl_30, runB, B30, ma_30, rho_20, wc_27, wc_31, w_cst, w_ldi, w_ldj, w_lda, w_ljk, w_ldk, w_ldw, w_ldk2, w_ldt, w_ldtw, w_neg, w_cvb, w_cvs, w_cvc, w_cvj, w_add, w_sub, w_mul, w_ban, w_bor, w_bxo, w_shl, w_shr, w_ush, w_dvi, w_rmi, w_aldi, w_aldj, w_aldz, w_aldc, w_alda, w_ite, w_cmp, w_cmj, w_cz, w_cnot, w_cand, w_cor, w_nil, w_cons, w_cvi, w_csta, w_cvt, w_cvv, w_csv, w_cpy, w_seq, w_sbr, w_sbn, w_brk, w_ifs, w_ifx, w_ife, w_wk, w_rets, w_rtv, w_thr, w_asi, w_asj, w_asa, w_inc, w_exs, w_asti, w_astj, w_astz, w_astc, w_aopadd, w_aopsub, w_sw, if_true, if_false, ↓reduceIte, hdl_c, S9_1, S9_m, bud9, live9, inb9, wrn, wr9_14, wr9_15, wr9_16, wr9_17, tq9_14, tq9_15, tq9_16, tq9_17, tq_0, tq_1, tq_3, upr_rl, rl_0, rl_1, rl_2, rl_3, rl_4, rl_5, rl_6, rl_7, rl_8, rl_9, rl_10, rl_11, rl_12, rl_13, sp_0, sp_1, sp_2, sp_3, sp_4, sp_5, sp_6, sp_7, sp_8, sp_9, sp_10, sp_11, sp_12, sp_13, se_0, se_1, se_2, se_3, se_4, se_5, se_6, se_7, se_8, se_9, se_10, se_11, se_12, se_13, sem_0, sem_1, sem_2, sem_3, sem_4, sem_5, kc_2, kl9_2, sr_2_0, kl9_3, kc_3, List.getD_cons_zero, List.getD_cons_succ, Bool.false_eq_true, wrn3, wrn1, cpmS, cpok9, upm_app, Int.reduceEq, and_self, and_true, true_and, and_false, false_and, if_true, if_false, ↓reduceIte]
  repeat' (first
    | (with_reducible exact True.intro)
    | (with_reducible rfl)
    | (with_reducible refine And.intro ?_ ?_)
    | intro _
    | ((with_reducible refine p_27x ?_ ?_ ?_ ?_ (fun _ _ h9 e9 f9 => ?_) (fun h9 => ?_)); (next => first | exact hB | (intro j; simp only [upm_app, Int.reduceEq, and_self, and_true, true_and, and_false, false_and, if_true, if_false, ↓reduceIte]; exact hB j) | omega | (with_reducible rfl) | ((try simp only [upm_app, Int.reduceEq, and_self, and_true, true_and, and_false, false_and, if_true, if_false, ↓reduceIte]); first | omega | (refine And.intro ?_ ?_ <;> omega) | (unfold w32; omega))); (next => first | exact hB | (intro j; simp only [upm_app, Int.reduceEq, and_self, and_true, true_and, and_false, false_and, if_true, if_false, ↓reduceIte]; exact hB j) | omega | (with_reducible rfl) | ((try simp only [upm_app, Int.reduceEq, and_self, and_true, true_and, and_false, false_and, if_true, if_false, ↓reduceIte]); first | omega | (refine And.intro ?_ ?_ <;> omega) | (unfold w32; omega))); (next => first | exact hB | (intro j; simp only [upm_app, Int.reduceEq, and_self, and_true, true_and, and_false, false_and, if_true, if_false, ↓reduceIte]; exact hB j) | omega | (with_reducible rfl) | ((try simp only [upm_app, Int.reduceEq, and_self, and_true, true_and, and_false, false_and, if_true, if_false, ↓reduceIte]); first | omega | (refine And.intro ?_ ?_ <;> omega) | (unfold w32; omega))); (next => first | exact hB | (intro j; simp only [upm_app, Int.reduceEq, and_self, and_true, true_and, and_false, false_and, if_true, if_false, ↓reduceIte]; exact hB j) | omega | (with_reducible rfl) | ((try simp only [upm_app, Int.reduceEq, and_self, and_true, true_and, and_false, false_and, if_true, if_false, ↓reduceIte]); first | omega | (refine And.intro ?_ ?_ <;> omega) | (unfold w32; omega))); all_goals ((try subst e9); (try subst f9); ((try simp only [upm_app, Int.reduceEq, and_self, and_true, true_and, and_false, false_and, if_true, if_false, ↓reduceIte] at h9) <;> (simp only [hdl_c, S9_1, S9_m, bud9, live9, inb9, wrn, wr9_14, wr9_15, wr9_16, wr9_17, tq9_14, tq9_15, tq9_16, tq9_17, tq_0, tq_1, tq_3, upr_rl, rl_0, rl_1, rl_2, rl_3, rl_4, rl_5, rl_6, rl_7, rl_8, rl_9, rl_10, rl_11, rl_12, rl_13, sp_0, sp_1, sp_2, sp_3, sp_4, sp_5, sp_6, sp_7, sp_8, sp_9, sp_10, sp_11, sp_12, sp_13, se_0, se_1, se_2, se_3, se_4, se_5, se_6, se_7, se_8, se_9, se_10, se_11, se_12, se_13, sem_0, sem_1, sem_2, sem_3, sem_4, sem_5, List.getD_cons_zero, List.getD_cons_succ, Bool.false_eq_true, wrn3, wrn1, cpmS, cpok9, if_true, if_false, ↓reduceIte, wc_27, wc_31, kc_2, kl9_2, sr_2_0, kl9_3, kc_3, upm_app, Int.reduceEq, and_self, and_true, true_and, and_false, false_and, if_true, if_false, ↓reduceIte]; (try simp (disch := omega) only [w15_0, w15_1, w15_3, w15_4, w15_5, w15_6, w3_0, w3_1, w3_2, upm_app, Int.reduceEq, and_self, and_true, true_and, and_false, false_and, if_true, if_false, ↓reduceIte])))))
    | ((with_reducible refine p_31x ?_ ?_ (fun h9 => ?_) (fun h9 => ?_)); (next => first | exact hB | (intro j; simp only [upm_app, Int.reduceEq, and_self, and_true, true_and, and_false, false_and, if_true, if_false, ↓reduceIte]; exact hB j) | omega | (with_reducible rfl) | ((try simp only [upm_app, Int.reduceEq, and_self, and_true, true_and, and_false, false_and, if_true, if_false, ↓reduceIte]); first | omega | (refine And.intro ?_ ?_ <;> omega) | (unfold w32; omega))); (next => first | exact hB | (intro j; simp only [upm_app, Int.reduceEq, and_self, and_true, true_and, and_false, false_and, if_true, if_false, ↓reduceIte]; exact hB j) | omega | (with_reducible rfl) | ((try simp only [upm_app, Int.reduceEq, and_self, and_true, true_and, and_false, false_and, if_true, if_false, ↓reduceIte]); first | omega | (refine And.intro ?_ ?_ <;> omega) | (unfold w32; omega))); all_goals ((try subst e9); (try subst f9); ((try simp only [upm_app, Int.reduceEq, and_self, and_true, true_and, and_false, false_and, if_true, if_false, ↓reduceIte] at h9) <;> (simp only [hdl_c, S9_1, S9_m, bud9, live9, inb9, wrn, wr9_14, wr9_15, wr9_16, wr9_17, tq9_14, tq9_15, tq9_16, tq9_17, tq_0, tq_1, tq_3, upr_rl, rl_0, rl_1, rl_2, rl_3, rl_4, rl_5, rl_6, rl_7, rl_8, rl_9, rl_10, rl_11, rl_12, rl_13, sp_0, sp_1, sp_2, sp_3, sp_4, sp_5, sp_6, sp_7, sp_8, sp_9, sp_10, sp_11, sp_12, sp_13, se_0, se_1, se_2, se_3, se_4, se_5, se_6, se_7, se_8, se_9, se_10, se_11, se_12, se_13, sem_0, sem_1, sem_2, sem_3, sem_4, sem_5, List.getD_cons_zero, List.getD_cons_succ, Bool.false_eq_true, wrn3, wrn1, cpmS, cpok9, if_true, if_false, ↓reduceIte, wc_27, wc_31, kc_2, kl9_2, sr_2_0, kl9_3, kc_3, upm_app, Int.reduceEq, and_self, and_true, true_and, and_false, false_and, if_true, if_false, ↓reduceIte]; (try simp (disch := omega) only [w15_0, w15_1, w15_3, w15_4, w15_5, w15_6, w3_0, w3_1, w3_2, upm_app, Int.reduceEq, and_self, and_true, true_and, and_false, false_and, if_true, if_false, ↓reduceIte])))))
    | ((with_reducible refine whl_i (fun k r u => ∃ (v i y : Int), r = rl [2, a, v, i] ∧ u = S9 e (upm m 2 4 y) ∧ (i + k = a) ∧ nv (m 3) (m 2 2) k v y = nv (m 3) (m 2 2) a.toNat 0 (m 2 4) ∧ (0 ≤ y ∧ y ≤ 80) ∧ (i = 1 ∧ 0 ≤ v ∧ v ≤ 9 ∨ i = 2 ∧ 0 ≤ v ∧ v ≤ 99 ∨ i = 3 ∧ 0 ≤ v ∧ v ≤ 999)) (a.toNat - 1) ?_ ?_); (next => refine ⟨_, _, _, rfl, rfl, ?_, ?_, ?_, ?_⟩; (next => omega); (next => obtain ⟨n, hn⟩ : ∃ n : Nat, a.toNat = n + 1 := ⟨a.toNat - 1, by omega⟩; have hdg0 : dgt (m 3) (m 2 2) (m 2 4) := ⟨by omega, by omega, by omega⟩; rw [hn]; show nv _ _ n _ _ = _; rw [nv_y n hdg0, show 10 * (0 : Int) + m 3 (m 2 4) - 48 = m 3 (m 2 4) - 48 from by omega]); (next => omega); (next => omega)); rintro k r u ⟨v, i, y, rfl, rfl, h9a, h9b, h9c, h9d⟩; simp only [cl_30, runB, B30, ma_30, rho_20, wc_27, wc_31, w_cst, w_ldi, w_ldj, w_lda, w_ljk, w_ldk, w_ldw, w_ldk2, w_ldt, w_ldtw, w_neg, w_cvb, w_cvs, w_cvc, w_cvj, w_add, w_sub, w_mul, w_ban, w_bor, w_bxo, w_shl, w_shr, w_ush, w_dvi, w_rmi, w_aldi, w_aldj, w_aldz, w_aldc, w_alda, w_ite, w_cmp, w_cmj, w_cz, w_cnot, w_cand, w_cor, w_nil, w_cons, w_cvi, w_csta, w_cvt, w_cvv, w_csv, w_cpy, w_seq, w_sbr, w_sbn, w_brk, w_ifs, w_ifx, w_ife, w_wk, w_rets, w_rtv, w_thr, w_asi, w_asj, w_asa, w_inc, w_exs, w_asti, w_astj, w_astz, w_astc, w_aopadd, w_aopsub, w_sw, if_true, if_false, ↓reduceIte, hdl_c, S9_1, S9_m, bud9, live9, inb9, wrn, wr9_14, wr9_15, wr9_16, wr9_17, tq9_14, tq9_15, tq9_16, tq9_17, tq_0, tq_1, tq_3, upr_rl, rl_0, rl_1, rl_2, rl_3, rl_4, rl_5, rl_6, rl_7, rl_8, rl_9, rl_10, rl_11, rl_12, rl_13, sp_0, sp_1, sp_2, sp_3, sp_4, sp_5, sp_6, sp_7, sp_8, sp_9, sp_10, sp_11, sp_12, sp_13, se_0, se_1, se_2, se_3, se_4, se_5, se_6, se_7, se_8, se_9, se_10, se_11, se_12, se_13, sem_0, sem_1, sem_2, sem_3, sem_4, sem_5, kc_2, kl9_2, sr_2_0, kl9_3, kc_3, List.getD_cons_zero, List.getD_cons_succ, Bool.false_eq_true, wrn3, wrn1, cpmS, cpok9, upm_app, Int.reduceEq, and_self, and_true, true_and, and_false, false_and, if_true, if_false, ↓reduceIte, upm_app, Int.reduceEq, and_self, and_true, true_and, and_false, false_and, if_true, if_false, ↓reduceIte]; have hby := hB y)
    | ((with_reducible refine whl_i (fun k r u => r = rl [2, a, 0, 1] ∧ u = S9 e (upm m 2 5 1)) 0 ?_ ?_); (next => exact ⟨rfl, rfl⟩); rintro k r u ⟨rfl, rfl⟩; simp only [cl_30, runB, B30, ma_30, rho_20, wc_27, wc_31, w_cst, w_ldi, w_ldj, w_lda, w_ljk, w_ldk, w_ldw, w_ldk2, w_ldt, w_ldtw, w_neg, w_cvb, w_cvs, w_cvc, w_cvj, w_add, w_sub, w_mul, w_ban, w_bor, w_bxo, w_shl, w_shr, w_ush, w_dvi, w_rmi, w_aldi, w_aldj, w_aldz, w_aldc, w_alda, w_ite, w_cmp, w_cmj, w_cz, w_cnot, w_cand, w_cor, w_nil, w_cons, w_cvi, w_csta, w_cvt, w_cvv, w_csv, w_cpy, w_seq, w_sbr, w_sbn, w_brk, w_ifs, w_ifx, w_ife, w_wk, w_rets, w_rtv, w_thr, w_asi, w_asj, w_asa, w_inc, w_exs, w_asti, w_astj, w_astz, w_astc, w_aopadd, w_aopsub, w_sw, if_true, if_false, ↓reduceIte, hdl_c, S9_1, S9_m, bud9, live9, inb9, wrn, wr9_14, wr9_15, wr9_16, wr9_17, tq9_14, tq9_15, tq9_16, tq9_17, tq_0, tq_1, tq_3, upr_rl, rl_0, rl_1, rl_2, rl_3, rl_4, rl_5, rl_6, rl_7, rl_8, rl_9, rl_10, rl_11, rl_12, rl_13, sp_0, sp_1, sp_2, sp_3, sp_4, sp_5, sp_6, sp_7, sp_8, sp_9, sp_10, sp_11, sp_12, sp_13, se_0, se_1, se_2, se_3, se_4, se_5, se_6, se_7, se_8, se_9, se_10, se_11, se_12, se_13, sem_0, sem_1, sem_2, sem_3, sem_4, sem_5, kc_2, kl9_2, sr_2_0, kl9_3, kc_3, List.getD_cons_zero, List.getD_cons_succ, Bool.false_eq_true, wrn3, wrn1, cpmS, cpok9, upm_app, Int.reduceEq, and_self, and_true, true_and, and_false, false_and, if_true, if_false, ↓reduceIte, upm_app, Int.reduceEq, and_self, and_true, true_and, and_false, false_and, if_true, if_false, ↓reduceIte])
    | (next => have hk : k = 0 := (by omega); subst hk; refine hq1 v y ⟨by omega, by omega, by omega⟩ ?_ ?_; (next => rw [← h9b]; rfl); (next => rw [← h9b]; rfl))
    | (next => have hnd : ¬ dgt (m 3) (m 2 2) y := (fun q => by obtain ⟨q1, q2, q3⟩ := q; omega); rw [nv_n k hnd] at h9b; refine hq1 v y ⟨by omega, by omega, by omega⟩ ?_ ?_; (next => rw [← h9b]); (next => rw [← h9b]))
    | (next => refine hq (fun q => ?_); omega)
    | (obtain ⟨k, rfl⟩ : ∃ k9 : Nat, k = k9 + 1 := ⟨k - 1, by omega⟩; have hdg : dgt (m 3) (m 2 2) y := ⟨by omega, by omega, by omega⟩; rw [nv_y k hdg] at h9b; refine ⟨k, by omega, _, _, y + 1, rfl, ?_, ?_, ?_, ?_, ?_⟩; (next => rw [upm_same]); (next => rw [w32_eq (v := i + 1) (by omega) (by omega)]; omega); (next => rw [show w32 (w32 (10 * v) + (m 3 y - 48)) = 10 * v + m 3 y - 48 from by (unfold w32; omega)]; exact h9b); (next => omega); (next => rw [show w32 (w32 (10 * v) + (m 3 y - 48)) = 10 * v + m 3 y - 48 from by (unfold w32; omega), w32_eq (v := i + 1) (by omega) (by omega)]; omega))
    | omega
    | (with_reducible contradiction)
    | (unfold w32; omega)
    | (simp (disch := omega) only [w32_eq]; omega)
    | (with_reducible show (_ : Int) ≤ _; simp [upm] <;> (first | omega | (unfold w32; omega)))
    | (with_reducible show (_ : Int) < _; simp [upm] <;> (first | omega | (unfold w32; omega))))
end
section
/-! the reference's readers, to the letter -/
def chS (s i : Int) : Int := (((sByt.getD (-1 - s).toNat []).getD i.toNat 0).toInt)
def kd (m : Mem) : Int → Int := fun j => if j < m 249 3 then m 251 j else m 261 (j - m 249 3)
theorem p_173x {d : Nat} {e : Int} {m : Mem} {Q : Int → Sto → Prop} {s : Int} (hs : stx s) (h0 : 0 ≤ m 249 19) (h1 : m 249 20 ≤ 80) (hq : ∀ v, (v = -1 ∧ (m 249 20 ≤ m 249 19 ∨ ∀ j, 0 ≤ j → j < ((sLen.getD (-1 - s).toNat 0 : Nat) : Int) → chS s j ≠ m 260 (m 249 19)) ∨ 0 ≤ v ∧ v < ((sLen.getD (-1 - s).toNat 0 : Nat) : Int) ∧ m 249 19 < m 249 20 ∧ chS s v = m 260 (m 249 19)) → Q v (S9 e m)) : Cl (d + 5) 173 [249, s] Q (S9 e m) := by
  have hs2 : -8 ≤ s ∧ s ≤ -1 := hs
  have hl := sLen_le (-1 - s).toNat (by omega)
  simp only [cl_173, runB, B173, ma_173, rho_22, wf_13_163, wf_13_175, wf_13_42, wc_174, wc_175, w_cst, w_ldi, w_ldj, w_lda, w_ljk, w_ldk, w_ldw, w_ldk2, w_ldt, w_ldtw, w_neg, w_cvb, w_cvs, w_cvc, w_cvj, w_add, w_sub, w_mul, w_ban, w_bor, w_bxo, w_shl, w_shr, w_ush, w_dvi, w_rmi, w_aldi, w_aldj, w_aldz, w_aldc, w_alda, w_ite, w_cmp, w_cmj, w_cz, w_cnot, w_cand, w_cor, w_nil, w_cons, w_cvi, w_csta, w_cvt, w_cvv, w_csv, w_cpy, w_seq, w_sbr, w_sbn, w_brk, w_ifs, w_ifx, w_ife, w_wk, w_rets, w_rtv, w_thr, w_asi, w_asj, w_asa, w_inc, w_exs, w_asti, w_astj, w_astz, w_astc, w_aopadd, w_aopsub, w_sw, if_true, if_false, ↓reduceIte, hdl_c, S9_1, S9_m, bud9, live9, inb9, wrn, wr9_14, wr9_15, wr9_16, wr9_17, tq9_14, tq9_15, tq9_16, tq9_17, tq_0, tq_1, tq_3, upr_rl, rl_0, rl_1, rl_2, rl_3, rl_4, rl_5, rl_6, rl_7, rl_8, rl_9, rl_10, rl_11, rl_12, rl_13, sp_0, sp_1, sp_2, sp_3, sp_4, sp_5, sp_6, sp_7, sp_8, sp_9, sp_10, sp_11, sp_12, sp_13, se_0, se_1, se_2, se_3, se_4, se_5, se_6, se_7, se_8, se_9, se_10, se_11, se_12, se_13, sem_0, sem_1, sem_2, sem_3, sem_4, sem_5, sr_249_14, sr_249_40, sr_249_61, sr_249_9, sr_249_42, sr_249_31, sr_249_25, sr_249_71, sr_249_57, sr_249_16, sr_249_22, sr_249_51, sr_249_64, sr_249_52, sr_249_67, sr_249_55, sr_249_17, sr_249_24, sr_249_35, sr_249_11, sr_249_54, sr_249_13, sr_249_10, sr_249_70, sr_249_58, sr_249_50, sr_249_23, sr_249_43, sr_249_8, sr_249_12, sr_249_34, sr_249_30, sr_249_2, kc_249, sr_249_63, sr_249_69, sr_249_68, sr_249_41, kl9_249, sr_249_15, kc_260, kl9_260, List.getD_cons_zero, List.getD_cons_succ, Bool.false_eq_true, wrn3, wrn1, cpmS, cpok9, cl_174, cl_175, lenB, chrB, List.headD_cons]
  repeat' (first
    | (with_reducible exact True.intro)
    | (with_reducible rfl)
    | (with_reducible refine And.intro ?_ ?_)
    | intro _
    | ((with_reducible refine whl_i (fun k r u => ∃ (i : Int), r = rl [249, s, i] ∧ u = S9 e m ∧ 0 ≤ i ∧ i + k = ((sLen.getD (-1 - s).toNat 0 : Nat) : Int) ∧ ∀ j, 0 ≤ j → j < i → chS s j ≠ m 260 (m 249 19)) (sLen.getD (-1 - s).toNat 0) ?_ ?_); (next => refine ⟨0, rfl, rfl, by omega, by omega, fun j h0 h1 => absurd h1 (by omega)⟩); rintro k r u ⟨i, rfl, rfl, h9a, h9b, h9c⟩; simp only [cl_173, runB, B173, ma_173, rho_22, wf_13_163, wf_13_175, wf_13_42, wc_174, wc_175, w_cst, w_ldi, w_ldj, w_lda, w_ljk, w_ldk, w_ldw, w_ldk2, w_ldt, w_ldtw, w_neg, w_cvb, w_cvs, w_cvc, w_cvj, w_add, w_sub, w_mul, w_ban, w_bor, w_bxo, w_shl, w_shr, w_ush, w_dvi, w_rmi, w_aldi, w_aldj, w_aldz, w_aldc, w_alda, w_ite, w_cmp, w_cmj, w_cz, w_cnot, w_cand, w_cor, w_nil, w_cons, w_cvi, w_csta, w_cvt, w_cvv, w_csv, w_cpy, w_seq, w_sbr, w_sbn, w_brk, w_ifs, w_ifx, w_ife, w_wk, w_rets, w_rtv, w_thr, w_asi, w_asj, w_asa, w_inc, w_exs, w_asti, w_astj, w_astz, w_astc, w_aopadd, w_aopsub, w_sw, if_true, if_false, ↓reduceIte, hdl_c, S9_1, S9_m, bud9, live9, inb9, wrn, wr9_14, wr9_15, wr9_16, wr9_17, tq9_14, tq9_15, tq9_16, tq9_17, tq_0, tq_1, tq_3, upr_rl, rl_0, rl_1, rl_2, rl_3, rl_4, rl_5, rl_6, rl_7, rl_8, rl_9, rl_10, rl_11, rl_12, rl_13, sp_0, sp_1, sp_2, sp_3, sp_4, sp_5, sp_6, sp_7, sp_8, sp_9, sp_10, sp_11, sp_12, sp_13, se_0, se_1, se_2, se_3, se_4, se_5, se_6, se_7, se_8, se_9, se_10, se_11, se_12, se_13, sem_0, sem_1, sem_2, sem_3, sem_4, sem_5, sr_249_14, sr_249_40, sr_249_61, sr_249_9, sr_249_42, sr_249_31, sr_249_25, sr_249_71, sr_249_57, sr_249_16, sr_249_22, sr_249_51, sr_249_64, sr_249_52, sr_249_67, sr_249_55, sr_249_17, sr_249_24, sr_249_35, sr_249_11, sr_249_54, sr_249_13, sr_249_10, sr_249_70, sr_249_58, sr_249_50, sr_249_23, sr_249_43, sr_249_8, sr_249_12, sr_249_34, sr_249_30, sr_249_2, kc_249, sr_249_63, sr_249_69, sr_249_68, sr_249_41, kl9_249, sr_249_15, kc_260, kl9_260, List.getD_cons_zero, List.getD_cons_succ, Bool.false_eq_true, wrn3, wrn1, cpmS, cpok9, cl_174, cl_175, lenB, chrB, List.headD_cons])
    | (refine hq _ (Or.inl ⟨rfl, Or.inl ?_⟩); omega)
    | (refine hq _ (Or.inl ⟨rfl, Or.inr (fun j h0 h1 => h9c j h0 (by omega))⟩))
    | (refine hq _ (Or.inr ⟨?_, ?_, ?_, ?_⟩); (next => omega); (next => omega); (next => omega); (next => assumption))
    | (refine ⟨k - 1, ?_, w32 (i + 1), rfl, ?_, ?_, ?_, fun j h0 h1 => ?_⟩; (next => omega); (next => first | trivial | rfl); (next => unfold w32; omega); (next => unfold w32; omega); (next => rw [w32_eq (v := i + 1) (by omega) (by omega)] at h1; by_cases hji : j = i; (next => subst hji; assumption); (next => exact h9c j h0 (by omega))))
    | assumption
    | omega
    | (with_reducible contradiction)
    | (unfold w32; omega)
    | (simp (disch := omega) only [w32_eq]; omega)
    | (with_reducible show (_ : Int) ≤ _; simp [upm] <;> (first | omega | (unfold w32; omega)))
    | (with_reducible show (_ : Int) < _; simp [upm] <;> (first | omega | (unfold w32; omega))))

theorem p_177x {d : Nat} {e : Int} {m : Mem} {Q : Int → Sto → Prop} {s : Int} (hs : stx s) (h0 : 0 ≤ m 249 19 ∧ m 249 19 ≤ 80) (h1 : m 249 20 ≤ 80) (hq : ∀ v x, (v = -1 ∧ x = m 249 19 ∧ (m 249 20 ≤ m 249 19 ∨ ∀ j, 0 ≤ j → j < ((sLen.getD (-1 - s).toNat 0 : Nat) : Int) → chS s j ≠ m 260 (m 249 19)) ∨ 0 ≤ v ∧ v < ((sLen.getD (-1 - s).toNat 0 : Nat) : Int) ∧ m 249 19 < m 249 20 ∧ chS s v = m 260 (m 249 19) ∧ x = m 249 19 + 1) → Q v (S9 e (upm m 249 19 x))) : Cl (d + 6) 177 [249, s] Q (S9 e m) := by
  have hs2 : -8 ≤ s ∧ s ≤ -1 := hs
  simp only [cl_177, runB, B177, ma_177, rho_22, wpf_13_163, wpopadd_pf_13_163, wpopsub_pf_13_163, wc_173, wc_178, w_cst, w_ldi, w_ldj, w_lda, w_ljk, w_ldk, w_ldw, w_ldk2, w_ldt, w_ldtw, w_neg, w_cvb, w_cvs, w_cvc, w_cvj, w_add, w_sub, w_mul, w_ban, w_bor, w_bxo, w_shl, w_shr, w_ush, w_dvi, w_rmi, w_aldi, w_aldj, w_aldz, w_aldc, w_alda, w_ite, w_cmp, w_cmj, w_cz, w_cnot, w_cand, w_cor, w_nil, w_cons, w_cvi, w_csta, w_cvt, w_cvv, w_csv, w_cpy, w_seq, w_sbr, w_sbn, w_brk, w_ifs, w_ifx, w_ife, w_wk, w_rets, w_rtv, w_thr, w_asi, w_asj, w_asa, w_inc, w_exs, w_asti, w_astj, w_astz, w_astc, w_aopadd, w_aopsub, w_sw, if_true, if_false, ↓reduceIte, hdl_c, S9_1, S9_m, bud9, live9, inb9, wrn, wr9_14, wr9_15, wr9_16, wr9_17, tq9_14, tq9_15, tq9_16, tq9_17, tq_0, tq_1, tq_3, upr_rl, rl_0, rl_1, rl_2, rl_3, rl_4, rl_5, rl_6, rl_7, rl_8, rl_9, rl_10, rl_11, rl_12, rl_13, sp_0, sp_1, sp_2, sp_3, sp_4, sp_5, sp_6, sp_7, sp_8, sp_9, sp_10, sp_11, sp_12, sp_13, se_0, se_1, se_2, se_3, se_4, se_5, se_6, se_7, se_8, se_9, se_10, se_11, se_12, se_13, sem_0, sem_1, sem_2, sem_3, sem_4, sem_5, sr_249_14, sr_249_40, sr_249_61, sr_249_9, sr_249_42, sr_249_31, sr_249_25, sr_249_71, sr_249_57, sr_249_16, sr_249_22, sr_249_51, sr_249_64, sr_249_52, sr_249_67, sr_249_55, sr_249_17, sr_249_24, sr_249_35, sr_249_11, sr_249_54, sr_249_13, sr_249_10, sr_249_70, sr_249_58, sr_249_50, sr_249_23, sr_249_43, sr_249_8, sr_249_12, sr_249_34, sr_249_30, sr_249_2, kc_249, sr_249_63, sr_249_69, sr_249_68, sr_249_41, kl9_249, sr_249_15, kc_260, kl9_260, List.getD_cons_zero, List.getD_cons_succ, Bool.false_eq_true, wrn3, wrn1, cpmS, cpok9]
  repeat' (first
    | (with_reducible exact True.intro)
    | (with_reducible rfl)
    | (with_reducible refine And.intro ?_ ?_)
    | intro _
    | (with_reducible refine p_173x ?_ ?_ ?_ (fun v8 h8 => ?_); (next => first | omega | (with_reducible rfl) | decide | (unfold w32; omega) | (simp (disch := omega) only [w32_eq]; omega) | (simp [upm] <;> (first | omega | (unfold w32; omega)))); (next => first | omega | (with_reducible rfl) | decide | (unfold w32; omega) | (simp (disch := omega) only [w32_eq]; omega) | (simp [upm] <;> (first | omega | (unfold w32; omega)))); (next => first | omega | (with_reducible rfl) | decide | (unfold w32; omega) | (simp (disch := omega) only [w32_eq]; omega) | (simp [upm] <;> (first | omega | (unfold w32; omega)))); (try simp only [upm_app, Int.reduceEq, and_self, and_true, true_and, and_false, false_and, if_true, if_false, ↓reduceIte] at h8); simp only [hdl_c, S9_1, S9_m, bud9, live9, inb9, wrn, wr9_14, wr9_15, wr9_16, wr9_17, tq9_14, tq9_15, tq9_16, tq9_17, tq_0, tq_1, tq_3, upr_rl, rl_0, rl_1, rl_2, rl_3, rl_4, rl_5, rl_6, rl_7, rl_8, rl_9, rl_10, rl_11, rl_12, rl_13, sp_0, sp_1, sp_2, sp_3, sp_4, sp_5, sp_6, sp_7, sp_8, sp_9, sp_10, sp_11, sp_12, sp_13, se_0, se_1, se_2, se_3, se_4, se_5, se_6, se_7, se_8, se_9, se_10, se_11, se_12, se_13, sem_0, sem_1, sem_2, sem_3, sem_4, sem_5, List.getD_cons_zero, List.getD_cons_succ, Bool.false_eq_true, wrn3, wrn1, cpmS, cpok9, if_true, if_false, ↓reduceIte, wc_173, wc_178, sr_249_14, sr_249_40, sr_249_61, sr_249_9, sr_249_42, sr_249_31, sr_249_25, sr_249_71, sr_249_57, sr_249_16, sr_249_22, sr_249_51, sr_249_64, sr_249_52, sr_249_67, sr_249_55, sr_249_17, sr_249_24, sr_249_35, sr_249_11, sr_249_54, sr_249_13, sr_249_10, sr_249_70, sr_249_58, sr_249_50, sr_249_23, sr_249_43, sr_249_8, sr_249_12, sr_249_34, sr_249_30, sr_249_2, kc_249, sr_249_63, sr_249_69, sr_249_68, sr_249_41, kl9_249, sr_249_15, kc_260, kl9_260]; (try simp (disch := omega) only [w15_0, w15_1, w15_3, w15_4, w15_5, w15_6, w3_0, w3_1, w3_2, upm_app, Int.reduceEq, and_self, and_true, true_and, and_false, false_and, if_true, if_false, ↓reduceIte]))
    | (with_reducible refine p_178 (fun v9 h9 => ?_); simp only [hdl_c, S9_1, S9_m, bud9, live9, inb9, wrn, wr9_14, wr9_15, wr9_16, wr9_17, tq9_14, tq9_15, tq9_16, tq9_17, tq_0, tq_1, tq_3, upr_rl, rl_0, rl_1, rl_2, rl_3, rl_4, rl_5, rl_6, rl_7, rl_8, rl_9, rl_10, rl_11, rl_12, rl_13, sp_0, sp_1, sp_2, sp_3, sp_4, sp_5, sp_6, sp_7, sp_8, sp_9, sp_10, sp_11, sp_12, sp_13, se_0, se_1, se_2, se_3, se_4, se_5, se_6, se_7, se_8, se_9, se_10, se_11, se_12, se_13, sem_0, sem_1, sem_2, sem_3, sem_4, sem_5, List.getD_cons_zero, List.getD_cons_succ, Bool.false_eq_true, wrn3, wrn1, cpmS, cpok9, if_true, if_false, ↓reduceIte, wc_173, wc_178, sr_249_14, sr_249_40, sr_249_61, sr_249_9, sr_249_42, sr_249_31, sr_249_25, sr_249_71, sr_249_57, sr_249_16, sr_249_22, sr_249_51, sr_249_64, sr_249_52, sr_249_67, sr_249_55, sr_249_17, sr_249_24, sr_249_35, sr_249_11, sr_249_54, sr_249_13, sr_249_10, sr_249_70, sr_249_58, sr_249_50, sr_249_23, sr_249_43, sr_249_8, sr_249_12, sr_249_34, sr_249_30, sr_249_2, kc_249, sr_249_63, sr_249_69, sr_249_68, sr_249_41, kl9_249, sr_249_15, kc_260, kl9_260]; (try simp (disch := omega) only [w15_0, w15_1, w15_3, w15_4, w15_5, w15_6, w3_0, w3_1, w3_2, upm_app, Int.reduceEq, and_self, and_true, true_and, and_false, false_and, if_true, if_false, ↓reduceIte]))
    | (refine hq _ _ ?_; rcases h8 with ⟨q1, q2⟩ | ⟨q1, q2, q3, q4⟩; (next => exact Or.inl ⟨q1, by unfold w32; omega, q2⟩); (next => exact Or.inr ⟨q1, q2, q3, q4, by unfold w32; omega⟩))
    | omega
    | (with_reducible contradiction)
    | (unfold w32; omega)
    | (simp (disch := omega) only [w32_eq]; omega)
    | (with_reducible show (_ : Int) ≤ _; simp [upm] <;> (first | omega | (unfold w32; omega)))
    | (with_reducible show (_ : Int) < _; simp [upm] <;> (first | omega | (unfold w32; omega))))

theorem p_181x {d : Nat} {e : Int} {m : Mem} {Q : Int → Sto → Prop} {a : Int} (h0 : 0 ≤ m 249 19 ∧ m 249 19 ≤ 80) (h1 : m 249 20 ≤ 80) (hq : ∀ v x, (v = 1 ∧ (m 249 19 < m 249 20 ∧ m 260 (m 249 19) = a) ∧ x = m 249 19 + 1 ∨ v = 0 ∧ ¬ (m 249 19 < m 249 20 ∧ m 260 (m 249 19) = a) ∧ x = m 249 19) → Q v (S9 e (upm m 249 19 x))) : Cl (d + 2) 181 [249, a] Q (S9 e m) := by
  simp only [cl_181, runB, B181, ma_181, rho_20, wf_13_163, wf_13_175, wf_13_42, wpf_13_163, wpopadd_pf_13_163, wpopsub_pf_13_163, wc_178, w_cst, w_ldi, w_ldj, w_lda, w_ljk, w_ldk, w_ldw, w_ldk2, w_ldt, w_ldtw, w_neg, w_cvb, w_cvs, w_cvc, w_cvj, w_add, w_sub, w_mul, w_ban, w_bor, w_bxo, w_shl, w_shr, w_ush, w_dvi, w_rmi, w_aldi, w_aldj, w_aldz, w_aldc, w_alda, w_ite, w_cmp, w_cmj, w_cz, w_cnot, w_cand, w_cor, w_nil, w_cons, w_cvi, w_csta, w_cvt, w_cvv, w_csv, w_cpy, w_seq, w_sbr, w_sbn, w_brk, w_ifs, w_ifx, w_ife, w_wk, w_rets, w_rtv, w_thr, w_asi, w_asj, w_asa, w_inc, w_exs, w_asti, w_astj, w_astz, w_astc, w_aopadd, w_aopsub, w_sw, if_true, if_false, ↓reduceIte, hdl_c, S9_1, S9_m, bud9, live9, inb9, wrn, wr9_14, wr9_15, wr9_16, wr9_17, tq9_14, tq9_15, tq9_16, tq9_17, tq_0, tq_1, tq_3, upr_rl, rl_0, rl_1, rl_2, rl_3, rl_4, rl_5, rl_6, rl_7, rl_8, rl_9, rl_10, rl_11, rl_12, rl_13, sp_0, sp_1, sp_2, sp_3, sp_4, sp_5, sp_6, sp_7, sp_8, sp_9, sp_10, sp_11, sp_12, sp_13, se_0, se_1, se_2, se_3, se_4, se_5, se_6, se_7, se_8, se_9, se_10, se_11, se_12, se_13, sem_0, sem_1, sem_2, sem_3, sem_4, sem_5, sr_249_14, sr_249_40, sr_249_61, sr_249_9, sr_249_42, sr_249_31, sr_249_25, sr_249_71, sr_249_57, sr_249_16, sr_249_22, sr_249_51, sr_249_64, sr_249_52, sr_249_67, sr_249_55, sr_249_17, sr_249_24, sr_249_35, sr_249_11, sr_249_54, sr_249_13, sr_249_10, sr_249_70, sr_249_58, sr_249_50, sr_249_23, sr_249_43, sr_249_8, sr_249_12, sr_249_34, sr_249_30, sr_249_2, kc_249, sr_249_63, sr_249_69, sr_249_68, sr_249_41, kl9_249, sr_249_15, kc_260, kl9_260, List.getD_cons_zero, List.getD_cons_succ, Bool.false_eq_true, wrn3, wrn1, cpmS, cpok9]
  repeat' (first
    | (with_reducible exact True.intro)
    | (with_reducible rfl)
    | (with_reducible refine And.intro ?_ ?_)
    | intro _
    | (with_reducible refine p_178 (fun v9 h9 => ?_); simp only [hdl_c, S9_1, S9_m, bud9, live9, inb9, wrn, wr9_14, wr9_15, wr9_16, wr9_17, tq9_14, tq9_15, tq9_16, tq9_17, tq_0, tq_1, tq_3, upr_rl, rl_0, rl_1, rl_2, rl_3, rl_4, rl_5, rl_6, rl_7, rl_8, rl_9, rl_10, rl_11, rl_12, rl_13, sp_0, sp_1, sp_2, sp_3, sp_4, sp_5, sp_6, sp_7, sp_8, sp_9, sp_10, sp_11, sp_12, sp_13, se_0, se_1, se_2, se_3, se_4, se_5, se_6, se_7, se_8, se_9, se_10, se_11, se_12, se_13, sem_0, sem_1, sem_2, sem_3, sem_4, sem_5, List.getD_cons_zero, List.getD_cons_succ, Bool.false_eq_true, wrn3, wrn1, cpmS, cpok9, if_true, if_false, ↓reduceIte, wc_178, sr_249_14, sr_249_40, sr_249_61, sr_249_9, sr_249_42, sr_249_31, sr_249_25, sr_249_71, sr_249_57, sr_249_16, sr_249_22, sr_249_51, sr_249_64, sr_249_52, sr_249_67, sr_249_55, sr_249_17, sr_249_24, sr_249_35, sr_249_11, sr_249_54, sr_249_13, sr_249_10, sr_249_70, sr_249_58, sr_249_50, sr_249_23, sr_249_43, sr_249_8, sr_249_12, sr_249_34, sr_249_30, sr_249_2, kc_249, sr_249_63, sr_249_69, sr_249_68, sr_249_41, kl9_249, sr_249_15, kc_260, kl9_260]; (try simp (disch := omega) only [w15_0, w15_1, w15_3, w15_4, w15_5, w15_6, w3_0, w3_1, w3_2, upm_app, Int.reduceEq, and_self, and_true, true_and, and_false, false_and, if_true, if_false, ↓reduceIte]))
    | (refine hq _ _ ?_; first | omega | (unfold w32; omega))
    | omega
    | (with_reducible contradiction)
    | (unfold w32; omega)
    | (simp (disch := omega) only [w32_eq]; omega)
    | (with_reducible show (_ : Int) ≤ _; simp [upm] <;> (first | omega | (unfold w32; omega)))
    | (with_reducible show (_ : Int) < _; simp [upm] <;> (first | omega | (unfold w32; omega))))

theorem p_183x {d : Nat} {e : Int} {m : Mem} {Q : Int → Sto → Prop} {a : Int} (h0 : 0 ≤ m 249 19 ∧ m 249 19 ≤ 80) (h1 : m 249 20 ≤ 80) (ha : 1 ≤ a ∧ a ≤ 3) (hq : ∀ v x, (¬ dgt (m 260) (m 249 20) (m 249 19) ∧ v = -1 ∧ x = m 249 19 ∨ dgt (m 260) (m 249 20) (m 249 19) ∧ v = (nv (m 260) (m 249 20) a.toNat 0 (m 249 19)).1 ∧ x = (nv (m 260) (m 249 20) a.toNat 0 (m 249 19)).2) → Q v (S9 e (upm m 249 19 x))) : Cl (d + 3) 183 [249, a] Q (S9 e m) := by
  simp only [cl_183, runB, B183, ma_183, rho_20, wf_13_163, wf_13_42, wpf_13_163, wpopadd_pf_13_163, wpopsub_pf_13_163, wc_184, w_cst, w_ldi, w_ldj, w_lda, w_ljk, w_ldk, w_ldw, w_ldk2, w_ldt, w_ldtw, w_neg, w_cvb, w_cvs, w_cvc, w_cvj, w_add, w_sub, w_mul, w_ban, w_bor, w_bxo, w_shl, w_shr, w_ush, w_dvi, w_rmi, w_aldi, w_aldj, w_aldz, w_aldc, w_alda, w_ite, w_cmp, w_cmj, w_cz, w_cnot, w_cand, w_cor, w_nil, w_cons, w_cvi, w_csta, w_cvt, w_cvv, w_csv, w_cpy, w_seq, w_sbr, w_sbn, w_brk, w_ifs, w_ifx, w_ife, w_wk, w_rets, w_rtv, w_thr, w_asi, w_asj, w_asa, w_inc, w_exs, w_asti, w_astj, w_astz, w_astc, w_aopadd, w_aopsub, w_sw, if_true, if_false, ↓reduceIte, hdl_c, S9_1, S9_m, bud9, live9, inb9, wrn, wr9_14, wr9_15, wr9_16, wr9_17, tq9_14, tq9_15, tq9_16, tq9_17, tq_0, tq_1, tq_3, upr_rl, rl_0, rl_1, rl_2, rl_3, rl_4, rl_5, rl_6, rl_7, rl_8, rl_9, rl_10, rl_11, rl_12, rl_13, sp_0, sp_1, sp_2, sp_3, sp_4, sp_5, sp_6, sp_7, sp_8, sp_9, sp_10, sp_11, sp_12, sp_13, se_0, se_1, se_2, se_3, se_4, se_5, se_6, se_7, se_8, se_9, se_10, se_11, se_12, se_13, sem_0, sem_1, sem_2, sem_3, sem_4, sem_5, sr_249_14, sr_249_40, sr_249_61, sr_249_9, sr_249_42, sr_249_31, sr_249_25, sr_249_71, sr_249_57, sr_249_16, sr_249_22, sr_249_51, sr_249_64, sr_249_52, sr_249_67, sr_249_55, sr_249_17, sr_249_24, sr_249_35, sr_249_11, sr_249_54, sr_249_13, sr_249_10, sr_249_70, sr_249_58, sr_249_50, sr_249_23, sr_249_43, sr_249_8, sr_249_12, sr_249_34, sr_249_30, sr_249_2, kc_249, sr_249_63, sr_249_69, sr_249_68, sr_249_41, kl9_249, sr_249_15, kc_260, kl9_260, List.getD_cons_zero, List.getD_cons_succ, Bool.false_eq_true, wrn3, wrn1, cpmS, cpok9, upm_app, Int.reduceEq, and_self, and_true, true_and, and_false, false_and, if_true, if_false, ↓reduceIte]
  repeat' (first
    | (with_reducible exact True.intro)
    | (with_reducible rfl)
    | (with_reducible refine And.intro ?_ ?_)
    | intro _
    | (with_reducible refine p_184b ?_ ?_ (fun v9 h9 => ?_); (next => first | omega | (with_reducible rfl) | decide | (unfold w32; omega) | (simp (disch := omega) only [w32_eq]; omega) | (simp [upm] <;> (first | omega | (unfold w32; omega)))); (next => first | omega | (with_reducible rfl) | decide | (unfold w32; omega) | (simp (disch := omega) only [w32_eq]; omega) | (simp [upm] <;> (first | omega | (unfold w32; omega)))); (try simp only [upm_app, Int.reduceEq, and_self, and_true, true_and, and_false, false_and, if_true, if_false, ↓reduceIte] at h9); simp only [hdl_c, S9_1, S9_m, bud9, live9, inb9, wrn, wr9_14, wr9_15, wr9_16, wr9_17, tq9_14, tq9_15, tq9_16, tq9_17, tq_0, tq_1, tq_3, upr_rl, rl_0, rl_1, rl_2, rl_3, rl_4, rl_5, rl_6, rl_7, rl_8, rl_9, rl_10, rl_11, rl_12, rl_13, sp_0, sp_1, sp_2, sp_3, sp_4, sp_5, sp_6, sp_7, sp_8, sp_9, sp_10, sp_11, sp_12, sp_13, se_0, se_1, se_2, se_3, se_4, se_5, se_6, se_7, se_8, se_9, se_10, se_11, se_12, se_13, sem_0, sem_1, sem_2, sem_3, sem_4, sem_5, List.getD_cons_zero, List.getD_cons_succ, Bool.false_eq_true, wrn3, wrn1, cpmS, cpok9, if_true, if_false, ↓reduceIte, wc_184, sr_249_14, sr_249_40, sr_249_61, sr_249_9, sr_249_42, sr_249_31, sr_249_25, sr_249_71, sr_249_57, sr_249_16, sr_249_22, sr_249_51, sr_249_64, sr_249_52, sr_249_67, sr_249_55, sr_249_17, sr_249_24, sr_249_35, sr_249_11, sr_249_54, sr_249_13, sr_249_10, sr_249_70, sr_249_58, sr_249_50, sr_249_23, sr_249_43, sr_249_8, sr_249_12, sr_249_34, sr_249_30, sr_249_2, kc_249, sr_249_63, sr_249_69, sr_249_68, sr_249_41, kl9_249, sr_249_15, kc_260, kl9_260, upm_app, Int.reduceEq, and_self, and_true, true_and, and_false, false_and, if_true, if_false, ↓reduceIte]; (try simp (disch := omega) only [w15_0, w15_1, w15_3, w15_4, w15_5, w15_6, w3_0, w3_1, w3_2, upm_app, Int.reduceEq, and_self, and_true, true_and, and_false, false_and, if_true, if_false, ↓reduceIte]))
    | ((with_reducible refine whl_i (fun k r u => ∃ (v i y : Int), r = rl [249, a, v, i] ∧ u = S9 e (upm m 249 19 y) ∧ (i + k = a) ∧ nv (m 260) (m 249 20) k v y = nv (m 260) (m 249 20) a.toNat 0 (m 249 19) ∧ (0 ≤ y ∧ y ≤ 80) ∧ (i = 0 ∧ v = 0 ∨ i = 1 ∧ 0 ≤ v ∧ v ≤ 9 ∨ i = 2 ∧ 0 ≤ v ∧ v ≤ 99 ∨ i = 3 ∧ 0 ≤ v ∧ v ≤ 999)) a.toNat ?_ ?_); (next => refine ⟨0, 0, m 249 19, rfl, ?_, ?_, rfl, h0, ?_⟩; (next => rw [upm_self]); (next => omega); (next => omega)); rintro k r u ⟨v, i, y, rfl, rfl, h9a, h9b, h9c, h9d⟩; simp only [cl_183, runB, B183, ma_183, rho_20, wf_13_163, wf_13_42, wpf_13_163, wpopadd_pf_13_163, wpopsub_pf_13_163, wc_184, w_cst, w_ldi, w_ldj, w_lda, w_ljk, w_ldk, w_ldw, w_ldk2, w_ldt, w_ldtw, w_neg, w_cvb, w_cvs, w_cvc, w_cvj, w_add, w_sub, w_mul, w_ban, w_bor, w_bxo, w_shl, w_shr, w_ush, w_dvi, w_rmi, w_aldi, w_aldj, w_aldz, w_aldc, w_alda, w_ite, w_cmp, w_cmj, w_cz, w_cnot, w_cand, w_cor, w_nil, w_cons, w_cvi, w_csta, w_cvt, w_cvv, w_csv, w_cpy, w_seq, w_sbr, w_sbn, w_brk, w_ifs, w_ifx, w_ife, w_wk, w_rets, w_rtv, w_thr, w_asi, w_asj, w_asa, w_inc, w_exs, w_asti, w_astj, w_astz, w_astc, w_aopadd, w_aopsub, w_sw, if_true, if_false, ↓reduceIte, hdl_c, S9_1, S9_m, bud9, live9, inb9, wrn, wr9_14, wr9_15, wr9_16, wr9_17, tq9_14, tq9_15, tq9_16, tq9_17, tq_0, tq_1, tq_3, upr_rl, rl_0, rl_1, rl_2, rl_3, rl_4, rl_5, rl_6, rl_7, rl_8, rl_9, rl_10, rl_11, rl_12, rl_13, sp_0, sp_1, sp_2, sp_3, sp_4, sp_5, sp_6, sp_7, sp_8, sp_9, sp_10, sp_11, sp_12, sp_13, se_0, se_1, se_2, se_3, se_4, se_5, se_6, se_7, se_8, se_9, se_10, se_11, se_12, se_13, sem_0, sem_1, sem_2, sem_3, sem_4, sem_5, sr_249_14, sr_249_40, sr_249_61, sr_249_9, sr_249_42, sr_249_31, sr_249_25, sr_249_71, sr_249_57, sr_249_16, sr_249_22, sr_249_51, sr_249_64, sr_249_52, sr_249_67, sr_249_55, sr_249_17, sr_249_24, sr_249_35, sr_249_11, sr_249_54, sr_249_13, sr_249_10, sr_249_70, sr_249_58, sr_249_50, sr_249_23, sr_249_43, sr_249_8, sr_249_12, sr_249_34, sr_249_30, sr_249_2, kc_249, sr_249_63, sr_249_69, sr_249_68, sr_249_41, kl9_249, sr_249_15, kc_260, kl9_260, List.getD_cons_zero, List.getD_cons_succ, Bool.false_eq_true, wrn3, wrn1, cpmS, cpok9, upm_app, Int.reduceEq, and_self, and_true, true_and, and_false, false_and, if_true, if_false, ↓reduceIte, upm_app, Int.reduceEq, and_self, and_true, true_and, and_false, false_and, if_true, if_false, ↓reduceIte])
    | (next => have hk : k = 0 := (by omega); subst hk; refine hq v y (Or.inr ⟨⟨by omega, by omega, by omega⟩, ?_, ?_⟩); (next => rw [← h9b]; rfl); (next => rw [← h9b]; rfl))
    | (next => have hnd : ¬ dgt (m 260) (m 249 20) y := (fun q => by obtain ⟨q1, q2, q3⟩ := q; omega); rw [nv_n k hnd] at h9b; refine hq v y (Or.inr ⟨⟨by omega, by omega, by omega⟩, ?_, ?_⟩); (next => rw [← h9b]); (next => rw [← h9b]))
    | (next => have z := hq (-1) (m 249 19) (Or.inl ⟨fun q => by omega, rfl, rfl⟩); rw [upm_self] at z; exact z)
    | (obtain ⟨k, rfl⟩ : ∃ k9 : Nat, k = k9 + 1 := ⟨k - 1, by omega⟩; have hdg : dgt (m 260) (m 249 20) y := ⟨by omega, by omega, by omega⟩; rw [nv_y k hdg] at h9b; refine ⟨k, by omega, _, _, y + 1, rfl, ?_, ?_, ?_, ?_, ?_⟩; (next => rw [upm_same, w32_eq (v := y + 1) (by omega) (by omega)]); (next => rw [w32_eq (v := i + 1) (by omega) (by omega)]; omega); (next => rw [dig (v := v) (t := m 260 y) (by omega) (by omega) (by omega) (by omega)]; exact h9b); (next => omega); (next => rw [dig (v := v) (t := m 260 y) (by omega) (by omega) (by omega) (by omega), w32_eq (v := i + 1) (by omega) (by omega)]; omega))
    | omega
    | (with_reducible contradiction)
    | (unfold w32; omega)
    | (simp (disch := omega) only [w32_eq]; omega)
    | (with_reducible show (_ : Int) ≤ _; simp [upm] <;> (first | omega | (unfold w32; omega)))
    | (with_reducible show (_ : Int) < _; simp [upm] <;> (first | omega | (unfold w32; omega))))

theorem p_180x {d : Nat} {e : Int} {m : Mem} {Q : Int → Sto → Prop} (h0 : 0 ≤ m 249 19 ∧ m 249 19 ≤ 80) (h1 : m 249 20 ≤ 80) (h2 : 0 ≤ m 249 3) (h3 : 0 ≤ m 249 26) (h4 : m 249 3 + m 249 26 ≤ 10) (h5 : 0 ≤ m 260 (m 249 19) ∧ m 260 (m 249 19) < 256) (hq : ∀ v x, (let1 (m 260) (m 249 20) (m 249 3 + m 249 26) (m 249 19) ∧ v = m 260 (m 249 19) - 97 ∧ x = m 249 19 + 1 ∨ ¬ let1 (m 260) (m 249 20) (m 249 3 + m 249 26) (m 249 19) ∧ v = -1 ∧ x = m 249 19) → Q v (S9 e (upm m 249 19 x))) : Cl (d + 2) 180 [249] Q (S9 e m) := by
  have e1 : w32 (w32 (m 249 3 + m 249 26) - 1) = m 249 3 + m 249 26 - 1 := by unfold w32; omega
  simp only [cl_180, runB, B180, ma_180, rho_2, wf_13_133, wf_13_163, wf_13_175, wf_13_204, wf_13_42, wpf_13_163, wpopadd_pf_13_163, wpopsub_pf_13_163, wc_169, w_cst, w_ldi, w_ldj, w_lda, w_ljk, w_ldk, w_ldw, w_ldk2, w_ldt, w_ldtw, w_neg, w_cvb, w_cvs, w_cvc, w_cvj, w_add, w_sub, w_mul, w_ban, w_bor, w_bxo, w_shl, w_shr, w_ush, w_dvi, w_rmi, w_aldi, w_aldj, w_aldz, w_aldc, w_alda, w_ite, w_cmp, w_cmj, w_cz, w_cnot, w_cand, w_cor, w_nil, w_cons, w_cvi, w_csta, w_cvt, w_cvv, w_csv, w_cpy, w_seq, w_sbr, w_sbn, w_brk, w_ifs, w_ifx, w_ife, w_wk, w_rets, w_rtv, w_thr, w_asi, w_asj, w_asa, w_inc, w_exs, w_asti, w_astj, w_astz, w_astc, w_aopadd, w_aopsub, w_sw, if_true, if_false, ↓reduceIte, hdl_c, S9_1, S9_m, bud9, live9, inb9, wrn, wr9_14, wr9_15, wr9_16, wr9_17, tq9_14, tq9_15, tq9_16, tq9_17, tq_0, tq_1, tq_3, upr_rl, rl_0, rl_1, rl_2, rl_3, rl_4, rl_5, rl_6, rl_7, rl_8, rl_9, rl_10, rl_11, rl_12, rl_13, sp_0, sp_1, sp_2, sp_3, sp_4, sp_5, sp_6, sp_7, sp_8, sp_9, sp_10, sp_11, sp_12, sp_13, se_0, se_1, se_2, se_3, se_4, se_5, se_6, se_7, se_8, se_9, se_10, se_11, se_12, se_13, sem_0, sem_1, sem_2, sem_3, sem_4, sem_5, sr_249_14, sr_249_40, sr_249_61, sr_249_9, sr_249_42, sr_249_31, sr_249_25, sr_249_71, sr_249_57, sr_249_16, sr_249_22, sr_249_51, sr_249_64, sr_249_52, sr_249_67, sr_249_55, sr_249_17, sr_249_24, sr_249_35, sr_249_11, sr_249_54, sr_249_13, sr_249_10, sr_249_70, sr_249_58, sr_249_50, sr_249_23, sr_249_43, sr_249_8, sr_249_12, sr_249_34, sr_249_30, sr_249_2, kc_249, sr_249_63, sr_249_69, sr_249_68, sr_249_41, kl9_249, sr_249_15, kc_260, kl9_260, List.getD_cons_zero, List.getD_cons_succ, Bool.false_eq_true, wrn3, wrn1, cpmS, cpok9, e1]
  repeat' (first
    | (with_reducible exact True.intro)
    | (with_reducible rfl)
    | (with_reducible refine And.intro ?_ ?_)
    | intro _
    | (with_reducible refine p_169 (fun v9 h9 => ?_); simp only [hdl_c, S9_1, S9_m, bud9, live9, inb9, wrn, wr9_14, wr9_15, wr9_16, wr9_17, tq9_14, tq9_15, tq9_16, tq9_17, tq_0, tq_1, tq_3, upr_rl, rl_0, rl_1, rl_2, rl_3, rl_4, rl_5, rl_6, rl_7, rl_8, rl_9, rl_10, rl_11, rl_12, rl_13, sp_0, sp_1, sp_2, sp_3, sp_4, sp_5, sp_6, sp_7, sp_8, sp_9, sp_10, sp_11, sp_12, sp_13, se_0, se_1, se_2, se_3, se_4, se_5, se_6, se_7, se_8, se_9, se_10, se_11, se_12, se_13, sem_0, sem_1, sem_2, sem_3, sem_4, sem_5, List.getD_cons_zero, List.getD_cons_succ, Bool.false_eq_true, wrn3, wrn1, cpmS, cpok9, if_true, if_false, ↓reduceIte, wc_169, sr_249_14, sr_249_40, sr_249_61, sr_249_9, sr_249_42, sr_249_31, sr_249_25, sr_249_71, sr_249_57, sr_249_16, sr_249_22, sr_249_51, sr_249_64, sr_249_52, sr_249_67, sr_249_55, sr_249_17, sr_249_24, sr_249_35, sr_249_11, sr_249_54, sr_249_13, sr_249_10, sr_249_70, sr_249_58, sr_249_50, sr_249_23, sr_249_43, sr_249_8, sr_249_12, sr_249_34, sr_249_30, sr_249_2, kc_249, sr_249_63, sr_249_69, sr_249_68, sr_249_41, kl9_249, sr_249_15, kc_260, kl9_260, e1]; (try simp (disch := omega) only [w15_0, w15_1, w15_3, w15_4, w15_5, w15_6, w3_0, w3_1, w3_2, upm_app, Int.reduceEq, and_self, and_true, true_and, and_false, false_and, if_true, if_false, ↓reduceIte]))
    | (refine hq _ _ ?_; unfold w32 at *; omega)
    | (next => have z := hq (-1) (m 249 19) (by unfold w32 at *; omega); rw [upm_self] at z; exact z)
    | (rw [w32_eq (v := m 249 19 + 1) (by omega) (by omega)]; omega)
    | omega
    | (with_reducible contradiction)
    | (unfold w32; omega)
    | (simp (disch := omega) only [w32_eq]; omega)
    | (with_reducible show (_ : Int) ≤ _; simp [upm] <;> (first | omega | (unfold w32; omega)))
    | (with_reducible show (_ : Int) < _; simp [upm] <;> (first | omega | (unfold w32; omega))))

theorem p_185x {d : Nat} {e : Int} {m : Mem} {Q : Int → Sto → Prop} {a : Int} (h0 : 0 ≤ m 249 3 ∧ m 249 3 ≤ 10) (h1 : 0 ≤ a ∧ a < 10) (hq : Q (kd m a) (S9 e m)) : Cl (d + 1) 185 [249, a] Q (S9 e m) := by
  simp only [cl_185, runB, B185, ma_185, rho_20, wf_13_13, wf_13_133, wf_13_45, w_cst, w_ldi, w_ldj, w_lda, w_ljk, w_ldk, w_ldw, w_ldk2, w_ldt, w_ldtw, w_neg, w_cvb, w_cvs, w_cvc, w_cvj, w_add, w_sub, w_mul, w_ban, w_bor, w_bxo, w_shl, w_shr, w_ush, w_dvi, w_rmi, w_aldi, w_aldj, w_aldz, w_aldc, w_alda, w_ite, w_cmp, w_cmj, w_cz, w_cnot, w_cand, w_cor, w_nil, w_cons, w_cvi, w_csta, w_cvt, w_cvv, w_csv, w_cpy, w_seq, w_sbr, w_sbn, w_brk, w_ifs, w_ifx, w_ife, w_wk, w_rets, w_rtv, w_thr, w_asi, w_asj, w_asa, w_inc, w_exs, w_asti, w_astj, w_astz, w_astc, w_aopadd, w_aopsub, w_sw, if_true, if_false, ↓reduceIte, hdl_c, S9_1, S9_m, bud9, live9, inb9, wrn, wr9_14, wr9_15, wr9_16, wr9_17, tq9_14, tq9_15, tq9_16, tq9_17, tq_0, tq_1, tq_3, upr_rl, rl_0, rl_1, rl_2, rl_3, rl_4, rl_5, rl_6, rl_7, rl_8, rl_9, rl_10, rl_11, rl_12, rl_13, sp_0, sp_1, sp_2, sp_3, sp_4, sp_5, sp_6, sp_7, sp_8, sp_9, sp_10, sp_11, sp_12, sp_13, se_0, se_1, se_2, se_3, se_4, se_5, se_6, se_7, se_8, se_9, se_10, se_11, se_12, se_13, sem_0, sem_1, sem_2, sem_3, sem_4, sem_5, sr_249_14, sr_249_40, sr_249_61, sr_249_9, sr_249_42, sr_249_31, sr_249_25, sr_249_71, sr_249_57, sr_249_16, sr_249_22, sr_249_51, sr_249_64, sr_249_52, sr_249_67, sr_249_55, sr_249_17, sr_249_24, sr_249_35, sr_249_11, sr_249_54, sr_249_13, sr_249_10, sr_249_70, sr_249_58, sr_249_50, sr_249_23, sr_249_43, sr_249_8, sr_249_12, sr_249_34, sr_249_30, sr_249_2, kc_249, sr_249_63, sr_249_69, sr_249_68, sr_249_41, kl9_249, sr_249_15, kc_251, kl9_251, kl9_261, kc_261, List.getD_cons_zero, List.getD_cons_succ, Bool.false_eq_true, wrn3, wrn1, cpmS, cpok9]
  repeat' (first
    | (with_reducible exact True.intro)
    | (with_reducible rfl)
    | (with_reducible refine And.intro ?_ ?_)
    | intro _
    | (have z := hq; unfold kd at z; first | (rw [if_pos (by omega)] at z; exact z) | (rw [if_neg (by omega), ← w32_eq (v := a - m 249 3) (by omega) (by omega)] at z; exact z))
    | omega
    | (with_reducible contradiction)
    | (unfold w32; omega)
    | (simp (disch := omega) only [w32_eq]; omega)
    | (with_reducible show (_ : Int) ≤ _; simp [upm] <;> (first | omega | (unfold w32; omega)))
    | (with_reducible show (_ : Int) < _; simp [upm] <;> (first | omega | (unfold w32; omega))))
end
section
/-! two small facts -/
theorem nv_e {T T' : Int → Int} {L : Int} (hT : ∀ j, 0 ≤ j → j < L → T' j = T j) : ∀ (n : Nat) (v p : Int), 0 ≤ p → nv T' L n v p = nv T L n v p
  | 0, _, _, _ => rfl
  | n + 1, v, p, h => by
    by_cases q : p < L
    · have e := hT p h q
      by_cases z : dgt T L p
      · rw [nv_y n z, nv_y (T := T') n (by unfold dgt at z ⊢; rw [e]; exact z), e]
        exact nv_e hT n _ _ (by omega)
      · rw [nv_n (T := T) _ z, nv_n (T := T') _ (by unfold dgt at z ⊢; rw [e]; exact z)]
    · rw [nv_n (T := T') _ (fun z => q z.1), nv_n (T := T) _ (fun z => q z.1)]
theorem upm_f (m : Mem) (a j v b : Int) (h : b ≠ a) : upm m a j v b = m b := by funext y; exact upm_a _ _ _ _ _ _ h
end
section
/-! frames of one memory -/
def gC (l : Nat) (m : Mem) : Fg := (fun x j => frC l x j, m)
def gR (l : Nat) (m : Mem) : Fg := (fun x j => frR l x j, m)
def BC (tc : Int) (m : Mem) : Prop := (0 ≤ tc ∧ tc ≤ 80) ∧ ∀ a j, BdC tc a j (m a j)
def BR (tc pl : Int) (m : Mem) : Prop := ((0 ≤ tc ∧ tc ≤ 80) ∧ (1 ≤ pl ∧ pl ≤ 10) ∧ ∀ a j, BdR tc pl a j (m a j)) ∧ JS pl m
theorem BC_g {tc : Int} {m : Mem} (l : Nat) (h : BC tc m) : JC l (gC l m) tc m := ⟨⟨h.1, fun _ _ q => q⟩, fun _ _ _ => rfl, h.2⟩
theorem BR_g {tc pl : Int} {m : Mem} (l : Nat) (h : BR tc pl m) : JR l (gR l m) tc pl m := ⟨⟨⟨h.1.1, fun _ _ q => q⟩, h.1.2.1, fun _ _ _ => rfl, h.1.2.2⟩, h.2⟩
theorem BC_of {l : Nat} {g : Fg} {tc : Int} {m : Mem} (h : JC l g tc m) : BC tc m := ⟨h.1.1, h.2.2⟩
theorem BR_of {l : Nat} {g : Fg} {tc pl : Int} {m : Mem} (h : JR l g tc pl m) : BR tc pl m := ⟨⟨h.1.1.1, h.1.2.1, h.1.2.2.2⟩, h.2⟩
theorem FC_of {l : Nat} {tc : Int} {m m' : Mem} (h : JC l (gC l m) tc m') (x j : Int) (q : frC l x j) : m' x j = m x j := h.2.1 x j q
theorem FR_of {l : Nat} {tc pl : Int} {m m' : Mem} (h : JR l (gR l m) tc pl m') (x j : Int) (q : frR l x j) : m' x j = m x j := h.1.2.2.1 x j q
theorem BdC_out {tc a j v : Int} (h : 249 ≤ a) : BdC tc a j v := by
  unfold BdC
  repeat' (first | (rw [if_neg (by omega)]) | trivial)
theorem BdR_out {tc pl a j v : Int} (h : a < 249 ∨ 288 ≤ a) : BdR tc pl a j v := by
  unfold BdR
  repeat' (first | (rw [if_neg (by omega)]) | trivial)
theorem BC_tr {tc : Int} {m m' : Mem} (h : BC tc m) (e : ∀ x j, x < 249 → m' x j = m x j) : BC tc m' := by
  refine ⟨h.1, fun a j => ?_⟩
  by_cases ha : a < 249
  · rw [e a j ha]; exact h.2 a j
  · exact BdC_out (by omega)
theorem BR_tr {tc pl : Int} {m m' : Mem} (h : BR tc pl m) (e : ∀ x j, 249 ≤ x → x < 288 → m' x j = m x j) : BR tc pl m' := by
  have e5 : m' 265 = m 265 := by funext y; exact e 265 y (by decide) (by decide)
  refine ⟨⟨h.1.1, h.1.2.1, fun a j => ?_⟩, ?_, fun w h0 h1 => ?_, ?_⟩
  · by_cases ha : 249 ≤ a ∧ a < 288
    · rw [e a j ha.1 ha.2]; exact h.1.2.2 a j
    · exact BdR_out (by omega)
  · rw [e 249 3 (by decide) (by decide)]; exact h.2.1
  · rw [e 254 w (by decide) (by decide)]
    rw [e 249 4 (by decide) (by decide)] at h1
    exact h.2.2.1 w h0 h1
  · rw [e5, e 249 32 (by decide) (by decide)]; exact h.2.2.2
theorem JW_re {l l' : Nat} {g : Fg} {tc tc' pl W : Int} {N : Int → Int} {m m' : Mem} (hl : l ≤ l') (h : JR l g tc pl m) (h' : JW l' (gR l' m) tc' pl N W m') : JW l g tc' pl N W m' := by
  refine ⟨⟨⟨⟨h'.1.1.1.1, h.1.1.2⟩, h'.1.1.2.1, fun x j q => ?_, h'.1.1.2.2.2⟩, h'.1.2⟩, h'.2⟩
  rw [h'.1.1.2.2.1 x j (frR_le hl (h.1.1.2 x j q))]
  exact h.1.2.2.1 x j q
end
