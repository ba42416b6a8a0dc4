/-! sheet, on both sides -/
def clH (x : Int) : Int := if x < 0 then 0 else if 999 < x then 999 else x
def shv (a v : Int) : Int := clH (if a = 0 then i2b v else if a = 1 then i2s v else v)
def shP (a n f g p : Int) : Int := if a = 3 ∨ n ≤ p then 0 else shv a (w32 (f + w32 (p * g)))
def shS (df : Int → Int) (a n f g : Int) : Nat → Int
  | 0 => 0
  | k + 1 => shS df a n f g k + (if df (k : Int) = 0 then shP a n f g (k : Int) else 0)
theorem shP_in (a n f g p : Int) : 0 ≤ shP a n f g p ∧ shP a n f g p ≤ 999 := by
  unfold shP shv clH
  grind
theorem shS_in (df : Int → Int) (a n f g : Int) : ∀ k : Nat, 0 ≤ shS df a n f g k ∧ shS df a n f g k ≤ 999 * (k : Int)
  | 0 => ⟨Int.le_refl _, by simp [shS]⟩
  | k + 1 => by
    have h := shS_in df a n f g k
    have h2 := shP_in a n f g (k : Int)
    simp only [shS]
    split <;> omega
theorem shS_c {df dg : Int → Int} (a n f g : Int) : ∀ k : Nat, (∀ q : Nat, q < k → df (q : Int) = dg (q : Int)) → shS df a n f g k = shS dg a n f g k
  | 0, _ => rfl
  | k + 1, h => by
    simp only [shS]
    rw [h k (Nat.lt_succ_self k), shS_c a n f g k (fun q hq => h q (Nat.lt_succ_of_lt hq))]
theorem t_entry {d : Nat} {a v e : Int} {m : Mem} {Q : Int → Sto → Prop} (h : Q (shv a v) (S9 e m)) : Cl (d + 2) 55 [a, v] Q (S9 e m) := by
  simp only [cl_55, runB, B55, ma_55, rho_00, wc_19, wc_56, cl_19, B19, ma_19, cl_56, B56, ma_56, w_cst, w_ldi, w_ldj, w_lda, w_ljk, w_ldk, w_ldw, w_ldk2, w_ldt, w_ldtw, w_neg, w_cvb, w_cvs, w_cvc, w_cvj, w_add, w_sub, w_mul, w_ban, w_bor, w_bxo, w_shl, w_shr, w_ush, w_dvi, w_rmi, w_aldi, w_aldj, w_aldz, w_aldc, w_alda, w_ite, w_cmp, w_cmj, w_cz, w_cnot, w_cand, w_cor, w_nil, w_cons, w_cvi, w_csta, w_cvt, w_cvv, w_csv, w_cpy, w_seq, w_sbr, w_sbn, w_brk, w_ifs, w_ifx, w_ife, w_wk, w_rets, w_rtv, w_thr, w_asi, w_asj, w_asa, w_inc, w_exs, w_asti, w_astj, w_astz, w_astc, w_aopadd, w_aopsub, w_sw, if_true, if_false, ↓reduceIte, hdl_c, S9_1, S9_m, bud9, live9, inb9, wrn, wr9_14, wr9_15, wr9_16, wr9_17, tq9_14, tq9_15, tq9_16, tq9_17, tq_0, tq_1, tq_3, upr_rl, rl_0, rl_1, rl_2, rl_3, rl_4, rl_5, rl_6, rl_7, rl_8, rl_9, rl_10, rl_11, rl_12, rl_13, sp_0, sp_1, sp_2, sp_3, sp_4, sp_5, sp_6, sp_7, sp_8, sp_9, sp_10, sp_11, sp_12, sp_13, se_0, se_1, se_2, se_3, se_4, se_5, se_6, se_7, se_8, se_9, se_10, se_11, se_12, se_13, sem_0, sem_1, sem_2, sem_3, sem_4, sem_5]
  simp
  unfold shv clH at h
  grind
def shQ (m m' : Mem) (x : Int) (c : Int) (df : Int → Int) (a n f g N : Int) : Prop := (∀ y j, ¬ (y = x ∧ ∃ q, 0 ≤ q ∧ q < N ∧ j = c * q) → m' y j = m y j) ∧ ∀ q, 0 ≤ q → q < N → m' x (c * q) = if df q = 0 then shP a n f g q else m x (c * q)
theorem l54 {d : Nat} {a n f g e en : Int} {m : Mem} {Kn Kb : Rho → Sto → Prop} {Kr : Int → Sto → Prop} (he : en = if a = 3 then 0 else n) (h0 : 0 ≤ m 8 2) (h5 : m 8 2 ≤ 5)
    (h : ∀ m', shQ m m' 16 1 (fun p => iand (ishr (m 15 3) p) 1) a n f g (m 8 2) → Kn (rl [1, a, n, f, g, en, shS (fun p => iand (ishr (m 15 3) p) 1) a n f g (m 8 2).toNat, m 8 2]) (S9 e m')) : ((whl true 117 (cmp 2 (by decide) (ldi 7) (get f_1_139 (get f_1_26 (lda 0)))) (ifs (cnot (cz 1 (by decide) (cvi v_1_226 (acons (get f_1_33 (lda 0)) (acons (ldi 7) (anil)))))) (seq 102 (asti (get f_1_176 (get f_1_33 (lda 0))) (ldi 7) (ite 100 101 (cmp 2 (by decide) (ldi 7) (ldi 5)) (csta s_1_229 (acons (ldi 1) (acons (add (ldi 3) (mul (ldi 7) (ldi 4))) (anil)))) (cst 0))) (asi 6 (add (ldi 6) (aldi (get f_1_176 (get f_1_33 (lda 0))) (ldi 7)))))) (inc 7 1)) : SX 1).1.2 (Cl (d + 3)) Kn Kb Kr (rl [1, a, n, f, g, en, 0, 0]) (S9 e m) := by
  refine whl_i (fun k r u => ∃ (i : Nat) (m2 : Mem), r = rl [1, a, n, f, g, en, shS (fun p => iand (ishr (m 15 3) p) 1) a n f g i, (i : Int)] ∧ u = S9 e m2 ∧ i + k = (m 8 2).toNat ∧ shQ m m2 16 1 (fun p => iand (ishr (m 15 3) p) 1) a n f g i) (m 8 2).toNat ⟨0, m, rfl, rfl, by omega, fun _ _ _ => rfl, fun q q1 q2 => absurd q2 (by omega)⟩ ?_
  rintro k r u ⟨i, m2, rfl, rfl, hi, hf, hv⟩
  have f1 : m2 8 2 = m 8 2 := hf _ _ (by omega)
  have f2 : m2 15 3 = m 15 3 := hf _ _ (by omega)
  simp only [cl_54, runB, B54, ma_54, rho_20000, wf_1_139, wf_1_176, wf_1_26, wf_1_33, wc_53, wc_55, cl_53, B53, ma_53, rho_20, wf_5_45, w_cst, w_ldi, w_ldj, w_lda, w_ljk, w_ldk, w_ldw, w_ldk2, w_ldt, w_ldtw, w_neg, w_cvb, w_cvs, w_cvc, w_cvj, w_add, w_sub, w_mul, w_ban, w_bor, w_bxo, w_shl, w_shr, w_ush, w_dvi, w_rmi, w_aldi, w_aldj, w_aldz, w_aldc, w_alda, w_ite, w_cmp, w_cmj, w_cz, w_cnot, w_cand, w_cor, w_nil, w_cons, w_cvi, w_csta, w_cvt, w_cvv, w_csv, w_cpy, w_seq, w_sbr, w_sbn, w_brk, w_ifs, w_ifx, w_ife, w_wk, w_rets, w_rtv, w_thr, w_asi, w_asj, w_asa, w_inc, w_exs, w_asti, w_astj, w_astz, w_astc, w_aopadd, w_aopsub, w_sw, if_true, if_false, ↓reduceIte, hdl_c, S9_1, S9_m, bud9, live9, inb9, wrn, wr9_14, wr9_15, wr9_16, wr9_17, tq9_14, tq9_15, tq9_16, tq9_17, tq_0, tq_1, tq_3, upr_rl, rl_0, rl_1, rl_2, rl_3, rl_4, rl_5, rl_6, rl_7, rl_8, rl_9, rl_10, rl_11, rl_12, rl_13, sp_0, sp_1, sp_2, sp_3, sp_4, sp_5, sp_6, sp_7, sp_8, sp_9, sp_10, sp_11, sp_12, sp_13, se_0, se_1, se_2, se_3, se_4, se_5, se_6, se_7, se_8, se_9, se_10, se_11, se_12, se_13, sem_0, sem_1, sem_2, sem_3, sem_4, sem_5, sr_1_8, sr_1_9, sr_1_3, sr_1_2, sr_1_11, sr_1_7, sr_1_10, sr_1_4, sr_1_1, sr_1_0, kc_1, sr_1_6, kl9_1, sr_1_5, sr_1_13, sr_8_9, kl9_8, sr_8_5, sr_8_4, kc_8, sr_8_10, sr_8_7, sr_8_6, sr_15_2, sr_15_9, kl9_15, sr_15_8, sr_15_5, sr_15_1, sr_15_4, sr_15_6, kc_15, sr_15_0, sr_15_7, kl9_16, kc_16, f1, f2]
  simp
  have hs := shS_in (fun p => iand (ishr (m 15 3) p) 1) a n f g i
  have hP := shP_in a n f g i
  have key : (i : Int) < m 8 2 → iand (ishr (m 15 3) (i : Int)) 1 = 0 → ∀ x, x = shP a n f g i → ∃ n', n' < k ∧ ∃ i_1 : Nat, rl [1, a, n, f, g, en, w32 (shS (fun p => iand (ishr (m 15 3) p) 1) a n f g i + x), w32 ((i : Int) + 1)] = rl [1, a, n, f, g, en, shS (fun p => iand (ishr (m 15 3) p) 1) a n f g i_1, (i_1 : Int)] ∧ ∃ y, S9 e (upm m2 16 i x) = S9 e y ∧ i_1 + n' = (m 8 2).toNat ∧ shQ m y 16 1 (fun p => iand (ishr (m 15 3) p) 1) a n f g i_1 := by
    rintro a1 a2 x rfl
    refine ⟨k - 1, by omega, i + 1, ?_, _, rfl, by omega, fun y j hy => ?_, fun q q1 q2 => ?_⟩
    · rw [w32_eq (by omega) (by omega), w32_eq (by omega) (by omega)]
      simp only [shS, if_pos a2]
      rfl
    · unfold upm
      rw [if_neg (fun hh => hy ⟨hh.1, i, by omega, by omega, by omega⟩)]
      exact hf y j (fun hh => hy ⟨hh.1, by obtain ⟨q, z1, z2, z3⟩ := hh.2; exact ⟨q, z1, by omega, z3⟩⟩)
    · unfold upm
      by_cases hq : q = i
      · subst hq
        rw [if_pos ⟨rfl, by omega⟩, if_pos a2]
      · rw [if_neg (by omega)]
        exact hv q q1 (by omega)
  refine ⟨fun a1 => ⟨fun a2 => ?_, fun a2 => ⟨fun a3 => t_entry ?_, fun a3 => ⟨by omega, ?_⟩⟩⟩, fun a1 => ?_⟩
  · rw [w32_eq (by omega) (by omega)]
    refine ⟨k - 1, by omega, i + 1, ?_, m2, rfl, by omega, fun y j hy => hf y j (fun hh => hy ⟨hh.1, by obtain ⟨q, z1, z2, z3⟩ := hh.2; exact ⟨q, z1, by omega, z3⟩⟩), fun q q1 q2 => ?_⟩
    · simp only [shS, if_neg a2]
      simp
    · by_cases hq : q = i
      · subst hq
        rw [if_neg a2]
        exact hf _ _ (fun hh => by obtain ⟨q, z1, z2, z3⟩ := hh.2; omega)
      · exact hv q q1 (by omega)
  · simp only [hdl_c, S9_1, S9_m, bud9, live9, inb9, wrn, wr9_14, wr9_15, wr9_16, wr9_17, tq9_14, tq9_15, tq9_16, tq9_17, tq_0, tq_1, tq_3, upr_rl, rl_0, rl_1, rl_2, rl_3, rl_4, rl_5, rl_6, rl_7, rl_8, rl_9, rl_10, rl_11, rl_12, rl_13, sp_0, sp_1, sp_2, sp_3, sp_4, sp_5, sp_6, sp_7, sp_8, sp_9, sp_10, sp_11, sp_12, sp_13, se_0, se_1, se_2, se_3, se_4, se_5, se_6, se_7, se_8, se_9, se_10, se_11, se_12, se_13, sem_0, sem_1, sem_2, sem_3, sem_4, sem_5, sr_1_8, sr_1_9, sr_1_3, sr_1_2, sr_1_11, sr_1_7, sr_1_10, sr_1_4, sr_1_1, sr_1_0, kc_1, sr_1_6, kl9_1, sr_1_5, sr_1_13, sr_8_9, kl9_8, sr_8_5, sr_8_4, kc_8, sr_8_10, sr_8_7, sr_8_6, sr_15_2, sr_15_9, kl9_15, sr_15_8, sr_15_5, sr_15_1, sr_15_4, sr_15_6, kc_15, sr_15_0, sr_15_7, kl9_16, kc_16]
    simp
    refine ⟨by omega, ?_⟩
    rw [upm_s]
    refine key a1 a2 _ ?_
    unfold shP
    rw [if_neg (by split at he <;> omega)]
  · rw [upm_s]
    refine key a1 a2 _ ?_
    unfold shP
    rw [if_pos (by split at he <;> omega)]
  · have : (i : Int) = m 8 2 := by omega
    rw [this]
    rw [this] at hf hv
    have h8 := h m2 ⟨hf, hv⟩
    rw [show (m 8 2).toNat = i by omega] at h8
    exact h8
theorem t_sheet {d : Nat} {a n f g e : Int} {m : Mem} {Q : Int → Sto → Prop} (h0 : 0 ≤ m 8 2) (h5 : m 8 2 ≤ 5) (h1 : (a < 0 ∨ 3 < a ∨ 5 < n) → Q (-1) (S9 e m)) (h2 : 0 ≤ a → a < 3 → n < 0 → Q (-2) (S9 e m))
    (h3 : 0 ≤ a → a ≤ 3 → n ≤ 5 → (a = 3 ∨ 0 ≤ n) → ∀ m', shQ m m' 16 1 (fun p => iand (ishr (m 15 3) p) 1) a n f g (m 8 2) → Q (if a = 3 then -3 else shS (fun p => iand (ishr (m 15 3) p) 1) a n f g (m 8 2).toNat) (S9 e m')) : Cl (d + 4) 54 [1, a, n, f, g] Q (S9 e m) := by
  simp only [cl_54, runB, B54, ma_54, rho_20000, wf_1_139, wf_1_176, wf_1_26, wf_1_33, wc_53, wc_55, cl_53, B53, ma_53, rho_20, wf_5_45, w_cst, w_ldi, w_ldj, w_lda, w_ljk, w_ldk, w_ldw, w_ldk2, w_ldt, w_ldtw, w_neg, w_cvb, w_cvs, w_cvc, w_cvj, w_add, w_sub, w_mul, w_ban, w_bor, w_bxo, w_shl, w_shr, w_ush, w_dvi, w_rmi, w_aldi, w_aldj, w_aldz, w_aldc, w_alda, w_ite, w_cmp, w_cmj, w_cz, w_cnot, w_cand, w_cor, w_nil, w_cons, w_cvi, w_csta, w_cvt, w_cvv, w_csv, w_cpy, w_seq, w_sbr, w_sbn, w_brk, w_ifs, w_ifx, w_ife, w_wk, w_rets, w_rtv, w_thr, w_asi, w_asj, w_asa, w_inc, w_exs, w_asti, w_astj, w_astz, w_astc, w_aopadd, w_aopsub, w_sw, if_true, if_false, ↓reduceIte, hdl_c, S9_1, S9_m, bud9, live9, inb9, wrn, wr9_14, wr9_15, wr9_16, wr9_17, tq9_14, tq9_15, tq9_16, tq9_17, tq_0, tq_1, tq_3, upr_rl, rl_0, rl_1, rl_2, rl_3, rl_4, rl_5, rl_6, rl_7, rl_8, rl_9, rl_10, rl_11, rl_12, rl_13, sp_0, sp_1, sp_2, sp_3, sp_4, sp_5, sp_6, sp_7, sp_8, sp_9, sp_10, sp_11, sp_12, sp_13, se_0, se_1, se_2, se_3, se_4, se_5, se_6, se_7, se_8, se_9, se_10, se_11, se_12, se_13, sem_0, sem_1, sem_2, sem_3, sem_4, sem_5, sr_1_8, sr_1_9, sr_1_3, sr_1_2, sr_1_11, sr_1_7, sr_1_10, sr_1_4, sr_1_1, sr_1_0, kc_1, sr_1_6, kl9_1, sr_1_5, sr_1_13, sr_8_9, kl9_8, sr_8_5, sr_8_4, kc_8, sr_8_10, sr_8_7, sr_8_6, sr_15_2, sr_15_9, kl9_15, sr_15_8, sr_15_5, sr_15_1, sr_15_4, sr_15_6, kc_15, sr_15_0, sr_15_7, kl9_16, kc_16]
  simp
  repeat' (first | (intro b) | (refine And.intro ?_ ?_))
  all_goals first
    | exact h1 (by omega)
    | exact h2 (by omega) (by omega) (by omega)
    | exact absurd trivial (by omega)
    | (refine l54 (by split <;> omega) h0 h5 (fun m' hm' => ?_)
       have h9 := h3 (by omega) (by omega) (by omega) (by omega) m' hm'
       simp only [hdl_c, S9_1, S9_m, bud9, live9, inb9, wrn, wr9_14, wr9_15, wr9_16, wr9_17, tq9_14, tq9_15, tq9_16, tq9_17, tq_0, tq_1, tq_3, upr_rl, rl_0, rl_1, rl_2, rl_3, rl_4, rl_5, rl_6, rl_7, rl_8, rl_9, rl_10, rl_11, rl_12, rl_13, sp_0, sp_1, sp_2, sp_3, sp_4, sp_5, sp_6, sp_7, sp_8, sp_9, sp_10, sp_11, sp_12, sp_13, se_0, se_1, se_2, se_3, se_4, se_5, se_6, se_7, se_8, se_9, se_10, se_11, se_12, se_13, sem_0, sem_1, sem_2, sem_3, sem_4, sem_5]
       refine ⟨fun c => ?_, fun c => ?_⟩
       · rw [if_pos c] at h9; exact h9
       · rw [if_neg c] at h9; exact h9)
