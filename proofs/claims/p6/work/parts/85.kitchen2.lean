/-! THE KITCHEN's call of the reference -/
theorem BdR_mono {tc pl pl' a j v : Int} (h : BdR tc pl a j v) (hp : pl ≤ pl') : BdR tc pl' a j v := by
  have hR : ∀ {x y : Int}, RBd pl x y → RBd pl' x y := by
    intro x y q
    refine ⟨fun a1 a2 => ?_, fun a1 a2 a3 => ?_, q.2.2.1, q.2.2.2⟩
    · have := q.1 a1 a2; omega
    · have := q.2.1 a1 a2 a3; omega
  unfold BdR at h ⊢
  by_cases q : a = 249
  · rw [if_pos q] at h ⊢
    exact ⟨h.1, h.2.1, fun e => by have := h.2.2.1 e; omega, h.2.2.2⟩
  rw [if_neg q] at h ⊢
  by_cases q : a = 252
  · rw [if_pos q] at h ⊢; omega
  rw [if_neg q] at h ⊢
  by_cases q : a = 253
  · rw [if_pos q] at h ⊢; omega
  rw [if_neg q] at h ⊢
  by_cases q : a = 254
  · rw [if_pos q] at h ⊢; exact h
  rw [if_neg q] at h ⊢
  by_cases q : a = 258
  · rw [if_pos q] at h ⊢; exact hR h
  rw [if_neg q] at h ⊢
  by_cases q : a = 259
  · rw [if_pos q] at h ⊢; exact hR h
  rw [if_neg q] at h ⊢
  by_cases q : a = 269
  · rw [if_pos q] at h ⊢; exact hR h
  rw [if_neg q] at h ⊢
  by_cases q : a = 287
  · rw [if_pos q] at h ⊢; exact hR h
  rw [if_neg q] at h ⊢
  exact h
theorem JB_mono {l : Nat} {g : Fg} {tc pl pl' : Int} {m : Mem} (h : JB l g tc pl m) (hp : pl ≤ pl') (hp2 : pl' ≤ 10) : JB l g tc pl' m := ⟨h.1, ⟨by have := h.2.1; omega, hp2⟩, h.2.2.1, fun a j => BdR_mono (h.2.2.2 a j) hp⟩
def KC (g : Fg) (pl a b c f P : Int) (m : Mem) : Prop := JB 1 g 0 pl m ∧ (∀ w, 0 ≤ w → w < m 249 4 → 1 ≤ m 254 w) ∧ COK (m 265) (m 249 32) ∧ (m 249 26 = a ∧ m 249 27 = b ∧ m 249 28 = c ∧ m 249 29 = f) ∧ KRf P b c f m
abbrev nKC (a j : Int) : Prop := a ≠ 254 ∧ a ≠ 262 ∧ a ≠ 263 ∧ a ≠ 264 ∧ a ≠ 265 ∧ (a = 249 → j ≠ 4 ∧ j ≠ 26 ∧ j ≠ 27 ∧ j ≠ 28 ∧ j ≠ 29 ∧ j ≠ 32)
theorem KC_up {g : Fg} {pl x y z t P : Int} {m : Mem} {a j v : Int} (h : KC g pl x y z t P m) (ha : ¬ frR 1 a j) (hn : nKC a j) (hv : BdR 0 pl a j v) : KC g pl x y z t P (upm m a j v) := by
  obtain ⟨hB, hw, hC, hc, hf⟩ := h
  obtain ⟨n1, n2, n3, n4, n5, n6⟩ := hn
  have e4 : upm m a j v 249 4 = m 249 4 := upn (fun q => by have := n6 q.symm; omega)
  have e26 : upm m a j v 249 26 = m 249 26 := upn (fun q => by have := n6 q.symm; omega)
  have e27 : upm m a j v 249 27 = m 249 27 := upn (fun q => by have := n6 q.symm; omega)
  have e28 : upm m a j v 249 28 = m 249 28 := upn (fun q => by have := n6 q.symm; omega)
  have e29 : upm m a j v 249 29 = m 249 29 := upn (fun q => by have := n6 q.symm; omega)
  have e32 : upm m a j v 249 32 = m 249 32 := upn (fun q => by have := n6 q.symm; omega)
  have e54 : upm m a j v 254 = m 254 := by funext y; exact upm_a _ _ _ _ _ _ (fun q => n1 q.symm)
  have e65 : upm m a j v 265 = m 265 := by funext y; exact upm_a _ _ _ _ _ _ (fun q => n5 q.symm)
  unfold KC
  rw [e4, e26, e27, e28, e29, e32, e54, e65]
  exact ⟨JB_up hB ha hv, hw, hC, hc, KRf_up hf (fun q => absurd q n2) (fun q => absurd q n3) (fun q => absurd q n4)⟩
theorem KC_254 {g : Fg} {pl x y z t P : Int} {m : Mem} {j v : Int} (h : KC g pl x y z t P m) (hj : m 249 4 ≤ j) (hv : 0 ≤ v ∧ v ≤ 9) : KC g pl x y z t P (upm m 254 j v) := by
  obtain ⟨hB, hw, hC, hc, hf⟩ := h
  have e9 : ∀ y, upm m 254 j v 249 y = m 249 y := fun y => upm_a _ _ _ _ _ _ (by decide)
  have e65 : upm m 254 j v 265 = m 265 := by funext y; exact upm_a _ _ _ _ _ _ (by decide)
  refine ⟨JB_up hB (by unfold frR; omega) (by simp [BdR]; exact hv), ?_, ?_, ?_, KRf_up hf (fun q => absurd q (by decide)) (fun q => absurd q (by decide)) (fun q => absurd q (by decide))⟩
  · intro w q0 q1
    rw [e9] at q1
    rw [upm_k (by omega)]
    exact hw w q0 q1
  · rw [e9, e65]; exact hC
  · rw [e9, e9, e9, e9]; exact hc
theorem KC_4 {g : Fg} {pl x y z t P : Int} {m : Mem} {v : Int} (h : KC g pl x y z t P m) (hv : v = m 249 4 + 1) (hl : 0 ≤ v ∧ v ≤ 14) (h1 : 1 ≤ m 254 (m 249 4)) : KC g pl x y z t P (upm m 249 4 v) := by
  obtain ⟨hB, hw, hC, hc, hf⟩ := h
  have e9 : ∀ y, y ≠ 4 → upm m 249 4 v 249 y = m 249 y := fun y hy => upm_k hy
  have e65 : upm m 249 4 v 265 = m 265 := by funext y; exact upm_a _ _ _ _ _ _ (by decide)
  have e54 : upm m 249 4 v 254 = m 254 := by funext y; exact upm_a _ _ _ _ _ _ (by decide)
  refine ⟨JB_up hB (by unfold frR; omega) (by simp [BdR]; exact hl), ?_, ?_, ?_, KRf_up hf (fun q => absurd q (by decide)) (fun q => absurd q (by decide)) (fun q => absurd q (by decide))⟩
  · intro w q0 q1
    rw [upm_v] at q1
    rw [e54]
    by_cases e : w = m 249 4
    · rw [e]; exact h1
    · exact hw w q0 (by omega)
  · rw [e9 32 (by decide), e65]; exact hC
  · rw [e9 26 (by decide), e9 27 (by decide), e9 28 (by decide), e9 29 (by decide)]; exact hc
theorem rb_one {pl p i v : Int} (hp : 0 ≤ p ∧ p ≤ 4) (hi : 0 ≤ i ∧ i ≤ 6) (h0 : i = 0 → 0 ≤ v ∧ v ≤ pl - 1) (h3 : i = 3 → 0 ≤ v ∧ v ≤ 1) (h5 : i = 5 → -1 ≤ v ∧ v ≤ 4) : RBd pl (15 + 7 * p + i) v := by
  rw [rb_i (by omega) (by omega)]
  refine ⟨fun q => absurd q (by omega), fun q0 q1 q2 => h0 (by omega), fun q0 q1 q2 => h3 (by omega), fun q0 q1 q2 => h5 (by omega)⟩
theorem KC_s {g : Fg} {pl x y z t P : Int} {m : Mem} (h : KC g pl x y z t P m) : 1 ≤ pl ∧ pl ≤ 10 ∧ m 249 26 = x ∧ m 249 27 = y ∧ m 249 28 = z ∧ m 249 29 = t := ⟨h.1.2.1.1, h.1.2.1.2, h.2.2.2.1⟩
theorem w3p {q c : Int} (h0 : 0 ≤ q ∧ q ≤ 20) (h1 : 0 ≤ c ∧ c ≤ 3) : w32 (w32 (3 * q) + c) = 3 * q + c := by unfold w32; omega
theorem w4p {q c : Int} (h0 : 0 ≤ q ∧ q ≤ 20) (h1 : 0 ≤ c ∧ c ≤ 3) : w32 (w32 (4 * q) + c) = 4 * q + c := by unfold w32; omega
theorem w2p {q c : Int} (h0 : 0 ≤ q ∧ q ≤ 20) (h1 : 0 ≤ c ∧ c ≤ 3) : w32 (w32 (2 * q) + c) = 2 * q + c := by unfold w32; omega
theorem w7p {q c : Int} (h0 : 0 ≤ q ∧ q ≤ 20) (h1 : 0 ≤ c ∧ c ≤ 6) : w32 (15 + 7 * q + c) = 15 + 7 * q + c := by unfold w32; omega
theorem w1p {q : Int} (h0 : 0 ≤ q ∧ q ≤ 300) : w32 (q + 1) = q + 1 := by unfold w32; omega
set_option maxHeartbeats 8000000 in
theorem s_172 {d : Nat} {tc pl e W : Int} {g : Fg} {m : Mem} {Q : Int → Sto → Prop} {N : Int → Int} (hK : KR m) (hA : 0 ≤ m 249 19 ∧ m 249 19 ≤ m 249 20) (hJ : JW 4 g tc pl N W m) (hq : ∀ v m', JW 4 g tc pl N W m' → RP m m' v → Q v (S9 e m')) : Cl (d + 9) 172 [249] Q (S9 e m) := by
  have hL := JW_l hJ
  have hs := JW_s hJ
  have h58 := JW_2 hJ
  have hk1 := hK.1
  unfold KRc at hk1
  simp only [cl_172, runB, B172, ma_172, rho_2, wc_173, wc_176, wc_179, wc_182, wc_186, w_cst, w_ldi, w_ldj, w_lda, w_ljk, w_ldk, w_ldw, w_ldk2, w_ldt, w_ldtw, w_neg, w_cvb, w_cvs, w_cvc, w_cvj, w_add, w_sub, w_mul, w_ban, w_bor, w_bxo, w_shl, w_shr, w_ush, w_dvi, w_rmi, w_aldi, w_aldj, w_aldz, w_aldc, w_alda, w_ite, w_cmp, w_cmj, w_cz, w_cnot, w_cand, w_cor, w_nil, w_cons, w_cvi, w_csta, w_cvt, w_cvv, w_csv, w_cpy, w_seq, w_sbr, w_sbn, w_brk, w_ifs, w_ifx, w_ife, w_wk, w_rets, w_rtv, w_thr, w_asi, w_asj, w_asa, w_inc, w_exs, w_asti, w_astj, w_astz, w_astc, w_aopadd, w_aopsub, w_sw, if_true, if_false, ↓reduceIte, hdl_c, S9_1, S9_m, bud9, live9, inb9, wrn, wr9_14, wr9_15, wr9_16, wr9_17, tq9_14, tq9_15, tq9_16, tq9_17, tq_0, tq_1, tq_3, upr_rl, rl_0, rl_1, rl_2, rl_3, rl_4, rl_5, rl_6, rl_7, rl_8, rl_9, rl_10, rl_11, rl_12, rl_13, sp_0, sp_1, sp_2, sp_3, sp_4, sp_5, sp_6, sp_7, sp_8, sp_9, sp_10, sp_11, sp_12, sp_13, se_0, se_1, se_2, se_3, se_4, se_5, se_6, se_7, se_8, se_9, se_10, se_11, se_12, se_13, sem_0, sem_1, sem_2, sem_3, sem_4, sem_5, sr_249_54, sr_249_41, sr_249_2, sr_249_22, sr_249_24, kl9_249, sr_249_17, sr_249_52, sr_249_61, sr_249_25, sr_249_9, sr_249_57, sr_249_55, sr_249_15, sr_249_70, sr_249_51, sr_249_58, sr_249_69, sr_249_63, sr_249_13, sr_249_34, sr_249_43, sr_249_23, sr_249_71, sr_249_67, sr_249_8, sr_249_16, sr_249_11, sr_249_68, sr_249_35, sr_249_14, sr_249_64, sr_249_30, sr_249_12, sr_249_31, kc_249, sr_249_10, sr_249_50, sr_249_40, sr_249_42, kl9_260, kc_260, List.getD_cons_zero, List.getD_cons_succ, Bool.false_eq_true, wrn3, wrn1, cpmS, cpok9, swW_c, swW_n, List.mem_singleton, List.mem_cons, List.mem_nil_iff, l_all]
  repeat' (first
    | (with_reducible exact True.intro)
    | omega
    | (with_reducible rfl)
    | (with_reducible contradiction)
    | (with_reducible refine And.intro ?_ ?_)
    | intro _
    | (with_reducible refine p_173 ?_ ?_ ?_ (fun v9 h9 => ?_); (next => first | ((try simp only [upm_app, Int.reduceEq, and_self, and_true, true_and, and_false, false_and, if_true, if_false, ↓reduceIte]); first | omega | (unfold w32; omega) | (unfold w32 at *; omega)) | (refine stx_c ?_; decide) | omega | (with_reducible rfl) | decide | (unfold w32; omega) | (simp (disch := omega) only [w32_eq]; omega) | (simp [upm] <;> (first | omega | (unfold w32; omega)))); (next => first | ((try simp only [upm_app, Int.reduceEq, and_self, and_true, true_and, and_false, false_and, if_true, if_false, ↓reduceIte]); first | omega | (unfold w32; omega) | (unfold w32 at *; omega)) | (refine stx_c ?_; decide) | omega | (with_reducible rfl) | decide | (unfold w32; omega) | (simp (disch := omega) only [w32_eq]; omega) | (simp [upm] <;> (first | omega | (unfold w32; omega)))); (next => first | ((try simp only [upm_app, Int.reduceEq, and_self, and_true, true_and, and_false, false_and, if_true, if_false, ↓reduceIte]); first | omega | (unfold w32; omega) | (unfold w32 at *; omega)) | (refine stx_c ?_; decide) | omega | (with_reducible rfl) | decide | (unfold w32; omega) | (simp (disch := omega) only [w32_eq]; omega) | (simp [upm] <;> (first | omega | (unfold w32; omega)))); (try simp only [h58] at h9); simp only [hdl_c, S9_1, S9_m, bud9, live9, inb9, wrn, wr9_14, wr9_15, wr9_16, wr9_17, tq9_14, tq9_15, tq9_16, tq9_17, tq_0, tq_1, tq_3, upr_rl, rl_0, rl_1, rl_2, rl_3, rl_4, rl_5, rl_6, rl_7, rl_8, rl_9, rl_10, rl_11, rl_12, rl_13, sp_0, sp_1, sp_2, sp_3, sp_4, sp_5, sp_6, sp_7, sp_8, sp_9, sp_10, sp_11, sp_12, sp_13, se_0, se_1, se_2, se_3, se_4, se_5, se_6, se_7, se_8, se_9, se_10, se_11, se_12, se_13, sem_0, sem_1, sem_2, sem_3, sem_4, sem_5, List.getD_cons_zero, List.getD_cons_succ, Bool.false_eq_true, wrn3, wrn1, cpmS, cpok9, if_true, if_false, ↓reduceIte, wc_173, wc_176, wc_179, wc_182, wc_186, sr_249_54, sr_249_41, sr_249_2, sr_249_22, sr_249_24, kl9_249, sr_249_17, sr_249_52, sr_249_61, sr_249_25, sr_249_9, sr_249_57, sr_249_55, sr_249_15, sr_249_70, sr_249_51, sr_249_58, sr_249_69, sr_249_63, sr_249_13, sr_249_34, sr_249_43, sr_249_23, sr_249_71, sr_249_67, sr_249_8, sr_249_16, sr_249_11, sr_249_68, sr_249_35, sr_249_14, sr_249_64, sr_249_30, sr_249_12, sr_249_31, kc_249, sr_249_10, sr_249_50, sr_249_40, sr_249_42, kl9_260, kc_260, swW_c, swW_n, List.mem_singleton, List.mem_cons, List.mem_nil_iff, l_all, h58]; (try simp (disch := omega) only [w15_0, w15_1, w15_3, w15_4, w15_5, w15_6, w3_0, w3_1, w3_2, upm_app, Int.reduceEq, and_self, and_true, true_and, and_false, false_and, if_true, if_false, ↓reduceIte, h58]))
    | (with_reducible refine s_176 hK hA hJ (fun v9 m9 hJ9 h9 => ?_); simp only [hdl_c, S9_1, S9_m, bud9, live9, inb9, wrn, wr9_14, wr9_15, wr9_16, wr9_17, tq9_14, tq9_15, tq9_16, tq9_17, tq_0, tq_1, tq_3, upr_rl, rl_0, rl_1, rl_2, rl_3, rl_4, rl_5, rl_6, rl_7, rl_8, rl_9, rl_10, rl_11, rl_12, rl_13, sp_0, sp_1, sp_2, sp_3, sp_4, sp_5, sp_6, sp_7, sp_8, sp_9, sp_10, sp_11, sp_12, sp_13, se_0, se_1, se_2, se_3, se_4, se_5, se_6, se_7, se_8, se_9, se_10, se_11, se_12, se_13, sem_0, sem_1, sem_2, sem_3, sem_4, sem_5, List.getD_cons_zero, List.getD_cons_succ, Bool.false_eq_true, wrn3, wrn1, cpmS, cpok9, if_true, if_false, ↓reduceIte, wc_173, wc_176, wc_179, wc_182, wc_186, sr_249_54, sr_249_41, sr_249_2, sr_249_22, sr_249_24, kl9_249, sr_249_17, sr_249_52, sr_249_61, sr_249_25, sr_249_9, sr_249_57, sr_249_55, sr_249_15, sr_249_70, sr_249_51, sr_249_58, sr_249_69, sr_249_63, sr_249_13, sr_249_34, sr_249_43, sr_249_23, sr_249_71, sr_249_67, sr_249_8, sr_249_16, sr_249_11, sr_249_68, sr_249_35, sr_249_14, sr_249_64, sr_249_30, sr_249_12, sr_249_31, kc_249, sr_249_10, sr_249_50, sr_249_40, sr_249_42, kl9_260, kc_260, swW_c, swW_n, List.mem_singleton, List.mem_cons, List.mem_nil_iff, l_all, h58])
    | (with_reducible refine s_179 hK hA hJ (fun v9 m9 hJ9 h9 => ?_); simp only [hdl_c, S9_1, S9_m, bud9, live9, inb9, wrn, wr9_14, wr9_15, wr9_16, wr9_17, tq9_14, tq9_15, tq9_16, tq9_17, tq_0, tq_1, tq_3, upr_rl, rl_0, rl_1, rl_2, rl_3, rl_4, rl_5, rl_6, rl_7, rl_8, rl_9, rl_10, rl_11, rl_12, rl_13, sp_0, sp_1, sp_2, sp_3, sp_4, sp_5, sp_6, sp_7, sp_8, sp_9, sp_10, sp_11, sp_12, sp_13, se_0, se_1, se_2, se_3, se_4, se_5, se_6, se_7, se_8, se_9, se_10, se_11, se_12, se_13, sem_0, sem_1, sem_2, sem_3, sem_4, sem_5, List.getD_cons_zero, List.getD_cons_succ, Bool.false_eq_true, wrn3, wrn1, cpmS, cpok9, if_true, if_false, ↓reduceIte, wc_173, wc_176, wc_179, wc_182, wc_186, sr_249_54, sr_249_41, sr_249_2, sr_249_22, sr_249_24, kl9_249, sr_249_17, sr_249_52, sr_249_61, sr_249_25, sr_249_9, sr_249_57, sr_249_55, sr_249_15, sr_249_70, sr_249_51, sr_249_58, sr_249_69, sr_249_63, sr_249_13, sr_249_34, sr_249_43, sr_249_23, sr_249_71, sr_249_67, sr_249_8, sr_249_16, sr_249_11, sr_249_68, sr_249_35, sr_249_14, sr_249_64, sr_249_30, sr_249_12, sr_249_31, kc_249, sr_249_10, sr_249_50, sr_249_40, sr_249_42, kl9_260, kc_260, swW_c, swW_n, List.mem_singleton, List.mem_cons, List.mem_nil_iff, l_all, h58])
    | (with_reducible refine s_182 hK hA hJ (fun v9 m9 hJ9 h9 => ?_); simp only [hdl_c, S9_1, S9_m, bud9, live9, inb9, wrn, wr9_14, wr9_15, wr9_16, wr9_17, tq9_14, tq9_15, tq9_16, tq9_17, tq_0, tq_1, tq_3, upr_rl, rl_0, rl_1, rl_2, rl_3, rl_4, rl_5, rl_6, rl_7, rl_8, rl_9, rl_10, rl_11, rl_12, rl_13, sp_0, sp_1, sp_2, sp_3, sp_4, sp_5, sp_6, sp_7, sp_8, sp_9, sp_10, sp_11, sp_12, sp_13, se_0, se_1, se_2, se_3, se_4, se_5, se_6, se_7, se_8, se_9, se_10, se_11, se_12, se_13, sem_0, sem_1, sem_2, sem_3, sem_4, sem_5, List.getD_cons_zero, List.getD_cons_succ, Bool.false_eq_true, wrn3, wrn1, cpmS, cpok9, if_true, if_false, ↓reduceIte, wc_173, wc_176, wc_179, wc_182, wc_186, sr_249_54, sr_249_41, sr_249_2, sr_249_22, sr_249_24, kl9_249, sr_249_17, sr_249_52, sr_249_61, sr_249_25, sr_249_9, sr_249_57, sr_249_55, sr_249_15, sr_249_70, sr_249_51, sr_249_58, sr_249_69, sr_249_63, sr_249_13, sr_249_34, sr_249_43, sr_249_23, sr_249_71, sr_249_67, sr_249_8, sr_249_16, sr_249_11, sr_249_68, sr_249_35, sr_249_14, sr_249_64, sr_249_30, sr_249_12, sr_249_31, kc_249, sr_249_10, sr_249_50, sr_249_40, sr_249_42, kl9_260, kc_260, swW_c, swW_n, List.mem_singleton, List.mem_cons, List.mem_nil_iff, l_all, h58])
    | (with_reducible refine s_186 hK hA hJ (fun v9 m9 hJ9 h9 => ?_); simp only [hdl_c, S9_1, S9_m, bud9, live9, inb9, wrn, wr9_14, wr9_15, wr9_16, wr9_17, tq9_14, tq9_15, tq9_16, tq9_17, tq_0, tq_1, tq_3, upr_rl, rl_0, rl_1, rl_2, rl_3, rl_4, rl_5, rl_6, rl_7, rl_8, rl_9, rl_10, rl_11, rl_12, rl_13, sp_0, sp_1, sp_2, sp_3, sp_4, sp_5, sp_6, sp_7, sp_8, sp_9, sp_10, sp_11, sp_12, sp_13, se_0, se_1, se_2, se_3, se_4, se_5, se_6, se_7, se_8, se_9, se_10, se_11, se_12, se_13, sem_0, sem_1, sem_2, sem_3, sem_4, sem_5, List.getD_cons_zero, List.getD_cons_succ, Bool.false_eq_true, wrn3, wrn1, cpmS, cpok9, if_true, if_false, ↓reduceIte, wc_173, wc_176, wc_179, wc_182, wc_186, sr_249_54, sr_249_41, sr_249_2, sr_249_22, sr_249_24, kl9_249, sr_249_17, sr_249_52, sr_249_61, sr_249_25, sr_249_9, sr_249_57, sr_249_55, sr_249_15, sr_249_70, sr_249_51, sr_249_58, sr_249_69, sr_249_63, sr_249_13, sr_249_34, sr_249_43, sr_249_23, sr_249_71, sr_249_67, sr_249_8, sr_249_16, sr_249_11, sr_249_68, sr_249_35, sr_249_14, sr_249_64, sr_249_30, sr_249_12, sr_249_31, kc_249, sr_249_10, sr_249_50, sr_249_40, sr_249_42, kl9_260, kc_260, swW_c, swW_n, List.mem_singleton, List.mem_cons, List.mem_nil_iff, l_all, h58])
    | (exact hq _ _ (by assumption) (by assumption))
    | (exact hq 0 _ hJ ⟨⟨by omega, by omega, rfl⟩, Or.inl rfl⟩)
    | (unfold w32; omega)
    | (simp (disch := omega) only [w32_eq]; omega)
    | (with_reducible show (_ : Int) ≤ _; simp [upm] <;> (first | omega | (unfold w32; omega)))
    | (with_reducible show (_ : Int) < _; simp [upm] <;> (first | omega | (unfold w32; omega))))

theorem p_187k {d : Nat} {e : Int} {m : Mem} {Q : Int → Sto → Prop} {a b c : Int} (h0 : 0 ≤ m 249 19 ∧ m 249 19 ≤ 80) (hb : 0 ≤ b ∧ b ≤ 80) (h1 : c ≠ 0 → a ≤ b → Q 0 (S9 e m)) (h2 : ∀ v, v < 0 → Q v (S9 e m)) : Cl (d + 1) 187 [249, a, b, c] Q (S9 e m) := p_187 h0 hb (fun v h => by
  rcases h with ⟨rfl, h3, h4⟩ | h
  · exact h1 h3 h4
  · exact h2 v h)
theorem KR_00 {m : Mem} (h : m 249 20 ≤ 76 ∧ m 249 26 = 0 ∧ m 249 27 = 0 ∧ m 249 28 = 0 ∧ m 249 29 = 0 ∧ m 249 3 ≤ 10 ∧ m 249 4 ≤ 14 ∧ m 249 5 ≤ 5 ∧ m 249 6 ≤ 5) : KR m := by
  refine ⟨by unfold KRc; omega, fun k h0 h1 => absurd h1 (by omega), fun k h0 h1 => absurd h1 (by omega), fun k h0 h1 => absurd h1 (by omega)⟩
theorem KC_end {g : Fg} {pl A B C F P : Int} {m : Mem} (h : KC g pl A B C F P m) (h3 : m 249 3 = pl ∨ m 249 3 = 0 ∧ pl = 1) : JR 1 g 0 pl m := ⟨h.1, h3, h.2.1, h.2.2.1⟩
theorem KC_beg {g : Fg} {pl W : Int} {N : Int → Int} {m : Mem} (h : JW 1 g 0 pl N W m) (hK : KR m) : ∃ pl', (m 249 3 + m 249 26 = pl' ∨ m 249 3 + m 249 26 = 0 ∧ pl' = 1) ∧ m 249 3 + m 249 26 ≤ pl' ∧ KC g pl' (m 249 26) (m 249 27) (m 249 28) (m 249 29) (m 249 3 + m 249 26) m := by
  have hs := JW_s h
  have h3 := (JW_1 h).2.1
  have hc := hK.1
  unfold KRc at hc
  by_cases e : m 249 3 + m 249 26 = 0
  · exact ⟨1, Or.inr ⟨e, rfl⟩, by omega, JB_mono (JW_1 h).1 (by omega) (by omega), (JW_1 h).2.2.1, (JW_1 h).2.2.2, ⟨rfl, rfl, rfl, rfl⟩, hK.2⟩
  · exact ⟨m 249 3 + m 249 26, Or.inl rfl, Int.le_refl _, JB_mono (JW_1 h).1 (by omega) (by omega), (JW_1 h).2.2.1, (JW_1 h).2.2.2, ⟨rfl, rfl, rfl, rfl⟩, hK.2⟩