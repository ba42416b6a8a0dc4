section
/-! THE KITCHEN's text, the component's, with values -/
set_option maxHeartbeats 8000000 in
theorem f_16 {d : Nat} {tc e : Int} {g : Fg} {m : Mem} {Q : Int → Sto → Prop} (hB : ∀ j, 0 ≤ m 3 j ∧ m 3 j < 256) (hO : OB m) (hJ : JC 1 g tc m) (hq : ∀ v m', JC 1 g 0 m' → K16 tc m m' → Q v (S9 e m')) : Cl (d + 7) 16 [1] Q (S9 e m) := by
  have hL := JC_l hJ
  have hs := JC_s hJ
  simp only [cl_16, runB, B16, ma_16, rho_2, wf_1_10, wf_1_112, wf_1_26, wf_1_33, wf_1_51, wpf_1_123, wpopor_pf_1_123, wc_17, wc_40, cl_40, B40, ma_40, wpf_7_54, wpopadd_pf_7_54, wpopsub_pf_7_54, w_cst, w_ldi, w_ldj, w_lda, w_ljk, w_ldk, w_ldw, w_ldk2, w_ldt, w_ldtw, w_neg, w_cvb, w_cvs, w_cvc, w_cvj, w_add, w_sub, w_mul, w_ban, w_bor, w_bxo, w_shl, w_shr, w_ush, w_dvi, w_rmi, w_aldi, w_aldj, w_aldz, w_aldc, w_alda, w_ite, w_cmp, w_cmj, w_cz, w_cnot, w_cand, w_cor, w_nil, w_cons, w_cvi, w_csta, w_cvt, w_cvv, w_csv, w_cpy, w_seq, w_sbr, w_sbn, w_brk, w_ifs, w_ifx, w_ife, w_wk, w_rets, w_rtv, w_thr, w_asi, w_asj, w_asa, w_inc, w_exs, w_asti, w_astj, w_astz, w_astc, w_aopadd, w_aopsub, w_sw, if_true, if_false, ↓reduceIte, hdl_c, S9_1, S9_m, bud9, live9, inb9, wrn, wr9_14, wr9_15, wr9_16, wr9_17, tq9_14, tq9_15, tq9_16, tq9_17, tq_0, tq_1, tq_3, upr_rl, rl_0, rl_1, rl_2, rl_3, rl_4, rl_5, rl_6, rl_7, rl_8, rl_9, rl_10, rl_11, rl_12, rl_13, sp_0, sp_1, sp_2, sp_3, sp_4, sp_5, sp_6, sp_7, sp_8, sp_9, sp_10, sp_11, sp_12, sp_13, se_0, se_1, se_2, se_3, se_4, se_5, se_6, se_7, se_8, se_9, se_10, se_11, se_12, se_13, sem_0, sem_1, sem_2, sem_3, sem_4, sem_5, kc_1, kl9_1, sr_1_0, sr_1_1, sr_1_10, sr_1_11, sr_1_13, sr_1_2, sr_1_3, sr_1_4, sr_1_5, sr_1_6, sr_1_7, sr_1_8, sr_1_9, kc_26, kl9_26, sr_26_0, sr_26_1, sr_26_10, sr_26_11, sr_26_12, sr_26_2, sr_26_3, sr_26_7, kc_2, kl9_2, sr_2_0, kc_3, kl9_3, kc_4, kl9_4, sr_4_0, sr_4_2, sr_4_4, kc_8, kl9_8, sr_8_10, sr_8_4, sr_8_5, sr_8_6, sr_8_7, sr_8_9, kc_9, kl9_9, kc_10, kl9_10, kc_11, kl9_11, kc_12, kl9_12, kc_13, kl9_13, kc_14, kl9_14, kc_15, kl9_15, sr_15_0, sr_15_1, sr_15_2, sr_15_4, sr_15_5, sr_15_6, sr_15_7, sr_15_8, sr_15_9, kc_16, kl9_16, kc_17, kl9_17, kc_18, kl9_18, kc_19, kl9_19, kc_20, kl9_20, kc_21, kl9_21, kc_22, kl9_22, kc_23, kl9_23, kc_24, kl9_24, List.getD_cons_zero, List.getD_cons_succ, Bool.false_eq_true, wrn3, wrn1, cpmS, cpok9, upm_app, Int.reduceEq, and_self, and_true, true_and, and_false, false_and, if_true, if_false, ↓reduceIte]
  repeat' (first
    | (with_reducible exact True.intro)
    | omega
    | (with_reducible rfl)
    | (with_reducible contradiction)
    | (with_reducible refine And.intro ?_ ?_)
    | intro _
    | ((with_reducible refine f_17 (g := g) (tc := tc) hB hO hJ (fun v9 m9 hJ9 h9 => ?_)); obtain ⟨hc9, hCK, hFZ⟩ := h9; simp only [hdl_c, S9_1, S9_m, bud9, live9, inb9, wrn, wr9_14, wr9_15, wr9_16, wr9_17, tq9_14, tq9_15, tq9_16, tq9_17, tq_0, tq_1, tq_3, upr_rl, rl_0, rl_1, rl_2, rl_3, rl_4, rl_5, rl_6, rl_7, rl_8, rl_9, rl_10, rl_11, rl_12, rl_13, sp_0, sp_1, sp_2, sp_3, sp_4, sp_5, sp_6, sp_7, sp_8, sp_9, sp_10, sp_11, sp_12, sp_13, se_0, se_1, se_2, se_3, se_4, se_5, se_6, se_7, se_8, se_9, se_10, se_11, se_12, se_13, sem_0, sem_1, sem_2, sem_3, sem_4, sem_5, List.getD_cons_zero, List.getD_cons_succ, Bool.false_eq_true, wrn3, wrn1, cpmS, cpok9, if_true, if_false, ↓reduceIte, wc_17, wc_40, cl_40, runB, B40, ma_40, rho_2, wpf_7_54, wpopadd_pf_7_54, wpopsub_pf_7_54, w_cst, w_ldi, w_ldj, w_lda, w_ljk, w_ldk, w_ldw, w_ldk2, w_ldt, w_ldtw, w_neg, w_cvb, w_cvs, w_cvc, w_cvj, w_add, w_sub, w_mul, w_ban, w_bor, w_bxo, w_shl, w_shr, w_ush, w_dvi, w_rmi, w_aldi, w_aldj, w_aldz, w_aldc, w_alda, w_ite, w_cmp, w_cmj, w_cz, w_cnot, w_cand, w_cor, w_nil, w_cons, w_cvi, w_csta, w_cvt, w_cvv, w_csv, w_cpy, w_seq, w_sbr, w_sbn, w_brk, w_ifs, w_ifx, w_ife, w_wk, w_rets, w_rtv, w_thr, w_asi, w_asj, w_asa, w_inc, w_exs, w_asti, w_astj, w_astz, w_astc, w_aopadd, w_aopsub, w_sw, if_true, if_false, ↓reduceIte, kc_1, kl9_1, sr_1_0, sr_1_1, sr_1_10, sr_1_11, sr_1_13, sr_1_2, sr_1_3, sr_1_4, sr_1_5, sr_1_6, sr_1_7, sr_1_8, sr_1_9, kc_26, kl9_26, sr_26_0, sr_26_1, sr_26_10, sr_26_11, sr_26_12, sr_26_2, sr_26_3, sr_26_7, kc_2, kl9_2, sr_2_0, kc_3, kl9_3, kc_4, kl9_4, sr_4_0, sr_4_2, sr_4_4, kc_8, kl9_8, sr_8_10, sr_8_4, sr_8_5, sr_8_6, sr_8_7, sr_8_9, kc_9, kl9_9, kc_10, kl9_10, kc_11, kl9_11, kc_12, kl9_12, kc_13, kl9_13, kc_14, kl9_14, kc_15, kl9_15, sr_15_0, sr_15_1, sr_15_2, sr_15_4, sr_15_5, sr_15_6, sr_15_7, sr_15_8, sr_15_9, kc_16, kl9_16, kc_17, kl9_17, kc_18, kl9_18, kc_19, kl9_19, kc_20, kl9_20, kc_21, kl9_21, kc_22, kl9_22, kc_23, kl9_23, kc_24, kl9_24, upm_app, Int.reduceEq, and_self, and_true, true_and, and_false, false_and, if_true, if_false, ↓reduceIte])
    | ((with_reducible refine hq _ _ hJ9 ⟨Or.inr ⟨?_, ?_, ?_, ?_⟩, hCK, ?_⟩); (next => rcases hc9 with ⟨h1, h2, h3⟩ | ⟨h1, h2, h3⟩; (next => omega); (next => exact Or.inr h2)); (next => rcases hc9 with ⟨h1, h2, h3⟩ | ⟨h1, h2, h3⟩; (next => omega); (next => exact h3)); (next => rw [hFZ 1 (by decide) (Or.inl (by decide))]); (next => rw [hFZ 26 (by decide) (Or.inr (by decide))]); (next => intro x q r j _ _; rw [hFZ x q r]))
    | ((with_reducible refine hq _ _ ?_ ⟨Or.inl ⟨?_, ?_, ?_, ?_, ?_⟩, ?_, ?_⟩); (next => with_reducible (repeat (first | assumption | (refine JC_up ?_ (by first | decide | (unfold frC; omega)) (by first | (simp [BdC, hnd]; done) | (simp [BdC, hnd, upm, cpf] <;> first | omega | (unfold w32; omega)))))); done); (next => omega); (next => rcases hc9 with ⟨h1, h2, h3⟩ | ⟨h1, -⟩; (next => rw [h2]; refine congrArg some ?_; unfold sC; rw [show kvC (upm (upm m9 26 9 0) 1 12 0) = kvC m9 from kvC_e (by simp only [upm_app, Int.reduceEq, and_self, and_true, true_and, and_false, false_and, if_true, if_false, ↓reduceIte, Int.reduceToNat, upm_f, Int.reduceNe, ne_eq, not_false_eq_true, not_true_eq_false]) (by simp only [upm_app, Int.reduceEq, and_self, and_true, true_and, and_false, false_and, if_true, if_false, ↓reduceIte, Int.reduceToNat, upm_f, Int.reduceNe, ne_eq, not_false_eq_true, not_true_eq_false]) (fun x q => by (repeat rw [upm_f _ _ _ _ _ (by omega)]))]; simp only [upm_app, Int.reduceEq, and_self, and_true, true_and, and_false, false_and, if_true, if_false, ↓reduceIte, Int.reduceToNat, upm_f, Int.reduceNe, ne_eq, not_false_eq_true, not_true_eq_false]); (next => omega)); (next => simp only [upm_app, Int.reduceEq, and_self, and_true, true_and, and_false, false_and, if_true, if_false, ↓reduceIte, Int.reduceToNat, upm_f, Int.reduceNe, ne_eq, not_false_eq_true, not_true_eq_false]); (next => simp only [upm_app, Int.reduceEq, and_self, and_true, true_and, and_false, false_and, if_true, if_false, ↓reduceIte, Int.reduceToNat, upm_f, Int.reduceNe, ne_eq, not_false_eq_true, not_true_eq_false]); (next => rcases hc9 with ⟨h1, h2, h3⟩ | ⟨h1, -⟩; (next => simp only [upm_app, Int.reduceEq, and_self, and_true, true_and, and_false, false_and, if_true, if_false, ↓reduceIte, Int.reduceToNat, upm_f, Int.reduceNe, ne_eq, not_false_eq_true, not_true_eq_false]; exact h3); (next => omega)); (next => exact CK_o hCK (fun x q => by (repeat rw [upm_f _ _ _ _ _ (by omega)]))); (next => intro x q r j n1 n2; (repeat rw [upm_app, if_neg (by omega)]); rw [hFZ x q r]))
    | (have h0 : tc = 0 := by omega
       subst h0
       (with_reducible exact hq _ _ hJ ⟨Or.inr ⟨Or.inl rfl, ⟨rfl, rfl, rfl, rfl⟩, rfl, rfl⟩, CK_rf m, fun _ _ _ _ _ _ => rfl⟩))
    | (unfold w32; omega)
    | (simp (disch := omega) only [w32_eq]; omega)
    | (with_reducible show (_ : Int) ≤ _; simp [upm] <;> (first | omega | (unfold w32; omega)))
    | (with_reducible show (_ : Int) < _; simp [upm] <;> (first | omega | (unfold w32; omega))))
end
section
/-! all that THE KITCHEN tells, as the reference keeps it, with what was read so far -/
def kvR (m : Mem) : Int → Int := fun j =>
  if j < 100 then (if j - 0 < m 249 3 then m 251 (j - 0) else m 261 (j - 0 - m 249 3)) else
  if j < 120 then (if j - 100 < m 249 4 then m 252 (j - 100) else m 262 (4 * (j - 100 - m 249 4))) else
  if j < 140 then (if j - 120 < m 249 4 then m 253 (j - 120) else m 262 (4 * (j - 120 - m 249 4) + 1)) else
  if j < 160 then (if j - 140 < m 249 4 then m 254 (j - 140) else m 262 (4 * (j - 140 - m 249 4) + 2)) else
  if j < 200 then (if j - 160 < m 249 4 then m 255 (j - 160) else (if m 262 (4 * (j - 160 - m 249 4) + 3) = 1 then 1 else 0)) else
  if j < 210 then (if j - 200 < m 249 5 then m 258 (3 * (j - 200)) else m 263 (3 * (j - 200 - m 249 5))) else
  if j < 220 then (if j - 210 < m 249 5 then m 258 (3 * (j - 210) + 1) else m 263 (3 * (j - 210 - m 249 5) + 2)) else
  if j < 230 then (if j - 220 < m 249 5 then m 258 (3 * (j - 220) + 2) else 0) else
  if j < 300 then (if j - 230 < m 249 5 then m 256 (j - 230) else m 263 (3 * (j - 230 - m 249 5) + 1)) else
  if j < 310 then (if j - 300 < m 249 6 then m 257 (j - 300) else m 264 (2 * (j - 300 - m 249 6))) else
  if j < 320 then (if j - 310 < m 249 6 then m 258 (15 + 7 * (j - 310)) else m 264 (2 * (j - 310 - m 249 6) + 1)) else
  if j < 330 then (if j - 320 < m 249 6 then m 258 (16 + 7 * (j - 320)) else 0) else
  if j < 340 then (if j - 330 < m 249 6 then m 258 (17 + 7 * (j - 330)) else 0) else
  if j < 350 then (if j - 340 < m 249 6 then m 258 (18 + 7 * (j - 340)) else 0) else
  if j < 360 then (if j - 350 < m 249 6 then m 258 (19 + 7 * (j - 350)) else 0) else
  if j < 370 then (if j - 360 < m 249 6 then m 258 (20 + 7 * (j - 360)) else -1) else
  (if j - 370 < m 249 6 then m 258 (21 + 7 * (j - 370)) else 0)
theorem kvR_e {m m' : Mem} (e : ∀ x, (251 ≤ x ∧ x ≤ 258) ∨ (261 ≤ x ∧ x ≤ 264) → m' x = m x) (e9 : ∀ j, 3 ≤ j → j ≤ 6 → m' 249 j = m 249 j) : kvR m' = kvR m := by
  unfold kvR
  rw [e9 3 (by decide) (by decide), e9 4 (by decide) (by decide), e9 5 (by decide) (by decide), e9 6 (by decide) (by decide), e 251 (by omega), e 252 (by omega), e 253 (by omega), e 254 (by omega), e 255 (by omega), e 256 (by omega), e 257 (by omega), e 258 (by omega), e 261 (by omega), e 262 (by omega), e 263 (by omega), e 264 (by omega)]
theorem kvR_P (m : Mem) {n v x r : Int} (hr : r = m 249 26) (hn : n = m 249 3 + m 249 26) (hc : 0 ≤ m 249 26 ∧ n < 100) : kvR (upm (upm m 261 r v) 249 26 x) = kup (kvR m) n v := by
  funext j
  unfold kvR kup
  simp only [upm_app, Int.reduceEq, and_true, true_and, and_false, false_and, if_true, if_false, and_self]
  by_cases h0 : j < 100
  · (repeat rewrite [if_pos h0])
    by_cases z : j = n
    · subst z
      rw [if_neg (by omega), if_pos rfl]
      first | rfl | (repeat (first | rw [if_pos (by omega)] | rw [if_neg (by omega)]))
    · rewrite [if_neg z]
      by_cases w : j - 0 < m 249 3
      · (repeat rewrite [if_pos w]); rfl
      · (repeat rewrite [if_neg w]); first | rfl | (repeat rw [if_neg (by omega)])
  (repeat rewrite [if_neg h0])
  by_cases h1 : j < 120
  · (repeat rewrite [if_pos h1])
    rw [if_neg (show ¬ j = n by omega)]
  (repeat rewrite [if_neg h1])
  by_cases h2 : j < 140
  · (repeat rewrite [if_pos h2])
    rw [if_neg (show ¬ j = n by omega)]
  (repeat rewrite [if_neg h2])
  by_cases h3 : j < 160
  · (repeat rewrite [if_pos h3])
    rw [if_neg (show ¬ j = n by omega)]
  (repeat rewrite [if_neg h3])
  by_cases h4 : j < 200
  · (repeat rewrite [if_pos h4])
    rw [if_neg (show ¬ j = n by omega)]
  (repeat rewrite [if_neg h4])
  by_cases h5 : j < 210
  · (repeat rewrite [if_pos h5])
    rw [if_neg (show ¬ j = n by omega)]
  (repeat rewrite [if_neg h5])
  by_cases h6 : j < 220
  · (repeat rewrite [if_pos h6])
    rw [if_neg (show ¬ j = n by omega)]
  (repeat rewrite [if_neg h6])
  by_cases h7 : j < 230
  · (repeat rewrite [if_pos h7])
    rw [if_neg (show ¬ j = n by omega)]
  (repeat rewrite [if_neg h7])
  by_cases h8 : j < 300
  · (repeat rewrite [if_pos h8])
    rw [if_neg (show ¬ j = n by omega)]
  (repeat rewrite [if_neg h8])
  by_cases h9 : j < 310
  · (repeat rewrite [if_pos h9])
    rw [if_neg (show ¬ j = n by omega)]
  (repeat rewrite [if_neg h9])
  by_cases h10 : j < 320
  · (repeat rewrite [if_pos h10])
    rw [if_neg (show ¬ j = n by omega)]
  (repeat rewrite [if_neg h10])
  by_cases h11 : j < 330
  · (repeat rewrite [if_pos h11])
    rw [if_neg (show ¬ j = n by omega)]
  (repeat rewrite [if_neg h11])
  by_cases h12 : j < 340
  · (repeat rewrite [if_pos h12])
    rw [if_neg (show ¬ j = n by omega)]
  (repeat rewrite [if_neg h12])
  by_cases h13 : j < 350
  · (repeat rewrite [if_pos h13])
    rw [if_neg (show ¬ j = n by omega)]
  (repeat rewrite [if_neg h13])
  by_cases h14 : j < 360
  · (repeat rewrite [if_pos h14])
    rw [if_neg (show ¬ j = n by omega)]
  (repeat rewrite [if_neg h14])
  by_cases h15 : j < 370
  · (repeat rewrite [if_pos h15])
    rw [if_neg (show ¬ j = n by omega)]
  (repeat rewrite [if_neg h15])
  rw [if_neg (show ¬ j = n by omega)]
theorem kvR_W (m : Mem) {n k0 k1 k2 k3 a b s d x : Int} (hn : n = m 249 4 + m 249 27) (hc : 0 ≤ m 249 4 ∧ 0 ≤ m 249 27 ∧ n < 14) (h0 : k0 = 4 * m 249 27) (h1 : k1 = 4 * m 249 27 + 1) (h2 : k2 = 4 * m 249 27 + 2) (h3 : k3 = 4 * m 249 27 + 3) : kvR (upm (upm (upm (upm (upm m 262 k0 a) 262 k1 b) 262 k2 s) 262 k3 d) 249 27 x) = vW (kvR m) n a b s (if d = 1 then 1 else 0) := by
  funext j
  unfold kvR vW kup
  simp only [upm_app, Int.reduceEq, and_true, true_and, and_false, false_and, if_true, if_false, and_self]
  by_cases h0 : j < 100
  · (repeat rewrite [if_pos h0])
    rw [if_neg (show ¬ j = 160 + n by omega), if_neg (show ¬ j = 140 + n by omega), if_neg (show ¬ j = 120 + n by omega), if_neg (show ¬ j = 100 + n by omega)]
  (repeat rewrite [if_neg h0])
  by_cases h1 : j < 120
  · (repeat rewrite [if_pos h1])
    rw [if_neg (show ¬ j = 160 + n by omega), if_neg (show ¬ j = 140 + n by omega), if_neg (show ¬ j = 120 + n by omega)]
    by_cases z : j = 100 + n
    · subst z
      rw [if_neg (by omega), if_pos rfl]
      first | rfl | (repeat (first | rw [if_pos (by omega)] | rw [if_neg (by omega)]))
    · rewrite [if_neg z]
      by_cases w : j - 100 < m 249 4
      · (repeat rewrite [if_pos w]); rfl
      · (repeat rewrite [if_neg w]); first | rfl | (repeat rw [if_neg (by omega)])
  (repeat rewrite [if_neg h1])
  by_cases h2 : j < 140
  · (repeat rewrite [if_pos h2])
    rw [if_neg (show ¬ j = 160 + n by omega), if_neg (show ¬ j = 140 + n by omega), if_neg (show ¬ j = 100 + n by omega)]
    by_cases z : j = 120 + n
    · subst z
      rw [if_neg (by omega), if_pos rfl]
      first | rfl | (repeat (first | rw [if_pos (by omega)] | rw [if_neg (by omega)]))
    · rewrite [if_neg z]
      by_cases w : j - 120 < m 249 4
      · (repeat rewrite [if_pos w]); rfl
      · (repeat rewrite [if_neg w]); first | rfl | (repeat rw [if_neg (by omega)])
  (repeat rewrite [if_neg h2])
  by_cases h3 : j < 160
  · (repeat rewrite [if_pos h3])
    rw [if_neg (show ¬ j = 160 + n by omega), if_neg (show ¬ j = 120 + n by omega), if_neg (show ¬ j = 100 + n by omega)]
    by_cases z : j = 140 + n
    · subst z
      rw [if_neg (by omega), if_pos rfl]
      first | rfl | (repeat (first | rw [if_pos (by omega)] | rw [if_neg (by omega)]))
    · rewrite [if_neg z]
      by_cases w : j - 140 < m 249 4
      · (repeat rewrite [if_pos w]); rfl
      · (repeat rewrite [if_neg w]); first | rfl | (repeat rw [if_neg (by omega)])
  (repeat rewrite [if_neg h3])
  by_cases h4 : j < 200
  · (repeat rewrite [if_pos h4])
    rw [if_neg (show ¬ j = 140 + n by omega), if_neg (show ¬ j = 120 + n by omega), if_neg (show ¬ j = 100 + n by omega)]
    by_cases z : j = 160 + n
    · subst z
      rw [if_neg (by omega), if_pos rfl, show 4 * (160 + n - 160 - m 249 4) + 3 = k3 from by omega, if_pos rfl]
    · rewrite [if_neg z]
      by_cases w : j - 160 < m 249 4
      · (repeat rewrite [if_pos w]); rfl
      · (repeat rewrite [if_neg w]); simp only [show ¬ 4 * (j - 160 - m 249 4) + 3 = k3 by omega, show ¬ 4 * (j - 160 - m 249 4) + 3 = k2 by omega, show ¬ 4 * (j - 160 - m 249 4) + 3 = k1 by omega, show ¬ 4 * (j - 160 - m 249 4) + 3 = k0 by omega, if_false]
  (repeat rewrite [if_neg h4])
  by_cases h5 : j < 210
  · (repeat rewrite [if_pos h5])
    rw [if_neg (show ¬ j = 160 + n by omega), if_neg (show ¬ j = 140 + n by omega), if_neg (show ¬ j = 120 + n by omega), if_neg (show ¬ j = 100 + n by omega)]
  (repeat rewrite [if_neg h5])
  by_cases h6 : j < 220
  · (repeat rewrite [if_pos h6])
    rw [if_neg (show ¬ j = 160 + n by omega), if_neg (show ¬ j = 140 + n by omega), if_neg (show ¬ j = 120 + n by omega), if_neg (show ¬ j = 100 + n by omega)]
  (repeat rewrite [if_neg h6])
  by_cases h7 : j < 230
  · (repeat rewrite [if_pos h7])
    rw [if_neg (show ¬ j = 160 + n by omega), if_neg (show ¬ j = 140 + n by omega), if_neg (show ¬ j = 120 + n by omega), if_neg (show ¬ j = 100 + n by omega)]
  (repeat rewrite [if_neg h7])
  by_cases h8 : j < 300
  · (repeat rewrite [if_pos h8])
    rw [if_neg (show ¬ j = 160 + n by omega), if_neg (show ¬ j = 140 + n by omega), if_neg (show ¬ j = 120 + n by omega), if_neg (show ¬ j = 100 + n by omega)]
  (repeat rewrite [if_neg h8])
  by_cases h9 : j < 310
  · (repeat rewrite [if_pos h9])
    rw [if_neg (show ¬ j = 160 + n by omega), if_neg (show ¬ j = 140 + n by omega), if_neg (show ¬ j = 120 + n by omega), if_neg (show ¬ j = 100 + n by omega)]
  (repeat rewrite [if_neg h9])
  by_cases h10 : j < 320
  · (repeat rewrite [if_pos h10])
    rw [if_neg (show ¬ j = 160 + n by omega), if_neg (show ¬ j = 140 + n by omega), if_neg (show ¬ j = 120 + n by omega), if_neg (show ¬ j = 100 + n by omega)]
  (repeat rewrite [if_neg h10])
  by_cases h11 : j < 330
  · (repeat rewrite [if_pos h11])
    rw [if_neg (show ¬ j = 160 + n by omega), if_neg (show ¬ j = 140 + n by omega), if_neg (show ¬ j = 120 + n by omega), if_neg (show ¬ j = 100 + n by omega)]
  (repeat rewrite [if_neg h11])
  by_cases h12 : j < 340
  · (repeat rewrite [if_pos h12])
    rw [if_neg (show ¬ j = 160 + n by omega), if_neg (show ¬ j = 140 + n by omega), if_neg (show ¬ j = 120 + n by omega), if_neg (show ¬ j = 100 + n by omega)]
  (repeat rewrite [if_neg h12])
  by_cases h13 : j < 350
  · (repeat rewrite [if_pos h13])
    rw [if_neg (show ¬ j = 160 + n by omega), if_neg (show ¬ j = 140 + n by omega), if_neg (show ¬ j = 120 + n by omega), if_neg (show ¬ j = 100 + n by omega)]
  (repeat rewrite [if_neg h13])
  by_cases h14 : j < 360
  · (repeat rewrite [if_pos h14])
    rw [if_neg (show ¬ j = 160 + n by omega), if_neg (show ¬ j = 140 + n by omega), if_neg (show ¬ j = 120 + n by omega), if_neg (show ¬ j = 100 + n by omega)]
  (repeat rewrite [if_neg h14])
  by_cases h15 : j < 370
  · (repeat rewrite [if_pos h15])
    rw [if_neg (show ¬ j = 160 + n by omega), if_neg (show ¬ j = 140 + n by omega), if_neg (show ¬ j = 120 + n by omega), if_neg (show ¬ j = 100 + n by omega)]
  (repeat rewrite [if_neg h15])
  rw [if_neg (show ¬ j = 160 + n by omega), if_neg (show ¬ j = 140 + n by omega), if_neg (show ¬ j = 120 + n by omega), if_neg (show ¬ j = 100 + n by omega)]
theorem kvR_O (m : Mem) {n k0 k1 k2 h l c x : Int} (hn : n = m 249 5 + m 249 28) (hc : 0 ≤ m 249 5 ∧ 0 ≤ m 249 28 ∧ n < 5) (h0 : k0 = 3 * m 249 28) (h1 : k1 = 3 * m 249 28 + 1) (h2 : k2 = 3 * m 249 28 + 2) : kvR (upm (upm (upm (upm m 263 k0 h) 263 k1 c) 263 k2 l) 249 28 x) = vO (kvR m) n h l c := by
  funext j
  unfold kvR vO kup
  simp only [upm_app, Int.reduceEq, and_true, true_and, and_false, false_and, if_true, if_false, and_self]
  by_cases h0 : j < 100
  · (repeat rewrite [if_pos h0])
    rw [if_neg (show ¬ j = 230 + n by omega), if_neg (show ¬ j = 220 + n by omega), if_neg (show ¬ j = 210 + n by omega), if_neg (show ¬ j = 200 + n by omega)]
  (repeat rewrite [if_neg h0])
  by_cases h1 : j < 120
  · (repeat rewrite [if_pos h1])
    rw [if_neg (show ¬ j = 230 + n by omega), if_neg (show ¬ j = 220 + n by omega), if_neg (show ¬ j = 210 + n by omega), if_neg (show ¬ j = 200 + n by omega)]
  (repeat rewrite [if_neg h1])
  by_cases h2 : j < 140
  · (repeat rewrite [if_pos h2])
    rw [if_neg (show ¬ j = 230 + n by omega), if_neg (show ¬ j = 220 + n by omega), if_neg (show ¬ j = 210 + n by omega), if_neg (show ¬ j = 200 + n by omega)]
  (repeat rewrite [if_neg h2])
  by_cases h3 : j < 160
  · (repeat rewrite [if_pos h3])
    rw [if_neg (show ¬ j = 230 + n by omega), if_neg (show ¬ j = 220 + n by omega), if_neg (show ¬ j = 210 + n by omega), if_neg (show ¬ j = 200 + n by omega)]
  (repeat rewrite [if_neg h3])
  by_cases h4 : j < 200
  · (repeat rewrite [if_pos h4])
    rw [if_neg (show ¬ j = 230 + n by omega), if_neg (show ¬ j = 220 + n by omega), if_neg (show ¬ j = 210 + n by omega), if_neg (show ¬ j = 200 + n by omega)]
  (repeat rewrite [if_neg h4])
  by_cases h5 : j < 210
  · (repeat rewrite [if_pos h5])
    rw [if_neg (show ¬ j = 230 + n by omega), if_neg (show ¬ j = 220 + n by omega), if_neg (show ¬ j = 210 + n by omega)]
    by_cases z : j = 200 + n
    · subst z
      rw [if_neg (by omega), if_pos rfl]
      first | rfl | (repeat (first | rw [if_pos (by omega)] | rw [if_neg (by omega)]))
    · rewrite [if_neg z]
      by_cases w : j - 200 < m 249 5
      · (repeat rewrite [if_pos w]); rfl
      · (repeat rewrite [if_neg w]); first | rfl | (repeat rw [if_neg (by omega)])
  (repeat rewrite [if_neg h5])
  by_cases h6 : j < 220
  · (repeat rewrite [if_pos h6])
    rw [if_neg (show ¬ j = 230 + n by omega), if_neg (show ¬ j = 220 + n by omega), if_neg (show ¬ j = 200 + n by omega)]
    by_cases z : j = 210 + n
    · subst z
      rw [if_neg (by omega), if_pos rfl]
      first | rfl | (repeat (first | rw [if_pos (by omega)] | rw [if_neg (by omega)]))
    · rewrite [if_neg z]
      by_cases w : j - 210 < m 249 5
      · (repeat rewrite [if_pos w]); rfl
      · (repeat rewrite [if_neg w]); first | rfl | (repeat rw [if_neg (by omega)])
  (repeat rewrite [if_neg h6])
  by_cases h7 : j < 230
  · (repeat rewrite [if_pos h7])
    rw [if_neg (show ¬ j = 230 + n by omega), if_neg (show ¬ j = 210 + n by omega), if_neg (show ¬ j = 200 + n by omega)]
    by_cases z : j = 220 + n
    · subst z
      rw [if_neg (by omega), if_pos rfl]
      first | rfl | (repeat (first | rw [if_pos (by omega)] | rw [if_neg (by omega)]))
    · rewrite [if_neg z]
      by_cases w : j - 220 < m 249 5
      · (repeat rewrite [if_pos w]); rfl
      · (repeat rewrite [if_neg w]); first | rfl | (repeat rw [if_neg (by omega)])
  (repeat rewrite [if_neg h7])
  by_cases h8 : j < 300
  · (repeat rewrite [if_pos h8])
    rw [if_neg (show ¬ j = 220 + n by omega), if_neg (show ¬ j = 210 + n by omega), if_neg (show ¬ j = 200 + n by omega)]
    by_cases z : j = 230 + n
    · subst z
      rw [if_neg (by omega), if_pos rfl]
      first | rfl | (repeat (first | rw [if_pos (by omega)] | rw [if_neg (by omega)]))
    · rewrite [if_neg z]
      by_cases w : j - 230 < m 249 5
      · (repeat rewrite [if_pos w]); rfl
      · (repeat rewrite [if_neg w]); first | rfl | (repeat rw [if_neg (by omega)])
  (repeat rewrite [if_neg h8])
  by_cases h9 : j < 310
  · (repeat rewrite [if_pos h9])
    rw [if_neg (show ¬ j = 230 + n by omega), if_neg (show ¬ j = 220 + n by omega), if_neg (show ¬ j = 210 + n by omega), if_neg (show ¬ j = 200 + n by omega)]
  (repeat rewrite [if_neg h9])
  by_cases h10 : j < 320
  · (repeat rewrite [if_pos h10])
    rw [if_neg (show ¬ j = 230 + n by omega), if_neg (show ¬ j = 220 + n by omega), if_neg (show ¬ j = 210 + n by omega), if_neg (show ¬ j = 200 + n by omega)]
  (repeat rewrite [if_neg h10])
  by_cases h11 : j < 330
  · (repeat rewrite [if_pos h11])
    rw [if_neg (show ¬ j = 230 + n by omega), if_neg (show ¬ j = 220 + n by omega), if_neg (show ¬ j = 210 + n by omega), if_neg (show ¬ j = 200 + n by omega)]
  (repeat rewrite [if_neg h11])
  by_cases h12 : j < 340
  · (repeat rewrite [if_pos h12])
    rw [if_neg (show ¬ j = 230 + n by omega), if_neg (show ¬ j = 220 + n by omega), if_neg (show ¬ j = 210 + n by omega), if_neg (show ¬ j = 200 + n by omega)]
  (repeat rewrite [if_neg h12])
  by_cases h13 : j < 350
  · (repeat rewrite [if_pos h13])
    rw [if_neg (show ¬ j = 230 + n by omega), if_neg (show ¬ j = 220 + n by omega), if_neg (show ¬ j = 210 + n by omega), if_neg (show ¬ j = 200 + n by omega)]
  (repeat rewrite [if_neg h13])
  by_cases h14 : j < 360
  · (repeat rewrite [if_pos h14])
    rw [if_neg (show ¬ j = 230 + n by omega), if_neg (show ¬ j = 220 + n by omega), if_neg (show ¬ j = 210 + n by omega), if_neg (show ¬ j = 200 + n by omega)]
  (repeat rewrite [if_neg h14])
  by_cases h15 : j < 370
  · (repeat rewrite [if_pos h15])
    rw [if_neg (show ¬ j = 230 + n by omega), if_neg (show ¬ j = 220 + n by omega), if_neg (show ¬ j = 210 + n by omega), if_neg (show ¬ j = 200 + n by omega)]
  (repeat rewrite [if_neg h15])
  rw [if_neg (show ¬ j = 230 + n by omega), if_neg (show ¬ j = 220 + n by omega), if_neg (show ¬ j = 210 + n by omega), if_neg (show ¬ j = 200 + n by omega)]
theorem kvR_H (m : Mem) {n k0 k1 b l x : Int} (hn : n = m 249 6 + m 249 29) (hc : 0 ≤ m 249 6 ∧ 0 ≤ m 249 29 ∧ n < 5) (h0 : k0 = 2 * m 249 29) (h1 : k1 = 2 * m 249 29 + 1) : kvR (upm (upm (upm m 264 k0 b) 264 k1 l) 249 29 x) = vH (kvR m) n b l := by
  funext j
  unfold kvR vH kup
  simp only [upm_app, Int.reduceEq, and_true, true_and, and_false, false_and, if_true, if_false, and_self]
  by_cases h0 : j < 100
  · (repeat rewrite [if_pos h0])
    rw [if_neg (show ¬ j = 370 + n by omega), if_neg (show ¬ j = 360 + n by omega), if_neg (show ¬ j = 350 + n by omega), if_neg (show ¬ j = 340 + n by omega), if_neg (show ¬ j = 330 + n by omega), if_neg (show ¬ j = 320 + n by omega), if_neg (show ¬ j = 310 + n by omega), if_neg (show ¬ j = 300 + n by omega)]
  (repeat rewrite [if_neg h0])
  by_cases h1 : j < 120
  · (repeat rewrite [if_pos h1])
    rw [if_neg (show ¬ j = 370 + n by omega), if_neg (show ¬ j = 360 + n by omega), if_neg (show ¬ j = 350 + n by omega), if_neg (show ¬ j = 340 + n by omega), if_neg (show ¬ j = 330 + n by omega), if_neg (show ¬ j = 320 + n by omega), if_neg (show ¬ j = 310 + n by omega), if_neg (show ¬ j = 300 + n by omega)]
  (repeat rewrite [if_neg h1])
  by_cases h2 : j < 140
  · (repeat rewrite [if_pos h2])
    rw [if_neg (show ¬ j = 370 + n by omega), if_neg (show ¬ j = 360 + n by omega), if_neg (show ¬ j = 350 + n by omega), if_neg (show ¬ j = 340 + n by omega), if_neg (show ¬ j = 330 + n by omega), if_neg (show ¬ j = 320 + n by omega), if_neg (show ¬ j = 310 + n by omega), if_neg (show ¬ j = 300 + n by omega)]
  (repeat rewrite [if_neg h2])
  by_cases h3 : j < 160
  · (repeat rewrite [if_pos h3])
    rw [if_neg (show ¬ j = 370 + n by omega), if_neg (show ¬ j = 360 + n by omega), if_neg (show ¬ j = 350 + n by omega), if_neg (show ¬ j = 340 + n by omega), if_neg (show ¬ j = 330 + n by omega), if_neg (show ¬ j = 320 + n by omega), if_neg (show ¬ j = 310 + n by omega), if_neg (show ¬ j = 300 + n by omega)]
  (repeat rewrite [if_neg h3])
  by_cases h4 : j < 200
  · (repeat rewrite [if_pos h4])
    rw [if_neg (show ¬ j = 370 + n by omega), if_neg (show ¬ j = 360 + n by omega), if_neg (show ¬ j = 350 + n by omega), if_neg (show ¬ j = 340 + n by omega), if_neg (show ¬ j = 330 + n by omega), if_neg (show ¬ j = 320 + n by omega), if_neg (show ¬ j = 310 + n by omega), if_neg (show ¬ j = 300 + n by omega)]
  (repeat rewrite [if_neg h4])
  by_cases h5 : j < 210
  · (repeat rewrite [if_pos h5])
    rw [if_neg (show ¬ j = 370 + n by omega), if_neg (show ¬ j = 360 + n by omega), if_neg (show ¬ j = 350 + n by omega), if_neg (show ¬ j = 340 + n by omega), if_neg (show ¬ j = 330 + n by omega), if_neg (show ¬ j = 320 + n by omega), if_neg (show ¬ j = 310 + n by omega), if_neg (show ¬ j = 300 + n by omega)]
  (repeat rewrite [if_neg h5])
  by_cases h6 : j < 220
  · (repeat rewrite [if_pos h6])
    rw [if_neg (show ¬ j = 370 + n by omega), if_neg (show ¬ j = 360 + n by omega), if_neg (show ¬ j = 350 + n by omega), if_neg (show ¬ j = 340 + n by omega), if_neg (show ¬ j = 330 + n by omega), if_neg (show ¬ j = 320 + n by omega), if_neg (show ¬ j = 310 + n by omega), if_neg (show ¬ j = 300 + n by omega)]
  (repeat rewrite [if_neg h6])
  by_cases h7 : j < 230
  · (repeat rewrite [if_pos h7])
    rw [if_neg (show ¬ j = 370 + n by omega), if_neg (show ¬ j = 360 + n by omega), if_neg (show ¬ j = 350 + n by omega), if_neg (show ¬ j = 340 + n by omega), if_neg (show ¬ j = 330 + n by omega), if_neg (show ¬ j = 320 + n by omega), if_neg (show ¬ j = 310 + n by omega), if_neg (show ¬ j = 300 + n by omega)]
  (repeat rewrite [if_neg h7])
  by_cases h8 : j < 300
  · (repeat rewrite [if_pos h8])
    rw [if_neg (show ¬ j = 370 + n by omega), if_neg (show ¬ j = 360 + n by omega), if_neg (show ¬ j = 350 + n by omega), if_neg (show ¬ j = 340 + n by omega), if_neg (show ¬ j = 330 + n by omega), if_neg (show ¬ j = 320 + n by omega), if_neg (show ¬ j = 310 + n by omega), if_neg (show ¬ j = 300 + n by omega)]
  (repeat rewrite [if_neg h8])
  by_cases h9 : j < 310
  · (repeat rewrite [if_pos h9])
    rw [if_neg (show ¬ j = 370 + n by omega), if_neg (show ¬ j = 360 + n by omega), if_neg (show ¬ j = 350 + n by omega), if_neg (show ¬ j = 340 + n by omega), if_neg (show ¬ j = 330 + n by omega), if_neg (show ¬ j = 320 + n by omega), if_neg (show ¬ j = 310 + n by omega)]
    by_cases z : j = 300 + n
    · subst z
      rw [if_neg (by omega), if_pos rfl]
      first | rfl | (repeat (first | rw [if_pos (by omega)] | rw [if_neg (by omega)]))
    · rewrite [if_neg z]
      by_cases w : j - 300 < m 249 6
      · (repeat rewrite [if_pos w]); rfl
      · (repeat rewrite [if_neg w]); first | rfl | (repeat rw [if_neg (by omega)])
  (repeat rewrite [if_neg h9])
  by_cases h10 : j < 320
  · (repeat rewrite [if_pos h10])
    rw [if_neg (show ¬ j = 370 + n by omega), if_neg (show ¬ j = 360 + n by omega), if_neg (show ¬ j = 350 + n by omega), if_neg (show ¬ j = 340 + n by omega), if_neg (show ¬ j = 330 + n by omega), if_neg (show ¬ j = 320 + n by omega), if_neg (show ¬ j = 300 + n by omega)]
    by_cases z : j = 310 + n
    · subst z
      rw [if_neg (by omega), if_pos rfl]
      first | rfl | (repeat (first | rw [if_pos (by omega)] | rw [if_neg (by omega)]))
    · rewrite [if_neg z]
      by_cases w : j - 310 < m 249 6
      · (repeat rewrite [if_pos w]); rfl
      · (repeat rewrite [if_neg w]); first | rfl | (repeat rw [if_neg (by omega)])
  (repeat rewrite [if_neg h10])
  by_cases h11 : j < 330
  · (repeat rewrite [if_pos h11])
    rw [if_neg (show ¬ j = 370 + n by omega), if_neg (show ¬ j = 360 + n by omega), if_neg (show ¬ j = 350 + n by omega), if_neg (show ¬ j = 340 + n by omega), if_neg (show ¬ j = 330 + n by omega), if_neg (show ¬ j = 310 + n by omega), if_neg (show ¬ j = 300 + n by omega)]
    by_cases z : j = 320 + n
    · subst z
      rw [if_neg (by omega), if_pos rfl]
      first | rfl | (repeat (first | rw [if_pos (by omega)] | rw [if_neg (by omega)]))
    · rewrite [if_neg z]
      by_cases w : j - 320 < m 249 6
      · (repeat rewrite [if_pos w]); rfl
      · (repeat rewrite [if_neg w]); first | rfl | (repeat rw [if_neg (by omega)])
  (repeat rewrite [if_neg h11])
  by_cases h12 : j < 340
  · (repeat rewrite [if_pos h12])
    rw [if_neg (show ¬ j = 370 + n by omega), if_neg (show ¬ j = 360 + n by omega), if_neg (show ¬ j = 350 + n by omega), if_neg (show ¬ j = 340 + n by omega), if_neg (show ¬ j = 320 + n by omega), if_neg (show ¬ j = 310 + n by omega), if_neg (show ¬ j = 300 + n by omega)]
    by_cases z : j = 330 + n
    · subst z
      rw [if_neg (by omega), if_pos rfl]
      first | rfl | (repeat (first | rw [if_pos (by omega)] | rw [if_neg (by omega)]))
    · rewrite [if_neg z]
      by_cases w : j - 330 < m 249 6
      · (repeat rewrite [if_pos w]); rfl
      · (repeat rewrite [if_neg w]); first | rfl | (repeat rw [if_neg (by omega)])
  (repeat rewrite [if_neg h12])
  by_cases h13 : j < 350
  · (repeat rewrite [if_pos h13])
    rw [if_neg (show ¬ j = 370 + n by omega), if_neg (show ¬ j = 360 + n by omega), if_neg (show ¬ j = 350 + n by omega), if_neg (show ¬ j = 330 + n by omega), if_neg (show ¬ j = 320 + n by omega), if_neg (show ¬ j = 310 + n by omega), if_neg (show ¬ j = 300 + n by omega)]
    by_cases z : j = 340 + n
    · subst z
      rw [if_neg (by omega), if_pos rfl]
      first | rfl | (repeat (first | rw [if_pos (by omega)] | rw [if_neg (by omega)]))
    · rewrite [if_neg z]
      by_cases w : j - 340 < m 249 6
      · (repeat rewrite [if_pos w]); rfl
      · (repeat rewrite [if_neg w]); first | rfl | (repeat rw [if_neg (by omega)])
  (repeat rewrite [if_neg h13])
  by_cases h14 : j < 360
  · (repeat rewrite [if_pos h14])
    rw [if_neg (show ¬ j = 370 + n by omega), if_neg (show ¬ j = 360 + n by omega), if_neg (show ¬ j = 340 + n by omega), if_neg (show ¬ j = 330 + n by omega), if_neg (show ¬ j = 320 + n by omega), if_neg (show ¬ j = 310 + n by omega), if_neg (show ¬ j = 300 + n by omega)]
    by_cases z : j = 350 + n
    · subst z
      rw [if_neg (by omega), if_pos rfl]
      first | rfl | (repeat (first | rw [if_pos (by omega)] | rw [if_neg (by omega)]))
    · rewrite [if_neg z]
      by_cases w : j - 350 < m 249 6
      · (repeat rewrite [if_pos w]); rfl
      · (repeat rewrite [if_neg w]); first | rfl | (repeat rw [if_neg (by omega)])
  (repeat rewrite [if_neg h14])
  by_cases h15 : j < 370
  · (repeat rewrite [if_pos h15])
    rw [if_neg (show ¬ j = 370 + n by omega), if_neg (show ¬ j = 350 + n by omega), if_neg (show ¬ j = 340 + n by omega), if_neg (show ¬ j = 330 + n by omega), if_neg (show ¬ j = 320 + n by omega), if_neg (show ¬ j = 310 + n by omega), if_neg (show ¬ j = 300 + n by omega)]
    by_cases z : j = 360 + n
    · subst z
      rw [if_neg (by omega), if_pos rfl]
      first | rfl | (repeat (first | rw [if_pos (by omega)] | rw [if_neg (by omega)]))
    · rewrite [if_neg z]
      by_cases w : j - 360 < m 249 6
      · (repeat rewrite [if_pos w]); rfl
      · (repeat rewrite [if_neg w]); first | rfl | (repeat rw [if_neg (by omega)])
  (repeat rewrite [if_neg h15])
  rw [if_neg (show ¬ j = 360 + n by omega), if_neg (show ¬ j = 350 + n by omega), if_neg (show ¬ j = 340 + n by omega), if_neg (show ¬ j = 330 + n by omega), if_neg (show ¬ j = 320 + n by omega), if_neg (show ¬ j = 310 + n by omega), if_neg (show ¬ j = 300 + n by omega)]
  by_cases z : j = 370 + n
  · subst z
    rw [if_neg (by omega), if_pos rfl]
    first | rfl | (repeat (first | rw [if_pos (by omega)] | rw [if_neg (by omega)]))
  · rewrite [if_neg z]
    by_cases w : j - 370 < m 249 6
    · (repeat rewrite [if_pos w]); rfl
    · (repeat rewrite [if_neg w]); first | rfl | (repeat rw [if_neg (by omega)])
theorem kvR_P1 {m m' : Mem} {n r v : Int} (e : ∀ x, (251 ≤ x ∧ x ≤ 258) ∨ (261 ≤ x ∧ x ≤ 264) → x ≠ 261 → m' x = m x) (e9 : ∀ j, 3 ≤ j → j ≤ 6 → m' 249 j = m 249 j) (hr : r = m 249 26) (hn : n = m 249 3 + m 249 26) (hc : 0 ≤ m 249 26 ∧ n < 100) (c0 : m' 261 (1 * r + 0) = v) (ho : ∀ j, (j < 1 * r ∨ 1 * r + 0 < j) → m' 261 j = m 261 j) : kvR m' = kup (kvR m) n v := by
  have e2 : m' 261 = (upm (upm m 261 (1 * r + 0) v) 249 26 0) 261 := by
    funext j
    simp only [upm_app, Int.reduceEq, and_true, true_and, and_false, false_and, if_true, if_false, and_self]
    by_cases z0 : j = 1 * r + 0
    · rw [if_pos z0, z0]; exact c0
    rw [if_neg z0]
    exact ho j (by omega)
  have k := kvR_P m (n := n) (v := v) (x := 0) (r := 1 * r + 0) (by omega) hn hc
  rw [← k]
  refine kvR_e (fun x q => ?_) (fun j j0 j1 => ?_)
  · by_cases z : x = 261
    · rw [z]; exact e2
    · rw [e x q z]
      by_cases w : x = 249
      · omega
      · (repeat rw [upm_f _ _ _ _ _ (by omega)])
  · rw [e9 j j0 j1]
    rw [upm_k (by omega)]
    (repeat rw [upm_f _ _ _ _ _ (by decide)])
theorem kvR_W1 {m m' : Mem} {n r a b s d : Int} (e : ∀ x, (251 ≤ x ∧ x ≤ 258) ∨ (261 ≤ x ∧ x ≤ 264) → x ≠ 262 → m' x = m x) (e9 : ∀ j, 3 ≤ j → j ≤ 6 → m' 249 j = m 249 j) (hr : r = m 249 27) (hn : n = m 249 4 + m 249 27) (hc : 0 ≤ m 249 4 ∧ 0 ≤ m 249 27 ∧ n < 14) (c0 : m' 262 (4 * r + 0) = a) (c1 : m' 262 (4 * r + 1) = b) (c2 : m' 262 (4 * r + 2) = s) (c3 : m' 262 (4 * r + 3) = d) (ho : ∀ j, (j < 4 * r ∨ 4 * r + 3 < j) → m' 262 j = m 262 j) : kvR m' = vW (kvR m) n a b s (if d = 1 then 1 else 0) := by
  have e2 : m' 262 = (upm (upm (upm (upm (upm m 262 (4 * r + 0) a) 262 (4 * r + 1) b) 262 (4 * r + 2) s) 262 (4 * r + 3) d) 249 27 0) 262 := by
    funext j
    simp only [upm_app, Int.reduceEq, and_true, true_and, and_false, false_and, if_true, if_false, and_self]
    by_cases z3 : j = 4 * r + 3
    · rw [if_pos z3, z3]; exact c3
    rw [if_neg z3]
    by_cases z2 : j = 4 * r + 2
    · rw [if_pos z2, z2]; exact c2
    rw [if_neg z2]
    by_cases z1 : j = 4 * r + 1
    · rw [if_pos z1, z1]; exact c1
    rw [if_neg z1]
    by_cases z0 : j = 4 * r + 0
    · rw [if_pos z0, z0]; exact c0
    rw [if_neg z0]
    exact ho j (by omega)
  have k := kvR_W m (n := n) (a := a) (b := b) (s := s) (d := d) (x := 0) (k0 := 4 * r + 0) (k1 := 4 * r + 1) (k2 := 4 * r + 2) (k3 := 4 * r + 3) hn hc (by omega) (by omega) (by omega) (by omega)
  rw [← k]
  refine kvR_e (fun x q => ?_) (fun j j0 j1 => ?_)
  · by_cases z : x = 262
    · rw [z]; exact e2
    · rw [e x q z]
      by_cases w : x = 249
      · omega
      · (repeat rw [upm_f _ _ _ _ _ (by omega)])
  · rw [e9 j j0 j1]
    rw [upm_k (by omega)]
    (repeat rw [upm_f _ _ _ _ _ (by decide)])
theorem kvR_O1 {m m' : Mem} {n r h l c : Int} (e : ∀ x, (251 ≤ x ∧ x ≤ 258) ∨ (261 ≤ x ∧ x ≤ 264) → x ≠ 263 → m' x = m x) (e9 : ∀ j, 3 ≤ j → j ≤ 6 → m' 249 j = m 249 j) (hr : r = m 249 28) (hn : n = m 249 5 + m 249 28) (hc : 0 ≤ m 249 5 ∧ 0 ≤ m 249 28 ∧ n < 5) (c0 : m' 263 (3 * r + 0) = h) (c1 : m' 263 (3 * r + 1) = c) (c2 : m' 263 (3 * r + 2) = l) (ho : ∀ j, (j < 3 * r ∨ 3 * r + 2 < j) → m' 263 j = m 263 j) : kvR m' = vO (kvR m) n h l c := by
  have e2 : m' 263 = (upm (upm (upm (upm m 263 (3 * r + 0) h) 263 (3 * r + 1) c) 263 (3 * r + 2) l) 249 28 0) 263 := by
    funext j
    simp only [upm_app, Int.reduceEq, and_true, true_and, and_false, false_and, if_true, if_false, and_self]
    by_cases z2 : j = 3 * r + 2
    · rw [if_pos z2, z2]; exact c2
    rw [if_neg z2]
    by_cases z1 : j = 3 * r + 1
    · rw [if_pos z1, z1]; exact c1
    rw [if_neg z1]
    by_cases z0 : j = 3 * r + 0
    · rw [if_pos z0, z0]; exact c0
    rw [if_neg z0]
    exact ho j (by omega)
  have k := kvR_O m (n := n) (h := h) (l := l) (c := c) (x := 0) (k0 := 3 * r + 0) (k1 := 3 * r + 1) (k2 := 3 * r + 2) hn hc (by omega) (by omega) (by omega)
  rw [← k]
  refine kvR_e (fun x q => ?_) (fun j j0 j1 => ?_)
  · by_cases z : x = 263
    · rw [z]; exact e2
    · rw [e x q z]
      by_cases w : x = 249
      · omega
      · (repeat rw [upm_f _ _ _ _ _ (by omega)])
  · rw [e9 j j0 j1]
    rw [upm_k (by omega)]
    (repeat rw [upm_f _ _ _ _ _ (by decide)])
theorem kvR_H1 {m m' : Mem} {n r b l : Int} (e : ∀ x, (251 ≤ x ∧ x ≤ 258) ∨ (261 ≤ x ∧ x ≤ 264) → x ≠ 264 → m' x = m x) (e9 : ∀ j, 3 ≤ j → j ≤ 6 → m' 249 j = m 249 j) (hr : r = m 249 29) (hn : n = m 249 6 + m 249 29) (hc : 0 ≤ m 249 6 ∧ 0 ≤ m 249 29 ∧ n < 5) (c0 : m' 264 (2 * r + 0) = b) (c1 : m' 264 (2 * r + 1) = l) (ho : ∀ j, (j < 2 * r ∨ 2 * r + 1 < j) → m' 264 j = m 264 j) : kvR m' = vH (kvR m) n b l := by
  have e2 : m' 264 = (upm (upm (upm m 264 (2 * r + 0) b) 264 (2 * r + 1) l) 249 29 0) 264 := by
    funext j
    simp only [upm_app, Int.reduceEq, and_true, true_and, and_false, false_and, if_true, if_false, and_self]
    by_cases z1 : j = 2 * r + 1
    · rw [if_pos z1, z1]; exact c1
    rw [if_neg z1]
    by_cases z0 : j = 2 * r + 0
    · rw [if_pos z0, z0]; exact c0
    rw [if_neg z0]
    exact ho j (by omega)
  have k := kvR_H m (n := n) (b := b) (l := l) (x := 0) (k0 := 2 * r + 0) (k1 := 2 * r + 1) hn hc (by omega) (by omega)
  rw [← k]
  refine kvR_e (fun x q => ?_) (fun j j0 j1 => ?_)
  · by_cases z : x = 264
    · rw [z]; exact e2
    · rw [e x q z]
      by_cases w : x = 249
      · omega
      · (repeat rw [upm_f _ _ _ _ _ (by omega)])
  · rw [e9 j j0 j1]
    rw [upm_k (by omega)]
    (repeat rw [upm_f _ _ _ _ _ (by decide)])
end
section
/-! what was read is copied: with it, all that THE KITCHEN tells stays as it is -/
def kvW (z3 z4 z5 z6 : Int) (m : Mem) : Int → Int := fun j =>
  if j < 100 then (if j - 0 < m 249 3 then m 251 (j - 0) else m 261 (j - 0 - z3)) else
  if j < 120 then (if j - 100 < m 249 4 then m 252 (j - 100) else m 262 (4 * (j - 100 - z4))) else
  if j < 140 then (if j - 120 < m 249 4 then m 253 (j - 120) else m 262 (4 * (j - 120 - z4) + 1)) else
  if j < 160 then (if j - 140 < m 249 4 then m 254 (j - 140) else m 262 (4 * (j - 140 - z4) + 2)) else
  if j < 200 then (if j - 160 < m 249 4 then m 255 (j - 160) else (if m 262 (4 * (j - 160 - z4) + 3) = 1 then 1 else 0)) else
  if j < 210 then (if j - 200 < m 249 5 then m 258 (3 * (j - 200)) else m 263 (3 * (j - 200 - z5))) else
  if j < 220 then (if j - 210 < m 249 5 then m 258 (3 * (j - 210) + 1) else m 263 (3 * (j - 210 - z5) + 2)) else
  if j < 230 then (if j - 220 < m 249 5 then m 258 (3 * (j - 220) + 2) else 0) else
  if j < 300 then (if j - 230 < m 249 5 then m 256 (j - 230) else m 263 (3 * (j - 230 - z5) + 1)) else
  if j < 310 then (if j - 300 < m 249 6 then m 257 (j - 300) else m 264 (2 * (j - 300 - z6))) else
  if j < 320 then (if j - 310 < m 249 6 then m 258 (15 + 7 * (j - 310)) else m 264 (2 * (j - 310 - z6) + 1)) else
  if j < 330 then (if j - 320 < m 249 6 then m 258 (16 + 7 * (j - 320)) else 0) else
  if j < 340 then (if j - 330 < m 249 6 then m 258 (17 + 7 * (j - 330)) else 0) else
  if j < 350 then (if j - 340 < m 249 6 then m 258 (18 + 7 * (j - 340)) else 0) else
  if j < 360 then (if j - 350 < m 249 6 then m 258 (19 + 7 * (j - 350)) else 0) else
  if j < 370 then (if j - 360 < m 249 6 then m 258 (20 + 7 * (j - 360)) else -1) else
  (if j - 370 < m 249 6 then m 258 (21 + 7 * (j - 370)) else 0)
theorem kvW_b {z3 z4 z5 z6 : Int} {m m' : Mem} (e : ∀ x, (251 ≤ x ∧ x ≤ 258) ∨ (261 ≤ x ∧ x ≤ 264) → x ≠ 251 → m' x = m x) (e9 : ∀ j, 3 ≤ j → j ≤ 6 → j ≠ 3 → m' 249 j = m 249 j) (hc : m' 249 3 = m 249 3 + 1) (hq : 0 ≤ m 249 3 ∧ m 249 3 < 20) (v0 : m' 251 (m 249 3) = m 261 (m 249 3 - z3)) (g251 : ∀ j, j < m 249 3 → m' 251 j = m 251 j) : kvW z3 z4 z5 z6 m' = kvW z3 z4 z5 z6 m := by
  funext j
  unfold kvW
  rw [hc, e9 4 (by decide) (by decide) (by decide), e9 5 (by decide) (by decide) (by decide), e9 6 (by decide) (by decide) (by decide), e 252 (by omega) (by decide), e 253 (by omega) (by decide), e 254 (by omega) (by decide), e 255 (by omega) (by decide), e 256 (by omega) (by decide), e 257 (by omega) (by decide), e 258 (by omega) (by decide), e 261 (by omega) (by decide), e 262 (by omega) (by decide), e 263 (by omega) (by decide), e 264 (by omega) (by decide)]
  by_cases h0 : j < 100
  · (repeat rewrite [if_pos h0])
    by_cases w : j - 0 < m 249 3
    · rw [if_pos w, if_pos (by omega)]; exact g251 _ (by omega)
    · by_cases w2 : j - 0 < m 249 3 + 1
      · rw [if_pos w2, if_neg w]
        have ej : j = 0 + m 249 3 := by omega
        subst ej
        rw [show (((0 + m 249 3) - 0) : Int) = m 249 3 from by omega, v0]; (try rw [show (0 + m 249 3 - 0 - z3 : Int) = m 249 3 - z3 from by omega])
      · rw [if_neg w2, if_neg w]
  (repeat rewrite [if_neg h0])
  by_cases h1 : j < 120
  · (repeat rewrite [if_pos h1])
    rfl
  (repeat rewrite [if_neg h1])
  by_cases h2 : j < 140
  · (repeat rewrite [if_pos h2])
    rfl
  (repeat rewrite [if_neg h2])
  by_cases h3 : j < 160
  · (repeat rewrite [if_pos h3])
    rfl
  (repeat rewrite [if_neg h3])
  by_cases h4 : j < 200
  · (repeat rewrite [if_pos h4])
    rfl
  (repeat rewrite [if_neg h4])
  by_cases h5 : j < 210
  · (repeat rewrite [if_pos h5])
    rfl
  (repeat rewrite [if_neg h5])
  by_cases h6 : j < 220
  · (repeat rewrite [if_pos h6])
    rfl
  (repeat rewrite [if_neg h6])
  by_cases h7 : j < 230
  · (repeat rewrite [if_pos h7])
    rfl
  (repeat rewrite [if_neg h7])
  by_cases h8 : j < 300
  · (repeat rewrite [if_pos h8])
    rfl
  (repeat rewrite [if_neg h8])
  by_cases h9 : j < 310
  · (repeat rewrite [if_pos h9])
    rfl
  (repeat rewrite [if_neg h9])
  by_cases h10 : j < 320
  · (repeat rewrite [if_pos h10])
    rfl
  (repeat rewrite [if_neg h10])
  by_cases h11 : j < 330
  · (repeat rewrite [if_pos h11])
    rfl
  (repeat rewrite [if_neg h11])
  by_cases h12 : j < 340
  · (repeat rewrite [if_pos h12])
    rfl
  (repeat rewrite [if_neg h12])
  by_cases h13 : j < 350
  · (repeat rewrite [if_pos h13])
    rfl
  (repeat rewrite [if_neg h13])
  by_cases h14 : j < 360
  · (repeat rewrite [if_pos h14])
    rfl
  (repeat rewrite [if_neg h14])
  by_cases h15 : j < 370
  · (repeat rewrite [if_pos h15])
    rfl
  (repeat rewrite [if_neg h15])
  rfl
theorem kvW_c {z3 z4 z5 z6 : Int} {m m' : Mem} (e : ∀ x, (251 ≤ x ∧ x ≤ 258) ∨ (261 ≤ x ∧ x ≤ 264) → x ≠ 252 → x ≠ 253 → x ≠ 254 → x ≠ 255 → m' x = m x) (e9 : ∀ j, 3 ≤ j → j ≤ 6 → j ≠ 4 → m' 249 j = m 249 j) (hc : m' 249 4 = m 249 4 + 1) (hq : 0 ≤ m 249 4 ∧ m 249 4 < 20) (v1 : m' 252 (m 249 4) = m 262 (4 * (m 249 4 - z4))) (v2 : m' 253 (m 249 4) = m 262 (4 * (m 249 4 - z4) + 1)) (v3 : m' 254 (m 249 4) = m 262 (4 * (m 249 4 - z4) + 2)) (v4 : m' 255 (m 249 4) = (if m 262 (4 * (m 249 4 - z4) + 3) = 1 then 1 else 0)) (g252 : ∀ j, j < m 249 4 → m' 252 j = m 252 j) (g253 : ∀ j, j < m 249 4 → m' 253 j = m 253 j) (g254 : ∀ j, j < m 249 4 → m' 254 j = m 254 j) (g255 : ∀ j, j < m 249 4 → m' 255 j = m 255 j) : kvW z3 z4 z5 z6 m' = kvW z3 z4 z5 z6 m := by
  funext j
  unfold kvW
  rw [hc, e9 3 (by decide) (by decide) (by decide), e9 5 (by decide) (by decide) (by decide), e9 6 (by decide) (by decide) (by decide), e 251 (by omega) (by decide) (by decide) (by decide) (by decide), e 256 (by omega) (by decide) (by decide) (by decide) (by decide), e 257 (by omega) (by decide) (by decide) (by decide) (by decide), e 258 (by omega) (by decide) (by decide) (by decide) (by decide), e 261 (by omega) (by decide) (by decide) (by decide) (by decide), e 262 (by omega) (by decide) (by decide) (by decide) (by decide), e 263 (by omega) (by decide) (by decide) (by decide) (by decide), e 264 (by omega) (by decide) (by decide) (by decide) (by decide)]
  by_cases h0 : j < 100
  · (repeat rewrite [if_pos h0])
    rfl
  (repeat rewrite [if_neg h0])
  by_cases h1 : j < 120
  · (repeat rewrite [if_pos h1])
    by_cases w : j - 100 < m 249 4
    · rw [if_pos w, if_pos (by omega)]; exact g252 _ (by omega)
    · by_cases w2 : j - 100 < m 249 4 + 1
      · rw [if_pos w2, if_neg w]
        have ej : j = 100 + m 249 4 := by omega
        subst ej
        rw [show (((100 + m 249 4) - 100) : Int) = m 249 4 from by omega, v1]; (try rw [show (100 + m 249 4 - 100 - z4 : Int) = m 249 4 - z4 from by omega])
      · rw [if_neg w2, if_neg w]
  (repeat rewrite [if_neg h1])
  by_cases h2 : j < 140
  · (repeat rewrite [if_pos h2])
    by_cases w : j - 120 < m 249 4
    · rw [if_pos w, if_pos (by omega)]; exact g253 _ (by omega)
    · by_cases w2 : j - 120 < m 249 4 + 1
      · rw [if_pos w2, if_neg w]
        have ej : j = 120 + m 249 4 := by omega
        subst ej
        rw [show (((120 + m 249 4) - 120) : Int) = m 249 4 from by omega, v2]; (try rw [show (120 + m 249 4 - 120 - z4 : Int) = m 249 4 - z4 from by omega])
      · rw [if_neg w2, if_neg w]
  (repeat rewrite [if_neg h2])
  by_cases h3 : j < 160
  · (repeat rewrite [if_pos h3])
    by_cases w : j - 140 < m 249 4
    · rw [if_pos w, if_pos (by omega)]; exact g254 _ (by omega)
    · by_cases w2 : j - 140 < m 249 4 + 1
      · rw [if_pos w2, if_neg w]
        have ej : j = 140 + m 249 4 := by omega
        subst ej
        rw [show (((140 + m 249 4) - 140) : Int) = m 249 4 from by omega, v3]; (try rw [show (140 + m 249 4 - 140 - z4 : Int) = m 249 4 - z4 from by omega])
      · rw [if_neg w2, if_neg w]
  (repeat rewrite [if_neg h3])
  by_cases h4 : j < 200
  · (repeat rewrite [if_pos h4])
    by_cases w : j - 160 < m 249 4
    · rw [if_pos w, if_pos (by omega)]; exact g255 _ (by omega)
    · by_cases w2 : j - 160 < m 249 4 + 1
      · rw [if_pos w2, if_neg w]
        have ej : j = 160 + m 249 4 := by omega
        subst ej
        rw [show (((160 + m 249 4) - 160) : Int) = m 249 4 from by omega, v4]; (try rw [show (160 + m 249 4 - 160 - z4 : Int) = m 249 4 - z4 from by omega])
      · rw [if_neg w2, if_neg w]
  (repeat rewrite [if_neg h4])
  by_cases h5 : j < 210
  · (repeat rewrite [if_pos h5])
    rfl
  (repeat rewrite [if_neg h5])
  by_cases h6 : j < 220
  · (repeat rewrite [if_pos h6])
    rfl
  (repeat rewrite [if_neg h6])
  by_cases h7 : j < 230
  · (repeat rewrite [if_pos h7])
    rfl
  (repeat rewrite [if_neg h7])
  by_cases h8 : j < 300
  · (repeat rewrite [if_pos h8])
    rfl
  (repeat rewrite [if_neg h8])
  by_cases h9 : j < 310
  · (repeat rewrite [if_pos h9])
    rfl
  (repeat rewrite [if_neg h9])
  by_cases h10 : j < 320
  · (repeat rewrite [if_pos h10])
    rfl
  (repeat rewrite [if_neg h10])
  by_cases h11 : j < 330
  · (repeat rewrite [if_pos h11])
    rfl
  (repeat rewrite [if_neg h11])
  by_cases h12 : j < 340
  · (repeat rewrite [if_pos h12])
    rfl
  (repeat rewrite [if_neg h12])
  by_cases h13 : j < 350
  · (repeat rewrite [if_pos h13])
    rfl
  (repeat rewrite [if_neg h13])
  by_cases h14 : j < 360
  · (repeat rewrite [if_pos h14])
    rfl
  (repeat rewrite [if_neg h14])
  by_cases h15 : j < 370
  · (repeat rewrite [if_pos h15])
    rfl
  (repeat rewrite [if_neg h15])
  rfl
theorem kvW_d {z3 z4 z5 z6 : Int} {m m' : Mem} (e : ∀ x, (251 ≤ x ∧ x ≤ 258) ∨ (261 ≤ x ∧ x ≤ 264) → x ≠ 256 → x ≠ 258 → m' x = m x) (e9 : ∀ j, 3 ≤ j → j ≤ 6 → j ≠ 5 → m' 249 j = m 249 j) (hc : m' 249 5 = m 249 5 + 1) (hq : 0 ≤ m 249 5 ∧ m 249 5 < 5) (v5 : m' 258 (3 * m 249 5) = m 263 (3 * (m 249 5 - z5))) (v6 : m' 258 (3 * m 249 5 + 1) = m 263 (3 * (m 249 5 - z5) + 2)) (v7 : m' 258 (3 * m 249 5 + 2) = 0) (v8 : m' 256 (m 249 5) = m 263 (3 * (m 249 5 - z5) + 1)) (g256 : ∀ j, j < m 249 5 → m' 256 j = m 256 j) (ho : ∀ j, (j < 3 * m 249 5 ∨ 3 * m 249 5 + 2 < j) → m' 258 j = m 258 j) : kvW z3 z4 z5 z6 m' = kvW z3 z4 z5 z6 m := by
  funext j
  unfold kvW
  rw [hc, e9 3 (by decide) (by decide) (by decide), e9 4 (by decide) (by decide) (by decide), e9 6 (by decide) (by decide) (by decide), e 251 (by omega) (by decide) (by decide), e 252 (by omega) (by decide) (by decide), e 253 (by omega) (by decide) (by decide), e 254 (by omega) (by decide) (by decide), e 255 (by omega) (by decide) (by decide), e 257 (by omega) (by decide) (by decide), e 261 (by omega) (by decide) (by decide), e 262 (by omega) (by decide) (by decide), e 263 (by omega) (by decide) (by decide), e 264 (by omega) (by decide) (by decide)]
  by_cases h0 : j < 100
  · (repeat rewrite [if_pos h0])
    rfl
  (repeat rewrite [if_neg h0])
  by_cases h1 : j < 120
  · (repeat rewrite [if_pos h1])
    rfl
  (repeat rewrite [if_neg h1])
  by_cases h2 : j < 140
  · (repeat rewrite [if_pos h2])
    rfl
  (repeat rewrite [if_neg h2])
  by_cases h3 : j < 160
  · (repeat rewrite [if_pos h3])
    rfl
  (repeat rewrite [if_neg h3])
  by_cases h4 : j < 200
  · (repeat rewrite [if_pos h4])
    rfl
  (repeat rewrite [if_neg h4])
  by_cases h5 : j < 210
  · (repeat rewrite [if_pos h5])
    by_cases w : j - 200 < m 249 5
    · rw [if_pos w, if_pos (by omega)]; exact ho _ (by omega)
    · by_cases w2 : j - 200 < m 249 5 + 1
      · rw [if_pos w2, if_neg w]
        have ej : j = 200 + m 249 5 := by omega
        subst ej
        rw [show ((3 * ((200 + m 249 5) - 200)) : Int) = (3 * m 249 5) from by omega, v5]; (try rw [show (200 + m 249 5 - 200 - z5 : Int) = m 249 5 - z5 from by omega])
      · rw [if_neg w2, if_neg w]
  (repeat rewrite [if_neg h5])
  by_cases h6 : j < 220
  · (repeat rewrite [if_pos h6])
    by_cases w : j - 210 < m 249 5
    · rw [if_pos w, if_pos (by omega)]; exact ho _ (by omega)
    · by_cases w2 : j - 210 < m 249 5 + 1
      · rw [if_pos w2, if_neg w]
        have ej : j = 210 + m 249 5 := by omega
        subst ej
        rw [show ((3 * ((210 + m 249 5) - 210) + 1) : Int) = (3 * m 249 5 + 1) from by omega, v6]; (try rw [show (210 + m 249 5 - 210 - z5 : Int) = m 249 5 - z5 from by omega])
      · rw [if_neg w2, if_neg w]
  (repeat rewrite [if_neg h6])
  by_cases h7 : j < 230
  · (repeat rewrite [if_pos h7])
    by_cases w : j - 220 < m 249 5
    · rw [if_pos w, if_pos (by omega)]; exact ho _ (by omega)
    · by_cases w2 : j - 220 < m 249 5 + 1
      · rw [if_pos w2, if_neg w]
        have ej : j = 220 + m 249 5 := by omega
        subst ej
        rw [show ((3 * ((220 + m 249 5) - 220) + 2) : Int) = (3 * m 249 5 + 2) from by omega, v7]; (try rw [show (220 + m 249 5 - 220 - z5 : Int) = m 249 5 - z5 from by omega])
      · rw [if_neg w2, if_neg w]
  (repeat rewrite [if_neg h7])
  by_cases h8 : j < 300
  · (repeat rewrite [if_pos h8])
    by_cases w : j - 230 < m 249 5
    · rw [if_pos w, if_pos (by omega)]; exact g256 _ (by omega)
    · by_cases w2 : j - 230 < m 249 5 + 1
      · rw [if_pos w2, if_neg w]
        have ej : j = 230 + m 249 5 := by omega
        subst ej
        rw [show (((230 + m 249 5) - 230) : Int) = m 249 5 from by omega, v8]; (try rw [show (230 + m 249 5 - 230 - z5 : Int) = m 249 5 - z5 from by omega])
      · rw [if_neg w2, if_neg w]
  (repeat rewrite [if_neg h8])
  by_cases h9 : j < 310
  · (repeat rewrite [if_pos h9])
    rfl
  (repeat rewrite [if_neg h9])
  by_cases h10 : j < 320
  · (repeat rewrite [if_pos h10])
    by_cases w : j - 310 < m 249 6
    · (repeat rewrite [if_pos w]); exact ho _ (by omega)
    · (repeat rewrite [if_neg w]); rfl
  (repeat rewrite [if_neg h10])
  by_cases h11 : j < 330
  · (repeat rewrite [if_pos h11])
    by_cases w : j - 320 < m 249 6
    · (repeat rewrite [if_pos w]); exact ho _ (by omega)
    · (repeat rewrite [if_neg w]); rfl
  (repeat rewrite [if_neg h11])
  by_cases h12 : j < 340
  · (repeat rewrite [if_pos h12])
    by_cases w : j - 330 < m 249 6
    · (repeat rewrite [if_pos w]); exact ho _ (by omega)
    · (repeat rewrite [if_neg w]); rfl
  (repeat rewrite [if_neg h12])
  by_cases h13 : j < 350
  · (repeat rewrite [if_pos h13])
    by_cases w : j - 340 < m 249 6
    · (repeat rewrite [if_pos w]); exact ho _ (by omega)
    · (repeat rewrite [if_neg w]); rfl
  (repeat rewrite [if_neg h13])
  by_cases h14 : j < 360
  · (repeat rewrite [if_pos h14])
    by_cases w : j - 350 < m 249 6
    · (repeat rewrite [if_pos w]); exact ho _ (by omega)
    · (repeat rewrite [if_neg w]); rfl
  (repeat rewrite [if_neg h14])
  by_cases h15 : j < 370
  · (repeat rewrite [if_pos h15])
    by_cases w : j - 360 < m 249 6
    · (repeat rewrite [if_pos w]); exact ho _ (by omega)
    · (repeat rewrite [if_neg w]); rfl
  (repeat rewrite [if_neg h15])
  by_cases w : j - 370 < m 249 6
  · (repeat rewrite [if_pos w]); exact ho _ (by omega)
  · (repeat rewrite [if_neg w]); rfl
theorem kvW_e {z3 z4 z5 z6 : Int} {m m' : Mem} (e : ∀ x, (251 ≤ x ∧ x ≤ 258) ∨ (261 ≤ x ∧ x ≤ 264) → x ≠ 257 → x ≠ 258 → m' x = m x) (e9 : ∀ j, 3 ≤ j → j ≤ 6 → j ≠ 6 → m' 249 j = m 249 j) (hc : m' 249 6 = m 249 6 + 1) (hq : 0 ≤ m 249 6 ∧ m 249 6 < 5) (h5 : m 249 5 ≤ 5) (v9 : m' 257 (m 249 6) = m 264 (2 * (m 249 6 - z6))) (v10 : m' 258 (15 + 7 * m 249 6) = m 264 (2 * (m 249 6 - z6) + 1)) (v11 : m' 258 (16 + 7 * m 249 6) = 0) (v12 : m' 258 (17 + 7 * m 249 6) = 0) (v13 : m' 258 (18 + 7 * m 249 6) = 0) (v14 : m' 258 (19 + 7 * m 249 6) = 0) (v15 : m' 258 (20 + 7 * m 249 6) = -1) (v16 : m' 258 (21 + 7 * m 249 6) = 0) (g257 : ∀ j, j < m 249 6 → m' 257 j = m 257 j) (ho : ∀ j, (j < 15 + 7 * m 249 6 ∨ 21 + 7 * m 249 6 < j) → m' 258 j = m 258 j) : kvW z3 z4 z5 z6 m' = kvW z3 z4 z5 z6 m := by
  funext j
  unfold kvW
  rw [hc, e9 3 (by decide) (by decide) (by decide), e9 4 (by decide) (by decide) (by decide), e9 5 (by decide) (by decide) (by decide), e 251 (by omega) (by decide) (by decide), e 252 (by omega) (by decide) (by decide), e 253 (by omega) (by decide) (by decide), e 254 (by omega) (by decide) (by decide), e 255 (by omega) (by decide) (by decide), e 256 (by omega) (by decide) (by decide), e 261 (by omega) (by decide) (by decide), e 262 (by omega) (by decide) (by decide), e 263 (by omega) (by decide) (by decide), e 264 (by omega) (by decide) (by decide)]
  by_cases h0 : j < 100
  · (repeat rewrite [if_pos h0])
    rfl
  (repeat rewrite [if_neg h0])
  by_cases h1 : j < 120
  · (repeat rewrite [if_pos h1])
    rfl
  (repeat rewrite [if_neg h1])
  by_cases h2 : j < 140
  · (repeat rewrite [if_pos h2])
    rfl
  (repeat rewrite [if_neg h2])
  by_cases h3 : j < 160
  · (repeat rewrite [if_pos h3])
    rfl
  (repeat rewrite [if_neg h3])
  by_cases h4 : j < 200
  · (repeat rewrite [if_pos h4])
    rfl
  (repeat rewrite [if_neg h4])
  by_cases h5 : j < 210
  · (repeat rewrite [if_pos h5])
    by_cases w : j - 200 < m 249 5
    · (repeat rewrite [if_pos w]); exact ho _ (by omega)
    · (repeat rewrite [if_neg w]); rfl
  (repeat rewrite [if_neg h5])
  by_cases h6 : j < 220
  · (repeat rewrite [if_pos h6])
    by_cases w : j - 210 < m 249 5
    · (repeat rewrite [if_pos w]); exact ho _ (by omega)
    · (repeat rewrite [if_neg w]); rfl
  (repeat rewrite [if_neg h6])
  by_cases h7 : j < 230
  · (repeat rewrite [if_pos h7])
    by_cases w : j - 220 < m 249 5
    · (repeat rewrite [if_pos w]); exact ho _ (by omega)
    · (repeat rewrite [if_neg w]); rfl
  (repeat rewrite [if_neg h7])
  by_cases h8 : j < 300
  · (repeat rewrite [if_pos h8])
    rfl
  (repeat rewrite [if_neg h8])
  by_cases h9 : j < 310
  · (repeat rewrite [if_pos h9])
    by_cases w : j - 300 < m 249 6
    · rw [if_pos w, if_pos (by omega)]; exact g257 _ (by omega)
    · by_cases w2 : j - 300 < m 249 6 + 1
      · rw [if_pos w2, if_neg w]
        have ej : j = 300 + m 249 6 := by omega
        subst ej
        rw [show (((300 + m 249 6) - 300) : Int) = m 249 6 from by omega, v9]; (try rw [show (300 + m 249 6 - 300 - z6 : Int) = m 249 6 - z6 from by omega])
      · rw [if_neg w2, if_neg w]
  (repeat rewrite [if_neg h9])
  by_cases h10 : j < 320
  · (repeat rewrite [if_pos h10])
    by_cases w : j - 310 < m 249 6
    · rw [if_pos w, if_pos (by omega)]; exact ho _ (by omega)
    · by_cases w2 : j - 310 < m 249 6 + 1
      · rw [if_pos w2, if_neg w]
        have ej : j = 310 + m 249 6 := by omega
        subst ej
        rw [show ((15 + 7 * ((310 + m 249 6) - 310)) : Int) = (15 + 7 * m 249 6) from by omega, v10]; (try rw [show (310 + m 249 6 - 310 - z6 : Int) = m 249 6 - z6 from by omega])
      · rw [if_neg w2, if_neg w]
  (repeat rewrite [if_neg h10])
  by_cases h11 : j < 330
  · (repeat rewrite [if_pos h11])
    by_cases w : j - 320 < m 249 6
    · rw [if_pos w, if_pos (by omega)]; exact ho _ (by omega)
    · by_cases w2 : j - 320 < m 249 6 + 1
      · rw [if_pos w2, if_neg w]
        have ej : j = 320 + m 249 6 := by omega
        subst ej
        rw [show ((16 + 7 * ((320 + m 249 6) - 320)) : Int) = (16 + 7 * m 249 6) from by omega, v11]; (try rw [show (320 + m 249 6 - 320 - z6 : Int) = m 249 6 - z6 from by omega])
      · rw [if_neg w2, if_neg w]
  (repeat rewrite [if_neg h11])
  by_cases h12 : j < 340
  · (repeat rewrite [if_pos h12])
    by_cases w : j - 330 < m 249 6
    · rw [if_pos w, if_pos (by omega)]; exact ho _ (by omega)
    · by_cases w2 : j - 330 < m 249 6 + 1
      · rw [if_pos w2, if_neg w]
        have ej : j = 330 + m 249 6 := by omega
        subst ej
        rw [show ((17 + 7 * ((330 + m 249 6) - 330)) : Int) = (17 + 7 * m 249 6) from by omega, v12]; (try rw [show (330 + m 249 6 - 330 - z6 : Int) = m 249 6 - z6 from by omega])
      · rw [if_neg w2, if_neg w]
  (repeat rewrite [if_neg h12])
  by_cases h13 : j < 350
  · (repeat rewrite [if_pos h13])
    by_cases w : j - 340 < m 249 6
    · rw [if_pos w, if_pos (by omega)]; exact ho _ (by omega)
    · by_cases w2 : j - 340 < m 249 6 + 1
      · rw [if_pos w2, if_neg w]
        have ej : j = 340 + m 249 6 := by omega
        subst ej
        rw [show ((18 + 7 * ((340 + m 249 6) - 340)) : Int) = (18 + 7 * m 249 6) from by omega, v13]; (try rw [show (340 + m 249 6 - 340 - z6 : Int) = m 249 6 - z6 from by omega])
      · rw [if_neg w2, if_neg w]
  (repeat rewrite [if_neg h13])
  by_cases h14 : j < 360
  · (repeat rewrite [if_pos h14])
    by_cases w : j - 350 < m 249 6
    · rw [if_pos w, if_pos (by omega)]; exact ho _ (by omega)
    · by_cases w2 : j - 350 < m 249 6 + 1
      · rw [if_pos w2, if_neg w]
        have ej : j = 350 + m 249 6 := by omega
        subst ej
        rw [show ((19 + 7 * ((350 + m 249 6) - 350)) : Int) = (19 + 7 * m 249 6) from by omega, v14]; (try rw [show (350 + m 249 6 - 350 - z6 : Int) = m 249 6 - z6 from by omega])
      · rw [if_neg w2, if_neg w]
  (repeat rewrite [if_neg h14])
  by_cases h15 : j < 370
  · (repeat rewrite [if_pos h15])
    by_cases w : j - 360 < m 249 6
    · rw [if_pos w, if_pos (by omega)]; exact ho _ (by omega)
    · by_cases w2 : j - 360 < m 249 6 + 1
      · rw [if_pos w2, if_neg w]
        have ej : j = 360 + m 249 6 := by omega
        subst ej
        rw [show ((20 + 7 * ((360 + m 249 6) - 360)) : Int) = (20 + 7 * m 249 6) from by omega, v15]; (try rw [show (360 + m 249 6 - 360 - z6 : Int) = m 249 6 - z6 from by omega])
      · rw [if_neg w2, if_neg w]
  (repeat rewrite [if_neg h15])
  by_cases w : j - 370 < m 249 6
  · rw [if_pos w, if_pos (by omega)]; exact ho _ (by omega)
  · by_cases w2 : j - 370 < m 249 6 + 1
    · rw [if_pos w2, if_neg w]
      have ej : j = 370 + m 249 6 := by omega
      subst ej
      rw [show ((21 + 7 * ((370 + m 249 6) - 370)) : Int) = (21 + 7 * m 249 6) from by omega, v16]; (try rw [show (370 + m 249 6 - 370 - z6 : Int) = m 249 6 - z6 from by omega])
    · rw [if_neg w2, if_neg w]
end
