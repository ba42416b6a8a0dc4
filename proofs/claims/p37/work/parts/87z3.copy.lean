/-! states copied and noted, to the letter -/
theorem cpf_app (m : Mem) (a i b j n x y : Int) : cpf m a i b j n x y = if x = b ∧ j ≤ y ∧ y < j + n then m a (y - j + i) else m x y := rfl
/-- State object t is as State object s was; all else stands -/
def CPY (m m' : Mem) (t s : Int) : Prop := (∀ x y, x < t ∨ t + 9 < x → m' x y = m x y) ∧ (∀ k j, 1 ≤ k → k ≤ 9 → 0 ≤ j → (j < 5 ∨ k = 5 ∧ j < 10) → m' (t + k) j = m (s + k) j) ∧ m' t 3 = m s 3 ∧ m' t 10 = m s 10 ∧ m' t 11 = m s 11
section
variable (m : Mem) {s j : Int}
theorem k_0 (hj : 0 ≤ j ∧ j < 5) : asC m s 0 j = m (s + 1) j := by simp [asC, hj]
theorem k_1 (hj : 0 ≤ j ∧ j < 5) : asC m s 1 j = m (s + 2) j := by simp [asC, hj]
theorem k_2 (hj : 0 ≤ j ∧ j < 5) : asC m s 2 j = iand (ishr (m s 3) j) 1 := by simp [asC, hj]
theorem k_3 (hj : 0 ≤ j ∧ j < 5) : asC m s 3 j = m (s + 4) j := by simp [asC, hj]
theorem k_4 (hj : 0 ≤ j ∧ j < 5) : asC m s 4 j = m (s + 5) (2 * j) := by simp [asC, hj]
theorem k_5 (hj : 0 ≤ j ∧ j < 5) : asC m s 5 j = m (s + 5) (2 * j + 1) := by simp [asC, hj]
theorem k_6 (hj : 0 ≤ j ∧ j < 5) : asC m s 6 j = m (s + 6) j := by simp [asC, hj]
theorem k_7 (hj : 0 ≤ j ∧ j < 5) : asC m s 7 j = m (s + 7) j := by simp [asC, hj]
theorem k_8 (hj : 0 ≤ j ∧ j < 5) : asC m s 8 j = m (s + 8) j := by simp [asC, hj]
theorem k_9 (hj : 0 ≤ j ∧ j < 5) : asC m s 9 j = m (s + 9) j := by simp [asC, hj]
end
theorem k_op (m : Mem) (s : Int) : asC m s 10 0 = m s 10 := by simp [asC]
theorem k_no (m : Mem) (s : Int) : asC m s 10 1 = m s 11 := by simp [asC]
theorem CPY_SE {m m' : Mem} {t s : Int} (h : CPY m m' t s) : SE 5 5 (asC m' t) (asC m s) := by
  obtain ⟨-, hk, h3, h10, h11⟩ := h
  refine ⟨fun f j f0 f1 j0 j1 => ?_, fun f j f0 f1 j0 j1 => ?_, ?_, ?_⟩
  · have : f = 0 ∨ f = 1 ∨ f = 2 := by omega
    rcases this with rfl | rfl | rfl
    · rw [k_0 m' ⟨j0, j1⟩, k_0 m ⟨j0, j1⟩]; exact hk 1 j (by decide) (by decide) j0 (Or.inl j1)
    · rw [k_1 m' ⟨j0, j1⟩, k_1 m ⟨j0, j1⟩]; exact hk 2 j (by decide) (by decide) j0 (Or.inl j1)
    · rw [k_2 m' ⟨j0, j1⟩, k_2 m ⟨j0, j1⟩, h3]
  · have : f = 3 ∨ f = 4 ∨ f = 5 ∨ f = 6 ∨ f = 7 ∨ f = 8 ∨ f = 9 := by omega
    rcases this with rfl | rfl | rfl | rfl | rfl | rfl | rfl
    · rw [k_3 m' ⟨j0, j1⟩, k_3 m ⟨j0, j1⟩]; exact hk 4 j (by decide) (by decide) j0 (Or.inl j1)
    · rw [k_4 m' ⟨j0, j1⟩, k_4 m ⟨j0, j1⟩]; exact hk 5 (2 * j) (by decide) (by decide) (by omega) (Or.inr ⟨rfl, by omega⟩)
    · rw [k_5 m' ⟨j0, j1⟩, k_5 m ⟨j0, j1⟩]; exact hk 5 (2 * j + 1) (by decide) (by decide) (by omega) (Or.inr ⟨rfl, by omega⟩)
    · rw [k_6 m' ⟨j0, j1⟩, k_6 m ⟨j0, j1⟩]; exact hk 6 j (by decide) (by decide) j0 (Or.inl j1)
    · rw [k_7 m' ⟨j0, j1⟩, k_7 m ⟨j0, j1⟩]; exact hk 7 j (by decide) (by decide) j0 (Or.inl j1)
    · rw [k_8 m' ⟨j0, j1⟩, k_8 m ⟨j0, j1⟩]; exact hk 8 j (by decide) (by decide) j0 (Or.inl j1)
    · rw [k_9 m' ⟨j0, j1⟩, k_9 m ⟨j0, j1⟩]; exact hk 9 j (by decide) (by decide) j0 (Or.inl j1)
  · rw [k_op, k_op]; exact h10
  · rw [k_no, k_no]; exact h11
theorem CPY_hold {m m' : Mem} {t s j : Int} (h : CPY m m' t s) (h0 : 0 ≤ j) (h1 : j < 5) : m' (t + 3) j = m (s + 3) j := h.2.1 3 j (by decide) (by decide) h0 (Or.inl h1)
set_option maxHeartbeats 8000000 in
theorem f_61 {d : Nat} {tc e : Int} {g : Fg} {m : Mem} {Q : Int → Sto → Prop} {t s : Int} (ht : t ∈ [(15 : Int), 15, 31, 41, 51, 61, 71, 81, 91, 101, 111, 121, 131, 141, 151, 161, 171, 181, 219, 229, 239]) (hs9 : s ∈ [(15 : Int), 15, 31, 41, 51, 61, 71, 81, 91, 101, 111, 121, 131, 141, 151, 161, 171, 181, 219, 229, 239]) (hd : t + 9 < s ∨ s + 9 < t) (hJ : JC 3 g tc m) (hq : ∀ v m', JC 3 g tc m' → CPY m m' t s → Q v (S9 e m')) : Cl (d + 1) 61 [t, s] Q (S9 e m) := by
  have hL := JC_l hJ
  obtain ⟨a1, a2, a3, a4, a5, a6, a7, a8, a9, a10, a11, a12⟩ := st_sr t ht
  obtain ⟨b1, b2, b3, b4, b5, b6, b7, b8, b9, b10, b11, b12⟩ := st_sr s hs9
  obtain ⟨c1, c2, c3, c4, c5, c6, c7, c8, c9, c10, c11, c12, c13, c14, c15, c16, c17, c18⟩ := st_kc t ht
  obtain ⟨e1, e2, e3, e4, e5, e6, e7, e8, e9, e10, e11, e12, e13, e14, e15, e16, e17, e18⟩ := st_kc s hs9
  have f1 := st_sc t ht
  have f2 := st_sc s hs9
  simp only [cl_61, runB, B61, ma_61, rho_22, wf_5_15, wf_5_18, wf_5_21, wf_5_24, wf_5_27, wf_5_30, wf_5_33, wf_5_36, wf_5_45, wf_5_49, wf_5_52, wf_5_9, wpf_5_45, wpopand_pf_5_45, wpf_5_49, wpf_5_52, w_cst, w_ldi, w_ldj, w_lda, w_ljk, w_ldk, w_ldw, w_ldk2, w_ldt, w_ldtw, w_neg, w_cvb, w_cvs, w_cvc, w_cvj, w_add, w_sub, w_mul, w_ban, w_bor, w_bxo, w_shl, w_shr, w_ush, w_dvi, w_rmi, w_aldi, w_aldj, w_aldz, w_aldc, w_alda, w_ite, w_cmp, w_cmj, w_cz, w_cnot, w_cand, w_cor, w_nil, w_cons, w_cvi, w_csta, w_cvt, w_cvv, w_csv, w_cpy, w_seq, w_sbr, w_sbn, w_brk, w_ifs, w_ifx, w_ife, w_wk, w_rets, w_rtv, w_thr, w_asi, w_asj, w_asa, w_inc, w_exs, w_asti, w_astj, w_astz, w_astc, w_aopadd, w_aopsub, w_sw, if_true, if_false, ↓reduceIte, hdl_c, S9_1, S9_m, bud9, live9, inb9, wrn, wr9_14, wr9_15, wr9_16, wr9_17, tq9_14, tq9_15, tq9_16, tq9_17, tq_0, tq_1, tq_3, upr_rl, rl_0, rl_1, rl_2, rl_3, rl_4, rl_5, rl_6, rl_7, rl_8, rl_9, rl_10, rl_11, rl_12, rl_13, sp_0, sp_1, sp_2, sp_3, sp_4, sp_5, sp_6, sp_7, sp_8, sp_9, sp_10, sp_11, sp_12, sp_13, se_0, se_1, se_2, se_3, se_4, se_5, se_6, se_7, se_8, se_9, se_10, se_11, se_12, se_13, sem_0, sem_1, sem_2, sem_3, sem_4, sem_5, List.getD_cons_zero, List.getD_cons_succ, wrn3, wrn1, cpmS, cpok9, a4, a5, a6, a7, a8, a9, a10, a11, a12, b4, b5, b6, b7, b8, b9, b10, b11, b12, c1, c2, c3, c4, c5, c6, c7, c8, c9, c10, c11, c12, c13, c14, c15, c16, c17, c18, e1, e2, e3, e4, e5, e6, e7, e8, e9, e10, e11, e12, e13, e14, e15, e16, e17, e18]
  clear a4 a5 a6 a7 a8 a9 a10 a11 a12 b4 b5 b6 b7 b8 b9 b10 b11 b12 c1 c2 c3 c4 c5 c6 c7 c8 c9 c10 c11 c12 c13 c14 c15 c16 c17 c18 e1 e2 e3 e4 e5 e6 e7 e8 e9 e10 e11 e12 e13 e14 e15 e16 e17 e18
  repeat' (first
    | (with_reducible exact True.intro)
    | assumption
    | (with_reducible rfl)
    | omega
    | (with_reducible refine And.intro ?_ ?_)
    | intro _
    | ((with_reducible refine hq _ _ ?_ ?_); (next => refine JC_of hL ?_ (by decide); repeat (first | assumption | (refine JC_up ?_ (by first | decide | (unfold frC; omega)) (BdC_s (by unfold hnd; omega))) | (refine JC_cp ?_ (fun _ => by unfold frC; omega) (fun _ _ => BdC_s (by unfold hnd; omega))) | (refine JC_cph ?_ (fun _ => by unfold frC; omega) (by unfold hnd; omega) (by unfold hnd; omega)))); (next => refine ⟨fun x y hx => ?_, fun k j k0 k1 j0 j1 => ?_, ?_, ?_, ?_⟩; (next => (repeat (first | rw [upm_app, if_neg (by omega)] | rw [cpf_app, if_neg (by omega)] | rw [cpf_app, if_pos (by omega)] | rw [upm_app, if_pos (by omega)])); first | done | rfl | (congr 1; omega)); (next => rcases (show k = 1 ∨ k = 2 ∨ k = 3 ∨ k = 4 ∨ k = 5 ∨ k = 6 ∨ k = 7 ∨ k = 8 ∨ k = 9 from by omega) with rfl | rfl | rfl | rfl | rfl | rfl | rfl | rfl | rfl <;> ((repeat (first | rw [upm_app, if_neg (by omega)] | rw [cpf_app, if_neg (by omega)] | rw [cpf_app, if_pos (by omega)] | rw [upm_app, if_pos (by omega)])); first | done | rfl | (congr 1; omega))); (next => (repeat (first | rw [upm_app, if_neg (by omega)] | rw [cpf_app, if_neg (by omega)] | rw [cpf_app, if_pos (by omega)] | rw [upm_app, if_pos (by omega)])); first | done | rfl | (congr 1; omega)); (next => (repeat (first | rw [upm_app, if_neg (by omega)] | rw [cpf_app, if_neg (by omega)] | rw [cpf_app, if_pos (by omega)] | rw [upm_app, if_pos (by omega)])); first | done | rfl | (congr 1; omega)); (next => (repeat (first | rw [upm_app, if_neg (by omega)] | rw [cpf_app, if_neg (by omega)] | rw [cpf_app, if_pos (by omega)] | rw [upm_app, if_pos (by omega)])); first | done | rfl | (congr 1; omega)))))

theorem p_60x {d : Nat} {e a : Int} {m : Mem} {Q : Int → Sto → Prop} (ha : 0 ≤ a ∧ a ≤ 1000) (hq : Q (a % 16) (S9 e m)) : Cl (d + 1) 60 [a, 16] Q (S9 e m) := by
  have hi : inI a := by unfold inI; omega
  have h1 : irm a 16 = a % 16 := by
    rw [irm_eq hi (by unfold inI; omega) (by decide) (by decide)]
    exact (Int.tmod_eq_emod_of_nonneg ha.1)
  have h5 := ixneg (a := irm a 16) (by rw [h1]; unfold inI; omega)
  rw [h1] at h5
  have h6 := ixneg hi
  simp only [cl_60, runB, B60, ma_60, rho_00, w_cst, w_ldi, w_ldj, w_lda, w_ljk, w_ldk, w_ldw, w_ldk2, w_ldt, w_ldtw, w_neg, w_cvb, w_cvs, w_cvc, w_cvj, w_add, w_sub, w_mul, w_ban, w_bor, w_bxo, w_shl, w_shr, w_ush, w_dvi, w_rmi, w_aldi, w_aldj, w_aldz, w_aldc, w_alda, w_ite, w_cmp, w_cmj, w_cz, w_cnot, w_cand, w_cor, w_nil, w_cons, w_cvi, w_csta, w_cvt, w_cvv, w_csv, w_cpy, w_seq, w_sbr, w_sbn, w_brk, w_ifs, w_ifx, w_ife, w_wk, w_rets, w_rtv, w_thr, w_asi, w_asj, w_asa, w_inc, w_exs, w_asti, w_astj, w_astz, w_astc, w_aopadd, w_aopsub, w_sw, if_true, if_false, ↓reduceIte, hdl_c, S9_1, S9_m, bud9, live9, inb9, wrn, wr9_14, wr9_15, wr9_16, wr9_17, tq9_14, tq9_15, tq9_16, tq9_17, tq_0, tq_1, tq_3, upr_rl, rl_0, rl_1, rl_2, rl_3, rl_4, rl_5, rl_6, rl_7, rl_8, rl_9, rl_10, rl_11, rl_12, rl_13, sp_0, sp_1, sp_2, sp_3, sp_4, sp_5, sp_6, sp_7, sp_8, sp_9, sp_10, sp_11, sp_12, sp_13, se_0, se_1, se_2, se_3, se_4, se_5, se_6, se_7, se_8, se_9, se_10, se_11, se_12, se_13, sem_0, sem_1, sem_2, sem_3, sem_4, sem_5, h1]
  repeat' (first
    | (with_reducible exact True.intro)
    | omega
    | (with_reducible refine And.intro ?_ ?_)
    | (with_reducible contradiction)
    | intro _
    | (with_reducible exact hq)
    | (exfalso; omega))
theorem sr27v {v : Int} (h0 : 0 ≤ v) (h1 : v ≤ 15) : SR 27 v = 31 + 10 * v := by
  obtain ⟨k, rfl⟩ : ∃ k : Nat, v = k := ⟨v.toNat, by omega⟩
  exact (sr27 k (by omega)).1
theorem p_59x {d : Nat} {e a : Int} {m : Mem} {Q : Int → Sto → Prop} (ho : 0 ≤ m 26 8 ∧ m 26 8 ≤ 15) (ha : 0 ≤ a ∧ a ≤ 16) (hq : Q ((m 26 8 + a) % 16) (S9 e m)) : Cl (d + 2) 59 [26, a] Q (S9 e m) := by
  have ew : w32 (m 26 8 + a) = m 26 8 + a := by unfold w32; omega
  simp only [cl_59, runB, B59, ma_59, rho_20, wf_7_44, wc_60, w_cst, w_ldi, w_ldj, w_lda, w_ljk, w_ldk, w_ldw, w_ldk2, w_ldt, w_ldtw, w_neg, w_cvb, w_cvs, w_cvc, w_cvj, w_add, w_sub, w_mul, w_ban, w_bor, w_bxo, w_shl, w_shr, w_ush, w_dvi, w_rmi, w_aldi, w_aldj, w_aldz, w_aldc, w_alda, w_ite, w_cmp, w_cmj, w_cz, w_cnot, w_cand, w_cor, w_nil, w_cons, w_cvi, w_csta, w_cvt, w_cvv, w_csv, w_cpy, w_seq, w_sbr, w_sbn, w_brk, w_ifs, w_ifx, w_ife, w_wk, w_rets, w_rtv, w_thr, w_asi, w_asj, w_asa, w_inc, w_exs, w_asti, w_astj, w_astz, w_astc, w_aopadd, w_aopsub, w_sw, if_true, if_false, ↓reduceIte, hdl_c, S9_1, S9_m, bud9, live9, inb9, wrn, wr9_14, wr9_15, wr9_16, wr9_17, tq9_14, tq9_15, tq9_16, tq9_17, tq_0, tq_1, tq_3, upr_rl, rl_0, rl_1, rl_2, rl_3, rl_4, rl_5, rl_6, rl_7, rl_8, rl_9, rl_10, rl_11, rl_12, rl_13, sp_0, sp_1, sp_2, sp_3, sp_4, sp_5, sp_6, sp_7, sp_8, sp_9, sp_10, sp_11, sp_12, sp_13, se_0, se_1, se_2, se_3, se_4, se_5, se_6, se_7, se_8, se_9, se_10, se_11, se_12, se_13, sem_0, sem_1, sem_2, sem_3, sem_4, sem_5, sr_26_3, sr_26_0, kl9_26, sr_26_10, sr_26_7, sr_26_12, sr_26_1, sr_26_2, kc_26, sr_26_11, ew]
  repeat' (first
    | (with_reducible exact True.intro)
    | (with_reducible rfl)
    | (with_reducible refine And.intro ?_ ?_)
    | intro _
    | ((with_reducible refine p_60x ?_ ?_); (next => omega); simp only [hdl_c, S9_1, S9_m, bud9, live9, inb9, wrn, wr9_14, wr9_15, wr9_16, wr9_17, tq9_14, tq9_15, tq9_16, tq9_17, tq_0, tq_1, tq_3, upr_rl, rl_0, rl_1, rl_2, rl_3, rl_4, rl_5, rl_6, rl_7, rl_8, rl_9, rl_10, rl_11, rl_12, rl_13, sp_0, sp_1, sp_2, sp_3, sp_4, sp_5, sp_6, sp_7, sp_8, sp_9, sp_10, sp_11, sp_12, sp_13, se_0, se_1, se_2, se_3, se_4, se_5, se_6, se_7, se_8, se_9, se_10, se_11, se_12, se_13, sem_0, sem_1, sem_2, sem_3, sem_4, sem_5, List.getD_cons_zero, List.getD_cons_succ, Bool.false_eq_true, wrn3, wrn1, cpmS, cpok9, if_true, if_false, ↓reduceIte, sr_15_1, sr_15_4, sr_15_6, sr_15_0, sr_15_2, sr_15_7, sr_15_5, kc_15, kl9_15, sr_15_8, sr_15_9, sr_26_3, sr_26_0, kl9_26, sr_26_10, sr_26_7, sr_26_12, sr_26_1, sr_26_2, kc_26, sr_26_11, kl9_27, sr_27_0, sr_27_15, sr_27_14, sr_27_6, sr_27_7, sr_27_3, sr_27_11, sr_27_9, sr_27_10, kc_27, sr_27_13, sr_27_8, sr_27_2, sr_27_12, sr_27_1, sr_27_4, sr_27_5, wc_59, wc_61, upm_app, Int.reduceEq, and_self, and_true, true_and, and_false, false_and, if_true, if_false, ↓reduceIte])
    | (with_reducible exact hq)
    | omega)
set_option maxHeartbeats 8000000 in
theorem f_58 {d : Nat} {tc e : Int} {g : Fg} {m : Mem} {Q : Int → Sto → Prop} (hJ : JC 3 g tc m) (ho : 0 ≤ m 26 8 ∧ m 26 8 ≤ 15) (hu : 0 ≤ m 26 9 ∧ m 26 9 ≤ 15) (hq : ∀ v m1, JC 3 g tc m1 → CPY m m1 (31 + 10 * ((m 26 8 + m 26 9) % 16)) 15 → Q v (S9 e (upm (upm (upm m1 26 4 0) 26 5 0) 26 6 0))) : Cl (d + 3) 58 [26] Q (S9 e m) := by
  have hL := JC_l hJ
  have b0 : 0 ≤ (m 26 8 + m 26 9) % 16 := by omega
  have b1 : (m 26 8 + m 26 9) % 16 ≤ 15 := by omega
  simp only [cl_58, runB, B58, ma_58, rho_2, wf_7_11, wf_7_31, wf_7_54, wpf_7_65, wpopadd_pf_7_65, wpf_7_68, wpopor_pf_7_68, wpf_7_71, wpopor_pf_7_71, wc_59, wc_61, w_cst, w_ldi, w_ldj, w_lda, w_ljk, w_ldk, w_ldw, w_ldk2, w_ldt, w_ldtw, w_neg, w_cvb, w_cvs, w_cvc, w_cvj, w_add, w_sub, w_mul, w_ban, w_bor, w_bxo, w_shl, w_shr, w_ush, w_dvi, w_rmi, w_aldi, w_aldj, w_aldz, w_aldc, w_alda, w_ite, w_cmp, w_cmj, w_cz, w_cnot, w_cand, w_cor, w_nil, w_cons, w_cvi, w_csta, w_cvt, w_cvv, w_csv, w_cpy, w_seq, w_sbr, w_sbn, w_brk, w_ifs, w_ifx, w_ife, w_wk, w_rets, w_rtv, w_thr, w_asi, w_asj, w_asa, w_inc, w_exs, w_asti, w_astj, w_astz, w_astc, w_aopadd, w_aopsub, w_sw, if_true, if_false, ↓reduceIte, hdl_c, S9_1, S9_m, bud9, live9, inb9, wrn, wr9_14, wr9_15, wr9_16, wr9_17, tq9_14, tq9_15, tq9_16, tq9_17, tq_0, tq_1, tq_3, upr_rl, rl_0, rl_1, rl_2, rl_3, rl_4, rl_5, rl_6, rl_7, rl_8, rl_9, rl_10, rl_11, rl_12, rl_13, sp_0, sp_1, sp_2, sp_3, sp_4, sp_5, sp_6, sp_7, sp_8, sp_9, sp_10, sp_11, sp_12, sp_13, se_0, se_1, se_2, se_3, se_4, se_5, se_6, se_7, se_8, se_9, se_10, se_11, se_12, se_13, sem_0, sem_1, sem_2, sem_3, sem_4, sem_5, sr_15_1, sr_15_4, sr_15_6, sr_15_0, sr_15_2, sr_15_7, sr_15_5, kc_15, kl9_15, sr_15_8, sr_15_9, sr_26_3, sr_26_0, kl9_26, sr_26_10, sr_26_7, sr_26_12, sr_26_1, sr_26_2, kc_26, sr_26_11, kl9_27, sr_27_0, sr_27_15, sr_27_14, sr_27_6, sr_27_7, sr_27_3, sr_27_11, sr_27_9, sr_27_10, kc_27, sr_27_13, sr_27_8, sr_27_2, sr_27_12, sr_27_1, sr_27_4, sr_27_5, List.getD_cons_zero, List.getD_cons_succ, Bool.false_eq_true, wrn3, wrn1, cpmS, cpok9, upm_app, Int.reduceEq, and_self, and_true, true_and, and_false, false_and, if_true, if_false, ↓reduceIte]
  repeat' (first
    | (with_reducible exact True.intro)
    | (with_reducible rfl)
    | (with_reducible contradiction)
    | (with_reducible refine And.intro ?_ ?_)
    | intro _
    | ((with_reducible refine p_59x ?_ ?_ ?_); (next => (try simp only [upm_app, Int.reduceEq, and_self, and_true, true_and, and_false, false_and, if_true, if_false, ↓reduceIte]); omega); (next => (try simp only [upm_app, Int.reduceEq, and_self, and_true, true_and, and_false, false_and, if_true, if_false, ↓reduceIte]); omega); simp only [hdl_c, S9_1, S9_m, bud9, live9, inb9, wrn, wr9_14, wr9_15, wr9_16, wr9_17, tq9_14, tq9_15, tq9_16, tq9_17, tq_0, tq_1, tq_3, upr_rl, rl_0, rl_1, rl_2, rl_3, rl_4, rl_5, rl_6, rl_7, rl_8, rl_9, rl_10, rl_11, rl_12, rl_13, sp_0, sp_1, sp_2, sp_3, sp_4, sp_5, sp_6, sp_7, sp_8, sp_9, sp_10, sp_11, sp_12, sp_13, se_0, se_1, se_2, se_3, se_4, se_5, se_6, se_7, se_8, se_9, se_10, se_11, se_12, se_13, sem_0, sem_1, sem_2, sem_3, sem_4, sem_5, List.getD_cons_zero, List.getD_cons_succ, Bool.false_eq_true, wrn3, wrn1, cpmS, cpok9, if_true, if_false, ↓reduceIte, sr_15_1, sr_15_4, sr_15_6, sr_15_0, sr_15_2, sr_15_7, sr_15_5, kc_15, kl9_15, sr_15_8, sr_15_9, sr_26_3, sr_26_0, kl9_26, sr_26_10, sr_26_7, sr_26_12, sr_26_1, sr_26_2, kc_26, sr_26_11, kl9_27, sr_27_0, sr_27_15, sr_27_14, sr_27_6, sr_27_7, sr_27_3, sr_27_11, sr_27_9, sr_27_10, kc_27, sr_27_13, sr_27_8, sr_27_2, sr_27_12, sr_27_1, sr_27_4, sr_27_5, wc_59, wc_61, upm_app, Int.reduceEq, and_self, and_true, true_and, and_false, false_and, if_true, if_false, ↓reduceIte])
    | ((with_reducible refine f_61 (g := g) (tc := tc) ?_ ?_ ?_ ?_ (fun v9 m9 hJ9 h9 => ?_)); (next => exact (sr27i b0 b1).2); (next => decide); (next => rw [sr27v b0 b1]; omega); (next => refine JC_of hL ?_ (by decide); repeat (first | assumption | (refine JC_up ?_ (by first | decide | (unfold frC; omega)) (by first | (simp [BdC, hnd]; done) | (simp [BdC, hnd, upm, cpf] <;> first | omega | (unfold w32; omega)))))); rw [sr27v b0 b1] at h9; simp only [hdl_c, S9_1, S9_m, bud9, live9, inb9, wrn, wr9_14, wr9_15, wr9_16, wr9_17, tq9_14, tq9_15, tq9_16, tq9_17, tq_0, tq_1, tq_3, upr_rl, rl_0, rl_1, rl_2, rl_3, rl_4, rl_5, rl_6, rl_7, rl_8, rl_9, rl_10, rl_11, rl_12, rl_13, sp_0, sp_1, sp_2, sp_3, sp_4, sp_5, sp_6, sp_7, sp_8, sp_9, sp_10, sp_11, sp_12, sp_13, se_0, se_1, se_2, se_3, se_4, se_5, se_6, se_7, se_8, se_9, se_10, se_11, se_12, se_13, sem_0, sem_1, sem_2, sem_3, sem_4, sem_5, List.getD_cons_zero, List.getD_cons_succ, Bool.false_eq_true, wrn3, wrn1, cpmS, cpok9, if_true, if_false, ↓reduceIte, sr_15_1, sr_15_4, sr_15_6, sr_15_0, sr_15_2, sr_15_7, sr_15_5, kc_15, kl9_15, sr_15_8, sr_15_9, sr_26_3, sr_26_0, kl9_26, sr_26_10, sr_26_7, sr_26_12, sr_26_1, sr_26_2, kc_26, sr_26_11, kl9_27, sr_27_0, sr_27_15, sr_27_14, sr_27_6, sr_27_7, sr_27_3, sr_27_11, sr_27_9, sr_27_10, kc_27, sr_27_13, sr_27_8, sr_27_2, sr_27_12, sr_27_1, sr_27_4, sr_27_5, wc_59, wc_61, upm_app, Int.reduceEq, and_self, and_true, true_and, and_false, false_and, if_true, if_false, ↓reduceIte])
    | (with_reducible refine (sr27i ?_ ?_).1.1 <;> omega)
    | (with_reducible refine (sr27i ?_ ?_).1.2.1 <;> omega)
    | (with_reducible refine (sr27i ?_ ?_).1.2.2 <;> omega)
    | (with_reducible exact hq _ _ hJ9 h9)
    | omega
    | decide)

set_option maxHeartbeats 8000000 in
theorem f_64 {d : Nat} {tc e : Int} {g : Fg} {m : Mem} {Q : Int → Sto → Prop} {a : Int} (hJ : JC 3 g tc m) (ho : 0 ≤ m 26 8 ∧ m 26 8 ≤ 15) (hu : 0 ≤ m 26 9 ∧ m 26 9 ≤ 15) (h0 : a < 0 → Q a (S9 e m)) (h1 : 0 ≤ a → m 26 9 < 15 → Q a (S9 e (upm m 26 9 (m 26 9 + 1)))) (h2 : 0 ≤ a → m 26 9 = 15 → Q a (S9 e (upm m 26 8 ((m 26 8 + 1) % 16)))) : Cl (d + 3) 64 [26, a] Q (S9 e m) := by
  have hL := JC_l hJ
  have ew : w32 (m 26 9 + 1) = m 26 9 + 1 := by unfold w32; omega
  simp only [cl_64, runB, B64, ma_64, rho_20, wf_7_54, wpf_7_44, wpf_7_54, wpopadd_pf_7_54, wpopsub_pf_7_54, wc_59, w_cst, w_ldi, w_ldj, w_lda, w_ljk, w_ldk, w_ldw, w_ldk2, w_ldt, w_ldtw, w_neg, w_cvb, w_cvs, w_cvc, w_cvj, w_add, w_sub, w_mul, w_ban, w_bor, w_bxo, w_shl, w_shr, w_ush, w_dvi, w_rmi, w_aldi, w_aldj, w_aldz, w_aldc, w_alda, w_ite, w_cmp, w_cmj, w_cz, w_cnot, w_cand, w_cor, w_nil, w_cons, w_cvi, w_csta, w_cvt, w_cvv, w_csv, w_cpy, w_seq, w_sbr, w_sbn, w_brk, w_ifs, w_ifx, w_ife, w_wk, w_rets, w_rtv, w_thr, w_asi, w_asj, w_asa, w_inc, w_exs, w_asti, w_astj, w_astz, w_astc, w_aopadd, w_aopsub, w_sw, if_true, if_false, ↓reduceIte, hdl_c, S9_1, S9_m, bud9, live9, inb9, wrn, wr9_14, wr9_15, wr9_16, wr9_17, tq9_14, tq9_15, tq9_16, tq9_17, tq_0, tq_1, tq_3, upr_rl, rl_0, rl_1, rl_2, rl_3, rl_4, rl_5, rl_6, rl_7, rl_8, rl_9, rl_10, rl_11, rl_12, rl_13, sp_0, sp_1, sp_2, sp_3, sp_4, sp_5, sp_6, sp_7, sp_8, sp_9, sp_10, sp_11, sp_12, sp_13, se_0, se_1, se_2, se_3, se_4, se_5, se_6, se_7, se_8, se_9, se_10, se_11, se_12, se_13, sem_0, sem_1, sem_2, sem_3, sem_4, sem_5, sr_15_1, sr_15_4, sr_15_6, sr_15_0, sr_15_2, sr_15_7, sr_15_5, kc_15, kl9_15, sr_15_8, sr_15_9, sr_26_3, sr_26_0, kl9_26, sr_26_10, sr_26_7, sr_26_12, sr_26_1, sr_26_2, kc_26, sr_26_11, kl9_27, sr_27_0, sr_27_15, sr_27_14, sr_27_6, sr_27_7, sr_27_3, sr_27_11, sr_27_9, sr_27_10, kc_27, sr_27_13, sr_27_8, sr_27_2, sr_27_12, sr_27_1, sr_27_4, sr_27_5, List.getD_cons_zero, List.getD_cons_succ, Bool.false_eq_true, wrn3, wrn1, cpmS, cpok9, upm_app, Int.reduceEq, and_self, and_true, true_and, and_false, false_and, if_true, if_false, ↓reduceIte, ew]
  repeat' (first
    | (with_reducible exact True.intro)
    | (with_reducible rfl)
    | (with_reducible contradiction)
    | (with_reducible refine And.intro ?_ ?_)
    | intro _
    | ((with_reducible refine p_59x ?_ ?_ ?_); (next => (try simp only [upm_app, Int.reduceEq, and_self, and_true, true_and, and_false, false_and, if_true, if_false, ↓reduceIte]); omega); (next => (try simp only [upm_app, Int.reduceEq, and_self, and_true, true_and, and_false, false_and, if_true, if_false, ↓reduceIte]); omega); simp only [hdl_c, S9_1, S9_m, bud9, live9, inb9, wrn, wr9_14, wr9_15, wr9_16, wr9_17, tq9_14, tq9_15, tq9_16, tq9_17, tq_0, tq_1, tq_3, upr_rl, rl_0, rl_1, rl_2, rl_3, rl_4, rl_5, rl_6, rl_7, rl_8, rl_9, rl_10, rl_11, rl_12, rl_13, sp_0, sp_1, sp_2, sp_3, sp_4, sp_5, sp_6, sp_7, sp_8, sp_9, sp_10, sp_11, sp_12, sp_13, se_0, se_1, se_2, se_3, se_4, se_5, se_6, se_7, se_8, se_9, se_10, se_11, se_12, se_13, sem_0, sem_1, sem_2, sem_3, sem_4, sem_5, List.getD_cons_zero, List.getD_cons_succ, Bool.false_eq_true, wrn3, wrn1, cpmS, cpok9, if_true, if_false, ↓reduceIte, sr_15_1, sr_15_4, sr_15_6, sr_15_0, sr_15_2, sr_15_7, sr_15_5, kc_15, kl9_15, sr_15_8, sr_15_9, sr_26_3, sr_26_0, kl9_26, sr_26_10, sr_26_7, sr_26_12, sr_26_1, sr_26_2, kc_26, sr_26_11, kl9_27, sr_27_0, sr_27_15, sr_27_14, sr_27_6, sr_27_7, sr_27_3, sr_27_11, sr_27_9, sr_27_10, kc_27, sr_27_13, sr_27_8, sr_27_2, sr_27_12, sr_27_1, sr_27_4, sr_27_5, wc_59, wc_61, upm_app, Int.reduceEq, and_self, and_true, true_and, and_false, false_and, if_true, if_false, ↓reduceIte])
    | ((with_reducible refine h0 ?_); omega)
    | ((with_reducible refine h1 ?_ ?_) <;> omega)
    | ((with_reducible refine h2 ?_ ?_) <;> omega)
    | omega)

set_option maxHeartbeats 8000000 in
theorem f_102 {d : Nat} {tc e : Int} {g : Fg} {m : Mem} {Q : Int → Sto → Prop} (hJ : JC 3 g tc m) (ho : 0 ≤ m 26 8 ∧ m 26 8 ≤ 15) (hu : 0 ≤ m 26 9 ∧ m 26 9 ≤ 15) (h0 : m 26 9 = 0 → Q (-1) (S9 e m)) (hq : ∀ m1, 0 < m 26 9 → JC 3 g tc m1 → CPY (upm m 26 9 (m 26 9 - 1)) m1 15 (31 + 10 * ((m 26 8 + (m 26 9 - 1)) % 16)) → Q (m1 26 9) (S9 e m1)) : Cl (d + 3) 102 [26] Q (S9 e m) := by
  have hL := JC_l hJ
  have b0 : 0 ≤ (m 26 8 + (m 26 9 - 1)) % 16 := by omega
  have b1 : (m 26 8 + (m 26 9 - 1)) % 16 ≤ 15 := by omega
  have ew : w32 (m 26 9 - 1) = m 26 9 - 1 := by unfold w32; omega
  simp only [cl_102, runB, B102, ma_102, rho_2, wf_7_11, wf_7_31, wf_7_54, wpf_7_54, wpopadd_pf_7_54, wpopsub_pf_7_54, wc_59, wc_61, w_cst, w_ldi, w_ldj, w_lda, w_ljk, w_ldk, w_ldw, w_ldk2, w_ldt, w_ldtw, w_neg, w_cvb, w_cvs, w_cvc, w_cvj, w_add, w_sub, w_mul, w_ban, w_bor, w_bxo, w_shl, w_shr, w_ush, w_dvi, w_rmi, w_aldi, w_aldj, w_aldz, w_aldc, w_alda, w_ite, w_cmp, w_cmj, w_cz, w_cnot, w_cand, w_cor, w_nil, w_cons, w_cvi, w_csta, w_cvt, w_cvv, w_csv, w_cpy, w_seq, w_sbr, w_sbn, w_brk, w_ifs, w_ifx, w_ife, w_wk, w_rets, w_rtv, w_thr, w_asi, w_asj, w_asa, w_inc, w_exs, w_asti, w_astj, w_astz, w_astc, w_aopadd, w_aopsub, w_sw, if_true, if_false, ↓reduceIte, hdl_c, S9_1, S9_m, bud9, live9, inb9, wrn, wr9_14, wr9_15, wr9_16, wr9_17, tq9_14, tq9_15, tq9_16, tq9_17, tq_0, tq_1, tq_3, upr_rl, rl_0, rl_1, rl_2, rl_3, rl_4, rl_5, rl_6, rl_7, rl_8, rl_9, rl_10, rl_11, rl_12, rl_13, sp_0, sp_1, sp_2, sp_3, sp_4, sp_5, sp_6, sp_7, sp_8, sp_9, sp_10, sp_11, sp_12, sp_13, se_0, se_1, se_2, se_3, se_4, se_5, se_6, se_7, se_8, se_9, se_10, se_11, se_12, se_13, sem_0, sem_1, sem_2, sem_3, sem_4, sem_5, sr_15_1, sr_15_4, sr_15_6, sr_15_0, sr_15_2, sr_15_7, sr_15_5, kc_15, kl9_15, sr_15_8, sr_15_9, sr_26_3, sr_26_0, kl9_26, sr_26_10, sr_26_7, sr_26_12, sr_26_1, sr_26_2, kc_26, sr_26_11, kl9_27, sr_27_0, sr_27_15, sr_27_14, sr_27_6, sr_27_7, sr_27_3, sr_27_11, sr_27_9, sr_27_10, kc_27, sr_27_13, sr_27_8, sr_27_2, sr_27_12, sr_27_1, sr_27_4, sr_27_5, List.getD_cons_zero, List.getD_cons_succ, Bool.false_eq_true, wrn3, wrn1, cpmS, cpok9, upm_app, Int.reduceEq, and_self, and_true, true_and, and_false, false_and, if_true, if_false, ↓reduceIte, ew]
  repeat' (first
    | (with_reducible exact True.intro)
    | (with_reducible rfl)
    | (with_reducible contradiction)
    | (with_reducible refine And.intro ?_ ?_)
    | intro _
    | ((with_reducible refine p_59x ?_ ?_ ?_); (next => (try simp only [upm_app, Int.reduceEq, and_self, and_true, true_and, and_false, false_and, if_true, if_false, ↓reduceIte]); omega); (next => (try simp only [upm_app, Int.reduceEq, and_self, and_true, true_and, and_false, false_and, if_true, if_false, ↓reduceIte]); omega); simp only [hdl_c, S9_1, S9_m, bud9, live9, inb9, wrn, wr9_14, wr9_15, wr9_16, wr9_17, tq9_14, tq9_15, tq9_16, tq9_17, tq_0, tq_1, tq_3, upr_rl, rl_0, rl_1, rl_2, rl_3, rl_4, rl_5, rl_6, rl_7, rl_8, rl_9, rl_10, rl_11, rl_12, rl_13, sp_0, sp_1, sp_2, sp_3, sp_4, sp_5, sp_6, sp_7, sp_8, sp_9, sp_10, sp_11, sp_12, sp_13, se_0, se_1, se_2, se_3, se_4, se_5, se_6, se_7, se_8, se_9, se_10, se_11, se_12, se_13, sem_0, sem_1, sem_2, sem_3, sem_4, sem_5, List.getD_cons_zero, List.getD_cons_succ, Bool.false_eq_true, wrn3, wrn1, cpmS, cpok9, if_true, if_false, ↓reduceIte, sr_15_1, sr_15_4, sr_15_6, sr_15_0, sr_15_2, sr_15_7, sr_15_5, kc_15, kl9_15, sr_15_8, sr_15_9, sr_26_3, sr_26_0, kl9_26, sr_26_10, sr_26_7, sr_26_12, sr_26_1, sr_26_2, kc_26, sr_26_11, kl9_27, sr_27_0, sr_27_15, sr_27_14, sr_27_6, sr_27_7, sr_27_3, sr_27_11, sr_27_9, sr_27_10, kc_27, sr_27_13, sr_27_8, sr_27_2, sr_27_12, sr_27_1, sr_27_4, sr_27_5, wc_59, wc_61, upm_app, Int.reduceEq, and_self, and_true, true_and, and_false, false_and, if_true, if_false, ↓reduceIte])
    | ((with_reducible refine f_61 (g := g) (tc := tc) ?_ ?_ ?_ ?_ (fun v9 m9 hJ9 h9 => ?_)); (next => decide); (next => exact (sr27i b0 b1).2); (next => rw [sr27v b0 b1]; omega); (next => refine JC_of hL ?_ (by decide); repeat (first | assumption | (refine JC_up ?_ (by first | decide | (unfold frC; omega)) (by first | (simp [BdC, hnd]; done) | (simp [BdC, hnd, upm, cpf] <;> first | omega | (unfold w32; omega)))))); rw [sr27v b0 b1] at h9; simp only [hdl_c, S9_1, S9_m, bud9, live9, inb9, wrn, wr9_14, wr9_15, wr9_16, wr9_17, tq9_14, tq9_15, tq9_16, tq9_17, tq_0, tq_1, tq_3, upr_rl, rl_0, rl_1, rl_2, rl_3, rl_4, rl_5, rl_6, rl_7, rl_8, rl_9, rl_10, rl_11, rl_12, rl_13, sp_0, sp_1, sp_2, sp_3, sp_4, sp_5, sp_6, sp_7, sp_8, sp_9, sp_10, sp_11, sp_12, sp_13, se_0, se_1, se_2, se_3, se_4, se_5, se_6, se_7, se_8, se_9, se_10, se_11, se_12, se_13, sem_0, sem_1, sem_2, sem_3, sem_4, sem_5, List.getD_cons_zero, List.getD_cons_succ, Bool.false_eq_true, wrn3, wrn1, cpmS, cpok9, if_true, if_false, ↓reduceIte, sr_15_1, sr_15_4, sr_15_6, sr_15_0, sr_15_2, sr_15_7, sr_15_5, kc_15, kl9_15, sr_15_8, sr_15_9, sr_26_3, sr_26_0, kl9_26, sr_26_10, sr_26_7, sr_26_12, sr_26_1, sr_26_2, kc_26, sr_26_11, kl9_27, sr_27_0, sr_27_15, sr_27_14, sr_27_6, sr_27_7, sr_27_3, sr_27_11, sr_27_9, sr_27_10, kc_27, sr_27_13, sr_27_8, sr_27_2, sr_27_12, sr_27_1, sr_27_4, sr_27_5, wc_59, wc_61, upm_app, Int.reduceEq, and_self, and_true, true_and, and_false, false_and, if_true, if_false, ↓reduceIte])
    | (with_reducible refine (sr27i ?_ ?_).1.1 <;> omega)
    | (with_reducible refine (sr27i ?_ ?_).1.2.1 <;> omega)
    | (with_reducible refine (sr27i ?_ ?_).1.2.2 <;> omega)
    | ((with_reducible refine h0 ?_); omega)
    | ((with_reducible refine hq _ ?_ hJ9 h9); omega)
    | omega
    | decide)

