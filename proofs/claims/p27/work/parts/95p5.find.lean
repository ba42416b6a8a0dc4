/-! 95p5.find -/
/-- the component's reckoning of a path -/
def pstC (m : Mem) : Int → Int → Int := wS (prC m) (m 10) (m 11) (m 8 1).toNat
def apC (m : Mem) (b y : Int) : Int := fwD (pstC m) (m 8 0).toNat y b
/-- the ways, as they are told -/
def WYC (m : Mem) : Prop := ∀ w, 0 ≤ w → w < m 8 1 → (0 ≤ m 10 w ∧ m 10 w < m 8 0) ∧ (0 ≤ m 11 w ∧ m 11 w < m 8 0) ∧ m 10 w ≠ m 11 w ∧ 1 ≤ m 12 w ∧ m 12 w ≤ 9
theorem prC_b {m : Mem} {w : Int} (h : 1 ≤ m 12 w ∧ m 12 w ≤ 9) : (prC m w = -1 ∨ 0 ≤ prC m w) ∧ prC m w ≤ 1000000000 ∧ (prC m w ≠ -1 → 1 ≤ prC m w ∧ prC m w ≤ 999) := by
  unfold prC; split <;> omega
theorem PTH_C {m : Mem} {b : Int} (hW : WYC m) (h8 : 0 ≤ m 8 0 ∧ m 8 0 ≤ 10) (hb : 0 ≤ b ∧ b < m 8 0) : PTH (prC m) (m 10) (m 11) (m 8 1).toNat (m 8 0) b (apC m b) := by
  have z := PTH_fw (pr := prC m) (o := m 10) (t := m 11) (W := (m 8 1).toNat) (N := (m 8 0).toNat) (n := m 8 0) (g := b) (by omega) (fun w q z => by
    obtain ⟨h1, h2, h3, h4⟩ := hW (w : Int) (by omega) (by omega)
    exact ⟨(prC_b h4).2.2 z, h1, h2⟩) hb
  exact z
set_option maxHeartbeats 8000000 in
theorem l115 {d : Nat} {tc e : Int} {g : Fg} {m : Mem} {a b : Int} {Kn Kb : Rho → Sto → Prop} {Kr : Int → Sto → Prop} (hJ : JC 3 g tc m) (hq : ∀ m' i, JC 3 g tc m' → (∀ x, x ≠ 192 → m' x = m x) → (∀ w, 0 ≤ w → w < m 8 1 → m' 192 w = prC m w) → Kn (rl [191, a, b, i]) (S9 e m')) : ((whl true 50 (cmp 2 (by decide) (ldi 3) (get f_8_32 (get f_8_24 (lda 0)))) (asti (get f_8_11 (lda 0)) (ldi 3) (ite 48 49 (cz 1 (by decide) (cvi v_8_43 (acons (get f_8_24 (lda 0)) (acons (ldi 3) (acons (get f_8_38 (get f_8_28 (lda 0))) (anil)))))) (aldi (get f_8_47 (get f_8_24 (lda 0))) (ldi 3)) (cst (-1)))) (inc 3 1)) : SX 8).1.2 (Cl (d + 4)) Kn Kb Kr (rl [191, a, b, 0]) (S9 e m) := by
  have hL := JC_l hJ
  have hs := JC_s hJ
  refine whl_i (fun k r u => ∃ (i : Int) (m9 : Mem), r = rl [191, a, b, i] ∧ u = S9 e m9 ∧ JC 3 g tc m9 ∧ (∀ x, x ≠ 192 → m9 x = m x) ∧ (0 ≤ i ∧ i ≤ m 8 1 ∧ i + k = m 8 1 + 1) ∧ (∀ w, 0 ≤ w → w < i → m9 192 w = prC m w)) ((m 8 1).toNat + 1) ?_ ?_
  next => exact ⟨0, m, rfl, rfl, hJ, fun _ _ => rfl, ⟨by omega, by omega, by omega⟩, fun w w0 w1 => absurd w1 (by omega)⟩
  rintro k r u0 ⟨i, m9, rfl, rfl, hJ9, hF9, ⟨hi, hn, hk⟩, hA9⟩
  have q8 : m9 8 = m 8 := hF9 8 (by decide)
  have q12 : m9 12 = m 12 := hF9 12 (by decide)
  have q15 : m9 15 = m 15 := hF9 15 (by decide)
  have b12 := JC_12 hJ i
  have ew : w32 (i + 1) = i + 1 := w32_eq (by omega) (by omega)
  simp only [cl_115, runB, B115, ma_115, rho_200, wf_8_11, wf_8_15, wf_8_24, wf_8_28, wf_8_32, wf_8_38, wf_8_47, wpf_8_50, wpopadd_pf_8_50, wpf_8_56, wc_71, wc_116, wc_118, cl_71, B71, ma_71, wc_72, cl_72, B72, ma_72, rho_20, wf_4_43, w_cst, w_ldi, w_ldj, w_lda, w_ljk, w_ldk, w_ldw, w_ldk2, w_ldt, w_ldtw, w_neg, w_cvb, w_cvs, w_cvc, w_cvj, w_add, w_sub, w_mul, w_ban, w_bor, w_bxo, w_shl, w_shr, w_ush, w_dvi, w_rmi, w_aldi, w_aldj, w_aldz, w_aldc, w_alda, w_ite, w_cmp, w_cmj, w_cz, w_cnot, w_cand, w_cor, w_nil, w_cons, w_cvi, w_csta, w_cvt, w_cvv, w_csv, w_cpy, w_seq, w_sbr, w_sbn, w_brk, w_ifs, w_ifx, w_ife, w_wk, w_rets, w_rtv, w_thr, w_asi, w_asj, w_asa, w_inc, w_exs, w_asti, w_astj, w_astz, w_astc, w_aopadd, w_aopsub, w_sw, if_true, if_false, ↓reduceIte, hdl_c, S9_1, S9_m, bud9, live9, inb9, wrn, wr9_14, wr9_15, wr9_16, wr9_17, tq9_14, tq9_15, tq9_16, tq9_17, tq_0, tq_1, tq_3, upr_rl, rl_0, rl_1, rl_2, rl_3, rl_4, rl_5, rl_6, rl_7, rl_8, rl_9, rl_10, rl_11, rl_12, rl_13, sp_0, sp_1, sp_2, sp_3, sp_4, sp_5, sp_6, sp_7, sp_8, sp_9, sp_10, sp_11, sp_12, sp_13, se_0, se_1, se_2, se_3, se_4, se_5, se_6, se_7, se_8, se_9, se_10, se_11, se_12, se_13, sem_0, sem_1, sem_2, sem_3, sem_4, sem_5, kc_191, kl9_191, sr_191_0, sr_191_1, sr_191_2, sr_191_3, sr_191_4, sr_191_5, kc_192, kl9_192, kc_193, kl9_193, kc_194, kl9_194, kc_195, kl9_195, kc_8, kl9_8, sr_8_10, sr_8_4, sr_8_5, sr_8_6, sr_8_7, sr_8_9, kc_9, kl9_9, kc_10, kl9_10, kc_11, kl9_11, kc_12, kl9_12, kc_15, kl9_15, sr_15_0, sr_15_1, sr_15_2, sr_15_4, sr_15_5, sr_15_6, sr_15_7, sr_15_8, sr_15_9, List.getD_cons_zero, List.getD_cons_succ, Bool.false_eq_true, wrn3, wrn1, cpmS, cpok9, upm_app, Int.reduceEq, and_self, and_true, true_and, and_false, false_and, if_true, if_false, ↓reduceIte, Int.reduceToNat, upm_f, Int.reduceEq, Int.reduceNe, ne_eq, not_false_eq_true, not_true_eq_false, ew, q8, q12, q15]
  repeat' (first
    | (with_reducible exact True.intro)
    | (with_reducible exact False.elim)
    | (with_reducible rfl)
    | (with_reducible refine And.intro ?_ ?_)
    | intro _
    | ((with_reducible refine ⟨k - 1, ?_, i + 1, _, rfl, rfl, ?_, ?_, ⟨?_, ?_, ?_⟩, ?_⟩); (next => omega); (next => with_reducible (refine JC_of hL ?_ (by decide); repeat (first | assumption | (refine JC_up ?_ (by first | decide | (unfold frC; omega)) (by first | (simp [BdC, hnd]; done) | (simp [BdC, hnd, upm, cpf] <;> first | omega | (unfold w32; omega)))))); done); (next => intro x9 hx; rw [upm_f _ _ _ _ _ hx]; exact hF9 x9 hx); (next => omega); (next => omega); (next => omega); (next => intro w w0 w1; by_cases z : w = i; (next => rw [z, upm_v]; unfold prC; first | (rw [if_pos (by omega)]; done) | (rw [if_neg (by omega)]; done)); (next => rw [upm_k z]; exact hA9 w w0 (by omega))))
    | ((with_reducible refine hq _ _ hJ9 hF9 ?_); intro w w0 w1; exact hA9 w w0 (by omega))
    | omega
    | (with_reducible contradiction)
    | (exfalso; omega)
    | (unfold w32; omega)
    | (simp (disch := omega) only [w32_eq]; omega)
    | (with_reducible show (_ : Int) ≤ _; simp [upm] <;> (first | omega | (unfold w32; omega)))
    | (with_reducible show (_ : Int) < _; simp [upm] <;> (first | omega | (unfold w32; omega))))
