section
/-! the reference's rows copied, to the letter -/
theorem cpf_0 (m : Mem) (a i b j : Int) : cpf m a i b j 0 = m := by
  funext x y
  unfold cpf
  rw [if_neg (by omega)]
theorem cpf_s {m : Mem} {a i b j n p v n1 : Int} (hn : 0 ≤ n) (hp : p = j + n) (hv : v = m a (i + n)) (h1 : n1 = n + 1) : upm (cpf m a i b j n) b p v = cpf m a i b j n1 := by
  subst hp hv h1
  funext x y
  unfold upm cpf
  by_cases h : x = b ∧ y = j + n
  · obtain ⟨rfl, rfl⟩ := h
    rw [if_pos ⟨rfl, rfl⟩, if_pos ⟨rfl, by omega, by omega⟩]
    congr 1; omega
  · rw [if_neg h]
    by_cases h2 : x = b ∧ j ≤ y ∧ y < j + n
    · rw [if_pos h2, if_pos ⟨h2.1, h2.2.1, by omega⟩]
    · rw [if_neg h2, if_neg (by rintro ⟨q1, q2, q3⟩; by_cases z : y = j + n; exact h ⟨q1, z⟩; exact h2 ⟨q1, q2, by omega⟩)]
theorem cpf_n {m : Mem} {a i b j n x : Int} (h : x ≠ b) : cpf m a i b j n x = m x := by
  funext y
  unfold cpf
  rw [if_neg (fun q => h q.1)]
theorem cpf_hi {m : Mem} {a i b j n x y : Int} (h : x = b → y < j ∨ j + n ≤ y) : cpf m a i b j n x y = m x y := by
  unfold cpf
  rw [if_neg (fun q => by have := h q.1; omega)]
theorem BdR_cpf {tc pl a i b j n : Int} {m : Mem} (h : ∀ a j, BdR tc pl a j (m a j)) (hv : ∀ y, j ≤ y → y < j + n → BdR tc pl b y (m a (y - j + i))) (x y : Int) : BdR tc pl x y (cpf m a i b j n x y) := by
  unfold cpf
  by_cases q : x = b ∧ j ≤ y ∧ y < j + n
  · rw [if_pos q]; rw [q.1]; exact hv y q.2.1 q.2.2
  · rw [if_neg q]; exact h x y
theorem p_215x {d : Nat} {e : Int} {m : Mem} {Q : Int → Sto → Prop} (hu : 0 ≤ m 249 39 ∧ m 249 39 ≤ 15) (hq : ∀ v, Q v (S9 e (cpf m 258 0 269 (52 * m 249 39) 52))) : Cl (d + 1) 215 [249] Q (S9 e m) := by
  simp only [cl_215, runB, B215, ma_215, rho_2, wf_13_260, wf_13_36, wf_13_69, w_cst, w_ldi, w_ldj, w_lda, w_ljk, w_ldk, w_ldw, w_ldk2, w_ldt, w_ldtw, w_neg, w_cvb, w_cvs, w_cvc, w_cvj, w_add, w_sub, w_mul, w_ban, w_bor, w_bxo, w_shl, w_shr, w_ush, w_dvi, w_rmi, w_aldi, w_aldj, w_aldz, w_aldc, w_alda, w_ite, w_cmp, w_cmj, w_cz, w_cnot, w_cand, w_cor, w_nil, w_cons, w_cvi, w_csta, w_cvt, w_cvv, w_csv, w_cpy, w_seq, w_sbr, w_sbn, w_brk, w_ifs, w_ifx, w_ife, w_wk, w_rets, w_rtv, w_thr, w_asi, w_asj, w_asa, w_inc, w_exs, w_asti, w_astj, w_astz, w_astc, w_aopadd, w_aopsub, w_sw, if_true, if_false, ↓reduceIte, hdl_c, S9_1, S9_m, bud9, live9, inb9, wrn, wr9_14, wr9_15, wr9_16, wr9_17, tq9_14, tq9_15, tq9_16, tq9_17, tq_0, tq_1, tq_3, upr_rl, rl_0, rl_1, rl_2, rl_3, rl_4, rl_5, rl_6, rl_7, rl_8, rl_9, rl_10, rl_11, rl_12, rl_13, sp_0, sp_1, sp_2, sp_3, sp_4, sp_5, sp_6, sp_7, sp_8, sp_9, sp_10, sp_11, sp_12, sp_13, se_0, se_1, se_2, se_3, se_4, se_5, se_6, se_7, se_8, se_9, se_10, se_11, se_12, se_13, sem_0, sem_1, sem_2, sem_3, sem_4, sem_5, sr_249_14, sr_249_57, sr_249_51, sr_249_16, sr_249_34, sr_249_40, sr_249_55, sr_249_42, sr_249_71, sr_249_58, sr_249_70, sr_249_23, sr_249_9, sr_249_8, sr_249_25, sr_249_64, sr_249_2, sr_249_50, sr_249_63, sr_249_13, sr_249_15, sr_249_35, sr_249_22, sr_249_67, sr_249_54, sr_249_41, sr_249_10, sr_249_17, sr_249_12, sr_249_61, sr_249_31, sr_249_69, sr_249_30, sr_249_11, sr_249_24, kl9_249, kc_249, sr_249_68, sr_249_52, sr_249_43, kc_258, kl9_258, kl9_269, kc_269, List.getD_cons_zero, List.getD_cons_succ, Bool.false_eq_true, wrn3, wrn1, cpmS, cpok9, upm_app, Int.reduceEq, and_self, and_true, true_and, and_false, false_and, if_true, if_false, ↓reduceIte, Int.reduceNe, ne_eq, not_false_eq_true, cpf_n]
  repeat' (first
    | (with_reducible exact True.intro)
    | omega
    | (with_reducible rfl)
    | (with_reducible contradiction)
    | (with_reducible refine And.intro ?_ ?_)
    | intro _
    | ((with_reducible refine whl_i (fun k r u => ∃ (i : Int), r = rl [249, i] ∧ u = S9 e (cpf m 258 0 269 (52 * m 249 39) i) ∧ 0 ≤ i ∧ i + k = 52) 52 ?_ ?_); (next => exact ⟨0, rfl, by rw [cpf_0], by decide, by decide⟩); (rintro k r u ⟨i, rfl, rfl, h9a, h9b⟩); simp only [cl_215, runB, B215, ma_215, rho_2, wf_13_260, wf_13_36, wf_13_69, w_cst, w_ldi, w_ldj, w_lda, w_ljk, w_ldk, w_ldw, w_ldk2, w_ldt, w_ldtw, w_neg, w_cvb, w_cvs, w_cvc, w_cvj, w_add, w_sub, w_mul, w_ban, w_bor, w_bxo, w_shl, w_shr, w_ush, w_dvi, w_rmi, w_aldi, w_aldj, w_aldz, w_aldc, w_alda, w_ite, w_cmp, w_cmj, w_cz, w_cnot, w_cand, w_cor, w_nil, w_cons, w_cvi, w_csta, w_cvt, w_cvv, w_csv, w_cpy, w_seq, w_sbr, w_sbn, w_brk, w_ifs, w_ifx, w_ife, w_wk, w_rets, w_rtv, w_thr, w_asi, w_asj, w_asa, w_inc, w_exs, w_asti, w_astj, w_astz, w_astc, w_aopadd, w_aopsub, w_sw, if_true, if_false, ↓reduceIte, hdl_c, S9_1, S9_m, bud9, live9, inb9, wrn, wr9_14, wr9_15, wr9_16, wr9_17, tq9_14, tq9_15, tq9_16, tq9_17, tq_0, tq_1, tq_3, upr_rl, rl_0, rl_1, rl_2, rl_3, rl_4, rl_5, rl_6, rl_7, rl_8, rl_9, rl_10, rl_11, rl_12, rl_13, sp_0, sp_1, sp_2, sp_3, sp_4, sp_5, sp_6, sp_7, sp_8, sp_9, sp_10, sp_11, sp_12, sp_13, se_0, se_1, se_2, se_3, se_4, se_5, se_6, se_7, se_8, se_9, se_10, se_11, se_12, se_13, sem_0, sem_1, sem_2, sem_3, sem_4, sem_5, sr_249_14, sr_249_57, sr_249_51, sr_249_16, sr_249_34, sr_249_40, sr_249_55, sr_249_42, sr_249_71, sr_249_58, sr_249_70, sr_249_23, sr_249_9, sr_249_8, sr_249_25, sr_249_64, sr_249_2, sr_249_50, sr_249_63, sr_249_13, sr_249_15, sr_249_35, sr_249_22, sr_249_67, sr_249_54, sr_249_41, sr_249_10, sr_249_17, sr_249_12, sr_249_61, sr_249_31, sr_249_69, sr_249_30, sr_249_11, sr_249_24, kl9_249, kc_249, sr_249_68, sr_249_52, sr_249_43, kc_258, kl9_258, kl9_269, kc_269, List.getD_cons_zero, List.getD_cons_succ, Bool.false_eq_true, wrn3, wrn1, cpmS, cpok9, upm_app, Int.reduceEq, and_self, and_true, true_and, and_false, false_and, if_true, if_false, ↓reduceIte, Int.reduceNe, ne_eq, not_false_eq_true, cpf_n])
    | ((obtain rfl : i = 52 := (by omega)); exact hq _)
    | ((refine ⟨k - 1, ?_, w32 (i + 1), rfl, ?_, ?_, ?_⟩); (next => omega); (next => exact congrArg (S9 e) (cpf_s h9a (by unfold w32; omega) (by congr 1; omega) (by unfold w32; omega))); (next => unfold w32; omega); (next => unfold w32; omega))
    | (unfold w32; omega)
    | (simp (disch := omega) only [w32_eq]; omega)
    | (with_reducible show (_ : Int) ≤ _; simp [upm] <;> (first | omega | (unfold w32; omega)))
    | (with_reducible show (_ : Int) < _; simp [upm] <;> (first | omega | (unfold w32; omega))))

theorem p_213x {d : Nat} {e : Int} {m : Mem} {Q : Int → Sto → Prop} (hu : 0 ≤ m 249 39 ∧ m 249 39 ≤ 15) (h0 : m 249 39 = 0 → Q (-1) (S9 e (upm m 249 0 0))) (hq : 0 < m 249 39 → Q (m 249 39 - 1) (S9 e (cpf (upm (upm m 249 0 0) 249 39 (m 249 39 - 1)) 269 (52 * (m 249 39 - 1)) 258 0 52))) : Cl (d + 1) 213 [249] Q (S9 e m) := by
  have ew : w32 (m 249 39 - 1) = m 249 39 - 1 := by unfold w32; omega
  simp only [cl_213, runB, B213, ma_213, rho_2, wf_13_260, wf_13_36, wf_13_69, wpf_13_126, wpf_13_260, wpopadd_pf_13_260, wpopsub_pf_13_260, w_cst, w_ldi, w_ldj, w_lda, w_ljk, w_ldk, w_ldw, w_ldk2, w_ldt, w_ldtw, w_neg, w_cvb, w_cvs, w_cvc, w_cvj, w_add, w_sub, w_mul, w_ban, w_bor, w_bxo, w_shl, w_shr, w_ush, w_dvi, w_rmi, w_aldi, w_aldj, w_aldz, w_aldc, w_alda, w_ite, w_cmp, w_cmj, w_cz, w_cnot, w_cand, w_cor, w_nil, w_cons, w_cvi, w_csta, w_cvt, w_cvv, w_csv, w_cpy, w_seq, w_sbr, w_sbn, w_brk, w_ifs, w_ifx, w_ife, w_wk, w_rets, w_rtv, w_thr, w_asi, w_asj, w_asa, w_inc, w_exs, w_asti, w_astj, w_astz, w_astc, w_aopadd, w_aopsub, w_sw, if_true, if_false, ↓reduceIte, hdl_c, S9_1, S9_m, bud9, live9, inb9, wrn, wr9_14, wr9_15, wr9_16, wr9_17, tq9_14, tq9_15, tq9_16, tq9_17, tq_0, tq_1, tq_3, upr_rl, rl_0, rl_1, rl_2, rl_3, rl_4, rl_5, rl_6, rl_7, rl_8, rl_9, rl_10, rl_11, rl_12, rl_13, sp_0, sp_1, sp_2, sp_3, sp_4, sp_5, sp_6, sp_7, sp_8, sp_9, sp_10, sp_11, sp_12, sp_13, se_0, se_1, se_2, se_3, se_4, se_5, se_6, se_7, se_8, se_9, se_10, se_11, se_12, se_13, sem_0, sem_1, sem_2, sem_3, sem_4, sem_5, sr_249_14, sr_249_57, sr_249_51, sr_249_16, sr_249_34, sr_249_40, sr_249_55, sr_249_42, sr_249_71, sr_249_58, sr_249_70, sr_249_23, sr_249_9, sr_249_8, sr_249_25, sr_249_64, sr_249_2, sr_249_50, sr_249_63, sr_249_13, sr_249_15, sr_249_35, sr_249_22, sr_249_67, sr_249_54, sr_249_41, sr_249_10, sr_249_17, sr_249_12, sr_249_61, sr_249_31, sr_249_69, sr_249_30, sr_249_11, sr_249_24, kl9_249, kc_249, sr_249_68, sr_249_52, sr_249_43, kc_258, kl9_258, kl9_269, kc_269, List.getD_cons_zero, List.getD_cons_succ, Bool.false_eq_true, wrn3, wrn1, cpmS, cpok9, upm_app, Int.reduceEq, and_self, and_true, true_and, and_false, false_and, if_true, if_false, ↓reduceIte, Int.reduceNe, ne_eq, not_false_eq_true, cpf_n, ew]
  repeat' (first
    | (with_reducible exact True.intro)
    | omega
    | (with_reducible rfl)
    | (with_reducible contradiction)
    | (with_reducible refine And.intro ?_ ?_)
    | intro _
    | ((with_reducible refine whl_i (fun k r u => ∃ (i : Int), r = rl [249, i] ∧ u = S9 e (cpf (upm (upm m 249 0 0) 249 39 (m 249 39 - 1)) 269 (52 * (m 249 39 - 1)) 258 0 i) ∧ 0 ≤ i ∧ i + k = 52) 52 ?_ ?_); (next => exact ⟨0, rfl, by rw [cpf_0], by decide, by decide⟩); (rintro k r u ⟨i, rfl, rfl, h9a, h9b⟩); simp only [cl_213, runB, B213, ma_213, rho_2, wf_13_260, wf_13_36, wf_13_69, wpf_13_126, wpf_13_260, wpopadd_pf_13_260, wpopsub_pf_13_260, w_cst, w_ldi, w_ldj, w_lda, w_ljk, w_ldk, w_ldw, w_ldk2, w_ldt, w_ldtw, w_neg, w_cvb, w_cvs, w_cvc, w_cvj, w_add, w_sub, w_mul, w_ban, w_bor, w_bxo, w_shl, w_shr, w_ush, w_dvi, w_rmi, w_aldi, w_aldj, w_aldz, w_aldc, w_alda, w_ite, w_cmp, w_cmj, w_cz, w_cnot, w_cand, w_cor, w_nil, w_cons, w_cvi, w_csta, w_cvt, w_cvv, w_csv, w_cpy, w_seq, w_sbr, w_sbn, w_brk, w_ifs, w_ifx, w_ife, w_wk, w_rets, w_rtv, w_thr, w_asi, w_asj, w_asa, w_inc, w_exs, w_asti, w_astj, w_astz, w_astc, w_aopadd, w_aopsub, w_sw, if_true, if_false, ↓reduceIte, hdl_c, S9_1, S9_m, bud9, live9, inb9, wrn, wr9_14, wr9_15, wr9_16, wr9_17, tq9_14, tq9_15, tq9_16, tq9_17, tq_0, tq_1, tq_3, upr_rl, rl_0, rl_1, rl_2, rl_3, rl_4, rl_5, rl_6, rl_7, rl_8, rl_9, rl_10, rl_11, rl_12, rl_13, sp_0, sp_1, sp_2, sp_3, sp_4, sp_5, sp_6, sp_7, sp_8, sp_9, sp_10, sp_11, sp_12, sp_13, se_0, se_1, se_2, se_3, se_4, se_5, se_6, se_7, se_8, se_9, se_10, se_11, se_12, se_13, sem_0, sem_1, sem_2, sem_3, sem_4, sem_5, sr_249_14, sr_249_57, sr_249_51, sr_249_16, sr_249_34, sr_249_40, sr_249_55, sr_249_42, sr_249_71, sr_249_58, sr_249_70, sr_249_23, sr_249_9, sr_249_8, sr_249_25, sr_249_64, sr_249_2, sr_249_50, sr_249_63, sr_249_13, sr_249_15, sr_249_35, sr_249_22, sr_249_67, sr_249_54, sr_249_41, sr_249_10, sr_249_17, sr_249_12, sr_249_61, sr_249_31, sr_249_69, sr_249_30, sr_249_11, sr_249_24, kl9_249, kc_249, sr_249_68, sr_249_52, sr_249_43, kc_258, kl9_258, kl9_269, kc_269, List.getD_cons_zero, List.getD_cons_succ, Bool.false_eq_true, wrn3, wrn1, cpmS, cpok9, upm_app, Int.reduceEq, and_self, and_true, true_and, and_false, false_and, if_true, if_false, ↓reduceIte, Int.reduceNe, ne_eq, not_false_eq_true, cpf_n, ew])
    | ((with_reducible refine h0 ?_); omega)
    | ((obtain rfl : i = 52 := (by omega)); exact hq (by omega))
    | ((refine ⟨k - 1, ?_, w32 (i + 1), rfl, ?_, ?_, ?_⟩); (next => omega); (next => exact congrArg (S9 e) (cpf_s h9a (by omega) (by simp only [upm_app, Int.reduceEq, and_self, and_true, true_and, and_false, false_and, if_true, if_false, ↓reduceIte, Int.reduceNe, ne_eq, not_false_eq_true]; congr 1; unfold w32; omega) (by unfold w32; omega))); (next => unfold w32; omega); (next => unfold w32; omega))
    | (unfold w32; omega)
    | (simp (disch := omega) only [w32_eq]; omega)
    | (with_reducible show (_ : Int) ≤ _; simp [upm] <;> (first | omega | (unfold w32; omega)))
    | (with_reducible show (_ : Int) < _; simp [upm] <;> (first | omega | (unfold w32; omega))))
end
section
/-! seconds that go by in a walk and in pass -/
def aWalk (R : ENV → Int) (BE CO : Int → Int) (P H : Nat) (W : Int) (O T S D : Int → Int) (x : AS) (a b : Int) : AR := if ¬ per H a then (-1, x) else if ¬ (per W b ∧ (O b = x 3 a ∨ T b = x 3 a)) then (-2, x) else if ¬ (D b = 0 ∨ iand (ishr (x 10 0) b) 1 ≠ 0) then (-3, x) else (S b, asU (secs R BE CO P H (S b).toNat x) 3 a (if O b = x 3 a then T b else O b))
theorem sec_3 {R : ENV → Int} {BE CO : Int → Int} {P H : Nat} {x : AS} {f p : Int} (hf : f = 3 ∨ f = 7 ∨ (f = 10 ∧ p = 0)) (h6 : ∀ p : Int, 0 ≤ p → p < H → 0 ≤ x 6 p ∧ x 6 p ≤ 1) : sec R BE CO P H x f p = x f p := by
  have e1 : ∀ n : Nat, (n : Int) ≤ H → hlds R BE n x f p = x f p := by
    intro n
    induction n with
    | zero => intro _; rfl
    | succ n ih =>
      intro hn
      have h6n := hlds_6 (R := R) (BE := BE) (x := x) n n (fun p h0 h1 => h6 p h0 (by omega))
      have hh := h6 n (by omega) (by omega)
      show holdS R BE n (hlds R BE n x) f p = _
      have key : ∀ y : AS, 0 ≤ y 6 n ∧ y 6 n ≤ 1 → holdS R BE n y f p = y f p := fun y hy => by
        unfold holdS
        split
        · split
          · rw [asU_app, if_neg (by omega), asU_app, if_neg (by omega), asU_app, if_neg (by omega), asU_app, if_neg (by omega), asU_app, if_neg (by omega), asU_app, if_neg (by omega), asU_app, if_neg (by omega), asU_app, if_neg (by omega)]
          · rw [asU_app, if_neg (by omega)]
        · rfl
      rw [key _ (by rw [h6n]; exact hh)]
      exact ih (by omega)
  have e2 : ∀ (n : Nat) (y : AS), clds n y f p = y f p := by
    intro n
    induction n with
    | zero => intro _; rfl
    | succ n ih => intro y; show coolS n (clds n y) f p = _; rw [coolS_n (Or.inr (by omega)), ih]
  have e3 : ∀ (n : Nat) (y : AS), ptds CO n y f p = y f p := by
    intro n
    induction n with
    | zero => intro _; rfl
    | succ n ih => intro y; show asU (ptds CO n y) 0 n _ f p = _; rw [asU_app, if_neg (by omega), ih]
  show asU (ptds CO P (clds H (hlds R BE H x))) 10 1 _ f p = _
  rw [asU_app, if_neg (by omega), e3, e2, e1 H (Int.le_refl _)]
theorem secs_3 {R : ENV → Int} {BE CO : Int → Int} {L : Int} {P H : Nat} {f p : Int} (hf : f = 3 ∨ f = 7 ∨ (f = 10 ∧ p = 0)) (hc : ∀ q : Int, 0 ≤ q → q < P → 0 ≤ CO q ∧ CO q ≤ 9) : ∀ (n : Nat) (x : AS), IV L P H x → secs R BE CO P H n x f p = x f p
  | 0, _, _ => rfl
  | n + 1, x, h => by
    show secs R BE CO P H n (sec R BE CO P H x) f p = _
    rw [secs_3 hf hc n _ (IV_sec h hc), sec_3 hf (fun p p0 p1 => (h.1 p p0 p1).2.2.1)]
theorem walk_e {R : ENV → Int} {BE BE' CO CO' : Int → Int} {L W : Int} {P H : Nat} {O T S D O' T' S' D' : Int → Int} {x y : AS} {a b : Int} (h : IV L P H x) (e : SE P H x y) (n : SN x y) (hb : ∀ p : Int, 0 ≤ p → p < H → BE p = BE' p) (hc : ∀ q : Int, 0 ≤ q → q < P → CO q = CO' q) (hk : ∀ q : Int, 0 ≤ q → q < P → 0 ≤ CO q ∧ CO q ≤ 9) (hw : ∀ w, 0 ≤ w → w < W → O w = O' w ∧ T w = T' w ∧ S w = S' w ∧ (D w = 0 ↔ D' w = 0)) : AE P H (aWalk R BE CO P H W O T S D x a b) (aWalk R BE' CO' P H W O' T' S' D' y a b) := by
  unfold aWalk
  refine AE_if Iff.rfl (fun _ => ⟨rfl, e, n⟩) (fun z => ?_)
  have ha : per H a := Decidable.not_not.mp z
  have e3 := e.2.1 3 a (by decide) (by decide) ha.1 ha.2
  rw [← e3, ← e.2.2.1]
  refine AE_if ?_ (fun _ => ⟨rfl, e, n⟩) (fun w => ?_)
  · by_cases q : per W b
    · obtain ⟨w1, w2, -⟩ := hw b q.1 q.2
      rw [w1, w2]
    · constructor <;> (intro _ r; exact q r.1)
  · have q := (Decidable.not_not.mp w).1
    obtain ⟨w1, w2, w3, w4⟩ := hw b q.1 q.2
    refine AE_if (by rw [w4]) (fun _ => ⟨rfl, e, n⟩) (fun _ => ?_)
    obtain ⟨s1, s2⟩ := SE_secs (R := R) hb hc hk (S b).toNat x y h e n
    refine ⟨w3, ?_, ?_⟩
    · rw [← w3, ← w1, ← w2]; exact SE_U _ _ s1 rfl
    · rw [← w3, ← w1, ← w2]; exact SN_U _ _ s2 rfl
theorem walk_i {R : ENV → Int} {BE CO : Int → Int} {L W : Int} {P H : Nat} {O T S D : Int → Int} {x : AS} {a b : Int} (h : IV L P H x) (hk : ∀ q : Int, 0 ≤ q → q < P → 0 ≤ CO q ∧ CO q ≤ 9) (hw : ∀ w, 0 ≤ w → w < W → (0 ≤ O w ∧ O w < L) ∧ (0 ≤ T w ∧ T w < L)) : IV L P H (aWalk R BE CO P H W O T S D x a b).2 := by
  unfold aWalk
  split
  · exact h
  · split
    · exact h
    · split
      · exact h
      · rename_i z1 z2 z3
        have q := (Decidable.not_not.mp z2).1
        obtain ⟨w1, w2⟩ := hw b q.1 q.2
        exact IV_6 (IV_secs hk _ _ h) (Or.inr ⟨rfl, by split <;> omega, by split <;> omega⟩)
set_option maxHeartbeats 4000000 in
theorem p_69x {d : Nat} {e : Int} {m : Mem} {Q : Int → Sto → Prop} {a b : Int} (hW : 0 ≤ m 8 1 ∧ m 8 1 ≤ 14) (c0 : ¬ (0 ≤ a ∧ a < m 8 1) → Q (-1) (S9 e m)) (c1 : (0 ≤ a ∧ a < m 8 1) → ∀ v, v = (if m 10 a = b then m 11 a else if m 11 a = b then m 10 a else -1) → Q v (S9 e m)) : Cl (d + 2) 69 [8, a, b] Q (S9 e m) := by
  simp only [cl_69, runB, B69, ma_69, rho_200, wf_4_15, wf_4_18, wc_70, cl_70, B70, ma_70, rho_20, wf_4_34, w_cst, w_ldi, w_ldj, w_lda, w_ljk, w_ldk, w_ldw, w_ldk2, w_ldt, w_ldtw, w_neg, w_cvb, w_cvs, w_cvc, w_cvj, w_add, w_sub, w_mul, w_ban, w_bor, w_bxo, w_shl, w_shr, w_ush, w_dvi, w_rmi, w_aldi, w_aldj, w_aldz, w_aldc, w_alda, w_ite, w_cmp, w_cmj, w_cz, w_cnot, w_cand, w_cor, w_nil, w_cons, w_cvi, w_csta, w_cvt, w_cvv, w_csv, w_cpy, w_seq, w_sbr, w_sbn, w_brk, w_ifs, w_ifx, w_ife, w_wk, w_rets, w_rtv, w_thr, w_asi, w_asj, w_asa, w_inc, w_exs, w_asti, w_astj, w_astz, w_astc, w_aopadd, w_aopsub, w_sw, if_true, if_false, ↓reduceIte, hdl_c, S9_1, S9_m, bud9, live9, inb9, wrn, wr9_14, wr9_15, wr9_16, wr9_17, tq9_14, tq9_15, tq9_16, tq9_17, tq_0, tq_1, tq_3, upr_rl, rl_0, rl_1, rl_2, rl_3, rl_4, rl_5, rl_6, rl_7, rl_8, rl_9, rl_10, rl_11, rl_12, rl_13, sp_0, sp_1, sp_2, sp_3, sp_4, sp_5, sp_6, sp_7, sp_8, sp_9, sp_10, sp_11, sp_12, sp_13, se_0, se_1, se_2, se_3, se_4, se_5, se_6, se_7, se_8, se_9, se_10, se_11, se_12, se_13, sem_0, sem_1, sem_2, sem_3, sem_4, sem_5, kc_10, kl9_10, kl9_11, kc_11, sr_8_10, sr_8_5, sr_8_4, kl9_8, sr_8_7, sr_8_6, sr_8_9, kc_8, kl9_13, kc_13, kc_14, kl9_14, sr_15_4, sr_15_0, kc_15, sr_15_9, sr_15_5, sr_15_2, sr_15_1, sr_15_7, kl9_15, sr_15_6, sr_15_8, kc_16, kl9_16, kl9_17, kc_17, kl9_18, kc_18, kl9_19, kc_19, kl9_20, kc_20, kc_21, kl9_21, kl9_22, kc_22, kc_23, kl9_23, kc_24, kl9_24, kl9_25, sr_25_2, sr_25_0, sr_25_1, kc_25, sr_26_10, sr_26_2, sr_26_0, sr_26_11, sr_26_3, kl9_26, sr_26_7, sr_26_1, kc_26, sr_26_12, sr_4_4, sr_4_0, kl9_4, sr_4_2, kc_4, List.getD_cons_zero, List.getD_cons_succ, Bool.false_eq_true, wrn3, wrn1, cpmS, cpok9, upm_app, Int.reduceEq, and_self, and_true, true_and, and_false, false_and, if_true, if_false, ↓reduceIte, Int.reduceToNat, upm_f, Int.reduceEq, Int.reduceNe, ne_eq, not_false_eq_true, not_true_eq_false]
  repeat' (first
    | (with_reducible exact True.intro)
    | omega
    | (with_reducible rfl)
    | (with_reducible contradiction)
    | (with_reducible refine And.intro ?_ ?_)
    | intro _
    | ((with_reducible refine c0 ?_); omega)
    | ((with_reducible refine c1 ?_ _ ?_); (next => omega); (next => (repeat' split) <;> first | rfl | omega))
    | (unfold w32; omega)
    | (simp (disch := omega) only [w32_eq]; omega)
    | (with_reducible show (_ : Int) ≤ _; simp [upm] <;> (first | omega | (unfold w32; omega)))
    | (with_reducible show (_ : Int) < _; simp [upm] <;> (first | omega | (unfold w32; omega))))
end
section
set_option maxHeartbeats 8000000 in
theorem f_86 {d : Nat} {tc e : Int} {g : Fg} {m : Mem} {Q : Int → Sto → Prop} {R : ENV → Int} {L : Int} {a : Int} (hJ : JC 3 g tc m) (hI : IV L (m 8 2) (m 8 3) (asC m 15)) (hD : HD (m 8 2) (m 8 3) (asC m 15) (m 18)) (hK : KB m) (hR : RuC m R) (h0 : ¬ (0 ≤ a ∧ a ≤ 99) → Q (-1) (S9 e m)) (hq : 0 ≤ a ∧ a ≤ 99 → ∀ v m', JC 3 g tc m' → FA m m' → HD (m 8 2) (m 8 3) (asC m' 15) (m' 18) → IV L (m 8 2) (m 8 3) (asC m' 15) → asC m' 15 = secs R (m 14) (m 13) (m 8 2).toNat (m 8 3).toNat a.toNat (asC m 15) → v = asC m' 15 11 0 → Q v (S9 e m')) : Cl (d + 7) 86 [26, a] Q (S9 e m) := by
  have hL := JC_l hJ
  have hs := JC_s hJ
  have eH : ((m 8 3).toNat : Int) = m 8 3 := by omega
  have eP : ((m 8 2).toNat : Int) = m 8 2 := by omega
  have hc : ∀ q : Int, 0 ≤ q → q < (m 8 2).toNat → 0 ≤ m 13 q ∧ m 13 q ≤ 9 := fun q q0 q1 => hK.2 q q0 (by omega)
  have hI0 : IV L (m 8 2).toNat (m 8 3).toNat (asC m 15) := by rw [eP, eH]; exact hI
  simp only [cl_86, runB, B86, ma_86, rho_20, wf_7_65, wc_73, w_cst, w_ldi, w_ldj, w_lda, w_ljk, w_ldk, w_ldw, w_ldk2, w_ldt, w_ldtw, w_neg, w_cvb, w_cvs, w_cvc, w_cvj, w_add, w_sub, w_mul, w_ban, w_bor, w_bxo, w_shl, w_shr, w_ush, w_dvi, w_rmi, w_aldi, w_aldj, w_aldz, w_aldc, w_alda, w_ite, w_cmp, w_cmj, w_cz, w_cnot, w_cand, w_cor, w_nil, w_cons, w_cvi, w_csta, w_cvt, w_cvv, w_csv, w_cpy, w_seq, w_sbr, w_sbn, w_brk, w_ifs, w_ifx, w_ife, w_wk, w_rets, w_rtv, w_thr, w_asi, w_asj, w_asa, w_inc, w_exs, w_asti, w_astj, w_astz, w_astc, w_aopadd, w_aopsub, w_sw, if_true, if_false, ↓reduceIte, hdl_c, S9_1, S9_m, bud9, live9, inb9, wrn, wr9_14, wr9_15, wr9_16, wr9_17, tq9_14, tq9_15, tq9_16, tq9_17, tq_0, tq_1, tq_3, upr_rl, rl_0, rl_1, rl_2, rl_3, rl_4, rl_5, rl_6, rl_7, rl_8, rl_9, rl_10, rl_11, rl_12, rl_13, sp_0, sp_1, sp_2, sp_3, sp_4, sp_5, sp_6, sp_7, sp_8, sp_9, sp_10, sp_11, sp_12, sp_13, se_0, se_1, se_2, se_3, se_4, se_5, se_6, se_7, se_8, se_9, se_10, se_11, se_12, se_13, sem_0, sem_1, sem_2, sem_3, sem_4, sem_5, sr_8_10, sr_8_5, sr_8_4, kl9_8, sr_8_7, sr_8_6, sr_8_9, kc_8, kl9_13, kc_13, kc_14, kl9_14, sr_15_4, sr_15_0, kc_15, sr_15_9, sr_15_5, sr_15_2, sr_15_1, sr_15_7, kl9_15, sr_15_6, sr_15_8, kc_16, kl9_16, kl9_17, kc_17, kl9_18, kc_18, kl9_19, kc_19, kl9_20, kc_20, kc_21, kl9_21, kl9_22, kc_22, kc_23, kl9_23, kc_24, kl9_24, kl9_25, sr_25_2, sr_25_0, sr_25_1, kc_25, sr_26_10, sr_26_2, sr_26_0, sr_26_11, sr_26_3, kl9_26, sr_26_7, sr_26_1, kc_26, sr_26_12, sr_4_4, sr_4_0, kl9_4, sr_4_2, kc_4, List.getD_cons_zero, List.getD_cons_succ, Bool.false_eq_true, wrn3, wrn1, cpmS, cpok9, upm_app, Int.reduceEq, and_self, and_true, true_and, and_false, false_and, if_true, if_false, ↓reduceIte, Int.reduceToNat, upm_f, Int.reduceEq, Int.reduceNe, ne_eq, not_false_eq_true, not_true_eq_false]
  repeat' (first
    | (with_reducible exact True.intro)
    | (with_reducible rfl)
    | (with_reducible refine And.intro ?_ ?_)
    | intro _
    | ((with_reducible refine f_73 (g := g) (tc := tc) (R := R) (L := L) hJ9 (by rw [hF8, hF8]; exact hI9) (by rw [hF8, hF8]; exact hD9) (KB_fr hK hF8 hF13 hF14) (RuC_fr hR (hF9 4 1 (by omega)) (fun j => hF9 5 j (by omega))) (fun v8 m8 hJ8 hG8 hA8 hD8 => ?_)); (rw [hF8, hF8] at hA8 hD8); (rw [show m9 14 = m 14 from funext hF14, show m9 13 = m 13 from funext hF13, hA9] at hA8); have hs8 := JC_s hJ8; have hG88 : ∀ j, m8 8 j = m 8 j := (fun j => (hG8 8 j (by omega)).trans (hF8 j)); have hG12 : ∀ j, m8 12 j = m 12 j := (fun j => (hG8 12 j (by omega)).trans (hF12 j)); simp only [hdl_c, S9_1, S9_m, bud9, live9, inb9, wrn, wr9_14, wr9_15, wr9_16, wr9_17, tq9_14, tq9_15, tq9_16, tq9_17, tq_0, tq_1, tq_3, upr_rl, rl_0, rl_1, rl_2, rl_3, rl_4, rl_5, rl_6, rl_7, rl_8, rl_9, rl_10, rl_11, rl_12, rl_13, sp_0, sp_1, sp_2, sp_3, sp_4, sp_5, sp_6, sp_7, sp_8, sp_9, sp_10, sp_11, sp_12, sp_13, se_0, se_1, se_2, se_3, se_4, se_5, se_6, se_7, se_8, se_9, se_10, se_11, se_12, se_13, sem_0, sem_1, sem_2, sem_3, sem_4, sem_5, List.getD_cons_zero, List.getD_cons_succ, Bool.false_eq_true, wrn3, wrn1, cpmS, cpok9, if_true, if_false, ↓reduceIte, wc_73, sr_8_10, sr_8_5, sr_8_4, kl9_8, sr_8_7, sr_8_6, sr_8_9, kc_8, kl9_13, kc_13, kc_14, kl9_14, sr_15_4, sr_15_0, kc_15, sr_15_9, sr_15_5, sr_15_2, sr_15_1, sr_15_7, kl9_15, sr_15_6, sr_15_8, kc_16, kl9_16, kl9_17, kc_17, kl9_18, kc_18, kl9_19, kc_19, kl9_20, kc_20, kc_21, kl9_21, kl9_22, kc_22, kc_23, kl9_23, kc_24, kl9_24, kl9_25, sr_25_2, sr_25_0, sr_25_1, kc_25, sr_26_10, sr_26_2, sr_26_0, sr_26_11, sr_26_3, kl9_26, sr_26_7, sr_26_1, kc_26, sr_26_12, sr_4_4, sr_4_0, kl9_4, sr_4_2, kc_4, upm_app, Int.reduceEq, and_self, and_true, true_and, and_false, false_and, if_true, if_false, ↓reduceIte, Int.reduceToNat, upm_f, Int.reduceEq, Int.reduceNe, ne_eq, not_false_eq_true, not_true_eq_false, ew3, hG88, hG12])
    | ((with_reducible refine whl_i (fun k r u => ∃ (i : Int) (n : Nat) (m9 : Mem), r = rl [26, a, i] ∧ u = S9 e m9 ∧ JC 3 g tc m9 ∧ FA m m9 ∧ (i = n ∧ i ≤ a ∧ i + k = a + 1) ∧ asC m9 15 = secs R (m 14) (m 13) (m 8 2).toNat (m 8 3).toNat n (asC m 15) ∧ IV L (m 8 2) (m 8 3) (asC m9 15) ∧ HD (m 8 2) (m 8 3) (asC m9 15) (m9 18)) (a.toNat + 1) ?_ ?_); (next => exact ⟨0, 0, m, (by first | rfl | exact rlp2), rfl, hJ, fun _ _ _ => rfl, ⟨rfl, by omega, by omega⟩, rfl, hI, hD⟩); rintro k r u ⟨i, n, m9, rfl, rfl, hJ9, hF9, ⟨hi, hn, hk⟩, hA9, hI9, hD9⟩; have hs9 := JC_s hJ9; have hF8 : ∀ j, m9 8 j = m 8 j := (fun j => hF9 8 j (by omega)); have hF13 : ∀ j, m9 13 j = m 13 j := (fun j => hF9 13 j (by omega)); have hF14 : ∀ j, m9 14 j = m 14 j := (fun j => hF9 14 j (by omega)); have hF10 : ∀ j, m9 10 j = m 10 j := (fun j => hF9 10 j (by omega)); have hF11 : ∀ j, m9 11 j = m 11 j := (fun j => hF9 11 j (by omega)); have hF12 : ∀ j, m9 12 j = m 12 j := (fun j => hF9 12 j (by omega)); have i0 : 0 ≤ i := (by omega); have ew3 : w32 (i + 1) = i + 1 := w32_eq (by omega) (by omega); simp only [cl_86, runB, B86, ma_86, rho_20, wf_7_65, wc_73, w_cst, w_ldi, w_ldj, w_lda, w_ljk, w_ldk, w_ldw, w_ldk2, w_ldt, w_ldtw, w_neg, w_cvb, w_cvs, w_cvc, w_cvj, w_add, w_sub, w_mul, w_ban, w_bor, w_bxo, w_shl, w_shr, w_ush, w_dvi, w_rmi, w_aldi, w_aldj, w_aldz, w_aldc, w_alda, w_ite, w_cmp, w_cmj, w_cz, w_cnot, w_cand, w_cor, w_nil, w_cons, w_cvi, w_csta, w_cvt, w_cvv, w_csv, w_cpy, w_seq, w_sbr, w_sbn, w_brk, w_ifs, w_ifx, w_ife, w_wk, w_rets, w_rtv, w_thr, w_asi, w_asj, w_asa, w_inc, w_exs, w_asti, w_astj, w_astz, w_astc, w_aopadd, w_aopsub, w_sw, if_true, if_false, ↓reduceIte, hdl_c, S9_1, S9_m, bud9, live9, inb9, wrn, wr9_14, wr9_15, wr9_16, wr9_17, tq9_14, tq9_15, tq9_16, tq9_17, tq_0, tq_1, tq_3, upr_rl, rl_0, rl_1, rl_2, rl_3, rl_4, rl_5, rl_6, rl_7, rl_8, rl_9, rl_10, rl_11, rl_12, rl_13, sp_0, sp_1, sp_2, sp_3, sp_4, sp_5, sp_6, sp_7, sp_8, sp_9, sp_10, sp_11, sp_12, sp_13, se_0, se_1, se_2, se_3, se_4, se_5, se_6, se_7, se_8, se_9, se_10, se_11, se_12, se_13, sem_0, sem_1, sem_2, sem_3, sem_4, sem_5, sr_8_10, sr_8_5, sr_8_4, kl9_8, sr_8_7, sr_8_6, sr_8_9, kc_8, kl9_13, kc_13, kc_14, kl9_14, sr_15_4, sr_15_0, kc_15, sr_15_9, sr_15_5, sr_15_2, sr_15_1, sr_15_7, kl9_15, sr_15_6, sr_15_8, kc_16, kl9_16, kl9_17, kc_17, kl9_18, kc_18, kl9_19, kc_19, kl9_20, kc_20, kc_21, kl9_21, kl9_22, kc_22, kc_23, kl9_23, kc_24, kl9_24, kl9_25, sr_25_2, sr_25_0, sr_25_1, kc_25, sr_26_10, sr_26_2, sr_26_0, sr_26_11, sr_26_3, kl9_26, sr_26_7, sr_26_1, kc_26, sr_26_12, sr_4_4, sr_4_0, kl9_4, sr_4_2, kc_4, List.getD_cons_zero, List.getD_cons_succ, Bool.false_eq_true, wrn3, wrn1, cpmS, cpok9, upm_app, Int.reduceEq, and_self, and_true, true_and, and_false, false_and, if_true, if_false, ↓reduceIte, Int.reduceToNat, upm_f, Int.reduceEq, Int.reduceNe, ne_eq, not_false_eq_true, not_true_eq_false])
    | ((with_reducible refine hq ⟨?_, ?_⟩ _ _ hJ9 hF9 hD9 hI9 ?_ ?_); (next => omega); (next => omega); (next => rw [hA9, show a.toNat = n by omega]); (next => rw [c_c0]))
    | ((with_reducible refine h0 ?_); omega)
    | ((with_reducible refine ⟨k - 1, ?_, i + 1, n + 1, m8, rfl, rfl, hJ8, ?_, ⟨?_, ?_, ?_⟩, ?_, ?_, hD8⟩); (next => omega); (next => exact FA_tr hF9 hG8); (next => omega); (next => omega); (next => omega); (next => rw [hA8, ← secs_r]); (next => rw [hA8, ← secs_r, ← eP, ← eH]; exact IV_secs hc _ _ hI0))
    | omega
    | (with_reducible contradiction)
    | (exfalso; omega)
    | (unfold w32; omega)
    | (simp (disch := omega) only [w32_eq]; omega)
    | (with_reducible show (_ : Int) ≤ _; simp [upm] <;> (first | omega | (unfold w32; omega)))
    | (with_reducible show (_ : Int) < _; simp [upm] <;> (first | omega | (unfold w32; omega))))
end
