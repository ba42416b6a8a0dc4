/-! the sheet, to the letter -/
def entS (kd v : Int) : Int := max 0 (min 999 (if kd = 0 then i2b v else if kd = 1 then i2s v else v))
def shE (kd n f st p : Int) : Int := if kd = 3 ∨ n ≤ p then 0 else entS kd (w32 (f + w32 (p * st)))
theorem shE_b {kd n f st p : Int} : 0 ≤ shE kd n f st p ∧ shE kd n f st p ≤ 999 := by
  unfold shE entS
  split <;> omega
def shS (kd n f st : Int) (x : AS) : Nat → AS × Int
  | 0 => (x, 0)
  | q + 1 => if x 2 q = 0 then (asU (shS kd n f st x q).1 0 q (shE kd n f st q), w32 ((shS kd n f st x q).2 + shE kd n f st q)) else shS kd n f st x q
theorem shS_s1 {kd n f st : Int} {x : AS} {q : Nat} (h : x 2 q = 0) : shS kd n f st x (q + 1) = (asU (shS kd n f st x q).1 0 q (shE kd n f st q), w32 ((shS kd n f st x q).2 + shE kd n f st q)) := if_pos h
theorem shS_s0 {kd n f st : Int} {x : AS} {q : Nat} (h : ¬ x 2 q = 0) : shS kd n f st x (q + 1) = shS kd n f st x q := if_neg h
theorem shS_f {kd n f st : Int} {x : AS} {a b : Int} (h : a ≠ 0) : ∀ q : Nat, (shS kd n f st x q).1 a b = x a b
  | 0 => rfl
  | q + 1 => by
    by_cases z : x 2 q = 0
    · rw [shS_s1 z]; exact (asU_f _ _ _ _ h).trans (shS_f h q)
    · rw [shS_s0 z]; exact shS_f h q
def aSheet (P : Nat) (x : AS) (kd n f st : Int) : AR := if ¬ (0 ≤ kd ∧ kd ≤ 3 ∧ n ≤ 5) then (-1, x) else if kd ≠ 3 ∧ n < 0 then (-2, x) else (if kd = 3 then -3 else (shS kd n f st x P).2, (shS kd n f st x P).1)
theorem shS_e {kd n f st P H : Int} {x y : AS} (e : SE P H x y) : ∀ q : Nat, (q : Int) ≤ P → (shS kd n f st x q).2 = (shS kd n f st y q).2 ∧ SE P H (shS kd n f st x q).1 (shS kd n f st y q).1
  | 0, _ => ⟨rfl, e⟩
  | q + 1, hq => by
    obtain ⟨a, b⟩ := shS_e (kd := kd) (n := n) (f := f) (st := st) e q (by omega)
    have e2 : x 2 q = y 2 q := e.1 2 q (by decide) (by decide) (by omega) (by omega)
    by_cases z : x 2 q = 0
    · rw [shS_s1 z, shS_s1 (e2 ▸ z)]
      exact ⟨by rw [a], SE_U _ _ b rfl⟩
    · rw [shS_s0 z, shS_s0 (e2 ▸ z)]; exact ⟨a, b⟩
theorem shS_i {kd n f st L P H : Int} {x : AS} (h : IV L P H x) : ∀ q : Nat, IV L P H (shS kd n f st x q).1
  | 0 => h
  | q + 1 => by
    by_cases z : x 2 q = 0
    · rw [shS_s1 z]
      exact IV_0 (shS_i h q) shE_b (fun w => by rw [shS_f (by decide)] at w; omega)
    · rw [shS_s0 z]; exact shS_i h q
theorem sheet_f {P : Nat} {H kd n f st : Int} {x y : AS} (e : SE P H x y) : AF P H (aSheet P x kd n f st) (aSheet P y kd n f st) := by
  unfold aSheet
  obtain ⟨a, b⟩ := shS_e (kd := kd) (n := n) (f := f) (st := st) e P (by omega)
  exact AF_if Iff.rfl (fun _ => ⟨rfl, e⟩) (fun _ => AF_if Iff.rfl (fun _ => ⟨rfl, e⟩) (fun _ => ⟨by show (if _ then _ else _) = (if _ then _ else _); rw [a], b⟩))
theorem sheet_i {P : Nat} {L H kd n f st : Int} {x : AS} (h : IV L P H x) : IV L P H (aSheet P x kd n f st).2 := by
  unfold aSheet
  split
  · exact h
  · split
    · exact h
    · exact shS_i h P
theorem sh_st {c f i : Int} : w32 (w32 (c + w32 (i * f)) + f) = w32 (c + w32 ((i + 1) * f)) := by
  rw [Int.add_mul, Int.one_mul]
  generalize i * f = t
  unfold w32; omega
set_option maxHeartbeats 4000000 in
theorem p_55x {d : Nat} {e : Int} {m : Mem} {Q : Int → Sto → Prop} {a b : Int} (hq : ∀ v, v = entS a b → Q v (S9 e m)) : Cl (d + 2) 55 [a, b] Q (S9 e m) := by
  simp only [cl_55, runB, B55, ma_55, rho_00, wc_19, wc_56, cl_19, B19, ma_19, cl_56, B56, ma_56, w_cst, w_ldi, w_ldj, w_lda, w_ljk, w_ldk, w_ldw, w_ldk2, w_ldt, w_ldtw, w_neg, w_cvb, w_cvs, w_cvc, w_cvj, w_add, w_sub, w_mul, w_ban, w_bor, w_bxo, w_shl, w_shr, w_ush, w_dvi, w_rmi, w_aldi, w_aldj, w_aldz, w_aldc, w_alda, w_ite, w_cmp, w_cmj, w_cz, w_cnot, w_cand, w_cor, w_nil, w_cons, w_cvi, w_csta, w_cvt, w_cvv, w_csv, w_cpy, w_seq, w_sbr, w_sbn, w_brk, w_ifs, w_ifx, w_ife, w_wk, w_rets, w_rtv, w_thr, w_asi, w_asj, w_asa, w_inc, w_exs, w_asti, w_astj, w_astz, w_astc, w_aopadd, w_aopsub, w_sw, if_true, if_false, ↓reduceIte, hdl_c, S9_1, S9_m, bud9, live9, inb9, wrn, wr9_14, wr9_15, wr9_16, wr9_17, tq9_14, tq9_15, tq9_16, tq9_17, tq_0, tq_1, tq_3, upr_rl, rl_0, rl_1, rl_2, rl_3, rl_4, rl_5, rl_6, rl_7, rl_8, rl_9, rl_10, rl_11, rl_12, rl_13, sp_0, sp_1, sp_2, sp_3, sp_4, sp_5, sp_6, sp_7, sp_8, sp_9, sp_10, sp_11, sp_12, sp_13, se_0, se_1, se_2, se_3, se_4, se_5, se_6, se_7, se_8, se_9, se_10, se_11, se_12, se_13, sem_0, sem_1, sem_2, sem_3, sem_4, sem_5, List.getD_cons_zero, List.getD_cons_succ, Bool.false_eq_true, wrn3, wrn1, cpmS, cpok9, upm_app, Int.reduceEq, and_self, and_true, true_and, and_false, false_and, if_true, if_false, ↓reduceIte, Int.reduceToNat, upm_f, Int.reduceEq, Int.reduceNe, ne_eq, not_false_eq_true, not_true_eq_false]
  repeat' (first
    | (with_reducible exact True.intro)
    | omega
    | (with_reducible rfl)
    | (with_reducible contradiction)
    | (with_reducible refine And.intro ?_ ?_)
    | intro _
    | ((with_reducible refine hq _ ?_); (unfold entS; (repeat' split) <;> omega))
    | (unfold w32; omega)
    | (simp (disch := omega) only [w32_eq]; omega)
    | (with_reducible show (_ : Int) ≤ _; simp [upm] <;> (first | omega | (unfold w32; omega)))
    | (with_reducible show (_ : Int) < _; simp [upm] <;> (first | omega | (unfold w32; omega))))

