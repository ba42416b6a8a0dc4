/-! heat, on both sides -/
theorem t_heat {d : Nat} {p v e : Int} {m : Mem} {Q : Int → Sto → Prop} (hn : ¬ (0 ≤ p ∧ p < m 8 2 ∧ p < 5 ∧ iand (ishr (m 15 3) p) 1 = 0 ∧ 0 ≤ v ∧ v ≤ 999) → Q (-1) (S9 e m))
    (hy : 0 ≤ p → p < m 8 2 → p < 5 → iand (ishr (m 15 3) p) 1 = 0 → 0 ≤ v → v ≤ 999 → Q (m 16 p) (S9 e (upm m 16 p v))) : Cl (d + 2) 51 [1, p, v] Q (S9 e m) := by
  simp only [cl_51, runB, B51, ma_51, rho_200, wf_1_176, wf_1_26, wf_1_33, wc_52, wc_53, cl_52, B52, ma_52, rho_20, wf_4_37, cl_53, B53, ma_53, wf_5_45, w_cst, w_ldi, w_ldj, w_lda, w_ljk, w_ldk, w_ldw, w_ldk2, w_ldt, w_ldtw, w_neg, w_cvb, w_cvs, w_cvc, w_cvj, w_add, w_sub, w_mul, w_ban, w_bor, w_bxo, w_shl, w_shr, w_ush, w_dvi, w_rmi, w_aldi, w_aldj, w_aldz, w_aldc, w_alda, w_ite, w_cmp, w_cmj, w_cz, w_cnot, w_cand, w_cor, w_nil, w_cons, w_cvi, w_csta, w_cvt, w_cvv, w_csv, w_cpy, w_seq, w_sbr, w_sbn, w_brk, w_ifs, w_ifx, w_ife, w_wk, w_rets, w_rtv, w_thr, w_asi, w_asj, w_asa, w_inc, w_exs, w_asti, w_astj, w_astz, w_astc, w_aopadd, w_aopsub, w_sw, if_true, if_false, ↓reduceIte, hdl_c, S9_1, S9_m, bud9, live9, inb9, wrn, wr9_14, wr9_15, wr9_16, wr9_17, tq9_14, tq9_15, tq9_16, tq9_17, tq_0, tq_1, tq_3, upr_rl, rl_0, rl_1, rl_2, rl_3, rl_4, rl_5, rl_6, rl_7, rl_8, rl_9, rl_10, rl_11, rl_12, rl_13, sp_0, sp_1, sp_2, sp_3, sp_4, sp_5, sp_6, sp_7, sp_8, sp_9, sp_10, sp_11, sp_12, sp_13, se_0, se_1, se_2, se_3, se_4, se_5, se_6, se_7, se_8, se_9, se_10, se_11, se_12, se_13, sem_0, sem_1, sem_2, sem_3, sem_4, sem_5, sr_1_5, sr_1_6, sr_1_4, sr_1_11, kc_1, sr_1_3, sr_1_0, sr_1_10, sr_1_9, sr_1_13, sr_1_7, sr_1_2, kl9_1, sr_1_8, sr_1_1, kl9_8, kc_8, sr_8_10, sr_8_6, sr_8_5, sr_8_9, sr_8_4, sr_8_7, sr_15_7, sr_15_6, sr_15_1, kc_15, sr_15_2, sr_15_0, sr_15_8, sr_15_4, sr_15_5, sr_15_9, kl9_15, kc_16, kl9_16]
  simp
  grind
theorem t_heatM {d : Nat} {p v e : Int} {m : Mem} {Q : Int → Sto → Prop} (h4 : 0 ≤ m 249 5) (h5 : m 249 5 ≤ 5) (hn : ¬ (0 ≤ p ∧ p < m 249 5 ∧ m 258 (3 * p + 2) = 0 ∧ 0 ≤ v ∧ v ≤ 999) → Q (-1) (S9 e (upm m 249 0 0)))
    (hy : 0 ≤ p → p < m 249 5 → m 258 (3 * p + 2) = 0 → 0 ≤ v → v ≤ 999 → Q (m 258 (3 * p)) (S9 e (upm (upm m 249 0 0) 258 (3 * p) v))) : Cl (d + 4) 210 [249, p, v] Q (S9 e m) := by
  simp only [cl_210, runB, B210, ma_210, rho_200, wf_13_36, wpf_13_126, wc_169, wc_211, cl_169, B169, ma_169, rho_111, cl_211, B211, ma_211, rho_20, wc_201, cl_201, B201, ma_201, wf_13_140, w_cst, w_ldi, w_ldj, w_lda, w_ljk, w_ldk, w_ldw, w_ldk2, w_ldt, w_ldtw, w_neg, w_cvb, w_cvs, w_cvc, w_cvj, w_add, w_sub, w_mul, w_ban, w_bor, w_bxo, w_shl, w_shr, w_ush, w_dvi, w_rmi, w_aldi, w_aldj, w_aldz, w_aldc, w_alda, w_ite, w_cmp, w_cmj, w_cz, w_cnot, w_cand, w_cor, w_nil, w_cons, w_cvi, w_csta, w_cvt, w_cvv, w_csv, w_cpy, w_seq, w_sbr, w_sbn, w_brk, w_ifs, w_ifx, w_ife, w_wk, w_rets, w_rtv, w_thr, w_asi, w_asj, w_asa, w_inc, w_exs, w_asti, w_astj, w_astz, w_astc, w_aopadd, w_aopsub, w_sw, if_true, if_false, ↓reduceIte, hdl_c, S9_1, S9_m, bud9, live9, inb9, wrn, wr9_14, wr9_15, wr9_16, wr9_17, tq9_14, tq9_15, tq9_16, tq9_17, tq_0, tq_1, tq_3, upr_rl, rl_0, rl_1, rl_2, rl_3, rl_4, rl_5, rl_6, rl_7, rl_8, rl_9, rl_10, rl_11, rl_12, rl_13, sp_0, sp_1, sp_2, sp_3, sp_4, sp_5, sp_6, sp_7, sp_8, sp_9, sp_10, sp_11, sp_12, sp_13, se_0, se_1, se_2, se_3, se_4, se_5, se_6, se_7, se_8, se_9, se_10, se_11, se_12, se_13, sem_0, sem_1, sem_2, sem_3, sem_4, sem_5, sr_249_16, sr_249_40, sr_249_22, sr_249_52, sr_249_50, sr_249_51, sr_249_23, sr_249_8, sr_249_10, sr_249_41, kl9_249, sr_249_9, sr_249_14, sr_249_67, sr_249_2, sr_249_34, sr_249_43, sr_249_42, sr_249_70, sr_249_11, sr_249_68, sr_249_31, sr_249_63, sr_249_64, sr_249_17, sr_249_71, sr_249_35, sr_249_25, sr_249_57, sr_249_69, sr_249_30, sr_249_13, sr_249_54, sr_249_58, sr_249_55, sr_249_24, sr_249_12, sr_249_61, kc_249, sr_249_15, kl9_258, kc_258]
  simp [upm_s, upm_a, upm_j]
  refine ⟨fun a1 => ⟨?_, fun a2 => hn (by rw [w32_eq (by omega) (by omega)] at a2; omega)⟩, fun a1 => hn (by omega)⟩
  intro a2
  rw [w32_eq (by omega) (by omega)] at a2
  simp (disch := omega) only [w32_eq]
  grind
/-- how many there are -/
def RCnt (m : Mem) : Prop := m 249 3 = m 8 0 ∧ m 249 4 = m 8 1 ∧ m 249 5 = m 8 2 ∧ m 249 6 = m 8 3 ∧ 0 ≤ m 8 0 ∧ m 8 0 ≤ 10 ∧ 0 ≤ m 8 1 ∧ m 8 1 ≤ 14 ∧ 0 ≤ m 8 2 ∧ m 8 2 ≤ 5 ∧ 0 ≤ m 8 3 ∧ m 8 3 ≤ 5
/-- who of the first n holds pot p: the last one -/
def hldr (f : Int → Int) : Nat → Int → Int
  | 0, _ => -1
  | k + 1, p => if f (15 + 7 * (k : Int) + 5) = p then (k : Int) else hldr f k p
theorem hldr_c {f g : Int → Int} : ∀ (n : Nat) (p : Int), (∀ k : Nat, k < n → f (15 + 7 * (k : Int) + 5) = g (15 + 7 * (k : Int) + 5)) → hldr f n p = hldr g n p
  | 0, _, _ => rfl
  | n + 1, p, h => by
    simp only [hldr]
    rw [h n (Nat.lt_succ_self n), hldr_c n p (fun k hk => h k (Nat.lt_succ_of_lt hk))]
/-- a state of the component, at id s, against a row of the reference's -/
def RPot (m : Mem) (s : Int) (f : Int → Int) (p : Int) : Prop := m (s + 1) p = f (3 * p) ∧ 0 ≤ f (3 * p) ∧ f (3 * p) ≤ 999 ∧ m (s + 2) p = f (3 * p + 1) ∧ -1 ≤ f (3 * p + 1) ∧ f (3 * p + 1) < m 8 0 ∧ iand (ishr (m s 3) p) 1 = f (3 * p + 2) ∧ 0 ≤ f (3 * p + 2) ∧ f (3 * p + 2) ≤ 1 ∧ m (s + 3) p = hldr f (m 8 3).toNat p
def RMan (m : Mem) (s : Int) (f : Int → Int) (k : Int) : Prop := m (s + 4) k = f (15 + 7 * k) ∧ 0 ≤ f (15 + 7 * k) ∧ f (15 + 7 * k) < m 8 0 ∧ m (s + 5) (2 * k) = f (15 + 7 * k + 1) ∧ 0 ≤ f (15 + 7 * k + 1) ∧ f (15 + 7 * k + 1) ≤ 9999 ∧ m (s + 5) (2 * k + 1) = f (15 + 7 * k + 2) ∧ 0 ≤ f (15 + 7 * k + 2) ∧ f (15 + 7 * k + 2) ≤ 9999 ∧
  m (s + 6) k = f (15 + 7 * k + 3) ∧ 0 ≤ f (15 + 7 * k + 3) ∧ f (15 + 7 * k + 3) ≤ 1 ∧ m (s + 7) k = f (15 + 7 * k + 4) ∧ 0 ≤ f (15 + 7 * k + 4) ∧ f (15 + 7 * k + 4) ≤ 9 ∧ m (s + 8) k = f (15 + 7 * k + 5) ∧ -1 ≤ f (15 + 7 * k + 5) ∧ f (15 + 7 * k + 5) < m 8 2 ∧ m (s + 9) k = f (15 + 7 * k + 6) ∧ inI (f (15 + 7 * k + 6))
def RSt (m : Mem) (s : Int) (f : Int → Int) : Prop := (∀ p, 0 ≤ p → p < m 8 2 → RPot m s f p) ∧ (∀ k, 0 ≤ k → k < m 8 3 → RMan m s f k) ∧ m s 10 = f 50 ∧ m s 11 = f 51 ∧ inI (f 50) ∧ inI (f 51)
def gNow (x _j : Int) : Prop := 15 ≤ x ∧ x ≤ 24 ∨ x = 258
/-- what changes the state alone keeps R -/
def KeepN (R : Mem → Prop) : Prop := (∀ m, R m → RCnt m ∧ RSt m 15 (m 258)) ∧ ∀ m m', R m → (∀ x j, ¬ gNow x j → ¬ gScr x j → m' x j = m x j) → RSt m' 15 (m' 258) → R m'
theorem two_heat {R : Mem → Prop} (hR : KeepN R) (d : Nat) (p v : Int) : Two (d + 4) 51 210 [p, v] R := by
  intro e m hm
  have h9 := hR.2 m
  obtain ⟨⟨c1, c2, c3, c4, c5, c6, c7, c8, c9, c10, c11, c12⟩, s1, s2, s3⟩ := hR.1 m hm
  have no : ∀ x j : Int, True → R (upm m 249 0 0) := fun _ _ _ => by
    refine h9 _ hm (fun x j h1 h2 => ?_) ?_
    · unfold gScr at h2; unfold upm; rw [if_neg (by omega)]
    · simp [RSt, RPot, RMan, upm] at s1 s2 s3 ⊢
      exact ⟨s1, s2, s3⟩
  refine t_heat (fun h => ⟨_, rfl, t_heatM (by omega) (by omega) (fun h' => ⟨_, rfl, rfl, no 0 0 trivial⟩) (fun a1 a2 a3 a4 a5 => absurd ?_ h)⟩) (fun a1 a2 a3 a4 a5 a6 => ⟨_, rfl, t_heatM ?_ ?_ (fun h' => absurd ?_ h') (fun b1 b2 b3 b4 b5 => ⟨_, rfl, ?_, ?_⟩)⟩)
  · obtain ⟨_, _, _, _, _, _, q, _⟩ := s1 p a1 (by omega)
    exact ⟨a1, by omega, by omega, by rw [q]; exact a3, a4, a5⟩
  · simp [upm]; omega
  · simp [upm]; omega
  · obtain ⟨_, _, _, _, _, _, q, _⟩ := s1 p a1 (by omega)
    simp [upm]
    exact ⟨a1, by omega, by omega, a5, a6⟩
  · obtain ⟨q, _⟩ := s1 p a1 (by omega)
    simp [upm]; exact q.symm
  · refine h9 _ hm (fun x j h1 h2 => ?_) ⟨fun q q1 q2 => ?_, fun k k1 k2 => ?_, ?_⟩
    · unfold gScr at h2; unfold gNow at h1; unfold upm
      rw [if_neg (by omega), if_neg (by omega), if_neg (by omega)]
    · simp [upm] at q2
      obtain ⟨r1, r2, r3, r4, r5, r6, r7, r8, r9, r10⟩ := s1 q q1 q2
      have e3 : hldr (upm (upm (upm m 16 p v) 249 0 0) 258 (3 * p) v 258) (m 8 3).toNat q = hldr (m 258) (m 8 3).toNat q := hldr_c _ _ (fun k hk => by unfold upm; rw [if_neg (by omega), if_neg (by omega), if_neg (by omega)])
      unfold RPot
      rw [show upm (upm (upm m 16 p v) 249 0 0) 258 (3 * p) v 8 3 = m 8 3 by simp [upm], e3]
      simp at r1 r4 r7 r10
      simp [upm]
      grind
    · simp [upm] at k2
      have hk := s2 k k1 k2
      unfold RMan at hk ⊢
      simp at hk
      simp [upm]
      grind
    · simp [upm]
      grind
