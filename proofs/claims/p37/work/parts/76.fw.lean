/-! shortest ways: the numbers -/
abbrev rg (n a b : Int) : Prop := 0 ≤ a ∧ a < n ∧ 0 ≤ b ∧ b < n
def phs (D : Int → Int → Int) (k a b : Int) : Int := if D a k + D k b < D a b then D a k + D k b else D a b
def FI (n k : Int) (S D : Int → Int → Int) : Prop :=
  (∀ a b, rg n a b → 0 ≤ D a b ∧ D a b ≤ 1000000) ∧
  (∀ a, 0 ≤ a → a < n → D a a = 0) ∧
  (∀ a b, rg n a b → a ≠ b → D a b ≤ S a b) ∧
  (∀ a b, rg n a b → a ≠ b → D a b < 1000000 → ∃ c, 0 ≤ c ∧ c < n ∧ c ≠ a ∧ S a c + D c b ≤ D a b) ∧
  (∀ j, 0 ≤ j → j < k → j < n → ∀ a b, rg n a b → D a b ≤ D a j + D j b)
theorem phs_c (D : Int → Int → Int) (k a b : Int) : (phs D k a b = D a b ∧ D a b ≤ D a k + D k b) ∨ (phs D k a b = D a k + D k b ∧ D a k + D k b < D a b) := by
  unfold phs; split <;> omega
theorem FI_0 {n : Int} {S : Int → Int → Int} (hS : ∀ a b, rg n a b → 1 ≤ S a b ∧ S a b ≤ 1000000) {D : Int → Int → Int} (hD : ∀ a b, rg n a b → D a b = if a = b then 0 else S a b) : FI n 0 S D := by
  refine ⟨fun a b h => ?_, fun a h0 h1 => ?_, fun a b h hn => ?_, fun a b h hn hl => ?_, fun j h0 h1 => absurd h1 (by omega)⟩
  · rw [hD a b h]; have := hS a b h; split <;> omega
  · rw [hD a a ⟨h0, h1, h0, h1⟩, if_pos rfl]
  · rw [hD a b h, if_neg hn]; exact Int.le_refl _
  · refine ⟨b, h.2.2.1, h.2.2.2, fun q => hn q.symm, ?_⟩
    rw [hD b b ⟨h.2.2.1, h.2.2.2, h.2.2.1, h.2.2.2⟩, if_pos rfl, hD a b h, if_neg hn]; omega
theorem FI_s {n k : Int} {S D : Int → Int → Int} (h : FI n k S D) (k0 : 0 ≤ k) (k1 : k < n) : FI n (k + 1) S (phs D k) := by
  obtain ⟨h1, h2, h3, h4, h5⟩ := h
  have hkk := h2 k k0 k1
  refine ⟨fun a b h => ?_, fun a q0 q1 => ?_, fun a b h hn => ?_, fun a b h hn hl => ?_, fun j q0 q1 q2 a b h => ?_⟩
  · have a1 := h1 a b h
    have a2 := h1 a k ⟨h.1, h.2.1, k0, k1⟩
    have a3 := h1 k b ⟨k0, k1, h.2.2.1, h.2.2.2⟩
    rcases phs_c D k a b with q | q <;> omega
  · have a2 := h1 a k ⟨q0, q1, k0, k1⟩
    have a3 := h1 k a ⟨k0, k1, q0, q1⟩
    have a4 := h2 a q0 q1
    rcases phs_c D k a a with q | q <;> omega
  · have a1 := h3 a b h hn
    rcases phs_c D k a b with q | q <;> omega
  · have hab := h1 a b h
    have hak := h1 a k ⟨h.1, h.2.1, k0, k1⟩
    have hkb := h1 k b ⟨k0, k1, h.2.2.1, h.2.2.2⟩
    rcases phs_c D k a b with q | q
    · obtain ⟨c, c0, c1, c2, c3⟩ := h4 a b h hn (by omega)
      refine ⟨c, c0, c1, c2, ?_⟩
      rcases phs_c D k c b with p | p <;> omega
    · have hne : a ≠ k := by
        intro e; subst e; omega
      obtain ⟨c, c0, c1, c2, c3⟩ := h4 a k ⟨h.1, h.2.1, k0, k1⟩ hne (by omega)
      refine ⟨c, c0, c1, c2, ?_⟩
      rcases phs_c D k c b with p | p <;> omega
  · have hkj := h1 k j ⟨k0, k1, q0, q2⟩
    have hjk := h1 j k ⟨q0, q2, k0, k1⟩
    have hab := phs_c D k a b
    have haj := phs_c D k a j
    have hjb := phs_c D k j b
    by_cases e : j = k
    · subst e
      omega
    · have t1 := h5 j q0 (by omega) q2 a b h
      have t2 := h5 j q0 (by omega) q2 a k ⟨h.1, h.2.1, k0, k1⟩
      have t3 := h5 j q0 (by omega) q2 k b ⟨k0, k1, h.2.2.1, h.2.2.2⟩
      omega
theorem FI_end {n : Int} {S D : Int → Int → Int} (h : FI n n S D) {p g : Int} (hr : rg n p g) (hn : p ≠ g) (hl : D p g < 1000000) : ∃ c, 0 ≤ c ∧ c < n ∧ c ≠ p ∧ S p c + D c g = D p g := by
  obtain ⟨h1, h2, h3, h4, h5⟩ := h
  obtain ⟨c, c0, c1, c2, c3⟩ := h4 p g hr hn hl
  refine ⟨c, c0, c1, c2, ?_⟩
  have t1 := h5 c c0 c1 c1 p g hr
  have t2 := h3 p c ⟨hr.1, hr.2.1, c0, c1⟩ (fun q => c2 q.symm)
  omega
theorem fw_step {n k a0 b0 : Int} {S D : Int → Int → Int} {A : Int → Int} (hF : FI n k S D) (hn : n ≤ 10) (hk : 0 ≤ k ∧ k < n) (ha : 0 ≤ a0 ∧ a0 < n) (hb : 0 ≤ b0 ∧ b0 < n)
    (R : ∀ a b, rg n a b → A (10 * a + b) = if a < a0 ∨ a = a0 ∧ b < b0 then phs D k a b else D a b) :
    (A (10 * a0 + k) = D a0 k ∧ A (10 * k + b0) = D k b0 ∧ A (10 * a0 + b0) = D a0 b0) ∧ ∀ v, v = phs D k a0 b0 → ∀ a b, rg n a b → (if 10 * a + b = 10 * a0 + b0 then v else A (10 * a + b)) = if a < a0 ∨ a = a0 ∧ b < b0 + 1 then phs D k a b else D a b := by
  have hkk := hF.2.1 k hk.1 hk.2
  refine ⟨⟨?_, ?_, ?_⟩, fun v hv a b h => ?_⟩
  · rw [R a0 k ⟨ha.1, ha.2, hk.1, hk.2⟩]
    split
    · rcases phs_c D k a0 k with q | q <;> omega
    · rfl
  · rw [R k b0 ⟨hk.1, hk.2, hb.1, hb.2⟩]
    split
    · rcases phs_c D k k b0 with q | q <;> omega
    · rfl
  · rw [R a0 b0 ⟨ha.1, ha.2, hb.1, hb.2⟩, if_neg (by omega)]
  · have := R a b h
    unfold rg at h
    by_cases e : a = a0 ∧ b = b0
    · obtain ⟨rfl, rfl⟩ := e
      rw [if_pos rfl, if_pos (by omega)]; exact hv
    · rw [if_neg (by omega), this]
      by_cases c : a < a0 ∨ a = a0 ∧ b < b0
      · rw [if_pos c, if_pos (by omega)]
      · rw [if_neg c, if_neg (by omega)]
/-- how many of the first q are less than v -/
def cnt (A : Int → Int) (v : Int) : Nat → Nat
  | 0 => 0
  | q + 1 => cnt A v q + (if A (q : Int) < v then 1 else 0)
theorem cnt_le (A : Int → Int) (v : Int) : ∀ n : Nat, cnt A v n ≤ n := by
  intro n
  induction n with
  | zero => simp [cnt]
  | succ n ih => unfold cnt; split <;> omega
theorem cnt_mono (A : Int → Int) {u v : Int} (h : u ≤ v) : ∀ n : Nat, cnt A u n ≤ cnt A v n := by
  intro n
  induction n with
  | zero => simp [cnt]
  | succ n ih => unfold cnt; split <;> split <;> omega
theorem cnt_lt (A : Int → Int) {v : Int} {q : Nat} (hv : A q < v) : ∀ n : Nat, q < n → cnt A (A q) n + 1 ≤ cnt A v n := by
  intro n
  induction n with
  | zero => intro h; omega
  | succ n ih =>
    intro h
    unfold cnt
    by_cases e : q = n
    · subst e
      rw [if_neg (by omega), if_pos hv]
      have := cnt_mono A (u := A q) (v := v) (by omega) q
      omega
    · have := ih (by omega)
      split <;> split <;> omega
theorem cnt_out (A : Int → Int) {v : Int} {q : Nat} (hv : ¬ A q < v) : ∀ n : Nat, q < n → cnt A v n + 1 ≤ n := by
  intro n
  induction n with
  | zero => intro h; omega
  | succ n ih =>
    intro h
    unfold cnt
    by_cases e : q = n
    · subst e
      rw [if_neg hv]
      have := cnt_le A v q
      omega
    · have := ih (by omega)
      split <;> omega

def FW (n : Int) (m : Mem) : Prop := (∀ j, 0 ≤ j → j < 100 → 1 ≤ m 274 j) ∧ ∀ p q, rg n p q → p ≠ q → m 273 (10 * p + q) < 1000000 → ∃ c, 0 ≤ c ∧ c < n ∧ c ≠ p ∧ m 274 (10 * p + c) + m 273 (10 * c + q) = m 273 (10 * p + q)
theorem upm_ne {m : Mem} {a j v b : Int} (h : b ≠ a) : upm m a j v b = m b := by
  funext y; unfold upm; rw [if_neg]; rintro ⟨h1, h2⟩; exact h h1
theorem JW_st {l : Nat} {g : Fg} {tc pl W : Int} {N : Int → Int} {m : Mem} (h : JW l g tc pl N W m) (w : Int) (h0 : 0 ≤ w) (h1 : w < m 249 4) : 1 ≤ m 254 w := h.1.2.2.1 w h0 h1
theorem fw_out {n i : Int} {m9 : Mem} {D : Int → Int → Int} (hS : ∀ j, 0 ≤ j → j < 100 → 1 ≤ m9 274 j) (hF : FI n i (fun p q => m9 274 (10 * p + q)) D) (hR : ∀ p q, rg n p q → m9 273 (10 * p + q) = D p q) (hi : i = n) : FW n m9 := by
  subst hi
  refine ⟨hS, fun p q h hn hl => ?_⟩
  rw [hR p q h] at hl
  obtain ⟨c, c0, c1, c2, c3⟩ := FI_end hF h hn hl
  refine ⟨c, c0, c1, c2, ?_⟩
  rw [hR p q h, hR c q ⟨c0, c1, h.2.2.1, h.2.2.2⟩]
  exact c3
theorem w10e {a b : Int} (h0 : 0 ≤ a) (h1 : a ≤ 9) (h2 : 0 ≤ b) (h3 : b ≤ 9) : w32 (w32 (10 * a) + b) = 10 * a + b := by unfold w32; omega

set_option maxHeartbeats 4000000 in
theorem l251a {d : Nat} {tc pl e W : Int} {g : Fg} {m : Mem} {N : Int → Int} {a : Int} {Kn Kb : Rho → Sto → Prop} {Kr : Int → Sto → Prop} (hJ : JW 4 g tc pl N W m) (hq : ∀ m' i, JW 4 g tc pl N W m' → m' 249 3 = m 249 3 → (∀ j, 0 ≤ j → j < 100 → 1 ≤ m' 274 j) → Kn (rl [249, a, i]) (S9 e m')) : ((whl true 17 (cmp 2 (by decide) (ldi 2) (cst 100)) (asti (get f_13_84 (lda 0)) (ldi 2) (ldw k_13_449)) (inc 2 1)) : SX 13).1.2 (Cl (d + 1)) Kn Kb Kr (rl [249, a, 0]) (S9 e m) := by
  have hL := JW_l hJ
  have hs := JW_s hJ
  refine whl_i (fun k r u => ∃ (i : Int) (m9 : Mem), r = rl [249, a, i] ∧ u = S9 e m9 ∧ JW 4 g tc pl N W m9 ∧ 0 ≤ i ∧ i + k = 100 ∧ m9 249 3 = m 249 3 ∧ (∀ j, 0 ≤ j → j < i → 1 ≤ m9 274 j)) 100 ?_ ?_
  next => exact ⟨0, m, rfl, rfl, hJ, by omega, by omega, rfl, fun j h0 h1 => absurd h1 (by omega)⟩
  rintro k r u ⟨i, m9, rfl, rfl, hJ9, hi, hk, h3, hS⟩
  have hJ9 := JW_dn hL hJ9; have hs9 := JW_s hJ9
  have h58 := JW_2 hJ9
  simp only [cl_251, runB, B251, ma_251, rho_20, wf_13_133, wf_13_146, wf_13_17, wf_13_20, wf_13_23, wf_13_26, wf_13_81, wf_13_84, wc_19, wc_199, cl_19, B19, ma_19, rho_00, w_cst, w_ldi, w_ldj, w_lda, w_ljk, w_ldk, w_ldw, w_ldk2, w_ldt, w_ldtw, w_neg, w_cvb, w_cvs, w_cvc, w_cvj, w_add, w_sub, w_mul, w_ban, w_bor, w_bxo, w_shl, w_shr, w_ush, w_dvi, w_rmi, w_aldi, w_aldj, w_aldz, w_aldc, w_alda, w_ite, w_cmp, w_cmj, w_cz, w_cnot, w_cand, w_cor, w_nil, w_cons, w_cvi, w_csta, w_cvt, w_cvv, w_csv, w_cpy, w_seq, w_sbr, w_sbn, w_brk, w_ifs, w_ifx, w_ife, w_wk, w_rets, w_rtv, w_thr, w_asi, w_asj, w_asa, w_inc, w_exs, w_asti, w_astj, w_astz, w_astc, w_aopadd, w_aopsub, w_sw, if_true, if_false, ↓reduceIte, hdl_c, S9_1, S9_m, bud9, live9, inb9, wrn, wr9_14, wr9_15, wr9_16, wr9_17, tq9_14, tq9_15, tq9_16, tq9_17, tq_0, tq_1, tq_3, upr_rl, rl_0, rl_1, rl_2, rl_3, rl_4, rl_5, rl_6, rl_7, rl_8, rl_9, rl_10, rl_11, rl_12, rl_13, sp_0, sp_1, sp_2, sp_3, sp_4, sp_5, sp_6, sp_7, sp_8, sp_9, sp_10, sp_11, sp_12, sp_13, se_0, se_1, se_2, se_3, se_4, se_5, se_6, se_7, se_8, se_9, se_10, se_11, se_12, se_13, sem_0, sem_1, sem_2, sem_3, sem_4, sem_5, sr_249_34, sr_249_70, kl9_249, sr_249_17, sr_249_54, sr_249_61, kc_249, sr_249_14, sr_249_16, sr_249_11, sr_249_55, sr_249_9, sr_249_40, sr_249_51, sr_249_2, sr_249_31, sr_249_22, sr_249_30, sr_249_63, sr_249_68, sr_249_10, sr_249_8, sr_249_71, sr_249_25, sr_249_50, sr_249_42, sr_249_41, sr_249_57, sr_249_15, sr_249_12, sr_249_58, sr_249_24, sr_249_67, sr_249_43, sr_249_69, sr_249_64, sr_249_52, sr_249_13, sr_249_35, sr_249_23, kl9_252, kc_252, kl9_253, kc_253, kc_254, kl9_254, kl9_255, kc_255, kc_273, kl9_273, kc_274, kl9_274, List.getD_cons_zero, List.getD_cons_succ, Bool.false_eq_true, wrn3, wrn1, cpmS, cpok9, h58]
  (try simp (disch := omega) only [w15_0, w15_1, w15_3, w15_4, w15_5, w15_6, w3_0, w3_1, w3_2, upm_app, Int.reduceEq, and_self, and_true, true_and, and_false, false_and, if_true, if_false, ↓reduceIte])
  repeat' (first
    | (with_reducible exact True.intro)
    | omega
    | (with_reducible rfl)
    | (with_reducible contradiction)
    | (with_reducible refine And.intro ?_ ?_)
    | intro _
    | (with_reducible refine p_199 (fun v9 h9 => ?_); (try simp only [h58] at h9); simp only [hdl_c, S9_1, S9_m, bud9, live9, inb9, wrn, wr9_14, wr9_15, wr9_16, wr9_17, tq9_14, tq9_15, tq9_16, tq9_17, tq_0, tq_1, tq_3, upr_rl, rl_0, rl_1, rl_2, rl_3, rl_4, rl_5, rl_6, rl_7, rl_8, rl_9, rl_10, rl_11, rl_12, rl_13, sp_0, sp_1, sp_2, sp_3, sp_4, sp_5, sp_6, sp_7, sp_8, sp_9, sp_10, sp_11, sp_12, sp_13, se_0, se_1, se_2, se_3, se_4, se_5, se_6, se_7, se_8, se_9, se_10, se_11, se_12, se_13, sem_0, sem_1, sem_2, sem_3, sem_4, sem_5, List.getD_cons_zero, List.getD_cons_succ, Bool.false_eq_true, wrn3, wrn1, cpmS, cpok9, if_true, if_false, ↓reduceIte, wc_19, wc_199, cl_19, runB, B19, ma_19, rho_00, w_cst, w_ldi, w_ldj, w_lda, w_ljk, w_ldk, w_ldw, w_ldk2, w_ldt, w_ldtw, w_neg, w_cvb, w_cvs, w_cvc, w_cvj, w_add, w_sub, w_mul, w_ban, w_bor, w_bxo, w_shl, w_shr, w_ush, w_dvi, w_rmi, w_aldi, w_aldj, w_aldz, w_aldc, w_alda, w_ite, w_cmp, w_cmj, w_cz, w_cnot, w_cand, w_cor, w_nil, w_cons, w_cvi, w_csta, w_cvt, w_cvv, w_csv, w_cpy, w_seq, w_sbr, w_sbn, w_brk, w_ifs, w_ifx, w_ife, w_wk, w_rets, w_rtv, w_thr, w_asi, w_asj, w_asa, w_inc, w_exs, w_asti, w_astj, w_astz, w_astc, w_aopadd, w_aopsub, w_sw, if_true, if_false, ↓reduceIte, sr_249_34, sr_249_70, kl9_249, sr_249_17, sr_249_54, sr_249_61, kc_249, sr_249_14, sr_249_16, sr_249_11, sr_249_55, sr_249_9, sr_249_40, sr_249_51, sr_249_2, sr_249_31, sr_249_22, sr_249_30, sr_249_63, sr_249_68, sr_249_10, sr_249_8, sr_249_71, sr_249_25, sr_249_50, sr_249_42, sr_249_41, sr_249_57, sr_249_15, sr_249_12, sr_249_58, sr_249_24, sr_249_67, sr_249_43, sr_249_69, sr_249_64, sr_249_52, sr_249_13, sr_249_35, sr_249_23, kl9_252, kc_252, kl9_253, kc_253, kc_254, kl9_254, kl9_255, kc_255, kc_273, kl9_273, kc_274, kl9_274, h58]; (try simp (disch := omega) only [w15_0, w15_1, w15_3, w15_4, w15_5, w15_6, w3_0, w3_1, w3_2, upm_app, Int.reduceEq, and_self, and_true, true_and, and_false, false_and, if_true, if_false, ↓reduceIte, h58]))
    | (exact hq _ _ hJ9 h3 (fun j h0 h1 => hS j h0 (by omega)))
    | (unfold w32; omega)
    | (simp (disch := omega) only [w32_eq]; omega)
    | (with_reducible show (_ : Int) ≤ _; simp [upm] <;> (first | omega | (unfold w32; omega)))
    | (with_reducible show (_ : Int) < _; simp [upm] <;> (first | omega | (unfold w32; omega))))
  refine ⟨k - 1, by omega, w32 (i + 1), _, rfl, rfl, ?_, ?_, ?_, ?_, ?_⟩
  · refine JW_of hL ?_ (by decide); repeat (first | assumption | (exact JW_len0 (by assumption)) | (refine JW_up ?_ (by first | decide | (unfold frR; omega)) (by first | decide | simp [frc]) (by first | decide | simp [frw]) (by first | (simp [BdR]; done) | (refine BdR_n (by simp) ?_; (first | (refine rb_at ?_ ?_ <;> first | omega | (simp only [upm_app]; (repeat' split) <;> omega)) | (refine rb_us ?_ ?_ <;> first | omega | (simp only [upm_app]; (repeat' split) <;> omega)) | (refine rb_ho ?_ ?_ <;> first | omega | (simp only [upm_app]; (repeat' split) <;> omega)) | (refine rb_on ?_ ?_ <;> first | omega | (simp only [upm_app]; (repeat' split) <;> omega)) | ((try simp (disch := omega) only [w32_eq]); (refine (rb_i ?_ ?_).2 ?_ <;> omega)) | (refine rb_us ?_ ?_ <;> first | omega | (unfold w32; omega)))) | (simp [BdR] <;> first | omega | (unfold w32; omega)) | (simp [BdR, upm] <;> first | omega | (unfold w32; omega)))))
  · unfold w32; omega
  · unfold w32; omega
  · simp only [upm_app, Int.reduceEq, false_and, if_false, ↓reduceIte]; exact h3
  · intro j hj0 hj1
    rw [w32_eq (v := i + 1) (by omega) (by omega)] at hj1
    by_cases hji : j = i
    · rw [hji, upm_v]; decide
    · rw [upm_k hji]; exact hS j hj0 (by omega)

set_option maxHeartbeats 4000000 in
theorem l251b {d : Nat} {tc pl e W : Int} {g : Fg} {m : Mem} {N : Int → Int} {a : Int} {Kn Kb : Rho → Sto → Prop} {Kr : Int → Sto → Prop} (hS0 : ∀ j, 0 ≤ j → j < 100 → 1 ≤ m 274 j) (hJ : JW 4 g tc pl N W m) (hq : ∀ m' i y z, JW 4 g tc pl N W m' → m' 249 3 = m 249 3 → (∀ j, 0 ≤ j → j < 100 → 1 ≤ m' 274 j) → Kn (rl [249, a, i, y, z]) (S9 e m')) : ((whl true 119 (cmp 2 (by decide) (ldi 2) (get f_13_146 (lda 0))) (ifs (cor 50 (cnot (cz 1 (by decide) (aldz (get f_13_26 (lda 0)) (ldi 2)))) (cz 1 (by decide) (csta s_13_156 (acons (ldi 1) (acons (ldi 2) (anil)))))) (seq 67 (asi 3 (add (mul (cst 10) (aldi (get f_13_17 (lda 0)) (ldi 2))) (aldi (get f_13_20 (lda 0)) (ldi 2)))) (seq 85 (asi 4 (add (mul (cst 10) (aldi (get f_13_20 (lda 0)) (ldi 2))) (aldi (get f_13_17 (lda 0)) (ldi 2)))) (seq 106 (asti (get f_13_84 (lda 0)) (ldi 3) (csta s_13_169 (acons (aldi (get f_13_84 (lda 0)) (ldi 3)) (acons (aldi (get f_13_23 (lda 0)) (ldi 2)) (anil))))) (asti (get f_13_84 (lda 0)) (ldi 4) (aldi (get f_13_84 (lda 0)) (ldi 3))))))) (inc 2 1)) : SX 13).1.2 (Cl (d + 1)) Kn Kb Kr (rl [249, a, 0]) (S9 e m) := by
  have hL := JW_l hJ
  have hs := JW_s hJ
  refine whl_i (fun k r u => ∃ (i : Int) (y : Int) (z : Int) (m9 : Mem), r = rl [249, a, i, y, z] ∧ u = S9 e m9 ∧ JW 4 g tc pl N W m9 ∧ 0 ≤ i ∧ i + k = 15 ∧ m9 249 3 = m 249 3 ∧ (∀ j, 0 ≤ j → j < 100 → 1 ≤ m9 274 j)) 15 ?_ ?_
  next => exact ⟨0, 0, 0, m, rlp3_2, rfl, hJ, by omega, by omega, rfl, hS0⟩
  rintro k r u ⟨i, y, z, m9, rfl, rfl, hJ9, hi, hk, h3, hS⟩
  have hJ9 := JW_dn hL hJ9; have hs9 := JW_s hJ9
  have h58 := JW_2 hJ9
  have y2 := JR_252 (JW_1 hJ9) i
  have y3 := JR_253 (JW_1 hJ9) i
  have y4 := JR_254 (JW_1 hJ9) i
  have y5 := JW_st hJ9 i hi
  have z1 := w10e (a := m9 252 i) (b := m9 253 i) (by omega) (by omega) (by omega) (by omega)
  have z2 := w10e (a := m9 253 i) (b := m9 252 i) (by omega) (by omega) (by omega) (by omega)
  have y6 := JR_274 (JW_1 hJ9) (10 * m9 252 i + m9 253 i)
  have y7 := hS (10 * m9 252 i + m9 253 i) (by omega) (by omega)
  simp only [cl_251, runB, B251, ma_251, rho_20, wf_13_133, wf_13_146, wf_13_17, wf_13_20, wf_13_23, wf_13_26, wf_13_81, wf_13_84, wc_19, wc_199, cl_19, B19, ma_19, rho_00, w_cst, w_ldi, w_ldj, w_lda, w_ljk, w_ldk, w_ldw, w_ldk2, w_ldt, w_ldtw, w_neg, w_cvb, w_cvs, w_cvc, w_cvj, w_add, w_sub, w_mul, w_ban, w_bor, w_bxo, w_shl, w_shr, w_ush, w_dvi, w_rmi, w_aldi, w_aldj, w_aldz, w_aldc, w_alda, w_ite, w_cmp, w_cmj, w_cz, w_cnot, w_cand, w_cor, w_nil, w_cons, w_cvi, w_csta, w_cvt, w_cvv, w_csv, w_cpy, w_seq, w_sbr, w_sbn, w_brk, w_ifs, w_ifx, w_ife, w_wk, w_rets, w_rtv, w_thr, w_asi, w_asj, w_asa, w_inc, w_exs, w_asti, w_astj, w_astz, w_astc, w_aopadd, w_aopsub, w_sw, if_true, if_false, ↓reduceIte, hdl_c, S9_1, S9_m, bud9, live9, inb9, wrn, wr9_14, wr9_15, wr9_16, wr9_17, tq9_14, tq9_15, tq9_16, tq9_17, tq_0, tq_1, tq_3, upr_rl, rl_0, rl_1, rl_2, rl_3, rl_4, rl_5, rl_6, rl_7, rl_8, rl_9, rl_10, rl_11, rl_12, rl_13, sp_0, sp_1, sp_2, sp_3, sp_4, sp_5, sp_6, sp_7, sp_8, sp_9, sp_10, sp_11, sp_12, sp_13, se_0, se_1, se_2, se_3, se_4, se_5, se_6, se_7, se_8, se_9, se_10, se_11, se_12, se_13, sem_0, sem_1, sem_2, sem_3, sem_4, sem_5, sr_249_34, sr_249_70, kl9_249, sr_249_17, sr_249_54, sr_249_61, kc_249, sr_249_14, sr_249_16, sr_249_11, sr_249_55, sr_249_9, sr_249_40, sr_249_51, sr_249_2, sr_249_31, sr_249_22, sr_249_30, sr_249_63, sr_249_68, sr_249_10, sr_249_8, sr_249_71, sr_249_25, sr_249_50, sr_249_42, sr_249_41, sr_249_57, sr_249_15, sr_249_12, sr_249_58, sr_249_24, sr_249_67, sr_249_43, sr_249_69, sr_249_64, sr_249_52, sr_249_13, sr_249_35, sr_249_23, kl9_252, kc_252, kl9_253, kc_253, kc_254, kl9_254, kl9_255, kc_255, kc_273, kl9_273, kc_274, kl9_274, List.getD_cons_zero, List.getD_cons_succ, Bool.false_eq_true, wrn3, wrn1, cpmS, cpok9, h58]
  (try simp (disch := omega) only [w15_0, w15_1, w15_3, w15_4, w15_5, w15_6, w3_0, w3_1, w3_2, upm_app, Int.reduceEq, and_self, and_true, true_and, and_false, false_and, if_true, if_false, ↓reduceIte])
  repeat' (first
    | (with_reducible exact True.intro)
    | omega
    | (with_reducible rfl)
    | (with_reducible contradiction)
    | (with_reducible refine And.intro ?_ ?_)
    | intro _
    | (with_reducible refine p_199 (fun v9 h9 => ?_); (try simp only [h58] at h9); simp only [hdl_c, S9_1, S9_m, bud9, live9, inb9, wrn, wr9_14, wr9_15, wr9_16, wr9_17, tq9_14, tq9_15, tq9_16, tq9_17, tq_0, tq_1, tq_3, upr_rl, rl_0, rl_1, rl_2, rl_3, rl_4, rl_5, rl_6, rl_7, rl_8, rl_9, rl_10, rl_11, rl_12, rl_13, sp_0, sp_1, sp_2, sp_3, sp_4, sp_5, sp_6, sp_7, sp_8, sp_9, sp_10, sp_11, sp_12, sp_13, se_0, se_1, se_2, se_3, se_4, se_5, se_6, se_7, se_8, se_9, se_10, se_11, se_12, se_13, sem_0, sem_1, sem_2, sem_3, sem_4, sem_5, List.getD_cons_zero, List.getD_cons_succ, Bool.false_eq_true, wrn3, wrn1, cpmS, cpok9, if_true, if_false, ↓reduceIte, wc_19, wc_199, cl_19, runB, B19, ma_19, rho_00, w_cst, w_ldi, w_ldj, w_lda, w_ljk, w_ldk, w_ldw, w_ldk2, w_ldt, w_ldtw, w_neg, w_cvb, w_cvs, w_cvc, w_cvj, w_add, w_sub, w_mul, w_ban, w_bor, w_bxo, w_shl, w_shr, w_ush, w_dvi, w_rmi, w_aldi, w_aldj, w_aldz, w_aldc, w_alda, w_ite, w_cmp, w_cmj, w_cz, w_cnot, w_cand, w_cor, w_nil, w_cons, w_cvi, w_csta, w_cvt, w_cvv, w_csv, w_cpy, w_seq, w_sbr, w_sbn, w_brk, w_ifs, w_ifx, w_ife, w_wk, w_rets, w_rtv, w_thr, w_asi, w_asj, w_asa, w_inc, w_exs, w_asti, w_astj, w_astz, w_astc, w_aopadd, w_aopsub, w_sw, if_true, if_false, ↓reduceIte, sr_249_34, sr_249_70, kl9_249, sr_249_17, sr_249_54, sr_249_61, kc_249, sr_249_14, sr_249_16, sr_249_11, sr_249_55, sr_249_9, sr_249_40, sr_249_51, sr_249_2, sr_249_31, sr_249_22, sr_249_30, sr_249_63, sr_249_68, sr_249_10, sr_249_8, sr_249_71, sr_249_25, sr_249_50, sr_249_42, sr_249_41, sr_249_57, sr_249_15, sr_249_12, sr_249_58, sr_249_24, sr_249_67, sr_249_43, sr_249_69, sr_249_64, sr_249_52, sr_249_13, sr_249_35, sr_249_23, kl9_252, kc_252, kl9_253, kc_253, kc_254, kl9_254, kl9_255, kc_255, kc_273, kl9_273, kc_274, kl9_274, h58]; (try simp (disch := omega) only [w15_0, w15_1, w15_3, w15_4, w15_5, w15_6, w3_0, w3_1, w3_2, upm_app, Int.reduceEq, and_self, and_true, true_and, and_false, false_and, if_true, if_false, ↓reduceIte, h58]))
    | (exact hq _ _ _ _ hJ9 h3 hS)
    | (unfold w32; omega)
    | (simp (disch := omega) only [w32_eq]; omega)
    | (with_reducible show (_ : Int) ≤ _; simp [upm] <;> (first | omega | (unfold w32; omega)))
    | (with_reducible show (_ : Int) < _; simp [upm] <;> (first | omega | (unfold w32; omega))))
  all_goals try simp only [z1, z2, upm_v]
  all_goals refine ⟨k - 1, by omega, w32 (i + 1), _, _, _, rfl, rfl, ?_, ?_, ?_, ?_, ?_⟩
  all_goals first
    | exact hJ9
    | exact h3
    | exact hS
    | (unfold w32; omega)
    | (simp only [upm_app, Int.reduceEq, false_and, if_false, ↓reduceIte]; exact h3)
    | (with_reducible (refine JW_of hL ?_ (by decide); repeat (first | assumption | (exact JW_len0 (by assumption)) | (refine JW_up ?_ (by first | decide | (unfold frR; omega)) (by first | decide | simp [frc]) (by first | decide | simp [frw]) (by first | (simp [BdR]; done) | (refine BdR_n (by simp) ?_; (first | (refine rb_at ?_ ?_ <;> first | omega | (simp only [upm_app]; (repeat' split) <;> omega)) | (refine rb_us ?_ ?_ <;> first | omega | (simp only [upm_app]; (repeat' split) <;> omega)) | (refine rb_ho ?_ ?_ <;> first | omega | (simp only [upm_app]; (repeat' split) <;> omega)) | (refine rb_on ?_ ?_ <;> first | omega | (simp only [upm_app]; (repeat' split) <;> omega)) | ((try simp (disch := omega) only [w32_eq]); (refine (rb_i ?_ ?_).2 ?_ <;> omega)) | (refine rb_us ?_ ?_ <;> first | omega | (unfold w32; omega)))) | (simp [BdR] <;> first | omega | (unfold w32; omega)) | (simp [BdR, upm] <;> first | omega | (unfold w32; omega)))))); done)
    | (intro j hj0 hj1; have := hS j hj0 hj1; by_cases e2 : j = 10 * m9 253 i + m9 252 i; (next => rw [e2, upm_v]; omega); (next => rw [upm_k e2]; by_cases e1 : j = 10 * m9 252 i + m9 253 i; (next => rw [e1, upm_v]; omega); (next => rw [upm_k e1]; exact this)))

set_option maxHeartbeats 4000000 in
theorem l251d {d : Nat} {tc pl e W : Int} {g : Fg} {m : Mem} {N : Int → Int} {a i z : Int} {Kn Kb : Rho → Sto → Prop} {Kr : Int → Sto → Prop} (hi : 0 ≤ i ∧ i < m 249 3) (hS0 : ∀ j, 0 ≤ j → j < 100 → 1 ≤ m 274 j) (hR0 : ∀ p q, rg (m 249 3) p q → p < i → m 273 (10 * p + q) = if p = q then 0 else m 274 (10 * p + q)) (hJ : JW 4 g tc pl N W m) (hq : ∀ m' y, JW 4 g tc pl N W m' → m' 249 3 = m 249 3 → (∀ j, 0 ≤ j → j < 100 → 1 ≤ m' 274 j) → (∀ p q, rg (m 249 3) p q → p < i + 1 → m' 273 (10 * p + q) = if p = q then 0 else m' 274 (10 * p + q)) → Kn (rl [249, a, i, y, z]) (S9 e m')) : ((whl true 176 (cmp 2 (by decide) (ldi 3) (get f_13_133 (lda 0))) (asti (get f_13_81 (lda 0)) (add (mul (cst 10) (ldi 2)) (ldi 3)) (ite 164 175 (cmp 0 (by decide) (ldi 2) (ldi 3)) (cst 0) (aldi (get f_13_84 (lda 0)) (add (mul (cst 10) (ldi 2)) (ldi 3))))) (inc 3 1)) : SX 13).1.2 (Cl (d + 1)) Kn Kb Kr (rl [249, a, i, 0, z]) (S9 e m) := by
  have hL := JW_l hJ
  have hs := JW_s hJ
  refine whl_i (fun k r u => ∃ (y : Int) (m9 : Mem), r = rl [249, a, i, y, z] ∧ u = S9 e m9 ∧ JW 4 g tc pl N W m9 ∧ 0 ≤ y ∧ y + k = 11 ∧ m9 249 3 = m 249 3 ∧ (∀ j, 0 ≤ j → j < 100 → 1 ≤ m9 274 j) ∧ (∀ p q, rg (m 249 3) p q → (p < i ∨ p = i ∧ q < y) → m9 273 (10 * p + q) = if p = q then 0 else m9 274 (10 * p + q))) 11 ?_ ?_
  next => exact ⟨0, m, rfl, rfl, hJ, by omega, by omega, rfl, hS0, fun p q h0 h1 => hR0 p q h0 (by omega)⟩
  rintro k r u ⟨y, m9, rfl, rfl, hJ9, hy, hk, h3, hS, hR⟩
  have hJ9 := JW_dn hL hJ9; have hs9 := JW_s hJ9
  have h58 := JW_2 hJ9
  have z1 := fun h => w10e (a := i) (b := y) hi.1 (by omega) hy h
  have y6 := JR_274 (JW_1 hJ9) (10 * i + y)
  simp only [cl_251, runB, B251, ma_251, rho_20, wf_13_133, wf_13_146, wf_13_17, wf_13_20, wf_13_23, wf_13_26, wf_13_81, wf_13_84, wc_19, wc_199, cl_19, B19, ma_19, rho_00, w_cst, w_ldi, w_ldj, w_lda, w_ljk, w_ldk, w_ldw, w_ldk2, w_ldt, w_ldtw, w_neg, w_cvb, w_cvs, w_cvc, w_cvj, w_add, w_sub, w_mul, w_ban, w_bor, w_bxo, w_shl, w_shr, w_ush, w_dvi, w_rmi, w_aldi, w_aldj, w_aldz, w_aldc, w_alda, w_ite, w_cmp, w_cmj, w_cz, w_cnot, w_cand, w_cor, w_nil, w_cons, w_cvi, w_csta, w_cvt, w_cvv, w_csv, w_cpy, w_seq, w_sbr, w_sbn, w_brk, w_ifs, w_ifx, w_ife, w_wk, w_rets, w_rtv, w_thr, w_asi, w_asj, w_asa, w_inc, w_exs, w_asti, w_astj, w_astz, w_astc, w_aopadd, w_aopsub, w_sw, if_true, if_false, ↓reduceIte, hdl_c, S9_1, S9_m, bud9, live9, inb9, wrn, wr9_14, wr9_15, wr9_16, wr9_17, tq9_14, tq9_15, tq9_16, tq9_17, tq_0, tq_1, tq_3, upr_rl, rl_0, rl_1, rl_2, rl_3, rl_4, rl_5, rl_6, rl_7, rl_8, rl_9, rl_10, rl_11, rl_12, rl_13, sp_0, sp_1, sp_2, sp_3, sp_4, sp_5, sp_6, sp_7, sp_8, sp_9, sp_10, sp_11, sp_12, sp_13, se_0, se_1, se_2, se_3, se_4, se_5, se_6, se_7, se_8, se_9, se_10, se_11, se_12, se_13, sem_0, sem_1, sem_2, sem_3, sem_4, sem_5, sr_249_34, sr_249_70, kl9_249, sr_249_17, sr_249_54, sr_249_61, kc_249, sr_249_14, sr_249_16, sr_249_11, sr_249_55, sr_249_9, sr_249_40, sr_249_51, sr_249_2, sr_249_31, sr_249_22, sr_249_30, sr_249_63, sr_249_68, sr_249_10, sr_249_8, sr_249_71, sr_249_25, sr_249_50, sr_249_42, sr_249_41, sr_249_57, sr_249_15, sr_249_12, sr_249_58, sr_249_24, sr_249_67, sr_249_43, sr_249_69, sr_249_64, sr_249_52, sr_249_13, sr_249_35, sr_249_23, kl9_252, kc_252, kl9_253, kc_253, kc_254, kl9_254, kl9_255, kc_255, kc_273, kl9_273, kc_274, kl9_274, List.getD_cons_zero, List.getD_cons_succ, Bool.false_eq_true, wrn3, wrn1, cpmS, cpok9, h58]
  (try simp (disch := omega) only [w15_0, w15_1, w15_3, w15_4, w15_5, w15_6, w3_0, w3_1, w3_2, upm_app, Int.reduceEq, and_self, and_true, true_and, and_false, false_and, if_true, if_false, ↓reduceIte])
  repeat' (first
    | (with_reducible exact True.intro)
    | omega
    | (with_reducible rfl)
    | (with_reducible contradiction)
    | (with_reducible refine And.intro ?_ ?_)
    | intro _
    | (with_reducible refine p_199 (fun v9 h9 => ?_); (try simp only [h58] at h9); simp only [hdl_c, S9_1, S9_m, bud9, live9, inb9, wrn, wr9_14, wr9_15, wr9_16, wr9_17, tq9_14, tq9_15, tq9_16, tq9_17, tq_0, tq_1, tq_3, upr_rl, rl_0, rl_1, rl_2, rl_3, rl_4, rl_5, rl_6, rl_7, rl_8, rl_9, rl_10, rl_11, rl_12, rl_13, sp_0, sp_1, sp_2, sp_3, sp_4, sp_5, sp_6, sp_7, sp_8, sp_9, sp_10, sp_11, sp_12, sp_13, se_0, se_1, se_2, se_3, se_4, se_5, se_6, se_7, se_8, se_9, se_10, se_11, se_12, se_13, sem_0, sem_1, sem_2, sem_3, sem_4, sem_5, List.getD_cons_zero, List.getD_cons_succ, Bool.false_eq_true, wrn3, wrn1, cpmS, cpok9, if_true, if_false, ↓reduceIte, wc_19, wc_199, cl_19, runB, B19, ma_19, rho_00, w_cst, w_ldi, w_ldj, w_lda, w_ljk, w_ldk, w_ldw, w_ldk2, w_ldt, w_ldtw, w_neg, w_cvb, w_cvs, w_cvc, w_cvj, w_add, w_sub, w_mul, w_ban, w_bor, w_bxo, w_shl, w_shr, w_ush, w_dvi, w_rmi, w_aldi, w_aldj, w_aldz, w_aldc, w_alda, w_ite, w_cmp, w_cmj, w_cz, w_cnot, w_cand, w_cor, w_nil, w_cons, w_cvi, w_csta, w_cvt, w_cvv, w_csv, w_cpy, w_seq, w_sbr, w_sbn, w_brk, w_ifs, w_ifx, w_ife, w_wk, w_rets, w_rtv, w_thr, w_asi, w_asj, w_asa, w_inc, w_exs, w_asti, w_astj, w_astz, w_astc, w_aopadd, w_aopsub, w_sw, if_true, if_false, ↓reduceIte, sr_249_34, sr_249_70, kl9_249, sr_249_17, sr_249_54, sr_249_61, kc_249, sr_249_14, sr_249_16, sr_249_11, sr_249_55, sr_249_9, sr_249_40, sr_249_51, sr_249_2, sr_249_31, sr_249_22, sr_249_30, sr_249_63, sr_249_68, sr_249_10, sr_249_8, sr_249_71, sr_249_25, sr_249_50, sr_249_42, sr_249_41, sr_249_57, sr_249_15, sr_249_12, sr_249_58, sr_249_24, sr_249_67, sr_249_43, sr_249_69, sr_249_64, sr_249_52, sr_249_13, sr_249_35, sr_249_23, kl9_252, kc_252, kl9_253, kc_253, kc_254, kl9_254, kl9_255, kc_255, kc_273, kl9_273, kc_274, kl9_274, h58]; (try simp (disch := omega) only [w15_0, w15_1, w15_3, w15_4, w15_5, w15_6, w3_0, w3_1, w3_2, upm_app, Int.reduceEq, and_self, and_true, true_and, and_false, false_and, if_true, if_false, ↓reduceIte, h58]))
    | (exact hq _ _ hJ9 h3 hS (fun p q h0 h1 => hR p q h0 (by omega)))
    | (unfold w32; omega)
    | (simp (disch := omega) only [w32_eq]; omega)
    | (with_reducible show (_ : Int) ≤ _; simp [upm] <;> (first | omega | (unfold w32; omega)))
    | (with_reducible show (_ : Int) < _; simp [upm] <;> (first | omega | (unfold w32; omega))))
  all_goals have z2 := z1 (by omega)
  all_goals simp only [z2]
  all_goals refine ⟨k - 1, by omega, w32 (y + 1), _, rfl, rfl, ?_, ?_, ?_, ?_, ?_, ?_⟩
  all_goals first
    | (unfold w32; omega)
    | (simp only [upm_app, Int.reduceEq, false_and, if_false, ↓reduceIte]; exact h3)
    | (with_reducible (refine JW_of hL ?_ (by decide); repeat (first | assumption | (exact JW_len0 (by assumption)) | (refine JW_up ?_ (by first | decide | (unfold frR; omega)) (by first | decide | simp [frc]) (by first | decide | simp [frw]) (by first | (simp [BdR]; done) | (refine BdR_n (by simp) ?_; (first | (refine rb_at ?_ ?_ <;> first | omega | (simp only [upm_app]; (repeat' split) <;> omega)) | (refine rb_us ?_ ?_ <;> first | omega | (simp only [upm_app]; (repeat' split) <;> omega)) | (refine rb_ho ?_ ?_ <;> first | omega | (simp only [upm_app]; (repeat' split) <;> omega)) | (refine rb_on ?_ ?_ <;> first | omega | (simp only [upm_app]; (repeat' split) <;> omega)) | ((try simp (disch := omega) only [w32_eq]); (refine (rb_i ?_ ?_).2 ?_ <;> omega)) | (refine rb_us ?_ ?_ <;> first | omega | (unfold w32; omega)))) | (simp [BdR] <;> first | omega | (unfold w32; omega)) | (simp [BdR, upm] <;> first | omega | (unfold w32; omega)))))); done)
    | (intro j hj0 hj1; have := hS j hj0 hj1; simp only [upm_app, Int.reduceEq, false_and, if_false, ↓reduceIte]; exact this)
    | (rw [w32_eq (v := y + 1) (by omega) (by omega)]; intro p q h0 h1; have h5 := hR p q h0; have hr := h0; by_cases hq9 : p = i ∧ q = y; (next => obtain ⟨rfl, rfl⟩ := hq9; rw [upm_v, upm_ne (by decide)]; first | (rw [if_pos (by assumption)]) | (rw [if_neg (by assumption)])); (next => rw [upm_k (by omega), upm_ne (by decide)]; exact h5 (by omega)))

set_option maxHeartbeats 4000000 in
theorem l251c {d : Nat} {tc pl e W : Int} {g : Fg} {m : Mem} {N : Int → Int} {a y0 z0 : Int} {Kn Kb : Rho → Sto → Prop} {Kr : Int → Sto → Prop} (hS0 : ∀ j, 0 ≤ j → j < 100 → 1 ≤ m 274 j) (hJ : JW 4 g tc pl N W m) (hq : ∀ m' i y z, JW 4 g tc pl N W m' → m' 249 3 = m 249 3 → (∀ j, 0 ≤ j → j < 100 → 1 ≤ m' 274 j) → (∀ p q, rg (m 249 3) p q → m' 273 (10 * p + q) = if p = q then 0 else m' 274 (10 * p + q)) → Kn (rl [249, a, i, y, z]) (S9 e m')) : ((whl true 182 (cmp 2 (by decide) (ldi 2) (get f_13_133 (lda 0))) (seq 137 (asi 3 (cst 0)) (wk [0, 1, 2, 3] (whl true 176 (cmp 2 (by decide) (ldi 3) (get f_13_133 (lda 0))) (asti (get f_13_81 (lda 0)) (add (mul (cst 10) (ldi 2)) (ldi 3)) (ite 164 175 (cmp 0 (by decide) (ldi 2) (ldi 3)) (cst 0) (aldi (get f_13_84 (lda 0)) (add (mul (cst 10) (ldi 2)) (ldi 3))))) (inc 3 1)))) (inc 2 1)) : SX 13).1.2 (Cl (d + 1)) Kn Kb Kr (rl [249, a, 0, y0, z0]) (S9 e m) := by
  have hL := JW_l hJ
  have hs := JW_s hJ
  refine whl_i (fun k r u => ∃ (i : Int) (y : Int) (z : Int) (m9 : Mem), r = rl [249, a, i, y, z] ∧ u = S9 e m9 ∧ JW 4 g tc pl N W m9 ∧ 0 ≤ i ∧ i + k = 11 ∧ m9 249 3 = m 249 3 ∧ (∀ j, 0 ≤ j → j < 100 → 1 ≤ m9 274 j) ∧ (∀ p q, rg (m 249 3) p q → p < i → m9 273 (10 * p + q) = if p = q then 0 else m9 274 (10 * p + q))) 11 ?_ ?_
  next => exact ⟨0, _, _, m, rfl, rfl, hJ, by omega, by omega, rfl, hS0, fun p q h0 h1 => absurd h1 (by omega)⟩
  rintro k r u ⟨i, y, z, m9, rfl, rfl, hJ9, hi, hk, h3, hS, hR⟩
  have hJ9 := JW_dn hL hJ9; have hs9 := JW_s hJ9
  have h58 := JW_2 hJ9
  simp only [cl_251, runB, B251, ma_251, rho_20, wf_13_133, wf_13_146, wf_13_17, wf_13_20, wf_13_23, wf_13_26, wf_13_81, wf_13_84, wc_19, wc_199, cl_19, B19, ma_19, rho_00, w_cst, w_ldi, w_ldj, w_lda, w_ljk, w_ldk, w_ldw, w_ldk2, w_ldt, w_ldtw, w_neg, w_cvb, w_cvs, w_cvc, w_cvj, w_add, w_sub, w_mul, w_ban, w_bor, w_bxo, w_shl, w_shr, w_ush, w_dvi, w_rmi, w_aldi, w_aldj, w_aldz, w_aldc, w_alda, w_ite, w_cmp, w_cmj, w_cz, w_cnot, w_cand, w_cor, w_nil, w_cons, w_cvi, w_csta, w_cvt, w_cvv, w_csv, w_cpy, w_seq, w_sbr, w_sbn, w_brk, w_ifs, w_ifx, w_ife, w_wk, w_rets, w_rtv, w_thr, w_asi, w_asj, w_asa, w_inc, w_exs, w_asti, w_astj, w_astz, w_astc, w_aopadd, w_aopsub, w_sw, if_true, if_false, ↓reduceIte, hdl_c, S9_1, S9_m, bud9, live9, inb9, wrn, wr9_14, wr9_15, wr9_16, wr9_17, tq9_14, tq9_15, tq9_16, tq9_17, tq_0, tq_1, tq_3, upr_rl, rl_0, rl_1, rl_2, rl_3, rl_4, rl_5, rl_6, rl_7, rl_8, rl_9, rl_10, rl_11, rl_12, rl_13, sp_0, sp_1, sp_2, sp_3, sp_4, sp_5, sp_6, sp_7, sp_8, sp_9, sp_10, sp_11, sp_12, sp_13, se_0, se_1, se_2, se_3, se_4, se_5, se_6, se_7, se_8, se_9, se_10, se_11, se_12, se_13, sem_0, sem_1, sem_2, sem_3, sem_4, sem_5, sr_249_34, sr_249_70, kl9_249, sr_249_17, sr_249_54, sr_249_61, kc_249, sr_249_14, sr_249_16, sr_249_11, sr_249_55, sr_249_9, sr_249_40, sr_249_51, sr_249_2, sr_249_31, sr_249_22, sr_249_30, sr_249_63, sr_249_68, sr_249_10, sr_249_8, sr_249_71, sr_249_25, sr_249_50, sr_249_42, sr_249_41, sr_249_57, sr_249_15, sr_249_12, sr_249_58, sr_249_24, sr_249_67, sr_249_43, sr_249_69, sr_249_64, sr_249_52, sr_249_13, sr_249_35, sr_249_23, kl9_252, kc_252, kl9_253, kc_253, kc_254, kl9_254, kl9_255, kc_255, kc_273, kl9_273, kc_274, kl9_274, List.getD_cons_zero, List.getD_cons_succ, Bool.false_eq_true, wrn3, wrn1, cpmS, cpok9, h58]
  (try simp (disch := omega) only [w15_0, w15_1, w15_3, w15_4, w15_5, w15_6, w3_0, w3_1, w3_2, upm_app, Int.reduceEq, and_self, and_true, true_and, and_false, false_and, if_true, if_false, ↓reduceIte])
  repeat' (first
    | (with_reducible exact True.intro)
    | omega
    | (with_reducible rfl)
    | (with_reducible contradiction)
    | (with_reducible refine And.intro ?_ ?_)
    | intro _
    | (with_reducible refine p_199 (fun v9 h9 => ?_); (try simp only [h58] at h9); simp only [hdl_c, S9_1, S9_m, bud9, live9, inb9, wrn, wr9_14, wr9_15, wr9_16, wr9_17, tq9_14, tq9_15, tq9_16, tq9_17, tq_0, tq_1, tq_3, upr_rl, rl_0, rl_1, rl_2, rl_3, rl_4, rl_5, rl_6, rl_7, rl_8, rl_9, rl_10, rl_11, rl_12, rl_13, sp_0, sp_1, sp_2, sp_3, sp_4, sp_5, sp_6, sp_7, sp_8, sp_9, sp_10, sp_11, sp_12, sp_13, se_0, se_1, se_2, se_3, se_4, se_5, se_6, se_7, se_8, se_9, se_10, se_11, se_12, se_13, sem_0, sem_1, sem_2, sem_3, sem_4, sem_5, List.getD_cons_zero, List.getD_cons_succ, Bool.false_eq_true, wrn3, wrn1, cpmS, cpok9, if_true, if_false, ↓reduceIte, wc_19, wc_199, cl_19, runB, B19, ma_19, rho_00, w_cst, w_ldi, w_ldj, w_lda, w_ljk, w_ldk, w_ldw, w_ldk2, w_ldt, w_ldtw, w_neg, w_cvb, w_cvs, w_cvc, w_cvj, w_add, w_sub, w_mul, w_ban, w_bor, w_bxo, w_shl, w_shr, w_ush, w_dvi, w_rmi, w_aldi, w_aldj, w_aldz, w_aldc, w_alda, w_ite, w_cmp, w_cmj, w_cz, w_cnot, w_cand, w_cor, w_nil, w_cons, w_cvi, w_csta, w_cvt, w_cvv, w_csv, w_cpy, w_seq, w_sbr, w_sbn, w_brk, w_ifs, w_ifx, w_ife, w_wk, w_rets, w_rtv, w_thr, w_asi, w_asj, w_asa, w_inc, w_exs, w_asti, w_astj, w_astz, w_astc, w_aopadd, w_aopsub, w_sw, if_true, if_false, ↓reduceIte, sr_249_34, sr_249_70, kl9_249, sr_249_17, sr_249_54, sr_249_61, kc_249, sr_249_14, sr_249_16, sr_249_11, sr_249_55, sr_249_9, sr_249_40, sr_249_51, sr_249_2, sr_249_31, sr_249_22, sr_249_30, sr_249_63, sr_249_68, sr_249_10, sr_249_8, sr_249_71, sr_249_25, sr_249_50, sr_249_42, sr_249_41, sr_249_57, sr_249_15, sr_249_12, sr_249_58, sr_249_24, sr_249_67, sr_249_43, sr_249_69, sr_249_64, sr_249_52, sr_249_13, sr_249_35, sr_249_23, kl9_252, kc_252, kl9_253, kc_253, kc_254, kl9_254, kl9_255, kc_255, kc_273, kl9_273, kc_274, kl9_274, h58]; (try simp (disch := omega) only [w15_0, w15_1, w15_3, w15_4, w15_5, w15_6, w3_0, w3_1, w3_2, upm_app, Int.reduceEq, and_self, and_true, true_and, and_false, false_and, if_true, if_false, ↓reduceIte, h58]))
    | (exact hq _ _ _ _ hJ9 h3 hS (fun p q h0 => hR p q h0 (by omega)))
    | (unfold w32; omega)
    | (simp (disch := omega) only [w32_eq]; omega)
    | (with_reducible show (_ : Int) ≤ _; simp [upm] <;> (first | omega | (unfold w32; omega)))
    | (with_reducible show (_ : Int) < _; simp [upm] <;> (first | omega | (unfold w32; omega))))
  all_goals refine l251d (g := g) (tc := tc) (pl := pl) (N := N) (W := W) ⟨hi, by omega⟩ hS (by rw [h3]; exact hR) hJ9 (fun m8 y8 hJ8 e3 hS8 hR8 => ?_)
  all_goals simp only [cl_251, runB, B251, ma_251, rho_20, wf_13_133, wf_13_146, wf_13_17, wf_13_20, wf_13_23, wf_13_26, wf_13_81, wf_13_84, wc_19, wc_199, cl_19, B19, ma_19, rho_00, w_cst, w_ldi, w_ldj, w_lda, w_ljk, w_ldk, w_ldw, w_ldk2, w_ldt, w_ldtw, w_neg, w_cvb, w_cvs, w_cvc, w_cvj, w_add, w_sub, w_mul, w_ban, w_bor, w_bxo, w_shl, w_shr, w_ush, w_dvi, w_rmi, w_aldi, w_aldj, w_aldz, w_aldc, w_alda, w_ite, w_cmp, w_cmj, w_cz, w_cnot, w_cand, w_cor, w_nil, w_cons, w_cvi, w_csta, w_cvt, w_cvv, w_csv, w_cpy, w_seq, w_sbr, w_sbn, w_brk, w_ifs, w_ifx, w_ife, w_wk, w_rets, w_rtv, w_thr, w_asi, w_asj, w_asa, w_inc, w_exs, w_asti, w_astj, w_astz, w_astc, w_aopadd, w_aopsub, w_sw, if_true, if_false, ↓reduceIte, hdl_c, S9_1, S9_m, bud9, live9, inb9, wrn, wr9_14, wr9_15, wr9_16, wr9_17, tq9_14, tq9_15, tq9_16, tq9_17, tq_0, tq_1, tq_3, upr_rl, rl_0, rl_1, rl_2, rl_3, rl_4, rl_5, rl_6, rl_7, rl_8, rl_9, rl_10, rl_11, rl_12, rl_13, sp_0, sp_1, sp_2, sp_3, sp_4, sp_5, sp_6, sp_7, sp_8, sp_9, sp_10, sp_11, sp_12, sp_13, se_0, se_1, se_2, se_3, se_4, se_5, se_6, se_7, se_8, se_9, se_10, se_11, se_12, se_13, sem_0, sem_1, sem_2, sem_3, sem_4, sem_5, sr_249_34, sr_249_70, kl9_249, sr_249_17, sr_249_54, sr_249_61, kc_249, sr_249_14, sr_249_16, sr_249_11, sr_249_55, sr_249_9, sr_249_40, sr_249_51, sr_249_2, sr_249_31, sr_249_22, sr_249_30, sr_249_63, sr_249_68, sr_249_10, sr_249_8, sr_249_71, sr_249_25, sr_249_50, sr_249_42, sr_249_41, sr_249_57, sr_249_15, sr_249_12, sr_249_58, sr_249_24, sr_249_67, sr_249_43, sr_249_69, sr_249_64, sr_249_52, sr_249_13, sr_249_35, sr_249_23, kl9_252, kc_252, kl9_253, kc_253, kc_254, kl9_254, kl9_255, kc_255, kc_273, kl9_273, kc_274, kl9_274, List.getD_cons_zero, List.getD_cons_succ, Bool.false_eq_true, wrn3, wrn1, cpmS, cpok9]
  all_goals rw [h3] at e3 hR8
  all_goals refine ⟨k - 1, by omega, w32 (i + 1), _, _, m8, rfl, rfl, hJ8, ?_, ?_, e3, hS8, ?_⟩
  all_goals first
    | (unfold w32; omega)
    | (rw [w32_eq (v := i + 1) (by omega) (by omega)]; exact hR8)

set_option maxHeartbeats 4000000 in
theorem l251g {d : Nat} {tc pl e W : Int} {g : Fg} {m : Mem} {N : Int → Int} {a i y w0 : Int} {Kn Kb : Rho → Sto → Prop} {Kr : Int → Sto → Prop} {D : Int → Int → Int} (hi : 0 ≤ i ∧ i < m 249 3) (hy : 0 ≤ y ∧ y < m 249 3) (hS0 : ∀ j, 0 ≤ j → j < 100 → 1 ≤ m 274 j) (hF0 : FI (m 249 3) i (fun p q => m 274 (10 * p + q)) D) (hR0 : ∀ p q, rg (m 249 3) p q → m 273 (10 * p + q) = if p < y then phs D i p q else D p q) (hJ : JW 4 g tc pl N W m) (hq : ∀ m' z w, JW 4 g tc pl N W m' → m' 249 3 = m 249 3 → (∀ j, 0 ≤ j → j < 100 → 1 ≤ m' 274 j) → FI (m 249 3) i (fun p q => m' 274 (10 * p + q)) D → (∀ p q, rg (m 249 3) p q → m' 273 (10 * p + q) = if p < y + 1 then phs D i p q else D p q) → Kn (rl [249, a, i, y, z, w]) (S9 e m')) : ((whl true 275 (cmp 2 (by decide) (ldi 4) (get f_13_133 (lda 0))) (seq 246 (asi 5 (add (aldi (get f_13_81 (lda 0)) (add (mul (cst 10) (ldi 3)) (ldi 2))) (aldi (get f_13_81 (lda 0)) (add (mul (cst 10) (ldi 2)) (ldi 4))))) (asti (get f_13_81 (lda 0)) (add (mul (cst 10) (ldi 3)) (ldi 4)) (csta s_13_169 (acons (aldi (get f_13_81 (lda 0)) (add (mul (cst 10) (ldi 3)) (ldi 4))) (acons (ldi 5) (anil)))))) (inc 4 1)) : SX 13).1.2 (Cl (d + 1)) Kn Kb Kr (rl [249, a, i, y, 0, w0]) (S9 e m) := by
  have hL := JW_l hJ
  have hs := JW_s hJ
  refine whl_i (fun k r u => ∃ (z : Int) (w : Int) (m9 : Mem), r = rl [249, a, i, y, z, w] ∧ u = S9 e m9 ∧ JW 4 g tc pl N W m9 ∧ 0 ≤ z ∧ z + k = m 249 3 ∧ m9 249 3 = m 249 3 ∧ (∀ j, 0 ≤ j → j < 100 → 1 ≤ m9 274 j) ∧ FI (m 249 3) i (fun p q => m9 274 (10 * p + q)) D ∧ (∀ p q, rg (m 249 3) p q → m9 273 (10 * p + q) = if p < y ∨ p = y ∧ q < z then phs D i p q else D p q)) (m 249 3).toNat ?_ ?_
  next => exact ⟨0, _, m, rfl, rfl, hJ, by omega, by omega, rfl, hS0, hF0, fun p q h => by rw [hR0 p q h]; by_cases c : p < y; (next => rw [if_pos c, if_pos (by omega)]); (next => rw [if_neg c, if_neg (by omega)])⟩
  rintro k r u ⟨z, w, m9, rfl, rfl, hJ9, hz, hk, h3, hS, hF, hR⟩
  have hJ9 := JW_dn hL hJ9; have hs9 := JW_s hJ9
  have h58 := JW_2 hJ9
  have z1 := w10e (a := y) (b := i) (by omega) (by omega) (by omega) (by omega)
  have z2 := fun h => w10e (a := i) (b := z) (by omega) (by omega) hz h
  have z3 := fun h => w10e (a := y) (b := z) (by omega) (by omega) hz h
  have y4 := JR_273 (JW_1 hJ9) (10 * y + i)
  have y5 := JR_273 (JW_1 hJ9) (10 * i + z)
  have y6 := JR_273 (JW_1 hJ9) (10 * y + z)
  simp only [z1]
  simp only [cl_251, runB, B251, ma_251, rho_20, wf_13_133, wf_13_146, wf_13_17, wf_13_20, wf_13_23, wf_13_26, wf_13_81, wf_13_84, wc_19, wc_199, cl_19, B19, ma_19, rho_00, w_cst, w_ldi, w_ldj, w_lda, w_ljk, w_ldk, w_ldw, w_ldk2, w_ldt, w_ldtw, w_neg, w_cvb, w_cvs, w_cvc, w_cvj, w_add, w_sub, w_mul, w_ban, w_bor, w_bxo, w_shl, w_shr, w_ush, w_dvi, w_rmi, w_aldi, w_aldj, w_aldz, w_aldc, w_alda, w_ite, w_cmp, w_cmj, w_cz, w_cnot, w_cand, w_cor, w_nil, w_cons, w_cvi, w_csta, w_cvt, w_cvv, w_csv, w_cpy, w_seq, w_sbr, w_sbn, w_brk, w_ifs, w_ifx, w_ife, w_wk, w_rets, w_rtv, w_thr, w_asi, w_asj, w_asa, w_inc, w_exs, w_asti, w_astj, w_astz, w_astc, w_aopadd, w_aopsub, w_sw, if_true, if_false, ↓reduceIte, hdl_c, S9_1, S9_m, bud9, live9, inb9, wrn, wr9_14, wr9_15, wr9_16, wr9_17, tq9_14, tq9_15, tq9_16, tq9_17, tq_0, tq_1, tq_3, upr_rl, rl_0, rl_1, rl_2, rl_3, rl_4, rl_5, rl_6, rl_7, rl_8, rl_9, rl_10, rl_11, rl_12, rl_13, sp_0, sp_1, sp_2, sp_3, sp_4, sp_5, sp_6, sp_7, sp_8, sp_9, sp_10, sp_11, sp_12, sp_13, se_0, se_1, se_2, se_3, se_4, se_5, se_6, se_7, se_8, se_9, se_10, se_11, se_12, se_13, sem_0, sem_1, sem_2, sem_3, sem_4, sem_5, sr_249_34, sr_249_70, kl9_249, sr_249_17, sr_249_54, sr_249_61, kc_249, sr_249_14, sr_249_16, sr_249_11, sr_249_55, sr_249_9, sr_249_40, sr_249_51, sr_249_2, sr_249_31, sr_249_22, sr_249_30, sr_249_63, sr_249_68, sr_249_10, sr_249_8, sr_249_71, sr_249_25, sr_249_50, sr_249_42, sr_249_41, sr_249_57, sr_249_15, sr_249_12, sr_249_58, sr_249_24, sr_249_67, sr_249_43, sr_249_69, sr_249_64, sr_249_52, sr_249_13, sr_249_35, sr_249_23, kl9_252, kc_252, kl9_253, kc_253, kc_254, kl9_254, kl9_255, kc_255, kc_273, kl9_273, kc_274, kl9_274, List.getD_cons_zero, List.getD_cons_succ, Bool.false_eq_true, wrn3, wrn1, cpmS, cpok9, h58]
  (try simp (disch := omega) only [w15_0, w15_1, w15_3, w15_4, w15_5, w15_6, w3_0, w3_1, w3_2, upm_app, Int.reduceEq, and_self, and_true, true_and, and_false, false_and, if_true, if_false, ↓reduceIte])
  repeat' (first
    | (with_reducible exact True.intro)
    | omega
    | (with_reducible rfl)
    | (with_reducible contradiction)
    | (with_reducible refine And.intro ?_ ?_)
    | intro _
    | (with_reducible refine p_199 (fun v9 h9 => ?_); (try simp only [h58] at h9); simp only [hdl_c, S9_1, S9_m, bud9, live9, inb9, wrn, wr9_14, wr9_15, wr9_16, wr9_17, tq9_14, tq9_15, tq9_16, tq9_17, tq_0, tq_1, tq_3, upr_rl, rl_0, rl_1, rl_2, rl_3, rl_4, rl_5, rl_6, rl_7, rl_8, rl_9, rl_10, rl_11, rl_12, rl_13, sp_0, sp_1, sp_2, sp_3, sp_4, sp_5, sp_6, sp_7, sp_8, sp_9, sp_10, sp_11, sp_12, sp_13, se_0, se_1, se_2, se_3, se_4, se_5, se_6, se_7, se_8, se_9, se_10, se_11, se_12, se_13, sem_0, sem_1, sem_2, sem_3, sem_4, sem_5, List.getD_cons_zero, List.getD_cons_succ, Bool.false_eq_true, wrn3, wrn1, cpmS, cpok9, if_true, if_false, ↓reduceIte, wc_19, wc_199, cl_19, runB, B19, ma_19, rho_00, w_cst, w_ldi, w_ldj, w_lda, w_ljk, w_ldk, w_ldw, w_ldk2, w_ldt, w_ldtw, w_neg, w_cvb, w_cvs, w_cvc, w_cvj, w_add, w_sub, w_mul, w_ban, w_bor, w_bxo, w_shl, w_shr, w_ush, w_dvi, w_rmi, w_aldi, w_aldj, w_aldz, w_aldc, w_alda, w_ite, w_cmp, w_cmj, w_cz, w_cnot, w_cand, w_cor, w_nil, w_cons, w_cvi, w_csta, w_cvt, w_cvv, w_csv, w_cpy, w_seq, w_sbr, w_sbn, w_brk, w_ifs, w_ifx, w_ife, w_wk, w_rets, w_rtv, w_thr, w_asi, w_asj, w_asa, w_inc, w_exs, w_asti, w_astj, w_astz, w_astc, w_aopadd, w_aopsub, w_sw, if_true, if_false, ↓reduceIte, sr_249_34, sr_249_70, kl9_249, sr_249_17, sr_249_54, sr_249_61, kc_249, sr_249_14, sr_249_16, sr_249_11, sr_249_55, sr_249_9, sr_249_40, sr_249_51, sr_249_2, sr_249_31, sr_249_22, sr_249_30, sr_249_63, sr_249_68, sr_249_10, sr_249_8, sr_249_71, sr_249_25, sr_249_50, sr_249_42, sr_249_41, sr_249_57, sr_249_15, sr_249_12, sr_249_58, sr_249_24, sr_249_67, sr_249_43, sr_249_69, sr_249_64, sr_249_52, sr_249_13, sr_249_35, sr_249_23, kl9_252, kc_252, kl9_253, kc_253, kc_254, kl9_254, kl9_255, kc_255, kc_273, kl9_273, kc_274, kl9_274, h58]; (try simp (disch := omega) only [w15_0, w15_1, w15_3, w15_4, w15_5, w15_6, w3_0, w3_1, w3_2, upm_app, Int.reduceEq, and_self, and_true, true_and, and_false, false_and, if_true, if_false, ↓reduceIte, h58]))
    | (exact hq _ _ _ hJ9 h3 hS hF (fun p q h => by rw [hR p q h]; by_cases c : p < y ∨ p = y ∧ q < z; (next => rw [if_pos c, if_pos (by omega)]); (next => rw [if_neg c, if_neg (by omega)])))
    | (unfold w32; omega)
    | (simp (disch := omega) only [w32_eq]; omega)
    | (with_reducible show (_ : Int) ≤ _; simp [upm] <;> (first | omega | (unfold w32; omega)))
    | (with_reducible show (_ : Int) < _; simp [upm] <;> (first | omega | (unfold w32; omega))))
  all_goals have hz9 : z < m 249 3 := by omega
  all_goals have z2 := z2 (by omega)
  all_goals have z3 := z3 (by omega)
  all_goals have z4 := w32_eq (v := m9 273 (10 * y + i) + m9 273 (10 * i + z)) (by omega) (by omega)
  all_goals simp only [z1, z2, z3, z4] at *
  all_goals obtain ⟨⟨s1, s2, s3⟩, s4⟩ := fw_step (A := m9 273) hF (by omega) hi hy ⟨hz, hz9⟩ hR
  all_goals refine ⟨k - 1, by omega, w32 (z + 1), _, _, rfl, rfl, ?_, ?_, ?_, ?_, ?_, ?_, ?_⟩
  all_goals first
    | (unfold w32; omega)
    | (simp only [upm_app, Int.reduceEq, false_and, if_false, ↓reduceIte]; exact h3)
    | (with_reducible (refine JW_of hL ?_ (by decide); repeat (first | assumption | (exact JW_len0 (by assumption)) | (refine JW_up ?_ (by first | decide | (unfold frR; omega)) (by first | decide | simp [frc]) (by first | decide | simp [frw]) (by first | (simp [BdR]; done) | (refine BdR_n (by simp) ?_; (first | (refine rb_at ?_ ?_ <;> first | omega | (simp only [upm_app]; (repeat' split) <;> omega)) | (refine rb_us ?_ ?_ <;> first | omega | (simp only [upm_app]; (repeat' split) <;> omega)) | (refine rb_ho ?_ ?_ <;> first | omega | (simp only [upm_app]; (repeat' split) <;> omega)) | (refine rb_on ?_ ?_ <;> first | omega | (simp only [upm_app]; (repeat' split) <;> omega)) | ((try simp (disch := omega) only [w32_eq]); (refine (rb_i ?_ ?_).2 ?_ <;> omega)) | (refine rb_us ?_ ?_ <;> first | omega | (unfold w32; omega)))) | (simp [BdR] <;> first | omega | (unfold w32; omega)) | (simp [BdR, upm] <;> first | omega | (unfold w32; omega)))))); done)
    | (intro j hj0 hj1; have := hS j hj0 hj1; simp only [upm_app, Int.reduceEq, false_and, if_false, ↓reduceIte]; exact this)
    | (rw [upm_ne (by decide)]; exact hF)
    | (rw [w32_eq (v := z + 1) (by omega) (by omega)]; intro p q h; simp only [upm_app, Int.reduceEq, true_and]; refine s4 _ ?_ p q h; unfold phs; split <;> omega)

set_option maxHeartbeats 4000000 in
theorem l251f {d : Nat} {tc pl e W : Int} {g : Fg} {m : Mem} {N : Int → Int} {a i z0 w0 : Int} {Kn Kb : Rho → Sto → Prop} {Kr : Int → Sto → Prop} {D : Int → Int → Int} (hi : 0 ≤ i ∧ i < m 249 3) (hS0 : ∀ j, 0 ≤ j → j < 100 → 1 ≤ m 274 j) (hF0 : FI (m 249 3) i (fun p q => m 274 (10 * p + q)) D) (hR0 : ∀ p q, rg (m 249 3) p q → m 273 (10 * p + q) = D p q) (hJ : JW 4 g tc pl N W m) (hq : ∀ m' y z w, JW 4 g tc pl N W m' → m' 249 3 = m 249 3 → (∀ j, 0 ≤ j → j < 100 → 1 ≤ m' 274 j) → FI (m 249 3) i (fun p q => m' 274 (10 * p + q)) D → (∀ p q, rg (m 249 3) p q → m' 273 (10 * p + q) = phs D i p q) → Kn (rl [249, a, i, y, z, w]) (S9 e m')) : ((whl true 281 (cmp 2 (by decide) (ldi 3) (get f_13_133 (lda 0))) (seq 211 (asi 4 (cst 0)) (wk [0, 1, 2, 3, 4] (whl true 275 (cmp 2 (by decide) (ldi 4) (get f_13_133 (lda 0))) (seq 246 (asi 5 (add (aldi (get f_13_81 (lda 0)) (add (mul (cst 10) (ldi 3)) (ldi 2))) (aldi (get f_13_81 (lda 0)) (add (mul (cst 10) (ldi 2)) (ldi 4))))) (asti (get f_13_81 (lda 0)) (add (mul (cst 10) (ldi 3)) (ldi 4)) (csta s_13_169 (acons (aldi (get f_13_81 (lda 0)) (add (mul (cst 10) (ldi 3)) (ldi 4))) (acons (ldi 5) (anil)))))) (inc 4 1)))) (inc 3 1)) : SX 13).1.2 (Cl (d + 1)) Kn Kb Kr (rl [249, a, i, 0, z0, w0]) (S9 e m) := by
  have hL := JW_l hJ
  have hs := JW_s hJ
  refine whl_i (fun k r u => ∃ (y : Int) (z : Int) (w : Int) (m9 : Mem), r = rl [249, a, i, y, z, w] ∧ u = S9 e m9 ∧ JW 4 g tc pl N W m9 ∧ 0 ≤ y ∧ y + k = m 249 3 ∧ m9 249 3 = m 249 3 ∧ (∀ j, 0 ≤ j → j < 100 → 1 ≤ m9 274 j) ∧ FI (m 249 3) i (fun p q => m9 274 (10 * p + q)) D ∧ (∀ p q, rg (m 249 3) p q → m9 273 (10 * p + q) = if p < y then phs D i p q else D p q)) (m 249 3).toNat ?_ ?_
  next => exact ⟨0, _, _, m, rfl, rfl, hJ, by omega, by omega, rfl, hS0, hF0, fun p q h => by rw [hR0 p q h, if_neg (by omega)]⟩
  rintro k r u ⟨y, z, w, m9, rfl, rfl, hJ9, hy, hk, h3, hS, hF, hR⟩
  have hJ9 := JW_dn hL hJ9; have hs9 := JW_s hJ9
  have h58 := JW_2 hJ9
  simp only [cl_251, runB, B251, ma_251, rho_20, wf_13_133, wf_13_146, wf_13_17, wf_13_20, wf_13_23, wf_13_26, wf_13_81, wf_13_84, wc_19, wc_199, cl_19, B19, ma_19, rho_00, w_cst, w_ldi, w_ldj, w_lda, w_ljk, w_ldk, w_ldw, w_ldk2, w_ldt, w_ldtw, w_neg, w_cvb, w_cvs, w_cvc, w_cvj, w_add, w_sub, w_mul, w_ban, w_bor, w_bxo, w_shl, w_shr, w_ush, w_dvi, w_rmi, w_aldi, w_aldj, w_aldz, w_aldc, w_alda, w_ite, w_cmp, w_cmj, w_cz, w_cnot, w_cand, w_cor, w_nil, w_cons, w_cvi, w_csta, w_cvt, w_cvv, w_csv, w_cpy, w_seq, w_sbr, w_sbn, w_brk, w_ifs, w_ifx, w_ife, w_wk, w_rets, w_rtv, w_thr, w_asi, w_asj, w_asa, w_inc, w_exs, w_asti, w_astj, w_astz, w_astc, w_aopadd, w_aopsub, w_sw, if_true, if_false, ↓reduceIte, hdl_c, S9_1, S9_m, bud9, live9, inb9, wrn, wr9_14, wr9_15, wr9_16, wr9_17, tq9_14, tq9_15, tq9_16, tq9_17, tq_0, tq_1, tq_3, upr_rl, rl_0, rl_1, rl_2, rl_3, rl_4, rl_5, rl_6, rl_7, rl_8, rl_9, rl_10, rl_11, rl_12, rl_13, sp_0, sp_1, sp_2, sp_3, sp_4, sp_5, sp_6, sp_7, sp_8, sp_9, sp_10, sp_11, sp_12, sp_13, se_0, se_1, se_2, se_3, se_4, se_5, se_6, se_7, se_8, se_9, se_10, se_11, se_12, se_13, sem_0, sem_1, sem_2, sem_3, sem_4, sem_5, sr_249_34, sr_249_70, kl9_249, sr_249_17, sr_249_54, sr_249_61, kc_249, sr_249_14, sr_249_16, sr_249_11, sr_249_55, sr_249_9, sr_249_40, sr_249_51, sr_249_2, sr_249_31, sr_249_22, sr_249_30, sr_249_63, sr_249_68, sr_249_10, sr_249_8, sr_249_71, sr_249_25, sr_249_50, sr_249_42, sr_249_41, sr_249_57, sr_249_15, sr_249_12, sr_249_58, sr_249_24, sr_249_67, sr_249_43, sr_249_69, sr_249_64, sr_249_52, sr_249_13, sr_249_35, sr_249_23, kl9_252, kc_252, kl9_253, kc_253, kc_254, kl9_254, kl9_255, kc_255, kc_273, kl9_273, kc_274, kl9_274, List.getD_cons_zero, List.getD_cons_succ, Bool.false_eq_true, wrn3, wrn1, cpmS, cpok9, h58]
  (try simp (disch := omega) only [w15_0, w15_1, w15_3, w15_4, w15_5, w15_6, w3_0, w3_1, w3_2, upm_app, Int.reduceEq, and_self, and_true, true_and, and_false, false_and, if_true, if_false, ↓reduceIte])
  repeat' (first
    | (with_reducible exact True.intro)
    | omega
    | (with_reducible rfl)
    | (with_reducible contradiction)
    | (with_reducible refine And.intro ?_ ?_)
    | intro _
    | (with_reducible refine p_199 (fun v9 h9 => ?_); (try simp only [h58] at h9); simp only [hdl_c, S9_1, S9_m, bud9, live9, inb9, wrn, wr9_14, wr9_15, wr9_16, wr9_17, tq9_14, tq9_15, tq9_16, tq9_17, tq_0, tq_1, tq_3, upr_rl, rl_0, rl_1, rl_2, rl_3, rl_4, rl_5, rl_6, rl_7, rl_8, rl_9, rl_10, rl_11, rl_12, rl_13, sp_0, sp_1, sp_2, sp_3, sp_4, sp_5, sp_6, sp_7, sp_8, sp_9, sp_10, sp_11, sp_12, sp_13, se_0, se_1, se_2, se_3, se_4, se_5, se_6, se_7, se_8, se_9, se_10, se_11, se_12, se_13, sem_0, sem_1, sem_2, sem_3, sem_4, sem_5, List.getD_cons_zero, List.getD_cons_succ, Bool.false_eq_true, wrn3, wrn1, cpmS, cpok9, if_true, if_false, ↓reduceIte, wc_19, wc_199, cl_19, runB, B19, ma_19, rho_00, w_cst, w_ldi, w_ldj, w_lda, w_ljk, w_ldk, w_ldw, w_ldk2, w_ldt, w_ldtw, w_neg, w_cvb, w_cvs, w_cvc, w_cvj, w_add, w_sub, w_mul, w_ban, w_bor, w_bxo, w_shl, w_shr, w_ush, w_dvi, w_rmi, w_aldi, w_aldj, w_aldz, w_aldc, w_alda, w_ite, w_cmp, w_cmj, w_cz, w_cnot, w_cand, w_cor, w_nil, w_cons, w_cvi, w_csta, w_cvt, w_cvv, w_csv, w_cpy, w_seq, w_sbr, w_sbn, w_brk, w_ifs, w_ifx, w_ife, w_wk, w_rets, w_rtv, w_thr, w_asi, w_asj, w_asa, w_inc, w_exs, w_asti, w_astj, w_astz, w_astc, w_aopadd, w_aopsub, w_sw, if_true, if_false, ↓reduceIte, sr_249_34, sr_249_70, kl9_249, sr_249_17, sr_249_54, sr_249_61, kc_249, sr_249_14, sr_249_16, sr_249_11, sr_249_55, sr_249_9, sr_249_40, sr_249_51, sr_249_2, sr_249_31, sr_249_22, sr_249_30, sr_249_63, sr_249_68, sr_249_10, sr_249_8, sr_249_71, sr_249_25, sr_249_50, sr_249_42, sr_249_41, sr_249_57, sr_249_15, sr_249_12, sr_249_58, sr_249_24, sr_249_67, sr_249_43, sr_249_69, sr_249_64, sr_249_52, sr_249_13, sr_249_35, sr_249_23, kl9_252, kc_252, kl9_253, kc_253, kc_254, kl9_254, kl9_255, kc_255, kc_273, kl9_273, kc_274, kl9_274, h58]; (try simp (disch := omega) only [w15_0, w15_1, w15_3, w15_4, w15_5, w15_6, w3_0, w3_1, w3_2, upm_app, Int.reduceEq, and_self, and_true, true_and, and_false, false_and, if_true, if_false, ↓reduceIte, h58]))
    | (exact hq _ _ _ _ hJ9 h3 hS hF (fun p q h => by rw [hR p q h, if_pos (by omega)]))
    | (unfold w32; omega)
    | (simp (disch := omega) only [w32_eq]; omega)
    | (with_reducible show (_ : Int) ≤ _; simp [upm] <;> (first | omega | (unfold w32; omega)))
    | (with_reducible show (_ : Int) < _; simp [upm] <;> (first | omega | (unfold w32; omega))))
  all_goals refine l251g (g := g) (tc := tc) (pl := pl) (N := N) (W := W) (D := D) (by rw [h3]; exact hi) ⟨hy, by omega⟩ hS (by rw [h3]; exact hF) (by rw [h3]; exact hR) hJ9 (fun m8 z8 w8 hJ8 e3 hS8 hF8 hR8 => ?_)
  all_goals simp only [cl_251, runB, B251, ma_251, rho_20, wf_13_133, wf_13_146, wf_13_17, wf_13_20, wf_13_23, wf_13_26, wf_13_81, wf_13_84, wc_19, wc_199, cl_19, B19, ma_19, rho_00, w_cst, w_ldi, w_ldj, w_lda, w_ljk, w_ldk, w_ldw, w_ldk2, w_ldt, w_ldtw, w_neg, w_cvb, w_cvs, w_cvc, w_cvj, w_add, w_sub, w_mul, w_ban, w_bor, w_bxo, w_shl, w_shr, w_ush, w_dvi, w_rmi, w_aldi, w_aldj, w_aldz, w_aldc, w_alda, w_ite, w_cmp, w_cmj, w_cz, w_cnot, w_cand, w_cor, w_nil, w_cons, w_cvi, w_csta, w_cvt, w_cvv, w_csv, w_cpy, w_seq, w_sbr, w_sbn, w_brk, w_ifs, w_ifx, w_ife, w_wk, w_rets, w_rtv, w_thr, w_asi, w_asj, w_asa, w_inc, w_exs, w_asti, w_astj, w_astz, w_astc, w_aopadd, w_aopsub, w_sw, if_true, if_false, ↓reduceIte, hdl_c, S9_1, S9_m, bud9, live9, inb9, wrn, wr9_14, wr9_15, wr9_16, wr9_17, tq9_14, tq9_15, tq9_16, tq9_17, tq_0, tq_1, tq_3, upr_rl, rl_0, rl_1, rl_2, rl_3, rl_4, rl_5, rl_6, rl_7, rl_8, rl_9, rl_10, rl_11, rl_12, rl_13, sp_0, sp_1, sp_2, sp_3, sp_4, sp_5, sp_6, sp_7, sp_8, sp_9, sp_10, sp_11, sp_12, sp_13, se_0, se_1, se_2, se_3, se_4, se_5, se_6, se_7, se_8, se_9, se_10, se_11, se_12, se_13, sem_0, sem_1, sem_2, sem_3, sem_4, sem_5, sr_249_34, sr_249_70, kl9_249, sr_249_17, sr_249_54, sr_249_61, kc_249, sr_249_14, sr_249_16, sr_249_11, sr_249_55, sr_249_9, sr_249_40, sr_249_51, sr_249_2, sr_249_31, sr_249_22, sr_249_30, sr_249_63, sr_249_68, sr_249_10, sr_249_8, sr_249_71, sr_249_25, sr_249_50, sr_249_42, sr_249_41, sr_249_57, sr_249_15, sr_249_12, sr_249_58, sr_249_24, sr_249_67, sr_249_43, sr_249_69, sr_249_64, sr_249_52, sr_249_13, sr_249_35, sr_249_23, kl9_252, kc_252, kl9_253, kc_253, kc_254, kl9_254, kl9_255, kc_255, kc_273, kl9_273, kc_274, kl9_274, List.getD_cons_zero, List.getD_cons_succ, Bool.false_eq_true, wrn3, wrn1, cpmS, cpok9]
  all_goals rw [h3] at e3 hF8 hR8
  all_goals refine ⟨k - 1, by omega, w32 (y + 1), _, _, m8, rfl, rfl, hJ8, ?_, ?_, e3, hS8, hF8, ?_⟩
  all_goals first
    | (unfold w32; omega)
    | (rw [w32_eq (v := y + 1) (by omega) (by omega)]; exact hR8)

set_option maxHeartbeats 4000000 in
theorem l251e {d : Nat} {tc pl e W : Int} {g : Fg} {m : Mem} {N : Int → Int} {a y0 z0 : Int} {Kn Kb : Rho → Sto → Prop} {Kr : Int → Sto → Prop} (hS0 : ∀ j, 0 ≤ j → j < 100 → 1 ≤ m 274 j) (hR0 : ∀ p q, rg (m 249 3) p q → m 273 (10 * p + q) = if p = q then 0 else m 274 (10 * p + q)) (hJ : JW 4 g tc pl N W m) (hq : ∀ r m', JW 4 g tc pl N W m' → m' 249 3 = m 249 3 → FW (m 249 3) m' → Kn r (S9 e m')) : ((whl true 287 (cmp 2 (by decide) (ldi 2) (get f_13_133 (lda 0))) (seq 200 (asi 3 (cst 0)) (wk [0, 1, 2, 3] (whl true 281 (cmp 2 (by decide) (ldi 3) (get f_13_133 (lda 0))) (seq 211 (asi 4 (cst 0)) (wk [0, 1, 2, 3, 4] (whl true 275 (cmp 2 (by decide) (ldi 4) (get f_13_133 (lda 0))) (seq 246 (asi 5 (add (aldi (get f_13_81 (lda 0)) (add (mul (cst 10) (ldi 3)) (ldi 2))) (aldi (get f_13_81 (lda 0)) (add (mul (cst 10) (ldi 2)) (ldi 4))))) (asti (get f_13_81 (lda 0)) (add (mul (cst 10) (ldi 3)) (ldi 4)) (csta s_13_169 (acons (aldi (get f_13_81 (lda 0)) (add (mul (cst 10) (ldi 3)) (ldi 4))) (acons (ldi 5) (anil)))))) (inc 4 1)))) (inc 3 1)))) (inc 2 1)) : SX 13).1.2 (Cl (d + 1)) Kn Kb Kr (rl [249, a, 0, y0, z0]) (S9 e m) := by
  have hL := JW_l hJ
  have hs := JW_s hJ
  refine whl_i (fun k r u => ∃ (i : Int) (y : Int) (z : Int) (w : Int) (D : Int → Int → Int) (m9 : Mem), r = rl [249, a, i, y, z, w] ∧ u = S9 e m9 ∧ JW 4 g tc pl N W m9 ∧ 0 ≤ i ∧ i + k = m 249 3 ∧ m9 249 3 = m 249 3 ∧ (∀ j, 0 ≤ j → j < 100 → 1 ≤ m9 274 j) ∧ FI (m 249 3) i (fun p q => m9 274 (10 * p + q)) D ∧ (∀ p q, rg (m 249 3) p q → m9 273 (10 * p + q) = D p q)) (m 249 3).toNat ?_ ?_
  next => exact ⟨0, _, _, 0, fun p q => if p = q then 0 else m 274 (10 * p + q), m, rlp5, rfl, hJ, by omega, by omega, rfl, hS0, FI_0 (fun p q h => ⟨hS0 _ (by unfold rg at h; omega) (by unfold rg at h; omega), (JR_274 (JW_1 hJ) _).2⟩) (fun p q h => rfl), fun p q h => hR0 p q h⟩
  rintro k r u ⟨i, y, z, w, D, m9, rfl, rfl, hJ9, hi, hk, h3, hS, hF, hR⟩
  have hJ9 := JW_dn hL hJ9; have hs9 := JW_s hJ9
  have h58 := JW_2 hJ9
  simp only [cl_251, runB, B251, ma_251, rho_20, wf_13_133, wf_13_146, wf_13_17, wf_13_20, wf_13_23, wf_13_26, wf_13_81, wf_13_84, wc_19, wc_199, cl_19, B19, ma_19, rho_00, w_cst, w_ldi, w_ldj, w_lda, w_ljk, w_ldk, w_ldw, w_ldk2, w_ldt, w_ldtw, w_neg, w_cvb, w_cvs, w_cvc, w_cvj, w_add, w_sub, w_mul, w_ban, w_bor, w_bxo, w_shl, w_shr, w_ush, w_dvi, w_rmi, w_aldi, w_aldj, w_aldz, w_aldc, w_alda, w_ite, w_cmp, w_cmj, w_cz, w_cnot, w_cand, w_cor, w_nil, w_cons, w_cvi, w_csta, w_cvt, w_cvv, w_csv, w_cpy, w_seq, w_sbr, w_sbn, w_brk, w_ifs, w_ifx, w_ife, w_wk, w_rets, w_rtv, w_thr, w_asi, w_asj, w_asa, w_inc, w_exs, w_asti, w_astj, w_astz, w_astc, w_aopadd, w_aopsub, w_sw, if_true, if_false, ↓reduceIte, hdl_c, S9_1, S9_m, bud9, live9, inb9, wrn, wr9_14, wr9_15, wr9_16, wr9_17, tq9_14, tq9_15, tq9_16, tq9_17, tq_0, tq_1, tq_3, upr_rl, rl_0, rl_1, rl_2, rl_3, rl_4, rl_5, rl_6, rl_7, rl_8, rl_9, rl_10, rl_11, rl_12, rl_13, sp_0, sp_1, sp_2, sp_3, sp_4, sp_5, sp_6, sp_7, sp_8, sp_9, sp_10, sp_11, sp_12, sp_13, se_0, se_1, se_2, se_3, se_4, se_5, se_6, se_7, se_8, se_9, se_10, se_11, se_12, se_13, sem_0, sem_1, sem_2, sem_3, sem_4, sem_5, sr_249_34, sr_249_70, kl9_249, sr_249_17, sr_249_54, sr_249_61, kc_249, sr_249_14, sr_249_16, sr_249_11, sr_249_55, sr_249_9, sr_249_40, sr_249_51, sr_249_2, sr_249_31, sr_249_22, sr_249_30, sr_249_63, sr_249_68, sr_249_10, sr_249_8, sr_249_71, sr_249_25, sr_249_50, sr_249_42, sr_249_41, sr_249_57, sr_249_15, sr_249_12, sr_249_58, sr_249_24, sr_249_67, sr_249_43, sr_249_69, sr_249_64, sr_249_52, sr_249_13, sr_249_35, sr_249_23, kl9_252, kc_252, kl9_253, kc_253, kc_254, kl9_254, kl9_255, kc_255, kc_273, kl9_273, kc_274, kl9_274, List.getD_cons_zero, List.getD_cons_succ, Bool.false_eq_true, wrn3, wrn1, cpmS, cpok9, h58]
  (try simp (disch := omega) only [w15_0, w15_1, w15_3, w15_4, w15_5, w15_6, w3_0, w3_1, w3_2, upm_app, Int.reduceEq, and_self, and_true, true_and, and_false, false_and, if_true, if_false, ↓reduceIte])
  repeat' (first
    | (with_reducible exact True.intro)
    | omega
    | (with_reducible rfl)
    | (with_reducible contradiction)
    | (with_reducible refine And.intro ?_ ?_)
    | intro _
    | (with_reducible refine p_199 (fun v9 h9 => ?_); (try simp only [h58] at h9); simp only [hdl_c, S9_1, S9_m, bud9, live9, inb9, wrn, wr9_14, wr9_15, wr9_16, wr9_17, tq9_14, tq9_15, tq9_16, tq9_17, tq_0, tq_1, tq_3, upr_rl, rl_0, rl_1, rl_2, rl_3, rl_4, rl_5, rl_6, rl_7, rl_8, rl_9, rl_10, rl_11, rl_12, rl_13, sp_0, sp_1, sp_2, sp_3, sp_4, sp_5, sp_6, sp_7, sp_8, sp_9, sp_10, sp_11, sp_12, sp_13, se_0, se_1, se_2, se_3, se_4, se_5, se_6, se_7, se_8, se_9, se_10, se_11, se_12, se_13, sem_0, sem_1, sem_2, sem_3, sem_4, sem_5, List.getD_cons_zero, List.getD_cons_succ, Bool.false_eq_true, wrn3, wrn1, cpmS, cpok9, if_true, if_false, ↓reduceIte, wc_19, wc_199, cl_19, runB, B19, ma_19, rho_00, w_cst, w_ldi, w_ldj, w_lda, w_ljk, w_ldk, w_ldw, w_ldk2, w_ldt, w_ldtw, w_neg, w_cvb, w_cvs, w_cvc, w_cvj, w_add, w_sub, w_mul, w_ban, w_bor, w_bxo, w_shl, w_shr, w_ush, w_dvi, w_rmi, w_aldi, w_aldj, w_aldz, w_aldc, w_alda, w_ite, w_cmp, w_cmj, w_cz, w_cnot, w_cand, w_cor, w_nil, w_cons, w_cvi, w_csta, w_cvt, w_cvv, w_csv, w_cpy, w_seq, w_sbr, w_sbn, w_brk, w_ifs, w_ifx, w_ife, w_wk, w_rets, w_rtv, w_thr, w_asi, w_asj, w_asa, w_inc, w_exs, w_asti, w_astj, w_astz, w_astc, w_aopadd, w_aopsub, w_sw, if_true, if_false, ↓reduceIte, sr_249_34, sr_249_70, kl9_249, sr_249_17, sr_249_54, sr_249_61, kc_249, sr_249_14, sr_249_16, sr_249_11, sr_249_55, sr_249_9, sr_249_40, sr_249_51, sr_249_2, sr_249_31, sr_249_22, sr_249_30, sr_249_63, sr_249_68, sr_249_10, sr_249_8, sr_249_71, sr_249_25, sr_249_50, sr_249_42, sr_249_41, sr_249_57, sr_249_15, sr_249_12, sr_249_58, sr_249_24, sr_249_67, sr_249_43, sr_249_69, sr_249_64, sr_249_52, sr_249_13, sr_249_35, sr_249_23, kl9_252, kc_252, kl9_253, kc_253, kc_254, kl9_254, kl9_255, kc_255, kc_273, kl9_273, kc_274, kl9_274, h58]; (try simp (disch := omega) only [w15_0, w15_1, w15_3, w15_4, w15_5, w15_6, w3_0, w3_1, w3_2, upm_app, Int.reduceEq, and_self, and_true, true_and, and_false, false_and, if_true, if_false, ↓reduceIte, h58]))
    | (exact hq _ _ hJ9 h3 (fw_out hS hF hR (by omega)))
    | (unfold w32; omega)
    | (simp (disch := omega) only [w32_eq]; omega)
    | (with_reducible show (_ : Int) ≤ _; simp [upm] <;> (first | omega | (unfold w32; omega)))
    | (with_reducible show (_ : Int) < _; simp [upm] <;> (first | omega | (unfold w32; omega))))
  all_goals refine l251f (g := g) (tc := tc) (pl := pl) (N := N) (W := W) (D := D) ⟨hi, by omega⟩ hS (by rw [h3]; exact hF) (by rw [h3]; exact hR) hJ9 (fun m8 y8 z8 w8 hJ8 e3 hS8 hF8 hR8 => ?_)
  all_goals simp only [cl_251, runB, B251, ma_251, rho_20, wf_13_133, wf_13_146, wf_13_17, wf_13_20, wf_13_23, wf_13_26, wf_13_81, wf_13_84, wc_19, wc_199, cl_19, B19, ma_19, rho_00, w_cst, w_ldi, w_ldj, w_lda, w_ljk, w_ldk, w_ldw, w_ldk2, w_ldt, w_ldtw, w_neg, w_cvb, w_cvs, w_cvc, w_cvj, w_add, w_sub, w_mul, w_ban, w_bor, w_bxo, w_shl, w_shr, w_ush, w_dvi, w_rmi, w_aldi, w_aldj, w_aldz, w_aldc, w_alda, w_ite, w_cmp, w_cmj, w_cz, w_cnot, w_cand, w_cor, w_nil, w_cons, w_cvi, w_csta, w_cvt, w_cvv, w_csv, w_cpy, w_seq, w_sbr, w_sbn, w_brk, w_ifs, w_ifx, w_ife, w_wk, w_rets, w_rtv, w_thr, w_asi, w_asj, w_asa, w_inc, w_exs, w_asti, w_astj, w_astz, w_astc, w_aopadd, w_aopsub, w_sw, if_true, if_false, ↓reduceIte, hdl_c, S9_1, S9_m, bud9, live9, inb9, wrn, wr9_14, wr9_15, wr9_16, wr9_17, tq9_14, tq9_15, tq9_16, tq9_17, tq_0, tq_1, tq_3, upr_rl, rl_0, rl_1, rl_2, rl_3, rl_4, rl_5, rl_6, rl_7, rl_8, rl_9, rl_10, rl_11, rl_12, rl_13, sp_0, sp_1, sp_2, sp_3, sp_4, sp_5, sp_6, sp_7, sp_8, sp_9, sp_10, sp_11, sp_12, sp_13, se_0, se_1, se_2, se_3, se_4, se_5, se_6, se_7, se_8, se_9, se_10, se_11, se_12, se_13, sem_0, sem_1, sem_2, sem_3, sem_4, sem_5, sr_249_34, sr_249_70, kl9_249, sr_249_17, sr_249_54, sr_249_61, kc_249, sr_249_14, sr_249_16, sr_249_11, sr_249_55, sr_249_9, sr_249_40, sr_249_51, sr_249_2, sr_249_31, sr_249_22, sr_249_30, sr_249_63, sr_249_68, sr_249_10, sr_249_8, sr_249_71, sr_249_25, sr_249_50, sr_249_42, sr_249_41, sr_249_57, sr_249_15, sr_249_12, sr_249_58, sr_249_24, sr_249_67, sr_249_43, sr_249_69, sr_249_64, sr_249_52, sr_249_13, sr_249_35, sr_249_23, kl9_252, kc_252, kl9_253, kc_253, kc_254, kl9_254, kl9_255, kc_255, kc_273, kl9_273, kc_274, kl9_274, List.getD_cons_zero, List.getD_cons_succ, Bool.false_eq_true, wrn3, wrn1, cpmS, cpok9]
  all_goals rw [h3] at e3 hF8 hR8
  all_goals refine ⟨k - 1, by omega, w32 (i + 1), _, _, _, phs D i, m8, rfl, rfl, hJ8, ?_, ?_, e3, hS8, ?_, hR8⟩
  all_goals first
    | (unfold w32; omega)
    | (rw [w32_eq (v := i + 1) (by omega) (by omega)]; exact FI_s hF8 hi (by omega))

set_option maxHeartbeats 8000000 in
theorem s_251 {d : Nat} {tc pl e W : Int} {g : Fg} {m : Mem} {Q : Int → Sto → Prop} {N : Int → Int} {a : Int} (hJ : JW 4 g tc pl N W m) (hq : ∀ v m', JW 4 g tc pl N W m' → m' 249 3 = m 249 3 → FW (m 249 3) m' → Q v (S9 e m')) : Cl (d + 2) 251 [249, a] Q (S9 e m) := by
  have hL := JW_l hJ
  have hs := JW_s hJ
  simp only [cl_251, runB, B251, ma_251, rho_20, wf_13_133, wf_13_146, wf_13_17, wf_13_20, wf_13_23, wf_13_26, wf_13_81, wf_13_84, wc_19, wc_199, cl_19, B19, ma_19, rho_00, w_cst, w_ldi, w_ldj, w_lda, w_ljk, w_ldk, w_ldw, w_ldk2, w_ldt, w_ldtw, w_neg, w_cvb, w_cvs, w_cvc, w_cvj, w_add, w_sub, w_mul, w_ban, w_bor, w_bxo, w_shl, w_shr, w_ush, w_dvi, w_rmi, w_aldi, w_aldj, w_aldz, w_aldc, w_alda, w_ite, w_cmp, w_cmj, w_cz, w_cnot, w_cand, w_cor, w_nil, w_cons, w_cvi, w_csta, w_cvt, w_cvv, w_csv, w_cpy, w_seq, w_sbr, w_sbn, w_brk, w_ifs, w_ifx, w_ife, w_wk, w_rets, w_rtv, w_thr, w_asi, w_asj, w_asa, w_inc, w_exs, w_asti, w_astj, w_astz, w_astc, w_aopadd, w_aopsub, w_sw, if_true, if_false, ↓reduceIte, hdl_c, S9_1, S9_m, bud9, live9, inb9, wrn, wr9_14, wr9_15, wr9_16, wr9_17, tq9_14, tq9_15, tq9_16, tq9_17, tq_0, tq_1, tq_3, upr_rl, rl_0, rl_1, rl_2, rl_3, rl_4, rl_5, rl_6, rl_7, rl_8, rl_9, rl_10, rl_11, rl_12, rl_13, sp_0, sp_1, sp_2, sp_3, sp_4, sp_5, sp_6, sp_7, sp_8, sp_9, sp_10, sp_11, sp_12, sp_13, se_0, se_1, se_2, se_3, se_4, se_5, se_6, se_7, se_8, se_9, se_10, se_11, se_12, se_13, sem_0, sem_1, sem_2, sem_3, sem_4, sem_5, sr_249_34, sr_249_70, kl9_249, sr_249_17, sr_249_54, sr_249_61, kc_249, sr_249_14, sr_249_16, sr_249_11, sr_249_55, sr_249_9, sr_249_40, sr_249_51, sr_249_2, sr_249_31, sr_249_22, sr_249_30, sr_249_63, sr_249_68, sr_249_10, sr_249_8, sr_249_71, sr_249_25, sr_249_50, sr_249_42, sr_249_41, sr_249_57, sr_249_15, sr_249_12, sr_249_58, sr_249_24, sr_249_67, sr_249_43, sr_249_69, sr_249_64, sr_249_52, sr_249_13, sr_249_35, sr_249_23, kl9_252, kc_252, kl9_253, kc_253, kc_254, kl9_254, kl9_255, kc_255, kc_273, kl9_273, kc_274, kl9_274, List.getD_cons_zero, List.getD_cons_succ, Bool.false_eq_true, wrn3, wrn1, cpmS, cpok9]
  refine l251a hJ (fun m1 i1 hJ1 e1 hS1 => ?_)
  (try simp only [cl_251, runB, B251, ma_251, rho_20, wf_13_133, wf_13_146, wf_13_17, wf_13_20, wf_13_23, wf_13_26, wf_13_81, wf_13_84, wc_19, wc_199, cl_19, B19, ma_19, rho_00, w_cst, w_ldi, w_ldj, w_lda, w_ljk, w_ldk, w_ldw, w_ldk2, w_ldt, w_ldtw, w_neg, w_cvb, w_cvs, w_cvc, w_cvj, w_add, w_sub, w_mul, w_ban, w_bor, w_bxo, w_shl, w_shr, w_ush, w_dvi, w_rmi, w_aldi, w_aldj, w_aldz, w_aldc, w_alda, w_ite, w_cmp, w_cmj, w_cz, w_cnot, w_cand, w_cor, w_nil, w_cons, w_cvi, w_csta, w_cvt, w_cvv, w_csv, w_cpy, w_seq, w_sbr, w_sbn, w_brk, w_ifs, w_ifx, w_ife, w_wk, w_rets, w_rtv, w_thr, w_asi, w_asj, w_asa, w_inc, w_exs, w_asti, w_astj, w_astz, w_astc, w_aopadd, w_aopsub, w_sw, if_true, if_false, ↓reduceIte, hdl_c, S9_1, S9_m, bud9, live9, inb9, wrn, wr9_14, wr9_15, wr9_16, wr9_17, tq9_14, tq9_15, tq9_16, tq9_17, tq_0, tq_1, tq_3, upr_rl, rl_0, rl_1, rl_2, rl_3, rl_4, rl_5, rl_6, rl_7, rl_8, rl_9, rl_10, rl_11, rl_12, rl_13, sp_0, sp_1, sp_2, sp_3, sp_4, sp_5, sp_6, sp_7, sp_8, sp_9, sp_10, sp_11, sp_12, sp_13, se_0, se_1, se_2, se_3, se_4, se_5, se_6, se_7, se_8, se_9, se_10, se_11, se_12, se_13, sem_0, sem_1, sem_2, sem_3, sem_4, sem_5, sr_249_34, sr_249_70, kl9_249, sr_249_17, sr_249_54, sr_249_61, kc_249, sr_249_14, sr_249_16, sr_249_11, sr_249_55, sr_249_9, sr_249_40, sr_249_51, sr_249_2, sr_249_31, sr_249_22, sr_249_30, sr_249_63, sr_249_68, sr_249_10, sr_249_8, sr_249_71, sr_249_25, sr_249_50, sr_249_42, sr_249_41, sr_249_57, sr_249_15, sr_249_12, sr_249_58, sr_249_24, sr_249_67, sr_249_43, sr_249_69, sr_249_64, sr_249_52, sr_249_13, sr_249_35, sr_249_23, kl9_252, kc_252, kl9_253, kc_253, kc_254, kl9_254, kl9_255, kc_255, kc_273, kl9_273, kc_274, kl9_274, List.getD_cons_zero, List.getD_cons_succ, Bool.false_eq_true, wrn3, wrn1, cpmS, cpok9])
  refine l251b hS1 hJ1 (fun m2 i2 y2 z2 hJ2 e2 hS2 => ?_)
  (try simp only [cl_251, runB, B251, ma_251, rho_20, wf_13_133, wf_13_146, wf_13_17, wf_13_20, wf_13_23, wf_13_26, wf_13_81, wf_13_84, wc_19, wc_199, cl_19, B19, ma_19, rho_00, w_cst, w_ldi, w_ldj, w_lda, w_ljk, w_ldk, w_ldw, w_ldk2, w_ldt, w_ldtw, w_neg, w_cvb, w_cvs, w_cvc, w_cvj, w_add, w_sub, w_mul, w_ban, w_bor, w_bxo, w_shl, w_shr, w_ush, w_dvi, w_rmi, w_aldi, w_aldj, w_aldz, w_aldc, w_alda, w_ite, w_cmp, w_cmj, w_cz, w_cnot, w_cand, w_cor, w_nil, w_cons, w_cvi, w_csta, w_cvt, w_cvv, w_csv, w_cpy, w_seq, w_sbr, w_sbn, w_brk, w_ifs, w_ifx, w_ife, w_wk, w_rets, w_rtv, w_thr, w_asi, w_asj, w_asa, w_inc, w_exs, w_asti, w_astj, w_astz, w_astc, w_aopadd, w_aopsub, w_sw, if_true, if_false, ↓reduceIte, hdl_c, S9_1, S9_m, bud9, live9, inb9, wrn, wr9_14, wr9_15, wr9_16, wr9_17, tq9_14, tq9_15, tq9_16, tq9_17, tq_0, tq_1, tq_3, upr_rl, rl_0, rl_1, rl_2, rl_3, rl_4, rl_5, rl_6, rl_7, rl_8, rl_9, rl_10, rl_11, rl_12, rl_13, sp_0, sp_1, sp_2, sp_3, sp_4, sp_5, sp_6, sp_7, sp_8, sp_9, sp_10, sp_11, sp_12, sp_13, se_0, se_1, se_2, se_3, se_4, se_5, se_6, se_7, se_8, se_9, se_10, se_11, se_12, se_13, sem_0, sem_1, sem_2, sem_3, sem_4, sem_5, sr_249_34, sr_249_70, kl9_249, sr_249_17, sr_249_54, sr_249_61, kc_249, sr_249_14, sr_249_16, sr_249_11, sr_249_55, sr_249_9, sr_249_40, sr_249_51, sr_249_2, sr_249_31, sr_249_22, sr_249_30, sr_249_63, sr_249_68, sr_249_10, sr_249_8, sr_249_71, sr_249_25, sr_249_50, sr_249_42, sr_249_41, sr_249_57, sr_249_15, sr_249_12, sr_249_58, sr_249_24, sr_249_67, sr_249_43, sr_249_69, sr_249_64, sr_249_52, sr_249_13, sr_249_35, sr_249_23, kl9_252, kc_252, kl9_253, kc_253, kc_254, kl9_254, kl9_255, kc_255, kc_273, kl9_273, kc_274, kl9_274, List.getD_cons_zero, List.getD_cons_succ, Bool.false_eq_true, wrn3, wrn1, cpmS, cpok9])
  refine l251c hS2 hJ2 (fun m3 i3 y3 z3 hJ3 e3 hS3 hR3 => ?_)
  (try simp only [cl_251, runB, B251, ma_251, rho_20, wf_13_133, wf_13_146, wf_13_17, wf_13_20, wf_13_23, wf_13_26, wf_13_81, wf_13_84, wc_19, wc_199, cl_19, B19, ma_19, rho_00, w_cst, w_ldi, w_ldj, w_lda, w_ljk, w_ldk, w_ldw, w_ldk2, w_ldt, w_ldtw, w_neg, w_cvb, w_cvs, w_cvc, w_cvj, w_add, w_sub, w_mul, w_ban, w_bor, w_bxo, w_shl, w_shr, w_ush, w_dvi, w_rmi, w_aldi, w_aldj, w_aldz, w_aldc, w_alda, w_ite, w_cmp, w_cmj, w_cz, w_cnot, w_cand, w_cor, w_nil, w_cons, w_cvi, w_csta, w_cvt, w_cvv, w_csv, w_cpy, w_seq, w_sbr, w_sbn, w_brk, w_ifs, w_ifx, w_ife, w_wk, w_rets, w_rtv, w_thr, w_asi, w_asj, w_asa, w_inc, w_exs, w_asti, w_astj, w_astz, w_astc, w_aopadd, w_aopsub, w_sw, if_true, if_false, ↓reduceIte, hdl_c, S9_1, S9_m, bud9, live9, inb9, wrn, wr9_14, wr9_15, wr9_16, wr9_17, tq9_14, tq9_15, tq9_16, tq9_17, tq_0, tq_1, tq_3, upr_rl, rl_0, rl_1, rl_2, rl_3, rl_4, rl_5, rl_6, rl_7, rl_8, rl_9, rl_10, rl_11, rl_12, rl_13, sp_0, sp_1, sp_2, sp_3, sp_4, sp_5, sp_6, sp_7, sp_8, sp_9, sp_10, sp_11, sp_12, sp_13, se_0, se_1, se_2, se_3, se_4, se_5, se_6, se_7, se_8, se_9, se_10, se_11, se_12, se_13, sem_0, sem_1, sem_2, sem_3, sem_4, sem_5, sr_249_34, sr_249_70, kl9_249, sr_249_17, sr_249_54, sr_249_61, kc_249, sr_249_14, sr_249_16, sr_249_11, sr_249_55, sr_249_9, sr_249_40, sr_249_51, sr_249_2, sr_249_31, sr_249_22, sr_249_30, sr_249_63, sr_249_68, sr_249_10, sr_249_8, sr_249_71, sr_249_25, sr_249_50, sr_249_42, sr_249_41, sr_249_57, sr_249_15, sr_249_12, sr_249_58, sr_249_24, sr_249_67, sr_249_43, sr_249_69, sr_249_64, sr_249_52, sr_249_13, sr_249_35, sr_249_23, kl9_252, kc_252, kl9_253, kc_253, kc_254, kl9_254, kl9_255, kc_255, kc_273, kl9_273, kc_274, kl9_274, List.getD_cons_zero, List.getD_cons_succ, Bool.false_eq_true, wrn3, wrn1, cpmS, cpok9])
  refine l251e hS3 (by rw [e3]; exact hR3) hJ3 (fun r4 m4 hJ4 e4 hF4 => ?_)
  (try simp only [cl_251, runB, B251, ma_251, rho_20, wf_13_133, wf_13_146, wf_13_17, wf_13_20, wf_13_23, wf_13_26, wf_13_81, wf_13_84, wc_19, wc_199, cl_19, B19, ma_19, rho_00, w_cst, w_ldi, w_ldj, w_lda, w_ljk, w_ldk, w_ldw, w_ldk2, w_ldt, w_ldtw, w_neg, w_cvb, w_cvs, w_cvc, w_cvj, w_add, w_sub, w_mul, w_ban, w_bor, w_bxo, w_shl, w_shr, w_ush, w_dvi, w_rmi, w_aldi, w_aldj, w_aldz, w_aldc, w_alda, w_ite, w_cmp, w_cmj, w_cz, w_cnot, w_cand, w_cor, w_nil, w_cons, w_cvi, w_csta, w_cvt, w_cvv, w_csv, w_cpy, w_seq, w_sbr, w_sbn, w_brk, w_ifs, w_ifx, w_ife, w_wk, w_rets, w_rtv, w_thr, w_asi, w_asj, w_asa, w_inc, w_exs, w_asti, w_astj, w_astz, w_astc, w_aopadd, w_aopsub, w_sw, if_true, if_false, ↓reduceIte, hdl_c, S9_1, S9_m, bud9, live9, inb9, wrn, wr9_14, wr9_15, wr9_16, wr9_17, tq9_14, tq9_15, tq9_16, tq9_17, tq_0, tq_1, tq_3, upr_rl, rl_0, rl_1, rl_2, rl_3, rl_4, rl_5, rl_6, rl_7, rl_8, rl_9, rl_10, rl_11, rl_12, rl_13, sp_0, sp_1, sp_2, sp_3, sp_4, sp_5, sp_6, sp_7, sp_8, sp_9, sp_10, sp_11, sp_12, sp_13, se_0, se_1, se_2, se_3, se_4, se_5, se_6, se_7, se_8, se_9, se_10, se_11, se_12, se_13, sem_0, sem_1, sem_2, sem_3, sem_4, sem_5, sr_249_34, sr_249_70, kl9_249, sr_249_17, sr_249_54, sr_249_61, kc_249, sr_249_14, sr_249_16, sr_249_11, sr_249_55, sr_249_9, sr_249_40, sr_249_51, sr_249_2, sr_249_31, sr_249_22, sr_249_30, sr_249_63, sr_249_68, sr_249_10, sr_249_8, sr_249_71, sr_249_25, sr_249_50, sr_249_42, sr_249_41, sr_249_57, sr_249_15, sr_249_12, sr_249_58, sr_249_24, sr_249_67, sr_249_43, sr_249_69, sr_249_64, sr_249_52, sr_249_13, sr_249_35, sr_249_23, kl9_252, kc_252, kl9_253, kc_253, kc_254, kl9_254, kl9_255, kc_255, kc_273, kl9_273, kc_274, kl9_274, List.getD_cons_zero, List.getD_cons_succ, Bool.false_eq_true, wrn3, wrn1, cpmS, cpok9])
  refine hq _ _ hJ4 (by rw [e4, e3, e2, e1]) (by rw [e3, e2, e1] at hF4; exact hF4)

