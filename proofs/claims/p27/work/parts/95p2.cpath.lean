/-! the component's paths, with values -/
/-- the price of a way, as the component reckons it -/
def prC (m : Mem) (w : Int) : Int := if iand (ishr (m 8 8) w) 1 = 0 ∨ iand (ishr (m 15 10) w) 1 ≠ 0 then m 12 w else -1
abbrev FP (m m' : Mem) : Prop := ∀ x, (x < 191 ∨ 195 < x) → m' x = m x
/-- two functions alike on the ten places -/
abbrev EQ10 (f g : Int → Int) : Prop := ∀ y, 0 ≤ y → y < 10 → f y = g y
abbrev BD10 (f : Int → Int) : Prop := ∀ y, 0 ≤ y → y < 10 → 0 ≤ f y ∧ f y ≤ 1073741824
theorem rl1_E {p a b : Int} {f g : Int → Int} (h : EQ10 f g) (ha : 0 ≤ a ∧ a ≤ 9) (hb : 0 ≤ b ∧ b ≤ 9) : EQ10 (rl1 p a b f) (rl1 p a b g) := by
  intro y y0 y1
  unfold rl1
  rw [h a ha.1 (by omega), h b hb.1 (by omega)]
  split
  · show (if y = a then _ else _) = (if y = a then _ else _)
    rw [h y y0 y1]
  · exact h y y0 y1
theorem rl1_B {p a b : Int} {f : Int → Int} (h : BD10 f) (hp : p = -1 ∨ 0 ≤ p) (ha : 0 ≤ a ∧ a ≤ 9) (hb : 0 ≤ b ∧ b ≤ 9) : BD10 (rl1 p a b f) := by
  intro y y0 y1
  have h1 := h y y0 y1
  have h2 := h a ha.1 (by omega)
  have h3 := h b hb.1 (by omega)
  unfold rl1
  split
  · show 0 ≤ (if y = a then _ else _) ∧ (if y = a then _ else _) ≤ _
    split <;> omega
  · exact h1
theorem rl1_w {m : Mem} {p b c : Int} (h : p ≠ -1 ∧ m 193 c < 1073741824 ∧ m 193 c + p < m 193 b) : upm m 193 b (m 193 c + p) 193 = rl1 p b c (m 193) := by
  funext y
  unfold rl1
  rw [if_pos h, upm_app]
  by_cases z : y = b
  · rw [if_pos ⟨rfl, z⟩]; show _ = if y = b then _ else _; rw [if_pos z]
  · rw [if_neg (fun q => z q.2)]; show _ = if y = b then _ else _; rw [if_neg z]
theorem rl1_n {m : Mem} {p b c : Int} (h : ¬ (p ≠ -1 ∧ m 193 c < 1073741824 ∧ m 193 c + p < m 193 b)) : m 193 = rl1 p b c (m 193) := by
  unfold rl1; rw [if_neg h]
set_option maxHeartbeats 4000000 in
theorem p_117x {d : Nat} {tc e : Int} {g : Fg} {m : Mem} {Q : Int → Sto → Prop} {a b c : Int} (hJ : JC 3 g tc m) (ha : 0 ≤ a ∧ a < 14) (hb : 0 ≤ b ∧ b ≤ 9) (hc : 0 ≤ c ∧ c ≤ 9) (h2 : -1 ≤ m 192 a ∧ m 192 a ≤ 1000000000) (h3 : 0 ≤ m 193 c ∧ m 193 c ≤ 1073741824) (hq : ∀ v m', JC 3 g tc m' → (∀ x, x ≠ 193 → m' x = m x) → m' 193 = rl1 (m 192 a) b c (m 193) → Q v (S9 e m')) : Cl (d + 1) 117 [191, a, b, c] Q (S9 e m) := by
  have hL := JC_l hJ
  have hs := JC_s hJ
  have hw : w32 (m 193 c + m 192 a) = m 193 c + m 192 a := w32_eq (by omega) (by omega)
  have h9 := JC_193 hJ b
  simp only [cl_117, runB, B117, ma_117, rho_2000, wf_8_11, wf_8_15, w_cst, w_ldi, w_ldj, w_lda, w_ljk, w_ldk, w_ldw, w_ldk2, w_ldt, w_ldtw, w_neg, w_cvb, w_cvs, w_cvc, w_cvj, w_add, w_sub, w_mul, w_ban, w_bor, w_bxo, w_shl, w_shr, w_ush, w_dvi, w_rmi, w_aldi, w_aldj, w_aldz, w_aldc, w_alda, w_ite, w_cmp, w_cmj, w_cz, w_cnot, w_cand, w_cor, w_nil, w_cons, w_cvi, w_csta, w_cvt, w_cvv, w_csv, w_cpy, w_seq, w_sbr, w_sbn, w_brk, w_ifs, w_ifx, w_ife, w_wk, w_rets, w_rtv, w_thr, w_asi, w_asj, w_asa, w_inc, w_exs, w_asti, w_astj, w_astz, w_astc, w_aopadd, w_aopsub, w_sw, if_true, if_false, ↓reduceIte, hdl_c, S9_1, S9_m, bud9, live9, inb9, wrn, wr9_14, wr9_15, wr9_16, wr9_17, tq9_14, tq9_15, tq9_16, tq9_17, tq_0, tq_1, tq_3, upr_rl, rl_0, rl_1, rl_2, rl_3, rl_4, rl_5, rl_6, rl_7, rl_8, rl_9, rl_10, rl_11, rl_12, rl_13, sp_0, sp_1, sp_2, sp_3, sp_4, sp_5, sp_6, sp_7, sp_8, sp_9, sp_10, sp_11, sp_12, sp_13, se_0, se_1, se_2, se_3, se_4, se_5, se_6, se_7, se_8, se_9, se_10, se_11, se_12, se_13, sem_0, sem_1, sem_2, sem_3, sem_4, sem_5, kc_191, kl9_191, sr_191_0, sr_191_1, sr_191_2, sr_191_3, sr_191_4, sr_191_5, kc_192, kl9_192, kc_193, kl9_193, List.getD_cons_zero, List.getD_cons_succ, Bool.false_eq_true, wrn3, wrn1, cpmS, cpok9, upm_app, Int.reduceEq, and_self, and_true, true_and, and_false, false_and, if_true, if_false, ↓reduceIte, Int.reduceToNat, upm_f, Int.reduceEq, Int.reduceNe, ne_eq, not_false_eq_true, not_true_eq_false, hw]
  repeat' (first
    | (with_reducible exact True.intro)
    | (with_reducible exact False.elim)
    | omega
    | (with_reducible rfl)
    | (with_reducible contradiction)
    | (with_reducible refine And.intro ?_ ?_)
    | intro _
    | ((with_reducible refine hq _ _ ?_ ?_ (rl1_w ?_)); (next => with_reducible (refine JC_of hL ?_ (by decide); repeat (first | assumption | (refine JC_up ?_ (by first | decide | (unfold frC; omega)) (by first | (simp [BdC, hnd]; done) | (simp [BdC, hnd, upm, cpf] <;> first | omega | (unfold w32; omega)))))); done); (next => intro x hx; exact upm_f _ _ _ _ _ hx); (next => omega))
    | ((with_reducible refine hq _ _ hJ (fun _ _ => rfl) (rl1_n ?_)); omega)
    | (unfold w32; omega)
    | (simp (disch := omega) only [w32_eq]; omega)
    | (with_reducible show (_ : Int) ≤ _; simp [upm] <;> (first | omega | (unfold w32; omega)))
    | (with_reducible show (_ : Int) < _; simp [upm] <;> (first | omega | (unfold w32; omega))))

set_option maxHeartbeats 8000000 in
theorem l116c {d : Nat} {tc e : Int} {g : Fg} {m : Mem} {a b x : Int} {l : Int → Int} {Kn Kb : Rho → Sto → Prop} {Kr : Int → Sto → Prop} (hJ : JC 3 g tc m) (hP : ∀ w, 0 ≤ w → w < m 8 1 → (m 192 w = -1 ∨ 0 ≤ m 192 w) ∧ m 192 w ≤ 1000000000) (hB : BD10 (m 193)) (hE : EQ10 (m 193) l) (hq : ∀ m' w, JC 3 g tc m' → (∀ x, x ≠ 193 → m' x = m x) → BD10 (m' 193) → EQ10 (m' 193) (rdn (m 192) (m 10) (m 11) (m 8 1).toNat l) → Kn (rl [191, a, b, x, w]) (S9 e m')) : ((whl true 133 (cmp 2 (by decide) (ldi 4) (get f_8_32 (get f_8_24 (lda 0)))) (seq 107 (cvv v_8_79 (acons (lda 0) (acons (ldi 4) (acons (aldi (get f_8_73 (get f_8_24 (lda 0))) (ldi 4)) (acons (aldi (get f_8_76 (get f_8_24 (lda 0))) (ldi 4)) (anil)))))) (cvv v_8_79 (acons (lda 0) (acons (ldi 4) (acons (aldi (get f_8_76 (get f_8_24 (lda 0))) (ldi 4)) (acons (aldi (get f_8_73 (get f_8_24 (lda 0))) (ldi 4)) (anil))))))) (inc 4 1)) : SX 8).1.2 (Cl (d + 2)) Kn Kb Kr (rl [191, a, b, x, 0]) (S9 e m) := by
  have hL := JC_l hJ
  have hs := JC_s hJ
  refine whl_i (fun k r u => ∃ (i : Int) (n : Nat) (m9 : Mem), r = rl [191, a, b, x, i] ∧ u = S9 e m9 ∧ JC 3 g tc m9 ∧ (∀ x, x ≠ 193 → m9 x = m x) ∧ BD10 (m9 193) ∧ (i = n ∧ i ≤ m 8 1 ∧ i + k = m 8 1 + 1) ∧ EQ10 (m9 193) (rdn (m 192) (m 10) (m 11) n l)) ((m 8 1).toNat + 1) ?_ ?_
  next => exact ⟨0, 0, m, rfl, rfl, hJ, fun _ _ => rfl, hB, ⟨rfl, by omega, by omega⟩, hE⟩
  rintro k r u0 ⟨i, n, m9, rfl, rfl, hJ9, hF9, hB9, ⟨hi, hn, hk⟩, hE9⟩
  have q8 : m9 8 = m 8 := hF9 8 (by decide)
  have q10 : m9 10 = m 10 := hF9 10 (by decide)
  have q11 : m9 11 = m 11 := hF9 11 (by decide)
  have q192 : m9 192 = m 192 := hF9 192 (by decide)
  have i0 : 0 ≤ i := by omega
  have b10 := JC_10 hJ i
  have b11 := JC_11 hJ i
  have ew : w32 (i + 1) = i + 1 := w32_eq (by omega) (by omega)
  simp only [cl_116, runB, B116, ma_116, rho_200, wf_8_15, wf_8_24, wf_8_32, wf_8_71, wf_8_73, wf_8_76, wc_33, wc_117, w_cst, w_ldi, w_ldj, w_lda, w_ljk, w_ldk, w_ldw, w_ldk2, w_ldt, w_ldtw, w_neg, w_cvb, w_cvs, w_cvc, w_cvj, w_add, w_sub, w_mul, w_ban, w_bor, w_bxo, w_shl, w_shr, w_ush, w_dvi, w_rmi, w_aldi, w_aldj, w_aldz, w_aldc, w_alda, w_ite, w_cmp, w_cmj, w_cz, w_cnot, w_cand, w_cor, w_nil, w_cons, w_cvi, w_csta, w_cvt, w_cvv, w_csv, w_cpy, w_seq, w_sbr, w_sbn, w_brk, w_ifs, w_ifx, w_ife, w_wk, w_rets, w_rtv, w_thr, w_asi, w_asj, w_asa, w_inc, w_exs, w_asti, w_astj, w_astz, w_astc, w_aopadd, w_aopsub, w_sw, if_true, if_false, ↓reduceIte, hdl_c, S9_1, S9_m, bud9, live9, inb9, wrn, wr9_14, wr9_15, wr9_16, wr9_17, tq9_14, tq9_15, tq9_16, tq9_17, tq_0, tq_1, tq_3, upr_rl, rl_0, rl_1, rl_2, rl_3, rl_4, rl_5, rl_6, rl_7, rl_8, rl_9, rl_10, rl_11, rl_12, rl_13, sp_0, sp_1, sp_2, sp_3, sp_4, sp_5, sp_6, sp_7, sp_8, sp_9, sp_10, sp_11, sp_12, sp_13, se_0, se_1, se_2, se_3, se_4, se_5, se_6, se_7, se_8, se_9, se_10, se_11, se_12, se_13, sem_0, sem_1, sem_2, sem_3, sem_4, sem_5, kc_191, kl9_191, sr_191_0, sr_191_1, sr_191_2, sr_191_3, sr_191_4, sr_191_5, kc_192, kl9_192, kc_193, kl9_193, kc_194, kl9_194, kc_195, kl9_195, kc_8, kl9_8, sr_8_10, sr_8_4, sr_8_5, sr_8_6, sr_8_7, sr_8_9, kc_9, kl9_9, kc_10, kl9_10, kc_11, kl9_11, kc_12, kl9_12, kc_15, kl9_15, sr_15_0, sr_15_1, sr_15_2, sr_15_4, sr_15_5, sr_15_6, sr_15_7, sr_15_8, sr_15_9, List.getD_cons_zero, List.getD_cons_succ, Bool.false_eq_true, wrn3, wrn1, cpmS, cpok9, upm_app, Int.reduceEq, and_self, and_true, true_and, and_false, false_and, if_true, if_false, ↓reduceIte, Int.reduceToNat, upm_f, Int.reduceEq, Int.reduceNe, ne_eq, not_false_eq_true, not_true_eq_false, q8, q10, q11]
  repeat' (first
    | (with_reducible exact True.intro)
    | (with_reducible exact False.elim)
    | (with_reducible rfl)
    | (with_reducible refine And.intro ?_ ?_)
    | intro _
    | ((with_reducible refine p_117x (g := g) (tc := tc) (m := m9) hJ9 ⟨?_, ?_⟩ (JC_10 hJ i) (JC_11 hJ i) ?_ ?_ (fun v8 m8 hJ8 hF8 hE8 => ?_)); (next => omega); (next => omega); (next => rw [q192]; have z := hP i (by omega) (by omega); omega); (next => exact ⟨(hB9 _ (by omega) (by omega)).1, (hB9 _ (by omega) (by omega)).2⟩); have hB8 : BD10 (m8 193) := (by rw [hE8, q192]; have z := hP i (by omega) (by omega); exact rl1_B hB9 (by omega) (JC_10 hJ i) (JC_11 hJ i)); have o8 : m8 8 = m 8 := (hF8 8 (by decide)).trans q8; have o10 : m8 10 = m 10 := (hF8 10 (by decide)).trans q10; have o11 : m8 11 = m 11 := (hF8 11 (by decide)).trans q11; have o192 : m8 192 = m 192 := (hF8 192 (by decide)).trans q192; simp only [hdl_c, S9_1, S9_m, bud9, live9, inb9, wrn, wr9_14, wr9_15, wr9_16, wr9_17, tq9_14, tq9_15, tq9_16, tq9_17, tq_0, tq_1, tq_3, upr_rl, rl_0, rl_1, rl_2, rl_3, rl_4, rl_5, rl_6, rl_7, rl_8, rl_9, rl_10, rl_11, rl_12, rl_13, sp_0, sp_1, sp_2, sp_3, sp_4, sp_5, sp_6, sp_7, sp_8, sp_9, sp_10, sp_11, sp_12, sp_13, se_0, se_1, se_2, se_3, se_4, se_5, se_6, se_7, se_8, se_9, se_10, se_11, se_12, se_13, sem_0, sem_1, sem_2, sem_3, sem_4, sem_5, List.getD_cons_zero, List.getD_cons_succ, Bool.false_eq_true, wrn3, wrn1, cpmS, cpok9, if_true, if_false, ↓reduceIte, wc_33, wc_117, kc_191, kl9_191, sr_191_0, sr_191_1, sr_191_2, sr_191_3, sr_191_4, sr_191_5, kc_192, kl9_192, kc_193, kl9_193, kc_194, kl9_194, kc_195, kl9_195, kc_8, kl9_8, sr_8_10, sr_8_4, sr_8_5, sr_8_6, sr_8_7, sr_8_9, kc_9, kl9_9, kc_10, kl9_10, kc_11, kl9_11, kc_12, kl9_12, kc_15, kl9_15, sr_15_0, sr_15_1, sr_15_2, sr_15_4, sr_15_5, sr_15_6, sr_15_7, sr_15_8, sr_15_9, upm_app, Int.reduceEq, and_self, and_true, true_and, and_false, false_and, if_true, if_false, ↓reduceIte, Int.reduceToNat, upm_f, Int.reduceEq, Int.reduceNe, ne_eq, not_false_eq_true, not_true_eq_false, q8, q10, q11, o8, o10, o11])
    | ((with_reducible refine p_117x (g := g) (tc := tc) (m := m8) hJ8 ⟨?_, ?_⟩ (JC_11 hJ i) (JC_10 hJ i) ?_ ?_ (fun v7 m7 hJ7 hF7 hE7 => ?_)); (next => omega); (next => omega); (next => rw [o192]; have z := hP i (by omega) (by omega); omega); (next => exact ⟨(hB8 _ (by omega) (by omega)).1, (hB8 _ (by omega) (by omega)).2⟩); have hB7 : BD10 (m7 193) := (by rw [hE7, o192]; have z := hP i (by omega) (by omega); exact rl1_B hB8 (by omega) (JC_11 hJ i) (JC_10 hJ i)); simp only [hdl_c, S9_1, S9_m, bud9, live9, inb9, wrn, wr9_14, wr9_15, wr9_16, wr9_17, tq9_14, tq9_15, tq9_16, tq9_17, tq_0, tq_1, tq_3, upr_rl, rl_0, rl_1, rl_2, rl_3, rl_4, rl_5, rl_6, rl_7, rl_8, rl_9, rl_10, rl_11, rl_12, rl_13, sp_0, sp_1, sp_2, sp_3, sp_4, sp_5, sp_6, sp_7, sp_8, sp_9, sp_10, sp_11, sp_12, sp_13, se_0, se_1, se_2, se_3, se_4, se_5, se_6, se_7, se_8, se_9, se_10, se_11, se_12, se_13, sem_0, sem_1, sem_2, sem_3, sem_4, sem_5, List.getD_cons_zero, List.getD_cons_succ, Bool.false_eq_true, wrn3, wrn1, cpmS, cpok9, if_true, if_false, ↓reduceIte, wc_33, wc_117, kc_191, kl9_191, sr_191_0, sr_191_1, sr_191_2, sr_191_3, sr_191_4, sr_191_5, kc_192, kl9_192, kc_193, kl9_193, kc_194, kl9_194, kc_195, kl9_195, kc_8, kl9_8, sr_8_10, sr_8_4, sr_8_5, sr_8_6, sr_8_7, sr_8_9, kc_9, kl9_9, kc_10, kl9_10, kc_11, kl9_11, kc_12, kl9_12, kc_15, kl9_15, sr_15_0, sr_15_1, sr_15_2, sr_15_4, sr_15_5, sr_15_6, sr_15_7, sr_15_8, sr_15_9, upm_app, Int.reduceEq, and_self, and_true, true_and, and_false, false_and, if_true, if_false, ↓reduceIte, Int.reduceToNat, upm_f, Int.reduceEq, Int.reduceNe, ne_eq, not_false_eq_true, not_true_eq_false, q8, q10, q11, ew])
    | ((with_reducible refine ⟨k - 1, ?_, i + 1, n + 1, m7, rfl, rfl, hJ7, ?_, hB7, ⟨?_, ?_, ?_⟩, ?_⟩); (next => omega); (next => intro x9 hx; rw [hF7 x9 hx, hF8 x9 hx]; exact hF9 x9 hx); (next => omega); (next => omega); (next => omega); (next => rw [hE7, hE8, o192, q192, hi]; show EQ10 _ (rl1 (m 192 (n : Int)) (m 11 (n : Int)) (m 10 (n : Int)) (rl1 (m 192 (n : Int)) (m 10 (n : Int)) (m 11 (n : Int)) (rdn (m 192) (m 10) (m 11) n l))); exact rl1_E (rl1_E hE9 (JC_10 hJ _) (JC_11 hJ _)) (JC_11 hJ _) (JC_10 hJ _)))
    | ((with_reducible refine hq _ _ hJ9 hF9 hB9 ?_); rw [show (m 8 1).toNat = n by omega]; exact hE9)
    | omega
    | (with_reducible contradiction)
    | (exfalso; omega)
    | (unfold w32; omega)
    | (simp (disch := omega) only [w32_eq]; omega)
    | (with_reducible show (_ : Int) ≤ _; simp [upm] <;> (first | omega | (unfold w32; omega)))
    | (with_reducible show (_ : Int) < _; simp [upm] <;> (first | omega | (unfold w32; omega))))

set_option maxHeartbeats 8000000 in
theorem l116b {d : Nat} {tc e : Int} {g : Fg} {m : Mem} {a b : Int} {l : Int → Int} {Kn Kb : Rho → Sto → Prop} {Kr : Int → Sto → Prop} (hJ : JC 3 g tc m) (h8 : 1 ≤ m 8 0) (hP : ∀ w, 0 ≤ w → w < m 8 1 → (m 192 w = -1 ∨ 0 ≤ m 192 w) ∧ m 192 w ≤ 1000000000) (hB : BD10 (m 193)) (hE : EQ10 (m 193) l) (hq : ∀ m' x w, JC 3 g tc m' → (∀ x, x ≠ 193 → m' x = m x) → BD10 (m' 193) → EQ10 (m' 193) (rds (m 192) (m 10) (m 11) (m 8 1).toNat ((m 8 0).toNat - 1) l) → Kn (rl [191, a, b, x, w]) (S9 e m')) : ((whl true 139 (cmp 2 (by decide) (ldi 3) (get f_8_71 (get f_8_24 (lda 0)))) (seq 69 (asi 4 (cst 0)) (wk [0, 1, 2, 3, 4] (whl true 133 (cmp 2 (by decide) (ldi 4) (get f_8_32 (get f_8_24 (lda 0)))) (seq 107 (cvv v_8_79 (acons (lda 0) (acons (ldi 4) (acons (aldi (get f_8_73 (get f_8_24 (lda 0))) (ldi 4)) (acons (aldi (get f_8_76 (get f_8_24 (lda 0))) (ldi 4)) (anil)))))) (cvv v_8_79 (acons (lda 0) (acons (ldi 4) (acons (aldi (get f_8_76 (get f_8_24 (lda 0))) (ldi 4)) (acons (aldi (get f_8_73 (get f_8_24 (lda 0))) (ldi 4)) (anil))))))) (inc 4 1)))) (inc 3 1)) : SX 8).1.2 (Cl (d + 2)) Kn Kb Kr (rl [191, a, b, 1]) (S9 e m) := by
  have hL := JC_l hJ
  have hs := JC_s hJ
  refine whl_i (fun k r u => ∃ (x w : Int) (n : Nat) (m9 : Mem), r = rl [191, a, b, x, w] ∧ u = S9 e m9 ∧ JC 3 g tc m9 ∧ (∀ x, x ≠ 193 → m9 x = m x) ∧ BD10 (m9 193) ∧ (x = n + 1 ∧ x ≤ m 8 0 ∧ x + k = m 8 0 + 1) ∧ EQ10 (m9 193) (rds (m 192) (m 10) (m 11) (m 8 1).toNat n l)) ((m 8 0).toNat) ?_ ?_
  next => exact ⟨1, 0, 0, m, (by first | rfl | exact rlp4), rfl, hJ, fun _ _ => rfl, hB, ⟨by omega, by omega, by omega⟩, hE⟩
  rintro k r u0 ⟨x, w, n, m9, rfl, rfl, hJ9, hF9, hB9, ⟨hi, hn, hk⟩, hE9⟩
  have q8 : m9 8 = m 8 := hF9 8 (by decide)
  have q10 : m9 10 = m 10 := hF9 10 (by decide)
  have q11 : m9 11 = m 11 := hF9 11 (by decide)
  have q192 : m9 192 = m 192 := hF9 192 (by decide)
  have ew : w32 (x + 1) = x + 1 := w32_eq (by omega) (by omega)
  simp only [cl_116, runB, B116, ma_116, rho_200, wf_8_15, wf_8_24, wf_8_32, wf_8_71, wf_8_73, wf_8_76, wc_33, wc_117, w_cst, w_ldi, w_ldj, w_lda, w_ljk, w_ldk, w_ldw, w_ldk2, w_ldt, w_ldtw, w_neg, w_cvb, w_cvs, w_cvc, w_cvj, w_add, w_sub, w_mul, w_ban, w_bor, w_bxo, w_shl, w_shr, w_ush, w_dvi, w_rmi, w_aldi, w_aldj, w_aldz, w_aldc, w_alda, w_ite, w_cmp, w_cmj, w_cz, w_cnot, w_cand, w_cor, w_nil, w_cons, w_cvi, w_csta, w_cvt, w_cvv, w_csv, w_cpy, w_seq, w_sbr, w_sbn, w_brk, w_ifs, w_ifx, w_ife, w_wk, w_rets, w_rtv, w_thr, w_asi, w_asj, w_asa, w_inc, w_exs, w_asti, w_astj, w_astz, w_astc, w_aopadd, w_aopsub, w_sw, if_true, if_false, ↓reduceIte, hdl_c, S9_1, S9_m, bud9, live9, inb9, wrn, wr9_14, wr9_15, wr9_16, wr9_17, tq9_14, tq9_15, tq9_16, tq9_17, tq_0, tq_1, tq_3, upr_rl, rl_0, rl_1, rl_2, rl_3, rl_4, rl_5, rl_6, rl_7, rl_8, rl_9, rl_10, rl_11, rl_12, rl_13, sp_0, sp_1, sp_2, sp_3, sp_4, sp_5, sp_6, sp_7, sp_8, sp_9, sp_10, sp_11, sp_12, sp_13, se_0, se_1, se_2, se_3, se_4, se_5, se_6, se_7, se_8, se_9, se_10, se_11, se_12, se_13, sem_0, sem_1, sem_2, sem_3, sem_4, sem_5, kc_191, kl9_191, sr_191_0, sr_191_1, sr_191_2, sr_191_3, sr_191_4, sr_191_5, kc_192, kl9_192, kc_193, kl9_193, kc_194, kl9_194, kc_195, kl9_195, kc_8, kl9_8, sr_8_10, sr_8_4, sr_8_5, sr_8_6, sr_8_7, sr_8_9, kc_9, kl9_9, kc_10, kl9_10, kc_11, kl9_11, kc_12, kl9_12, kc_15, kl9_15, sr_15_0, sr_15_1, sr_15_2, sr_15_4, sr_15_5, sr_15_6, sr_15_7, sr_15_8, sr_15_9, List.getD_cons_zero, List.getD_cons_succ, Bool.false_eq_true, wrn3, wrn1, cpmS, cpok9, upm_app, Int.reduceEq, and_self, and_true, true_and, and_false, false_and, if_true, if_false, ↓reduceIte, Int.reduceToNat, upm_f, Int.reduceEq, Int.reduceNe, ne_eq, not_false_eq_true, not_true_eq_false, q8, q10, q11]
  repeat' (first
    | (with_reducible exact True.intro)
    | (with_reducible exact False.elim)
    | (with_reducible rfl)
    | (with_reducible refine And.intro ?_ ?_)
    | intro _
    | ((with_reducible refine l116c (g := g) (tc := tc) (m := m9) hJ9 ?_ hB9 hE9 (fun m8 w8 hJ8 hF8 hB8 hE8 => ?_)); (next => rw [q8, q192]; exact hP); (rw [q8, q10, q11, q192] at hE8); simp only [hdl_c, S9_1, S9_m, bud9, live9, inb9, wrn, wr9_14, wr9_15, wr9_16, wr9_17, tq9_14, tq9_15, tq9_16, tq9_17, tq_0, tq_1, tq_3, upr_rl, rl_0, rl_1, rl_2, rl_3, rl_4, rl_5, rl_6, rl_7, rl_8, rl_9, rl_10, rl_11, rl_12, rl_13, sp_0, sp_1, sp_2, sp_3, sp_4, sp_5, sp_6, sp_7, sp_8, sp_9, sp_10, sp_11, sp_12, sp_13, se_0, se_1, se_2, se_3, se_4, se_5, se_6, se_7, se_8, se_9, se_10, se_11, se_12, se_13, sem_0, sem_1, sem_2, sem_3, sem_4, sem_5, List.getD_cons_zero, List.getD_cons_succ, Bool.false_eq_true, wrn3, wrn1, cpmS, cpok9, if_true, if_false, ↓reduceIte, wc_33, wc_117, kc_191, kl9_191, sr_191_0, sr_191_1, sr_191_2, sr_191_3, sr_191_4, sr_191_5, kc_192, kl9_192, kc_193, kl9_193, kc_194, kl9_194, kc_195, kl9_195, kc_8, kl9_8, sr_8_10, sr_8_4, sr_8_5, sr_8_6, sr_8_7, sr_8_9, kc_9, kl9_9, kc_10, kl9_10, kc_11, kl9_11, kc_12, kl9_12, kc_15, kl9_15, sr_15_0, sr_15_1, sr_15_2, sr_15_4, sr_15_5, sr_15_6, sr_15_7, sr_15_8, sr_15_9, upm_app, Int.reduceEq, and_self, and_true, true_and, and_false, false_and, if_true, if_false, ↓reduceIte, Int.reduceToNat, upm_f, Int.reduceEq, Int.reduceNe, ne_eq, not_false_eq_true, not_true_eq_false, q8, q10, q11, ew])
    | ((with_reducible refine ⟨k - 1, ?_, x + 1, w8, n + 1, m8, rfl, rfl, hJ8, ?_, hB8, ⟨?_, ?_, ?_⟩, ?_⟩); (next => omega); (next => intro x9 hx; rw [hF8 x9 hx]; exact hF9 x9 hx); (next => omega); (next => omega); (next => omega); (next => exact hE8))
    | ((with_reducible refine hq _ _ _ hJ9 hF9 hB9 ?_); rw [show (m 8 0).toNat - 1 = n by omega]; exact hE9)
    | omega
    | (with_reducible contradiction)
    | (exfalso; omega)
    | (unfold w32; omega)
    | (simp (disch := omega) only [w32_eq]; omega)
    | (with_reducible show (_ : Int) ≤ _; simp [upm] <;> (first | omega | (unfold w32; omega)))
    | (with_reducible show (_ : Int) < _; simp [upm] <;> (first | omega | (unfold w32; omega))))

set_option maxHeartbeats 8000000 in
theorem l116a {d : Nat} {tc e : Int} {g : Fg} {m : Mem} {a b : Int} {Kn Kb : Rho → Sto → Prop} {Kr : Int → Sto → Prop} (hJ : JC 3 g tc m) (hq : ∀ m' i, JC 3 g tc m' → (∀ x, x ≠ 193 → m' x = m x) → (∀ y, 0 ≤ y → y < 10 → m' 193 y = 1073741824) → Kn (rl [191, a, b, i]) (S9 e m')) : ((whl true 40 (cmp 2 (by decide) (ldi 3) (cst 10)) (asti (get f_8_15 (lda 0)) (ldi 3) (ldk k_8_70)) (inc 3 1)) : SX 8).1.2 (Cl (d + 2)) Kn Kb Kr (rl [191, a, b, 0]) (S9 e m) := by
  have hL := JC_l hJ
  have hs := JC_s hJ
  refine whl_i (fun k r u => ∃ (i : Int) (m9 : Mem), r = rl [191, a, b, i] ∧ u = S9 e m9 ∧ JC 3 g tc m9 ∧ (∀ x, x ≠ 193 → m9 x = m x) ∧ (0 ≤ i ∧ i ≤ 10 ∧ i + k = 11) ∧ (∀ y, 0 ≤ y → y < i → m9 193 y = 1073741824)) 11 ?_ ?_
  next => exact ⟨0, m, rfl, rfl, hJ, fun _ _ => rfl, ⟨by omega, by omega, by omega⟩, fun y y0 y1 => absurd y1 (by omega)⟩
  rintro k r u0 ⟨i, m9, rfl, rfl, hJ9, hF9, ⟨hi, hn, hk⟩, hA9⟩
  have ew : w32 (i + 1) = i + 1 := w32_eq (by omega) (by omega)
  simp only [cl_116, runB, B116, ma_116, rho_200, wf_8_15, wf_8_24, wf_8_32, wf_8_71, wf_8_73, wf_8_76, wc_33, wc_117, w_cst, w_ldi, w_ldj, w_lda, w_ljk, w_ldk, w_ldw, w_ldk2, w_ldt, w_ldtw, w_neg, w_cvb, w_cvs, w_cvc, w_cvj, w_add, w_sub, w_mul, w_ban, w_bor, w_bxo, w_shl, w_shr, w_ush, w_dvi, w_rmi, w_aldi, w_aldj, w_aldz, w_aldc, w_alda, w_ite, w_cmp, w_cmj, w_cz, w_cnot, w_cand, w_cor, w_nil, w_cons, w_cvi, w_csta, w_cvt, w_cvv, w_csv, w_cpy, w_seq, w_sbr, w_sbn, w_brk, w_ifs, w_ifx, w_ife, w_wk, w_rets, w_rtv, w_thr, w_asi, w_asj, w_asa, w_inc, w_exs, w_asti, w_astj, w_astz, w_astc, w_aopadd, w_aopsub, w_sw, if_true, if_false, ↓reduceIte, hdl_c, S9_1, S9_m, bud9, live9, inb9, wrn, wr9_14, wr9_15, wr9_16, wr9_17, tq9_14, tq9_15, tq9_16, tq9_17, tq_0, tq_1, tq_3, upr_rl, rl_0, rl_1, rl_2, rl_3, rl_4, rl_5, rl_6, rl_7, rl_8, rl_9, rl_10, rl_11, rl_12, rl_13, sp_0, sp_1, sp_2, sp_3, sp_4, sp_5, sp_6, sp_7, sp_8, sp_9, sp_10, sp_11, sp_12, sp_13, se_0, se_1, se_2, se_3, se_4, se_5, se_6, se_7, se_8, se_9, se_10, se_11, se_12, se_13, sem_0, sem_1, sem_2, sem_3, sem_4, sem_5, kc_191, kl9_191, sr_191_0, sr_191_1, sr_191_2, sr_191_3, sr_191_4, sr_191_5, kc_192, kl9_192, kc_193, kl9_193, kc_194, kl9_194, kc_195, kl9_195, kc_8, kl9_8, sr_8_10, sr_8_4, sr_8_5, sr_8_6, sr_8_7, sr_8_9, kc_9, kl9_9, kc_10, kl9_10, kc_11, kl9_11, kc_12, kl9_12, kc_15, kl9_15, sr_15_0, sr_15_1, sr_15_2, sr_15_4, sr_15_5, sr_15_6, sr_15_7, sr_15_8, sr_15_9, List.getD_cons_zero, List.getD_cons_succ, Bool.false_eq_true, wrn3, wrn1, cpmS, cpok9, upm_app, Int.reduceEq, and_self, and_true, true_and, and_false, false_and, if_true, if_false, ↓reduceIte, Int.reduceToNat, upm_f, Int.reduceEq, Int.reduceNe, ne_eq, not_false_eq_true, not_true_eq_false, ew]
  repeat' (first
    | (with_reducible exact True.intro)
    | (with_reducible exact False.elim)
    | (with_reducible rfl)
    | (with_reducible refine And.intro ?_ ?_)
    | intro _
    | ((with_reducible refine ⟨k - 1, ?_, i + 1, _, rfl, rfl, ?_, ?_, ⟨?_, ?_, ?_⟩, ?_⟩); (next => omega); (next => with_reducible (refine JC_of hL ?_ (by decide); repeat (first | assumption | (refine JC_up ?_ (by first | decide | (unfold frC; omega)) (by first | (simp [BdC, hnd]; done) | (simp [BdC, hnd, upm, cpf] <;> first | omega | (unfold w32; omega)))))); done); (next => intro x9 hx; rw [upm_f _ _ _ _ _ hx]; exact hF9 x9 hx); (next => omega); (next => omega); (next => omega); (next => intro y y0 y1; by_cases z : y = i; (next => rw [z, upm_v]); (next => rw [upm_k z]; exact hA9 y y0 (by omega))))
    | ((with_reducible refine hq _ _ hJ9 hF9 ?_); intro y y0 y1; exact hA9 y y0 (by omega))
    | omega
    | (with_reducible contradiction)
    | (exfalso; omega)
    | (unfold w32; omega)
    | (simp (disch := omega) only [w32_eq]; omega)
    | (with_reducible show (_ : Int) ≤ _; simp [upm] <;> (first | omega | (unfold w32; omega)))
    | (with_reducible show (_ : Int) < _; simp [upm] <;> (first | omega | (unfold w32; omega))))
