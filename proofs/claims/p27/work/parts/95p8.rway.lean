/-! the reference lays a way, with values -/
abbrev FX (m m' : Mem) : Prop := (∀ x, x ≠ 249 → x ≠ 273 → x ≠ 274 → x ≠ 275 → m' x = m x) ∧ ∀ j, j ≠ 53 → m' 249 j = m 249 j
abbrev FXw (m m' : Mem) : Prop := (∀ x, x ≠ 249 → x ≠ 275 → m' x = m x) ∧ ∀ j, j ≠ 53 → m' 249 j = m 249 j
abbrev Fm (m : Mem) (b : Int) : Int → Int := fun q => m 273 (10 * q + b)
abbrev Sm (m : Mem) : Int → Int → Int := fun p q => m 274 (10 * p + q)
abbrev CHN (F : Int → Int) (S : Int → Int → Int) (n b : Int) (A : Int → Int) (s : Int) : Prop := (∀ j, 0 ≤ j → j < s → 0 ≤ A j ∧ A j < n) ∧ (∀ j, 0 ≤ j → j + 1 < s → A j ≠ b ∧ isN F S n (A j) (A (j + 1)))
theorem PWY_e {F F' : Int → Int} {S S' : Int → Int → Int} {n f g s : Int} {A : Int → Int} (hF : ∀ q, 0 ≤ q → q < n → F' q = F q) (hS : ∀ p q, 0 ≤ p → p < n → 0 ≤ q → q < n → S' p q = S p q) (h : PWY F S n f g A s) : PWY F' S' n f g A s := by
  obtain ⟨h1, h2, h3, h4, h5⟩ := h
  refine ⟨h1, h2, h3, h4, fun j j0 j1 => ⟨(h5 j j0 j1).1, ?_⟩⟩
  obtain ⟨⟨c0, c1, c2, c3⟩, c4⟩ := (h5 j j0 j1).2
  have hj := h4 j j0 (by omega)
  refine ⟨⟨c0, c1, c2, ?_⟩, fun b b0 b1 q => c4 b b0 b1 ⟨q.1, ?_⟩⟩
  · rw [hF _ c0 c1, hF _ hj.1 hj.2, hS _ _ hj.1 hj.2 c0 c1]; exact c3
  · have q2 := q.2
    rw [hF b b0 (by omega), hF _ hj.1 hj.2, hS _ _ hj.1 hj.2 b0 (by omega)] at q2
    exact q2
theorem FW_v {m : Mem} {S : Int → Int → Int} {n : Int} {N : Nat} (hn : n = N) (h10 : n ≤ 10) (hS : ∀ p q, 1 ≤ S p q ∧ S p q ≤ 1000000) (h1 : SQ (m 274) S) (h2 : ∀ p q, rg n p q → m 273 (10 * p + q) = fwD S N p q) : FW n m := by
  have hF := FI_fw (n := n) (S := S) (fun p q _ => hS p q) N (by omega)
  rw [← hn] at hF
  refine ⟨fun j j0 j1 => ?_, fun p q r hne hl => ?_⟩
  · have z := h1 (j / 10) (j % 10) (by omega) (by omega) (by omega) (by omega)
    rw [show 10 * (j / 10) + j % 10 = j by omega] at z
    rw [z]; exact (hS _ _).1
  · rw [h2 p q r] at hl
    obtain ⟨c, c0, c1, c2, c3⟩ := FI_end hF r hne hl
    unfold rg at r
    refine ⟨c, c0, c1, c2, ?_⟩
    rw [h1 p c (by omega) (by omega) (by omega) (by omega), h2 c q ⟨c0, c1, r.2.2.1, r.2.2.2⟩, h2 p q r]
    exact c3
theorem n250b {d : Nat} {tc pl e W : Int} {g : Fg} {m : Mem} {N : Int → Int} {a b x c : Int} {Kn Kb : Rho → Sto → Prop} {Kr : Int → Sto → Prop} (hJ : JW 3 g tc pl N W m) (hx : 0 ≤ x ∧ x ≤ 9) (hb : 0 ≤ b ∧ b ≤ 9) (hc : 0 ≤ c ∧ c ≤ 9) (hcx : c ≠ x) (h3 : m 274 (10 * x + c) + m 273 (10 * c + b) = m 273 (10 * x + b)) (hq : ∀ y, 0 ≤ y → y ≤ c → y ≠ x → m 274 (10 * x + y) + m 273 (10 * y + b) = m 273 (10 * x + b) → (∀ z, 0 ≤ z → z < y → ¬ (z ≠ x ∧ m 274 (10 * x + z) + m 273 (10 * z + b) = m 273 (10 * x + b))) → Kn (rl [249, a, b, x, y]) (S9 e m)) : ((whl false 52 (cor 97 (cmp 0 (by decide) (ldi 4) (ldi 3)) (cmp 1 (by decide) (add (aldi (get f_13_84 (lda 0)) (add (mul (cst 10) (ldi 3)) (ldi 4))) (aldi (get f_13_81 (lda 0)) (add (mul (cst 10) (ldi 4)) (ldi 2)))) (aldi (get f_13_81 (lda 0)) (add (mul (cst 10) (ldi 3)) (ldi 2))))) (inc 4 1) (rtv)) : SX 13).1.2 (Cl (d + 2)) Kn Kb Kr (rl [249, a, b, x, 0]) (S9 e m) := by
  have hL := JW_l hJ
  refine whl_i (fun k r u => ∃ (y : Int), r = rl [249, a, b, x, y] ∧ u = S9 e m ∧ 0 ≤ y ∧ y + k = c ∧ (∀ z, 0 ≤ z → z < y → ¬ (z ≠ x ∧ m 274 (10 * x + z) + m 273 (10 * z + b) = m 273 (10 * x + b)))) c.toNat ?_ ?_
  next => exact ⟨0, rfl, rfl, by omega, by omega, fun z z0 z1 => absurd z1 (by omega)⟩
  rintro k r u ⟨y, rfl, rfl, hy0, hy1, hm9⟩
  have hcy : y = c → m 274 (10 * x + y) + m 273 (10 * y + b) = m 273 (10 * x + b) := fun q => by rw [q]; exact h3
  have z1 := w10e (a := x) (b := y) hx.1 hx.2 hy0 (by omega)
  have z2 := w10e (a := y) (b := b) hy0 (by omega) hb.1 hb.2
  have z3 := w10e (a := x) (b := b) hx.1 hx.2 hb.1 hb.2
  have y1 := JR_274 (JW_1 hJ) (10 * x + y)
  have y2 := JR_273 (JW_1 hJ) (10 * y + b)
  have z4 := w32_eq (v := m 274 (10 * x + y) + m 273 (10 * y + b)) (by omega) (by omega)
  simp only [cl_250, runB, B250, ma_250, rho_200, wf_13_36, wf_13_453, wf_13_81, wf_13_84, wf_13_87, wpf_13_453, wpopadd_pf_13_453, wc_251, w_cst, w_ldi, w_ldj, w_lda, w_ljk, w_ldk, w_ldw, w_ldk2, w_ldt, w_ldtw, w_neg, w_cvb, w_cvs, w_cvc, w_cvj, w_add, w_sub, w_mul, w_ban, w_bor, w_bxo, w_shl, w_shr, w_ush, w_dvi, w_rmi, w_aldi, w_aldj, w_aldz, w_aldc, w_alda, w_ite, w_cmp, w_cmj, w_cz, w_cnot, w_cand, w_cor, w_nil, w_cons, w_cvi, w_csta, w_cvt, w_cvv, w_csv, w_cpy, w_seq, w_sbr, w_sbn, w_brk, w_ifs, w_ifx, w_ife, w_wk, w_rets, w_rtv, w_thr, w_asi, w_asj, w_asa, w_inc, w_exs, w_asti, w_astj, w_astz, w_astc, w_aopadd, w_aopsub, w_sw, if_true, if_false, ↓reduceIte, hdl_c, S9_1, S9_m, bud9, live9, inb9, wrn, wr9_14, wr9_15, wr9_16, wr9_17, tq9_14, tq9_15, tq9_16, tq9_17, tq_0, tq_1, tq_3, upr_rl, rl_0, rl_1, rl_2, rl_3, rl_4, rl_5, rl_6, rl_7, rl_8, rl_9, rl_10, rl_11, rl_12, rl_13, sp_0, sp_1, sp_2, sp_3, sp_4, sp_5, sp_6, sp_7, sp_8, sp_9, sp_10, sp_11, sp_12, sp_13, se_0, se_1, se_2, se_3, se_4, se_5, se_6, se_7, se_8, se_9, se_10, se_11, se_12, se_13, sem_0, sem_1, sem_2, sem_3, sem_4, sem_5, kc_249, kl9_249, sr_249_10, sr_249_11, sr_249_12, sr_249_13, sr_249_14, sr_249_15, sr_249_16, sr_249_17, sr_249_2, sr_249_22, sr_249_23, sr_249_24, sr_249_25, sr_249_30, sr_249_31, sr_249_34, sr_249_35, sr_249_40, sr_249_41, sr_249_42, sr_249_43, sr_249_50, sr_249_51, sr_249_52, sr_249_54, sr_249_55, sr_249_57, sr_249_58, sr_249_61, sr_249_63, sr_249_64, sr_249_67, sr_249_68, sr_249_69, sr_249_70, sr_249_71, sr_249_8, sr_249_9, kc_258, kl9_258, kc_273, kl9_273, kc_274, kl9_274, kc_275, kl9_275, List.getD_cons_zero, List.getD_cons_succ, Bool.false_eq_true, wrn3, wrn1, cpmS, cpok9, z1, z2, z3, z4]
  repeat' (first
    | (with_reducible exact True.intro)
    | (with_reducible exact False.elim)
    | omega
    | (with_reducible rfl)
    | (with_reducible contradiction)
    | (with_reducible refine And.intro ?_ ?_)
    | intro _
    | (exact hq y hy0 (by omega) (by omega) (by omega) hm9)
    | (refine ⟨k - 1, ?_, w32 (y + 1), rfl, ?_, ?_, ?_, ?_⟩; (next => omega); (next => first | trivial | rfl); (next => unfold w32; omega); (next => unfold w32; omega); (next => rw [w32_eq (v := y + 1) (by omega) (by omega)]; intro z z0 z1; by_cases zy : z = y; (next => subst zy; intro qz; omega); (next => exact hm9 z z0 (by omega))))
    | (unfold w32; omega)
    | (simp (disch := omega) only [w32_eq]; omega)
    | (with_reducible show (_ : Int) ≤ _; simp [upm] <;> (first | omega | (unfold w32; omega)))
    | (with_reducible show (_ : Int) < _; simp [upm] <;> (first | omega | (unfold w32; omega))))

theorem n250a {d : Nat} {tc pl e : Int} {g : Fg} {m : Mem} {N : Int → Int} {a b n : Int} {Kn Kb : Rho → Sto → Prop} {Kr : Int → Sto → Prop} (hJ : JW 3 g tc pl N 1 m) (h0 : m 275 0 = a) (hn : n ≤ 10) (ha : 0 ≤ a ∧ a < n) (hb : 0 ≤ b ∧ b < n) (hFW : FW n m) (hl : m 273 (10 * a + b) < 1000000) (hq : ∀ m' r w, JW 3 g tc pl N w m' → FXw m m' → PWY (Fm m b) (Sm m) n a b (m' 275) w → Kn r (S9 e m')) : ((whl false 44 (cmp 1 (by decide) (ldi 3) (ldi 2)) (seq 52 (asi 4 (cst 0)) (seq 103 (wk [0, 1, 2, 3, 4] (whl false 52 (cor 97 (cmp 0 (by decide) (ldi 4) (ldi 3)) (cmp 1 (by decide) (add (aldi (get f_13_84 (lda 0)) (add (mul (cst 10) (ldi 3)) (ldi 4))) (aldi (get f_13_81 (lda 0)) (add (mul (cst 10) (ldi 4)) (ldi 2)))) (aldi (get f_13_81 (lda 0)) (add (mul (cst 10) (ldi 3)) (ldi 2))))) (inc 4 1) (rtv))) (seq 114 (asti (get f_13_87 (lda 0)) (get f_13_453 (lda 0)) (ldi 4)) (seq 124 (popadd pf_13_453 (lda 0) (cst 1)) (asi 3 (ldi 4)))))) (rtv)) : SX 13).1.2 (Cl (d + 2)) Kn Kb Kr (rl [249, a, b, a]) (S9 e m) := by
  have hL := JW_l hJ
  refine whl_i (fun k r u => ∃ (x y w : Int) (m8 : Mem), r = rl [249, a, b, x, y] ∧ u = S9 e m8 ∧ JW 3 g tc pl N w m8 ∧ FXw m m8 ∧ (m8 275 0 = a ∧ m8 275 (w - 1) = x) ∧ CHN (Fm m b) (Sm m) n b (m8 275) w ∧ 0 ≤ x ∧ x < n ∧ 1 ≤ w ∧ w + ((cnt (Fm m b) (m 273 (10 * x + b)) 10 : Nat) : Int) ≤ 10 ∧ cnt (Fm m b) (m 273 (10 * x + b)) 10 ≤ k ∧ m 273 (10 * x + b) < 1000000) 10 ?_ ?_
  next =>
    refine ⟨a, 0, 1, m, rlp4, rfl, hJ, ⟨fun _ _ _ => rfl, fun _ _ => rfl⟩, ⟨h0, h0⟩, ⟨fun j j0 j1 => by rw [show j = 0 by omega, h0]; exact ha, fun j j0 j1 => absurd j1 (by omega)⟩, ha.1, ha.2, by decide, ?_, cnt_le _ _ _, hl⟩
    have := cnt_out (Fm m b) (v := m 273 (10 * a + b)) (q := a.toNat) (by rw [Int.toNat_of_nonneg ha.1]; exact Int.lt_irrefl _) 10 (by omega)
    omega
  rintro k r u ⟨x, y0, w, m8, rfl, rfl, hJ8, hF8, hA, hC, hx0, hx1, hw, hcn, hck, hlt⟩
  have hs9 := JW_s hJ8
  have e73 : m8 273 = m 273 := hF8.1 273 (by decide) (by decide)
  have e74 : m8 274 = m 274 := hF8.1 274 (by decide) (by decide)
  simp only [cl_250, runB, B250, ma_250, rho_200, wf_13_36, wf_13_453, wf_13_81, wf_13_84, wf_13_87, wpf_13_453, wpopadd_pf_13_453, wc_251, w_cst, w_ldi, w_ldj, w_lda, w_ljk, w_ldk, w_ldw, w_ldk2, w_ldt, w_ldtw, w_neg, w_cvb, w_cvs, w_cvc, w_cvj, w_add, w_sub, w_mul, w_ban, w_bor, w_bxo, w_shl, w_shr, w_ush, w_dvi, w_rmi, w_aldi, w_aldj, w_aldz, w_aldc, w_alda, w_ite, w_cmp, w_cmj, w_cz, w_cnot, w_cand, w_cor, w_nil, w_cons, w_cvi, w_csta, w_cvt, w_cvv, w_csv, w_cpy, w_seq, w_sbr, w_sbn, w_brk, w_ifs, w_ifx, w_ife, w_wk, w_rets, w_rtv, w_thr, w_asi, w_asj, w_asa, w_inc, w_exs, w_asti, w_astj, w_astz, w_astc, w_aopadd, w_aopsub, w_sw, if_true, if_false, ↓reduceIte, hdl_c, S9_1, S9_m, bud9, live9, inb9, wrn, wr9_14, wr9_15, wr9_16, wr9_17, tq9_14, tq9_15, tq9_16, tq9_17, tq_0, tq_1, tq_3, upr_rl, rl_0, rl_1, rl_2, rl_3, rl_4, rl_5, rl_6, rl_7, rl_8, rl_9, rl_10, rl_11, rl_12, rl_13, sp_0, sp_1, sp_2, sp_3, sp_4, sp_5, sp_6, sp_7, sp_8, sp_9, sp_10, sp_11, sp_12, sp_13, se_0, se_1, se_2, se_3, se_4, se_5, se_6, se_7, se_8, se_9, se_10, se_11, se_12, se_13, sem_0, sem_1, sem_2, sem_3, sem_4, sem_5, kc_249, kl9_249, sr_249_10, sr_249_11, sr_249_12, sr_249_13, sr_249_14, sr_249_15, sr_249_16, sr_249_17, sr_249_2, sr_249_22, sr_249_23, sr_249_24, sr_249_25, sr_249_30, sr_249_31, sr_249_34, sr_249_35, sr_249_40, sr_249_41, sr_249_42, sr_249_43, sr_249_50, sr_249_51, sr_249_52, sr_249_54, sr_249_55, sr_249_57, sr_249_58, sr_249_61, sr_249_63, sr_249_64, sr_249_67, sr_249_68, sr_249_69, sr_249_70, sr_249_71, sr_249_8, sr_249_9, kc_258, kl9_258, kc_273, kl9_273, kc_274, kl9_274, kc_275, kl9_275, List.getD_cons_zero, List.getD_cons_succ, Bool.false_eq_true, wrn3, wrn1, cpmS, cpok9]
  refine ⟨fun hne => ?_, fun hxb => hq _ _ _ hJ8 hF8 ⟨⟨hw, by omega⟩, hA.1, by rw [hA.2]; omega, hC.1, hC.2⟩⟩
  obtain ⟨c, c0, c1, c2, c3⟩ := hFW.2 x b ⟨hx0, hx1, hb.1, hb.2⟩ hne hlt
  refine n250b (c := c) hJ8 ⟨hx0, by omega⟩ ⟨hb.1, by omega⟩ ⟨c0, by omega⟩ c2 (by rw [e73, e74]; exact c3) (fun y hy0 hy1 hyx hyy hym => ?_)
  rw [e73, e74] at hyy hym
  have y3 := hFW.1 (10 * x + y) (by omega) (by omega)
  have f1 := cnt_lt (Fm m b) (v := m 273 (10 * x + b)) (q := y.toNat) (by rw [Int.toNat_of_nonneg hy0]; show m 273 (10 * y + b) < _; omega) 10 (by omega)
  rw [Int.toNat_of_nonneg hy0] at f1
  have f2 : cnt (Fm m b) (m 273 (10 * y + b)) 10 + 1 ≤ cnt (Fm m b) (m 273 (10 * x + b)) 10 := f1
  have hs53 : m8 249 53 = w := hJ8.2.2
  have e53 : upm m8 275 (m8 249 53) y 249 53 = w := by simp only [upm_app, Int.reduceEq, false_and, if_false, ↓reduceIte]; exact hs53
  have ew : w32 (w + 1) = w + 1 := w32_eq (by omega) (by omega)
  obtain ⟨t1, t2, t3⟩ := tr_step (F := Fm m b) (S := Sm m) (n := n) (b := b) (v := y) (L := fun j => Fm m b (m8 275 j) - Fm m b (m8 275 (j + 1))) hw hA (fun j j0 j1 => hC.1 j j0 j1) (fun j j0 j1 => ⟨(hC.2 j j0 j1).1, (hC.2 j j0 j1).2, rfl⟩) hne ⟨⟨hy0, by omega, hyx, hyy⟩, fun z z0 z1 => hym z z0 z1⟩ (A' := (upm (upm m8 275 (m8 249 53) y) 249 53 (w32 (m8 249 53 + 1))) 275) (L' := fun j => if j = w - 1 then Fm m b x - Fm m b y else Fm m b (m8 275 j) - Fm m b (m8 275 (j + 1))) (fun j => by rw [upm_ne (by decide), hs53, upm_app]; by_cases z : j = w; (next => rw [if_pos z, if_pos ⟨rfl, z⟩]); (next => rw [if_neg z, if_neg (fun q => z q.2)])) (fun j => rfl)
  simp only [cl_250, runB, B250, ma_250, rho_200, wf_13_36, wf_13_453, wf_13_81, wf_13_84, wf_13_87, wpf_13_453, wpopadd_pf_13_453, wc_251, w_cst, w_ldi, w_ldj, w_lda, w_ljk, w_ldk, w_ldw, w_ldk2, w_ldt, w_ldtw, w_neg, w_cvb, w_cvs, w_cvc, w_cvj, w_add, w_sub, w_mul, w_ban, w_bor, w_bxo, w_shl, w_shr, w_ush, w_dvi, w_rmi, w_aldi, w_aldj, w_aldz, w_aldc, w_alda, w_ite, w_cmp, w_cmj, w_cz, w_cnot, w_cand, w_cor, w_nil, w_cons, w_cvi, w_csta, w_cvt, w_cvv, w_csv, w_cpy, w_seq, w_sbr, w_sbn, w_brk, w_ifs, w_ifx, w_ife, w_wk, w_rets, w_rtv, w_thr, w_asi, w_asj, w_asa, w_inc, w_exs, w_asti, w_astj, w_astz, w_astc, w_aopadd, w_aopsub, w_sw, if_true, if_false, ↓reduceIte, hdl_c, S9_1, S9_m, bud9, live9, inb9, wrn, wr9_14, wr9_15, wr9_16, wr9_17, tq9_14, tq9_15, tq9_16, tq9_17, tq_0, tq_1, tq_3, upr_rl, rl_0, rl_1, rl_2, rl_3, rl_4, rl_5, rl_6, rl_7, rl_8, rl_9, rl_10, rl_11, rl_12, rl_13, sp_0, sp_1, sp_2, sp_3, sp_4, sp_5, sp_6, sp_7, sp_8, sp_9, sp_10, sp_11, sp_12, sp_13, se_0, se_1, se_2, se_3, se_4, se_5, se_6, se_7, se_8, se_9, se_10, se_11, se_12, se_13, sem_0, sem_1, sem_2, sem_3, sem_4, sem_5, kc_249, kl9_249, sr_249_10, sr_249_11, sr_249_12, sr_249_13, sr_249_14, sr_249_15, sr_249_16, sr_249_17, sr_249_2, sr_249_22, sr_249_23, sr_249_24, sr_249_25, sr_249_30, sr_249_31, sr_249_34, sr_249_35, sr_249_40, sr_249_41, sr_249_42, sr_249_43, sr_249_50, sr_249_51, sr_249_52, sr_249_54, sr_249_55, sr_249_57, sr_249_58, sr_249_61, sr_249_63, sr_249_64, sr_249_67, sr_249_68, sr_249_69, sr_249_70, sr_249_71, sr_249_8, sr_249_9, kc_258, kl9_258, kc_273, kl9_273, kc_274, kl9_274, kc_275, kl9_275, List.getD_cons_zero, List.getD_cons_succ, Bool.false_eq_true, wrn3, wrn1, cpmS, cpok9]
  repeat' (first
    | (with_reducible exact True.intro)
    | (with_reducible exact False.elim)
    | omega
    | (with_reducible rfl)
    | (with_reducible contradiction)
    | (with_reducible refine And.intro ?_ ?_)
    | intro _
    | (refine ⟨k - 1, ?_, y, y, w32 (w + 1), _, rfl, ?_, JW_53 (JW_up hJ8 (a := 275) (j := m8 249 53) (v := y) (by first | decide | (unfold frR; omega)) (by simp [frc]) (by simp [frw]) (by simp [BdR]; omega)) ?_, ?_, ?_, ?_, ?_, ?_, ?_, ?_, ?_, ?_⟩; (next => omega); (next => rw [e53]); (next => unfold w32; omega); (next => exact ⟨fun x9 q1 q2 => by rw [upm_ne q1, upm_ne q2]; exact hF8.1 x9 q1 q2, fun j9 q => by rw [upm_k q, upm_ne (by decide)]; exact hF8.2 j9 q⟩); (next => rw [ew]; (try rw [hs53, ew] at t1); (try rw [hs53]); exact t1); (next => rw [ew]; (try rw [hs53, ew] at t2 t3); (try rw [hs53]); exact ⟨t2, fun j j0 j1 => ⟨(t3 j j0 j1).1, (t3 j j0 j1).2.1⟩⟩); (next => omega); (next => omega); (next => unfold w32; omega); (next => unfold w32; omega); (next => omega); (next => omega))
    | (unfold w32; omega)
    | (simp (disch := omega) only [w32_eq]; omega)
    | (with_reducible show (_ : Int) ≤ _; simp [upm] <;> (first | omega | (unfold w32; omega)))
    | (with_reducible show (_ : Int) < _; simp [upm] <;> (first | omega | (unfold w32; omega))))

theorem f_250 {d : Nat} {tc pl e W : Int} {g : Fg} {m : Mem} {Q : Int → Sto → Prop} {N : Int → Int} {a b : Int} (ha : 0 ≤ a ∧ a < m 249 3) (hb : 0 ≤ b ∧ b < m 249 3) (hJ : JW 3 g tc pl N W m) (h0 : ¬ apR m (N 50) b a < 1000000 → ∀ m', JW 3 g tc pl N W m' → FX m m' → Q 0 (S9 e m')) (hq : apR m (N 50) b a < 1000000 → ∀ m' w, JW 3 g tc pl N w m' → FX m m' → SQ (m' 274) (pstR m (N 50)) → (∀ p q, rg (m 249 3) p q → m' 273 (10 * p + q) = fwD (pstR m (N 50)) (m 249 3).toNat p q) → PWY (apR m (N 50) b) (pstR m (N 50)) (m 249 3) a b (m' 275) w → Q 1 (S9 e m')) : Cl (d + 3) 250 [249, a, b] Q (S9 e m) := by
  have hL := JW_l hJ
  have hs := JW_s hJ
  have h58 := JW_2 hJ
  have z9 := w10e (a := a) (b := b) (by omega) (by omega) (by omega) (by omega)
  have hst : ∀ p q, 1 ≤ pstR m (N 50) p q ∧ pstR m (N 50) p q ≤ 1000000 := fun p q => wS_b _ (fun w q1 q2 => by
    have y5 := JW_st hJ (w : Int) (by omega) (by omega)
    have y4 := JR_254 (JW_1 hJ) (w : Int)
    unfold prR at q2 ⊢
    split at q2
    · rename_i z; rw [if_pos z]; omega
    · exact absurd rfl q2)
  simp only [cl_250, runB, B250, ma_250, rho_200, wf_13_36, wf_13_453, wf_13_81, wf_13_84, wf_13_87, wpf_13_453, wpopadd_pf_13_453, wc_251, w_cst, w_ldi, w_ldj, w_lda, w_ljk, w_ldk, w_ldw, w_ldk2, w_ldt, w_ldtw, w_neg, w_cvb, w_cvs, w_cvc, w_cvj, w_add, w_sub, w_mul, w_ban, w_bor, w_bxo, w_shl, w_shr, w_ush, w_dvi, w_rmi, w_aldi, w_aldj, w_aldz, w_aldc, w_alda, w_ite, w_cmp, w_cmj, w_cz, w_cnot, w_cand, w_cor, w_nil, w_cons, w_cvi, w_csta, w_cvt, w_cvv, w_csv, w_cpy, w_seq, w_sbr, w_sbn, w_brk, w_ifs, w_ifx, w_ife, w_wk, w_rets, w_rtv, w_thr, w_asi, w_asj, w_asa, w_inc, w_exs, w_asti, w_astj, w_astz, w_astc, w_aopadd, w_aopsub, w_sw, if_true, if_false, ↓reduceIte, hdl_c, S9_1, S9_m, bud9, live9, inb9, wrn, wr9_14, wr9_15, wr9_16, wr9_17, tq9_14, tq9_15, tq9_16, tq9_17, tq_0, tq_1, tq_3, upr_rl, rl_0, rl_1, rl_2, rl_3, rl_4, rl_5, rl_6, rl_7, rl_8, rl_9, rl_10, rl_11, rl_12, rl_13, sp_0, sp_1, sp_2, sp_3, sp_4, sp_5, sp_6, sp_7, sp_8, sp_9, sp_10, sp_11, sp_12, sp_13, se_0, se_1, se_2, se_3, se_4, se_5, se_6, se_7, se_8, se_9, se_10, se_11, se_12, se_13, sem_0, sem_1, sem_2, sem_3, sem_4, sem_5, kc_249, kl9_249, sr_249_10, sr_249_11, sr_249_12, sr_249_13, sr_249_14, sr_249_15, sr_249_16, sr_249_17, sr_249_2, sr_249_22, sr_249_23, sr_249_24, sr_249_25, sr_249_30, sr_249_31, sr_249_34, sr_249_35, sr_249_40, sr_249_41, sr_249_42, sr_249_43, sr_249_50, sr_249_51, sr_249_52, sr_249_54, sr_249_55, sr_249_57, sr_249_58, sr_249_61, sr_249_63, sr_249_64, sr_249_67, sr_249_68, sr_249_69, sr_249_70, sr_249_71, sr_249_8, sr_249_9, kc_258, kl9_258, kc_273, kl9_273, kc_274, kl9_274, kc_275, kl9_275, List.getD_cons_zero, List.getD_cons_succ, Bool.false_eq_true, wrn3, wrn1, cpmS, cpok9, h58, z9]
  refine ⟨by decide, by decide, ⟨by decide, by decide, trivial⟩, ⟨⟨by decide, by decide, trivial⟩, by decide, by decide⟩, ⟨by decide, by decide, trivial⟩, ?_⟩
  refine f_251 hJ (fun v9 m9 hJ9 hF9 hV9 hR9 => ?_)
  have e93 : m9 249 = m 249 := hF9 249 (by decide) (by decide)
  have e73 : m9 273 (10 * a + b) = apR m (N 50) b a := hR9 a b ⟨ha.1, ha.2, hb.1, hb.2⟩
  have hJ9 := JW_dn hL hJ9; have hs9 := JW_s hJ9
  simp only [cl_250, runB, B250, ma_250, rho_200, wf_13_36, wf_13_453, wf_13_81, wf_13_84, wf_13_87, wpf_13_453, wpopadd_pf_13_453, wc_251, w_cst, w_ldi, w_ldj, w_lda, w_ljk, w_ldk, w_ldw, w_ldk2, w_ldt, w_ldtw, w_neg, w_cvb, w_cvs, w_cvc, w_cvj, w_add, w_sub, w_mul, w_ban, w_bor, w_bxo, w_shl, w_shr, w_ush, w_dvi, w_rmi, w_aldi, w_aldj, w_aldz, w_aldc, w_alda, w_ite, w_cmp, w_cmj, w_cz, w_cnot, w_cand, w_cor, w_nil, w_cons, w_cvi, w_csta, w_cvt, w_cvv, w_csv, w_cpy, w_seq, w_sbr, w_sbn, w_brk, w_ifs, w_ifx, w_ife, w_wk, w_rets, w_rtv, w_thr, w_asi, w_asj, w_asa, w_inc, w_exs, w_asti, w_astj, w_astz, w_astc, w_aopadd, w_aopsub, w_sw, if_true, if_false, ↓reduceIte, hdl_c, S9_1, S9_m, bud9, live9, inb9, wrn, wr9_14, wr9_15, wr9_16, wr9_17, tq9_14, tq9_15, tq9_16, tq9_17, tq_0, tq_1, tq_3, upr_rl, rl_0, rl_1, rl_2, rl_3, rl_4, rl_5, rl_6, rl_7, rl_8, rl_9, rl_10, rl_11, rl_12, rl_13, sp_0, sp_1, sp_2, sp_3, sp_4, sp_5, sp_6, sp_7, sp_8, sp_9, sp_10, sp_11, sp_12, sp_13, se_0, se_1, se_2, se_3, se_4, se_5, se_6, se_7, se_8, se_9, se_10, se_11, se_12, se_13, sem_0, sem_1, sem_2, sem_3, sem_4, sem_5, kc_249, kl9_249, sr_249_10, sr_249_11, sr_249_12, sr_249_13, sr_249_14, sr_249_15, sr_249_16, sr_249_17, sr_249_2, sr_249_22, sr_249_23, sr_249_24, sr_249_25, sr_249_30, sr_249_31, sr_249_34, sr_249_35, sr_249_40, sr_249_41, sr_249_42, sr_249_43, sr_249_50, sr_249_51, sr_249_52, sr_249_54, sr_249_55, sr_249_57, sr_249_58, sr_249_61, sr_249_63, sr_249_64, sr_249_67, sr_249_68, sr_249_69, sr_249_70, sr_249_71, sr_249_8, sr_249_9, kc_258, kl9_258, kc_273, kl9_273, kc_274, kl9_274, kc_275, kl9_275, List.getD_cons_zero, List.getD_cons_succ, Bool.false_eq_true, wrn3, wrn1, cpmS, cpok9, z9, e73]
  refine ⟨by decide, ⟨by decide, by decide, trivial⟩, ⟨⟨by decide, by decide, trivial⟩, by omega, by omega⟩, fun hc => ?_, fun hc => ⟨by decide, ⟨by decide, by decide, trivial⟩, ⟨⟨by decide, by decide, trivial⟩, by decide, by decide⟩, trivial, by decide, ⟨by decide, by decide, trivial⟩, trivial, ?_⟩⟩
  · exact ⟨⟨by decide, by decide⟩, h0 (by omega) _ hJ9 ⟨fun x q1 q2 q3 q4 => hF9 x q2 q3, fun j q => by rw [e93]⟩⟩
  · refine n250a (n := m 249 3) (JW_53 (JW_up hJ9 (a := 275) (j := 0) (v := a) (by first | decide | (unfold frR; omega)) (by decide) (by decide) (by simp [BdR]; omega)) (by decide)) (by rw [upm_ne (by decide), upm_v]) (by omega) ha hb (FW_c (FW_v (by omega) (by omega) hst hV9 hR9) (by rw [upm_ne (by decide), upm_ne (by decide)]) (by rw [upm_ne (by decide), upm_ne (by decide)])) ?_ (fun m7 r7 w7 hJ7 hF7 hP7 => ?_)
    · rw [upm_ne (by decide), upm_ne (by decide), e73]; omega
    (try simp only [cl_250, runB, B250, ma_250, rho_200, wf_13_36, wf_13_453, wf_13_81, wf_13_84, wf_13_87, wpf_13_453, wpopadd_pf_13_453, wc_251, w_cst, w_ldi, w_ldj, w_lda, w_ljk, w_ldk, w_ldw, w_ldk2, w_ldt, w_ldtw, w_neg, w_cvb, w_cvs, w_cvc, w_cvj, w_add, w_sub, w_mul, w_ban, w_bor, w_bxo, w_shl, w_shr, w_ush, w_dvi, w_rmi, w_aldi, w_aldj, w_aldz, w_aldc, w_alda, w_ite, w_cmp, w_cmj, w_cz, w_cnot, w_cand, w_cor, w_nil, w_cons, w_cvi, w_csta, w_cvt, w_cvv, w_csv, w_cpy, w_seq, w_sbr, w_sbn, w_brk, w_ifs, w_ifx, w_ife, w_wk, w_rets, w_rtv, w_thr, w_asi, w_asj, w_asa, w_inc, w_exs, w_asti, w_astj, w_astz, w_astc, w_aopadd, w_aopsub, w_sw, if_true, if_false, ↓reduceIte, hdl_c, S9_1, S9_m, bud9, live9, inb9, wrn, wr9_14, wr9_15, wr9_16, wr9_17, tq9_14, tq9_15, tq9_16, tq9_17, tq_0, tq_1, tq_3, upr_rl, rl_0, rl_1, rl_2, rl_3, rl_4, rl_5, rl_6, rl_7, rl_8, rl_9, rl_10, rl_11, rl_12, rl_13, sp_0, sp_1, sp_2, sp_3, sp_4, sp_5, sp_6, sp_7, sp_8, sp_9, sp_10, sp_11, sp_12, sp_13, se_0, se_1, se_2, se_3, se_4, se_5, se_6, se_7, se_8, se_9, se_10, se_11, se_12, se_13, sem_0, sem_1, sem_2, sem_3, sem_4, sem_5, kc_249, kl9_249, sr_249_10, sr_249_11, sr_249_12, sr_249_13, sr_249_14, sr_249_15, sr_249_16, sr_249_17, sr_249_2, sr_249_22, sr_249_23, sr_249_24, sr_249_25, sr_249_30, sr_249_31, sr_249_34, sr_249_35, sr_249_40, sr_249_41, sr_249_42, sr_249_43, sr_249_50, sr_249_51, sr_249_52, sr_249_54, sr_249_55, sr_249_57, sr_249_58, sr_249_61, sr_249_63, sr_249_64, sr_249_67, sr_249_68, sr_249_69, sr_249_70, sr_249_71, sr_249_8, sr_249_9, kc_258, kl9_258, kc_273, kl9_273, kc_274, kl9_274, kc_275, kl9_275, List.getD_cons_zero, List.getD_cons_succ, Bool.false_eq_true, wrn3, wrn1, cpmS, cpok9])
    have g73 : m7 273 = m9 273 := by rw [hF7.1 273 (by decide) (by decide), upm_ne (by decide), upm_ne (by decide)]
    have g74 : m7 274 = m9 274 := by rw [hF7.1 274 (by decide) (by decide), upm_ne (by decide), upm_ne (by decide)]
    refine ⟨⟨by decide, by decide⟩, ?_⟩
    refine hq (by omega) _ _ hJ7 ⟨fun x q1 q2 q3 q4 => ?_, fun j q => ?_⟩ (by rw [g74]; exact hV9) (by rw [g73]; exact hR9) (PWY_e (fun q q0 q1 => ?_) (fun p q p0 p1 q0 q1 => ?_) hP7)
    · rw [hF7.1 x q1 q4, upm_ne q1, upm_ne q4]; exact hF9 x q2 q3
    · rw [hF7.2 j q, upm_k q, upm_ne (by decide), e93]
    · show _ = upm (upm m9 275 0 a) 249 53 1 273 (10 * q + b)
      rw [upm_ne (by decide), upm_ne (by decide)]
      exact (hR9 q b ⟨q0, q1, hb.1, hb.2⟩).symm
    · show _ = upm (upm m9 275 0 a) 249 53 1 274 (10 * p + q)
      rw [upm_ne (by decide), upm_ne (by decide)]
      exact (hV9 p q p0 (by omega) q0 (by omega)).symm

