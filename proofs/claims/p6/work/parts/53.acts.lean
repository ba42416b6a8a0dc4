/-! numbers; states copied; seconds -/
theorem and1 (a : Int) : 0 ≤ iand a 1 ∧ iand a 1 ≤ 1 := by
  unfold iand
  obtain ⟨j, hj, e⟩ := pk_andE (Int32.ofInt a) (m := 1) 1 (by decide)
  have e2 : Int32.ofInt a &&& Int32.ofInt 1 = nI j := e
  rw [e2]
  have : ∀ j : Nat, j < 2 → 0 ≤ (nI j).toInt ∧ (nI j).toInt ≤ 1 := by decide +kernel
  exact this j hj
theorem irm16 {x : Int} (h : inI x) : -16 < irm x 16 ∧ irm x 16 < 16 ∧ (0 ≤ x → 0 ≤ irm x 16) ∧ (x < 0 → irm x 16 ≤ 0) := by
  rw [irm_eq h (by unfold inI; omega) (by decide) (by decide)]
  refine ⟨Int.lt_tmod_of_pos x (by decide), Int.tmod_lt_of_pos x (by decide), fun z => Int.tmod_nonneg 16 z, fun z => ?_⟩
  have e : Int.tmod (-x) 16 = -(Int.tmod x 16) := Int.neg_tmod x 16
  have q : 0 ≤ Int.tmod (-x) 16 := Int.tmod_nonneg 16 (by omega)
  omega
theorem ixneg {a : Int} (h : inI a) : ixor a 16 < 0 ↔ a < 0 := by
  have e : (Int32.ofInt a).toInt = a := by
    unfold inI at h
    exact Int32.toInt_ofInt_of_le (by omega) (by omega)
  have k : ∀ x : Int32, (x ^^^ Int32.ofInt 16).toInt < 0 ↔ x.toInt < 0 := by
    intro x
    have m1 : (x ^^^ Int32.ofInt 16).toBitVec.msb = decide ((x ^^^ Int32.ofInt 16).toBitVec.toInt < 0) := BitVec.msb_eq_toInt
    have m2 : x.toBitVec.msb = decide (x.toBitVec.toInt < 0) := BitVec.msb_eq_toInt
    rw [Int32.toBitVec_xor, BitVec.msb_xor] at m1
    have m3 : (Int32.ofInt 16).toBitVec.msb = false := by decide
    rw [m3, m2] at m1
    simp only [Bool.bne_false, decide_eq_decide] at m1
    exact m1.symm
  have := k (Int32.ofInt a)
  rw [e] at this
  exact this
theorem s_60 {d : Nat} {e a : Int} {m : Mem} {Q : Int → Sto → Prop} (ha : inI a) (hq : ∀ v, 0 ≤ v → v ≤ 15 → Q v (S9 e m)) : Cl (d + 1) 60 [a, 16] Q (S9 e m) := by
  obtain ⟨h1, h2, h3, h4⟩ := irm16 ha
  have h5 := ixneg ha
  simp only [cl_60, runB, B60, ma_60, rho_00, w_cst, w_ldi, w_ldj, w_lda, w_ljk, w_ldk, w_ldw, w_ldk2, w_ldt, w_ldtw, w_neg, w_cvb, w_cvs, w_cvc, w_cvj, w_add, w_sub, w_mul, w_ban, w_bor, w_bxo, w_shl, w_shr, w_ush, w_dvi, w_rmi, w_aldi, w_aldj, w_aldz, w_aldc, w_alda, w_ite, w_cmp, w_cmj, w_cz, w_cnot, w_cand, w_cor, w_nil, w_cons, w_cvi, w_csta, w_cvt, w_cvv, w_csv, w_cpy, w_seq, w_sbr, w_sbn, w_brk, w_ifs, w_ifx, w_ife, w_wk, w_rets, w_rtv, w_thr, w_asi, w_asj, w_asa, w_inc, w_exs, w_asti, w_astj, w_astz, w_astc, w_aopadd, w_aopsub, w_sw, if_true, if_false, ↓reduceIte, hdl_c, S9_1, S9_m, bud9, live9, inb9, wrn, wr9_14, wr9_15, wr9_16, wr9_17, tq9_14, tq9_15, tq9_16, tq9_17, tq_0, tq_1, tq_3, upr_rl, rl_0, rl_1, rl_2, rl_3, rl_4, rl_5, rl_6, rl_7, rl_8, rl_9, rl_10, rl_11, rl_12, rl_13, sp_0, sp_1, sp_2, sp_3, sp_4, sp_5, sp_6, sp_7, sp_8, sp_9, sp_10, sp_11, sp_12, sp_13, se_0, se_1, se_2, se_3, se_4, se_5, se_6, se_7, se_8, se_9, se_10, se_11, se_12, se_13, sem_0, sem_1, sem_2, sem_3, sem_4, sem_5]
  repeat' (first
    | (with_reducible exact True.intro)
    | omega
    | (with_reducible refine And.intro ?_ ?_)
    | (with_reducible contradiction)
    | intro _
    | (with_reducible refine hq _ ?_ ?_)
    | (unfold w32; omega))
theorem st_sr : ∀ n ∈ [(15 : Int), 15, 31, 41, 51, 61, 71, 81, 91, 101, 111, 121, 131, 141, 151, 161, 171, 181, 219, 229, 239], 0 < n ∧ n < 280 ∧ kcls n = 5 ∧ SR n 0 = n + 1 ∧ SR n 1 = n + 2 ∧ SR n 2 = n + 3 ∧ SR n 4 = n + 4 ∧ SR n 5 = n + 5 ∧ SR n 6 = n + 6 ∧ SR n 7 = n + 7 ∧ SR n 8 = n + 8 ∧ SR n 9 = n + 9 := by decide +kernel
theorem st_kc : ∀ n ∈ [(15 : Int), 15, 31, 41, 51, 61, 71, 81, 91, 101, 111, 121, 131, 141, 151, 161, 171, 181, 219, 229, 239], kcls (n + 1) = 14 ∧ klen (n + 1) = 5 ∧ kcls (n + 2) = 14 ∧ klen (n + 2) = 5 ∧ kcls (n + 3) = 14 ∧ klen (n + 3) = 5 ∧ kcls (n + 4) = 14 ∧ klen (n + 4) = 5 ∧ kcls (n + 5) = 14 ∧ klen (n + 5) = 10 ∧ kcls (n + 6) = 14 ∧ klen (n + 6) = 5 ∧ kcls (n + 7) = 14 ∧ klen (n + 7) = 5 ∧ kcls (n + 8) = 14 ∧ klen (n + 8) = 5 ∧ kcls (n + 9) = 14 ∧ klen (n + 9) = 5 := by decide +kernel
theorem st_sc : ∀ n ∈ [(15 : Int), 15, 31, 41, 51, 61, 71, 81, 91, 101, 111, 121, 131, 141, 151, 161, 171, 181, 219, 229, 239], n = 15 ∨ 31 ≤ n ∧ n ≤ 181 ∧ n % 10 = 1 ∨ 219 ≤ n ∧ n ≤ 239 ∧ n % 10 = 9 := by decide +kernel
theorem s_61 {d : Nat} {tc e : Int} {g : Fg} {m : Mem} {Q : Int → Sto → Prop} {t s : Int} (ht : t ∈ [(15 : Int), 15, 31, 41, 51, 61, 71, 81, 91, 101, 111, 121, 131, 141, 151, 161, 171, 181, 219, 229, 239]) (hs9 : s ∈ [(15 : Int), 15, 31, 41, 51, 61, 71, 81, 91, 101, 111, 121, 131, 141, 151, 161, 171, 181, 219, 229, 239]) (hJ : JC 3 g tc m) (hq : ∀ v m', JC 3 g tc m' → Q v (S9 e m')) : Cl (d + 1) 61 [t, s] Q (S9 e m) := by
  have hL := JC_l hJ
  obtain ⟨a1, a2, a3, a4, a5, a6, a7, a8, a9, a10, a11, a12⟩ := st_sr t ht
  obtain ⟨b1, b2, b3, b4, b5, b6, b7, b8, b9, b10, b11, b12⟩ := st_sr s hs9
  obtain ⟨c1, c2, c3, c4, c5, c6, c7, c8, c9, c10, c11, c12, c13, c14, c15, c16, c17, c18⟩ := st_kc t ht
  obtain ⟨e1, e2, e3, e4, e5, e6, e7, e8, e9, e10, e11, e12, e13, e14, e15, e16, e17, e18⟩ := st_kc s hs9
  have f1 := st_sc t ht
  have f2 := st_sc s hs9
  simp only [cl_61, runB, B61, ma_61, rho_22, wf_5_15, wf_5_18, wf_5_21, wf_5_24, wf_5_27, wf_5_30, wf_5_33, wf_5_36, wf_5_45, wf_5_49, wf_5_52, wf_5_9, wpf_5_45, wpopand_pf_5_45, wpf_5_49, wpf_5_52, w_cst, w_ldi, w_ldj, w_lda, w_ljk, w_ldk, w_ldw, w_ldk2, w_ldt, w_ldtw, w_neg, w_cvb, w_cvs, w_cvc, w_cvj, w_add, w_sub, w_mul, w_ban, w_bor, w_bxo, w_shl, w_shr, w_ush, w_dvi, w_rmi, w_aldi, w_aldj, w_aldz, w_aldc, w_alda, w_ite, w_cmp, w_cmj, w_cz, w_cnot, w_cand, w_cor, w_nil, w_cons, w_cvi, w_csta, w_cvt, w_cvv, w_csv, w_cpy, w_seq, w_sbr, w_sbn, w_brk, w_ifs, w_ifx, w_ife, w_wk, w_rets, w_rtv, w_thr, w_asi, w_asj, w_asa, w_inc, w_exs, w_asti, w_astj, w_astz, w_astc, w_aopadd, w_aopsub, w_sw, if_true, if_false, ↓reduceIte, hdl_c, S9_1, S9_m, bud9, live9, inb9, wrn, wr9_14, wr9_15, wr9_16, wr9_17, tq9_14, tq9_15, tq9_16, tq9_17, tq_0, tq_1, tq_3, upr_rl, rl_0, rl_1, rl_2, rl_3, rl_4, rl_5, rl_6, rl_7, rl_8, rl_9, rl_10, rl_11, rl_12, rl_13, sp_0, sp_1, sp_2, sp_3, sp_4, sp_5, sp_6, sp_7, sp_8, sp_9, sp_10, sp_11, sp_12, sp_13, se_0, se_1, se_2, se_3, se_4, se_5, se_6, se_7, se_8, se_9, se_10, se_11, se_12, se_13, sem_0, sem_1, sem_2, sem_3, sem_4, sem_5, List.getD_cons_zero, List.getD_cons_succ, wrn3, wrn1, cpmS, cpok9, a4, a5, a6, a7, a8, a9, a10, a11, a12, b4, b5, b6, b7, b8, b9, b10, b11, b12, c1, c2, c3, c4, c5, c6, c7, c8, c9, c10, c11, c12, c13, c14, c15, c16, c17, c18, e1, e2, e3, e4, e5, e6, e7, e8, e9, e10, e11, e12, e13, e14, e15, e16, e17, e18]
  clear a4 a5 a6 a7 a8 a9 a10 a11 a12 b4 b5 b6 b7 b8 b9 b10 b11 b12 c1 c2 c3 c4 c5 c6 c7 c8 c9 c10 c11 c12 c13 c14 c15 c16 c17 c18 e1 e2 e3 e4 e5 e6 e7 e8 e9 e10 e11 e12 e13 e14 e15 e16 e17 e18
  repeat' (first
    | (with_reducible exact True.intro)
    | assumption
    | (with_reducible rfl)
    | omega
    | (with_reducible refine And.intro ?_ ?_)
    | intro _
    | (with_reducible refine hq _ _ ?_; (next => refine JC_of hL ?_ (by decide); repeat (first | assumption | (refine JC_up ?_ (by first | decide | (unfold frC; omega)) (BdC_s (by unfold hnd; omega))) | (refine JC_cp ?_ (fun _ => by unfold frC; omega) (fun _ _ => BdC_s (by unfold hnd; omega))) | (refine JC_cph ?_ (fun _ => by unfold frC; omega) (by unfold hnd; omega) (by unfold hnd; omega))))))
theorem sr27 : ∀ v : Nat, v < 16 → SR 27 (v : Int) = 31 + 10 * (v : Int) ∧ (31 + 10 * (v : Int)) ∈ [(15 : Int), 15, 31, 41, 51, 61, 71, 81, 91, 101, 111, 121, 131, 141, 151, 161, 171, 181, 219, 229, 239] := by decide +kernel
theorem sr27i {v : Int} (h0 : 0 ≤ v) (h1 : v ≤ 15) : (0 < SR 27 v ∧ SR 27 v < 289 ∧ kcls (SR 27 v) = 5) ∧ SR 27 v ∈ [(15 : Int), 15, 31, 41, 51, 61, 71, 81, 91, 101, 111, 121, 131, 141, 151, 161, 171, 181, 219, 229, 239] := by
  obtain ⟨k, rfl⟩ : ∃ k : Nat, v = k := ⟨v.toNat, by omega⟩
  obtain ⟨a, b⟩ := sr27 k (by omega)
  rw [a]
  exact ⟨⟨by omega, by omega, (st_sr _ b).2.2.1⟩, b⟩
theorem s_59 {d : Nat} {tc e a : Int} {g : Fg} {m : Mem} {Q : Int → Sto → Prop} (hJ : JC 4 g tc m) (hq : ∀ v m', JC 4 g tc m' → 0 ≤ v → v ≤ 15 → Q v (S9 e m')) : Cl (d + 2) 59 [26, a] Q (S9 e m) := by
  have hL := JC_l hJ
  simp only [cl_59, runB, B59, ma_59, rho_20, wf_7_44, wc_60, w_cst, w_ldi, w_ldj, w_lda, w_ljk, w_ldk, w_ldw, w_ldk2, w_ldt, w_ldtw, w_neg, w_cvb, w_cvs, w_cvc, w_cvj, w_add, w_sub, w_mul, w_ban, w_bor, w_bxo, w_shl, w_shr, w_ush, w_dvi, w_rmi, w_aldi, w_aldj, w_aldz, w_aldc, w_alda, w_ite, w_cmp, w_cmj, w_cz, w_cnot, w_cand, w_cor, w_nil, w_cons, w_cvi, w_csta, w_cvt, w_cvv, w_csv, w_cpy, w_seq, w_sbr, w_sbn, w_brk, w_ifs, w_ifx, w_ife, w_wk, w_rets, w_rtv, w_thr, w_asi, w_asj, w_asa, w_inc, w_exs, w_asti, w_astj, w_astz, w_astc, w_aopadd, w_aopsub, w_sw, if_true, if_false, ↓reduceIte, hdl_c, S9_1, S9_m, bud9, live9, inb9, wrn, wr9_14, wr9_15, wr9_16, wr9_17, tq9_14, tq9_15, tq9_16, tq9_17, tq_0, tq_1, tq_3, upr_rl, rl_0, rl_1, rl_2, rl_3, rl_4, rl_5, rl_6, rl_7, rl_8, rl_9, rl_10, rl_11, rl_12, rl_13, sp_0, sp_1, sp_2, sp_3, sp_4, sp_5, sp_6, sp_7, sp_8, sp_9, sp_10, sp_11, sp_12, sp_13, se_0, se_1, se_2, se_3, se_4, se_5, se_6, se_7, se_8, se_9, se_10, se_11, se_12, se_13, sem_0, sem_1, sem_2, sem_3, sem_4, sem_5, sr_26_3, kl9_26, sr_26_7, sr_26_10, kc_26, sr_26_2, sr_26_0, sr_26_12, sr_26_11, sr_26_1]
  repeat' (first
    | (with_reducible exact True.intro)
    | omega
    | (with_reducible rfl)
    | (with_reducible refine And.intro ?_ ?_)
    | intro _
    | (with_reducible refine s_60 (w32_in _) (fun v h1 h2 => ?_); simp only [hdl_c, S9_1, S9_m, bud9, live9, inb9, wrn, wr9_14, wr9_15, wr9_16, wr9_17, tq9_14, tq9_15, tq9_16, tq9_17, tq_0, tq_1, tq_3, upr_rl, rl_0, rl_1, rl_2, rl_3, rl_4, rl_5, rl_6, rl_7, rl_8, rl_9, rl_10, rl_11, rl_12, rl_13, sp_0, sp_1, sp_2, sp_3, sp_4, sp_5, sp_6, sp_7, sp_8, sp_9, sp_10, sp_11, sp_12, sp_13, se_0, se_1, se_2, se_3, se_4, se_5, se_6, se_7, se_8, se_9, se_10, se_11, se_12, se_13, sem_0, sem_1, sem_2, sem_3, sem_4, sem_5])
    | (with_reducible refine hq _ _ hJ ?_ ?_))
