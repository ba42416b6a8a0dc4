/-! a line, marks, dishes: bits -/
def pcn (x : Int) : Nat → Int
  | 0 => 0
  | k + 1 => pcn x k + iand (ishr x (k : Int)) 1
theorem and10 (a : Int) : 0 ≤ iand a 1023 ∧ iand a 1023 < 1024 := by
  unfold iand
  obtain ⟨j, hj, e⟩ := pk_andE (Int32.ofInt a) (m := 1023) 10 (by decide)
  have e2 : Int32.ofInt a &&& Int32.ofInt 1023 = nI j := e
  rw [e2]
  have e3 : nI j = Int32.ofInt (j : Int) := rfl
  rw [e3, ofI_toInt (by unfold inI; omega)]
  omega
theorem tb10 : ∀ k : Nat, k < 32 → tb 1023 k = decide (k < 10) := by decide +kernel
theorem and10_n : ∀ s : Nat, s < 1024 → iand (s : Int) 1023 = s := by decide +kernel
theorem tb10_hi {s k : Nat} (hs : s < 1024) (h0 : 10 ≤ k) (h1 : k < 32) : tb (s : Int) k = false := by
  have e := tb_and (s : Int) 1023 k
  rw [and10_n s hs, tb10 k h1, decide_eq_false (show ¬ k < 10 by omega), Bool.and_false] at e
  exact e
theorem pcn_u {x y : Int} {o : Nat} (hb : ∀ k : Nat, k < 32 → k ≠ o → tb y k = tb x k) (hx : tb x o = false) (hy : tb y o = true) : ∀ n : Nat, n ≤ 32 → pcn y n = pcn x n + if o < n then 1 else 0
  | 0, _ => by rw [if_neg (by omega)]; rfl
  | n + 1, h => by
    show pcn y n + iand (ishr y (n : Int)) 1 = pcn x n + iand (ishr x (n : Int)) 1 + if o < n + 1 then 1 else 0
    rw [bit_ask (by omega), bit_ask (by omega), pcn_u hb hx hy n (by omega)]
    by_cases z : n = o
    · rw [z, hx, hy, if_neg (show ¬ o < o by omega), if_pos (show o < o + 1 by omega), if_pos rfl, if_neg (by decide)]
    · rw [hb n (by omega) z]
      by_cases w : o < n
      · rw [if_pos w, if_pos (show o < n + 1 by omega), Int.add_right_comm]
      · rw [if_neg w, if_neg (show ¬ o < n + 1 by omega), Int.add_right_comm]
theorem pcn_f {x : Int} : ∀ n : Nat, n ≤ 32 → (0 ≤ pcn x n ∧ pcn x n ≤ n) ∧ (pcn x n = n → ∀ o : Nat, o < n → iand (ishr x (o : Int)) 1 = 1)
  | 0, _ => ⟨⟨Int.le_refl _, Int.le_refl _⟩, fun _ o h => absurd h (by omega)⟩
  | n + 1, h => by
    obtain ⟨⟨a, b⟩, c⟩ := pcn_f (x := x) n (by omega)
    have e : pcn x (n + 1) = pcn x n + iand (ishr x (n : Int)) 1 := rfl
    have d : iand (ishr x (n : Int)) 1 = 0 ∨ iand (ishr x (n : Int)) 1 = 1 := by
      rw [bit_ask (by omega)]
      cases tb x n
      · exact Or.inl rfl
      · exact Or.inr rfl
    rw [e]
    refine ⟨⟨by omega, by omega⟩, fun g o ho => ?_⟩
    by_cases z : o = n
    · rw [z]; omega
    · exact c (by omega) o (by omega)
theorem fit1 : ∀ s : Nat, s < 1024 → ∀ o : Nat, o < 10 → iand (ishr (s : Int) (o : Int)) 1 ≠ 1 → 0 ≤ ior (s : Int) (ishl 1 (o : Int)) ∧ ior (s : Int) (ishl 1 (o : Int)) < 1024 ∧ pcn (ior (s : Int) (ishl 1 (o : Int))) 10 = pcn (s : Int) 10 + 1 := by
  intro s hs o ho hb
  have hx : tb (s : Int) o = false := by
    rw [bit_ask (by omega)] at hb
    cases h : tb (s : Int) o with
    | false => rfl
    | true => rw [h] at hb; exact absurd rfl hb
  have e : ior (s : Int) (ishl 1 (o : Int)) = iand (ior (s : Int) (ishl 1 (o : Int))) 1023 := by
    refine tb_ext (ior_in _ _) (iand_in _ _) (fun k hk => ?_)
    rw [tb_and, tb10 k hk]
    by_cases h5 : k < 10
    · rw [decide_eq_true h5, Bool.and_true]
    · rw [decide_eq_false h5, Bool.and_false, tb_or, tb10_hi hs (by omega) hk, tb_bit (by omega) hk, decide_eq_false (show ¬ k = o by omega)]; rfl
  have b := and10 (ior (s : Int) (ishl 1 (o : Int)))
  rw [← e] at b
  have p := pcn_u (x := (s : Int)) (y := ior (s : Int) (ishl 1 (o : Int))) (o := o) (fun k hk hko => by rw [tb_or, tb_bit (by omega) hk, decide_eq_false hko, Bool.or_false]) hx (by rw [tb_or, tb_bit (by omega) (by omega)]; simp) 10 (by omega)
  rw [if_pos ho] at p
  exact ⟨b.1, b.2, p⟩
theorem fit0 : ∀ s : Nat, s < 1024 → pcn (s : Int) 10 ≤ 10 ∧ (pcn (s : Int) 10 = 10 → ∀ o : Nat, o < 10 → iand (ishr (s : Int) (o : Int)) 1 = 1) := fun s _ =>
  ⟨(pcn_f (x := (s : Int)) 10 (by omega)).1.2, (pcn_f (x := (s : Int)) 10 (by omega)).2⟩
theorem fits1 : ∀ o : Nat, o < 10 → 0 ≤ ishl 1 (o : Int) ∧ ishl 1 (o : Int) < 1024 ∧ pcn (ishl 1 (o : Int)) 10 = 1 := by decide +kernel
theorem fit1i {s o : Int} (h0 : 0 ≤ s ∧ s < 1024) (h1 : 0 ≤ o ∧ o < 10) (h : iand (ishr s o) 1 ≠ 1) : 0 ≤ ior s (ishl 1 o) ∧ ior s (ishl 1 o) < 1024 ∧ pcn (ior s (ishl 1 o)) 10 = pcn s 10 + 1 := by
  obtain ⟨k, rfl⟩ : ∃ k : Nat, s = k := ⟨s.toNat, by omega⟩
  obtain ⟨q, rfl⟩ : ∃ q : Nat, o = q := ⟨o.toNat, by omega⟩
  exact fit1 k (by omega) q (by omega) h
theorem fit0i {s o : Int} (h0 : 0 ≤ s ∧ s < 1024) (h1 : 0 ≤ o ∧ o < 10) (h : pcn s 10 = 10) : iand (ishr s o) 1 = 1 := by
  obtain ⟨k, rfl⟩ : ∃ k : Nat, s = k := ⟨s.toNat, by omega⟩
  obtain ⟨q, rfl⟩ : ∃ q : Nat, o = q := ⟨o.toNat, by omega⟩
  exact (fit0 k (by omega)).2 h q (by omega)
theorem fits1i {o : Int} (h1 : 0 ≤ o ∧ o < 10) : 0 ≤ ishl 1 o ∧ ishl 1 o < 1024 ∧ pcn (ishl 1 o) 10 = 1 := by
  obtain ⟨q, rfl⟩ : ∃ q : Nat, o = q := ⟨o.toNat, by omega⟩
  exact fits1 q (by omega)
theorem fit_in {x y p : Int} (hx : 0 ≤ x ∧ x ≤ 9) (hy : 0 ≤ y ∧ y ≤ 9) (h : x = p ∨ y = p) : 0 ≤ w32 (w32 (x + y) - p) ∧ w32 (w32 (x + y) - p) < 10 := by
  rw [w32_eq (v := x + y) (by omega) (by omega), w32_eq (by omega) (by omega)]; omega
set_option maxHeartbeats 4000000 in
theorem s_272 (z9 : Nat) : ∀ {d : Nat} {tc pl e W : Int} {g : Fg} {m : Mem} {Q : Int → Sto → Prop} {N : Int → Int} {a b c f h : Int}, 1 ≤ b → b + z9 = 10 → 0 ≤ c ∧ c < 1024 → pcn c 10 = b → JW 4 g tc pl N W m → (∀ v m', JW 4 g tc pl N W m' → Q v (S9 e m')) → Cl (d + z9 + 4) 272 [249, a, b, c, f, h] Q (S9 e m) := by
  induction z9 with
  | zero =>
    intro d tc pl e W g m Q N a b c f h hb hz hc hp hJ hq
    have hL := JW_l hJ
    have hs := JW_s hJ
    have h58 := JW_2 hJ
    simp only [cl_272, runB, B272, ma_272, rho_200000, wf_13_111, wf_13_114, wf_13_146, wf_13_17, wf_13_20, wf_13_23, wf_13_507, wf_13_516, wpf_13_510, wpf_13_516, wpopadd_pf_13_516, wc_198, wc_199, wc_272, wc_273, wc_274, w_cst, w_ldi, w_ldj, w_lda, w_ljk, w_ldk, w_ldw, w_ldk2, w_ldt, w_ldtw, w_neg, w_cvb, w_cvs, w_cvc, w_cvj, w_add, w_sub, w_mul, w_ban, w_bor, w_bxo, w_shl, w_shr, w_ush, w_dvi, w_rmi, w_aldi, w_aldj, w_aldz, w_aldc, w_alda, w_ite, w_cmp, w_cmj, w_cz, w_cnot, w_cand, w_cor, w_nil, w_cons, w_cvi, w_csta, w_cvt, w_cvv, w_csv, w_cpy, w_seq, w_sbr, w_sbn, w_brk, w_ifs, w_ifx, w_ife, w_wk, w_rets, w_rtv, w_thr, w_asi, w_asj, w_asa, w_inc, w_exs, w_asti, w_astj, w_astz, w_astc, w_aopadd, w_aopsub, w_sw, if_true, if_false, ↓reduceIte, hdl_c, S9_1, S9_m, bud9, live9, inb9, wrn, wr9_14, wr9_15, wr9_16, wr9_17, tq9_14, tq9_15, tq9_16, tq9_17, tq_0, tq_1, tq_3, upr_rl, rl_0, rl_1, rl_2, rl_3, rl_4, rl_5, rl_6, rl_7, rl_8, rl_9, rl_10, rl_11, rl_12, rl_13, sp_0, sp_1, sp_2, sp_3, sp_4, sp_5, sp_6, sp_7, sp_8, sp_9, sp_10, sp_11, sp_12, sp_13, se_0, se_1, se_2, se_3, se_4, se_5, se_6, se_7, se_8, se_9, se_10, se_11, se_12, se_13, sem_0, sem_1, sem_2, sem_3, sem_4, sem_5, sr_249_61, sr_249_51, sr_249_70, sr_249_43, sr_249_13, sr_249_58, sr_249_63, sr_249_68, sr_249_69, sr_249_22, sr_249_34, sr_249_14, sr_249_10, sr_249_55, sr_249_2, sr_249_67, sr_249_23, sr_249_50, sr_249_57, kl9_249, sr_249_17, sr_249_31, sr_249_24, sr_249_41, sr_249_64, sr_249_52, sr_249_16, sr_249_71, sr_249_42, kc_249, sr_249_12, sr_249_30, sr_249_54, sr_249_8, sr_249_35, sr_249_15, sr_249_11, sr_249_40, sr_249_25, sr_249_9, kc_252, kl9_252, kc_253, kl9_253, kl9_254, kc_254, kc_255, kl9_255, kl9_258, kc_258, kc_283, kl9_283, kl9_284, kc_284, List.getD_cons_zero, List.getD_cons_succ, Bool.false_eq_true, wrn3, wrn1, cpmS, cpok9, h58]
    (try simp (disch := omega) only [w15_0, w15_1, w15_3, w15_4, w15_5, w15_6, w3_0, w3_1, w3_2, upm_app, Int.reduceEq, and_self, and_true, true_and, and_false, false_and, if_true, if_false, ↓reduceIte, h58])
    (with_reducible refine And.intro ?_ ?_)
    omega
    (with_reducible refine And.intro ?_ ?_)
    omega
    iterate 2 ((with_reducible refine And.intro ?_ ?_))
    omega
    (with_reducible refine And.intro ?_ ?_)
    iterate 2 (focus (unfold w32; omega))
    (with_reducible refine And.intro ?_ ?_)
    omega
    (with_reducible refine And.intro ?_ ?_)
    omega
    focus (with_reducible refine s_273 (g := g) (tc := tc) (pl := pl) (N := N) (W := W) ?_ (fun v9 m9 hJ9  => ?_); (next => refine JW_of hL ?_ (by decide); repeat (first | assumption | (exact JW_len0 (by assumption)) | (refine JW_up ?_ (by first | decide | (unfold frR; omega)) (by first | decide | simp [frc]) (by first | decide | simp [frw]) (by first | (simp [BdR]; done) | (refine BdR_n (by simp) ?_; (first | (refine rb_at ?_ ?_ <;> first | omega | (simp only [upm_app]; (repeat' split) <;> omega)) | (refine rb_us ?_ ?_ <;> first | omega | (simp only [upm_app]; (repeat' split) <;> omega)) | (refine rb_ho ?_ ?_ <;> first | omega | (simp only [upm_app]; (repeat' split) <;> omega)) | (refine rb_on ?_ ?_ <;> first | omega | (simp only [upm_app]; (repeat' split) <;> omega)) | ((try simp (disch := omega) only [w32_eq]); (refine (rb_i ?_ ?_).2 ?_ <;> omega)) | (refine rb_us ?_ ?_ <;> first | omega | (unfold w32; omega)))) | (simp [BdR] <;> first | omega | (unfold w32; omega)) | (simp [BdR, upm] <;> first | omega | (unfold w32; omega)))))); (try clear hs9); have hJ9 := JW_dn hL hJ9; have hs9 := JW_s hJ9; (try clear h58); have h58 := JW_2 hJ9; (try clear h5e); have h5e := JW_53e hJ9; simp only [hdl_c, S9_1, S9_m, bud9, live9, inb9, wrn, wr9_14, wr9_15, wr9_16, wr9_17, tq9_14, tq9_15, tq9_16, tq9_17, tq_0, tq_1, tq_3, upr_rl, rl_0, rl_1, rl_2, rl_3, rl_4, rl_5, rl_6, rl_7, rl_8, rl_9, rl_10, rl_11, rl_12, rl_13, sp_0, sp_1, sp_2, sp_3, sp_4, sp_5, sp_6, sp_7, sp_8, sp_9, sp_10, sp_11, sp_12, sp_13, se_0, se_1, se_2, se_3, se_4, se_5, se_6, se_7, se_8, se_9, se_10, se_11, se_12, se_13, sem_0, sem_1, sem_2, sem_3, sem_4, sem_5, List.getD_cons_zero, List.getD_cons_succ, Bool.false_eq_true, wrn3, wrn1, cpmS, cpok9, if_true, if_false, ↓reduceIte, wc_198, wc_199, wc_272, wc_273, wc_274, sr_249_61, sr_249_51, sr_249_70, sr_249_43, sr_249_13, sr_249_58, sr_249_63, sr_249_68, sr_249_69, sr_249_22, sr_249_34, sr_249_14, sr_249_10, sr_249_55, sr_249_2, sr_249_67, sr_249_23, sr_249_50, sr_249_57, kl9_249, sr_249_17, sr_249_31, sr_249_24, sr_249_41, sr_249_64, sr_249_52, sr_249_16, sr_249_71, sr_249_42, kc_249, sr_249_12, sr_249_30, sr_249_54, sr_249_8, sr_249_35, sr_249_15, sr_249_11, sr_249_40, sr_249_25, sr_249_9, kc_252, kl9_252, kc_253, kl9_253, kl9_254, kc_254, kc_255, kl9_255, kl9_258, kc_258, kc_283, kl9_283, kl9_284, kc_284, h58]; (try simp (disch := omega) only [w15_0, w15_1, w15_3, w15_4, w15_5, w15_6, w3_0, w3_1, w3_2, upm_app, Int.reduceEq, and_self, and_true, true_and, and_false, false_and, if_true, if_false, ↓reduceIte, h58]))
    (with_reducible refine And.intro ?_ ?_)
    intro _
    (with_reducible refine And.intro ?_ ?_)
    omega
    (with_reducible refine And.intro ?_ ?_)
    omega
    (with_reducible refine And.intro ?_ ?_)
    intro _
    (with_reducible refine And.intro ?_ ?_)
    omega
    (with_reducible refine And.intro ?_ ?_)
    omega
    (with_reducible refine And.intro ?_ ?_)
    intro _
    (with_reducible refine And.intro ?_ ?_)
    omega
    (with_reducible refine And.intro ?_ ?_)
    omega
    focus (with_reducible refine whl_i (C := 85) (fun k r u => ∃ (v8 x : Int) (m9 : Mem), r = rl [249, a, b, c, f, h, m 284 (w32 (b - 1)), v8, x] ∧ u = S9 e m9 ∧ JW 4 g tc pl N W m9 ∧ (0 ≤ x) ∧ (x + k = 11)) 11 ?_ ?_; (next => refine ⟨_, _, _, rfl, rfl, ?_, ?_, ?_⟩; (next => refine JW_of hL ?_ (by decide); repeat (first | assumption | (exact JW_len0 (by assumption)) | (refine JW_up ?_ (by first | decide | (unfold frR; omega)) (by first | decide | simp [frc]) (by first | decide | simp [frw]) (by first | (simp [BdR]; done) | (refine BdR_n (by simp) ?_; (first | (refine rb_at ?_ ?_ <;> first | omega | (simp only [upm_app]; (repeat' split) <;> omega)) | (refine rb_us ?_ ?_ <;> first | omega | (simp only [upm_app]; (repeat' split) <;> omega)) | (refine rb_ho ?_ ?_ <;> first | omega | (simp only [upm_app]; (repeat' split) <;> omega)) | (refine rb_on ?_ ?_ <;> first | omega | (simp only [upm_app]; (repeat' split) <;> omega)) | ((try simp (disch := omega) only [w32_eq]); (refine (rb_i ?_ ?_).2 ?_ <;> omega)) | (refine rb_us ?_ ?_ <;> first | omega | (unfold w32; omega)))) | (simp [BdR] <;> first | omega | (unfold w32; omega)) | (simp [BdR, upm] <;> first | omega | (unfold w32; omega)))))); (next => first | (with_reducible exact True.intro) | assumption | omega | (with_reducible rfl) | (unfold w32; omega) | (simp [upm]; done) | (simp [upm] <;> (first | omega | (unfold w32; omega)))); (next => first | (with_reducible exact True.intro) | assumption | omega | (with_reducible rfl) | (unfold w32; omega) | (simp [upm]; done) | (simp [upm] <;> (first | omega | (unfold w32; omega))))); rintro k r u ⟨v8, x, m9, rfl, rfl, hJ9, h9a, h9b⟩; (try clear hs9); have hJ9 := JW_dn hL hJ9; have hs9 := JW_s hJ9; (try clear h58); have h58 := JW_2 hJ9; (try clear h5e); have h5e := JW_53e hJ9; have hl9 := JW_s hJ9; have hl5 := JW_53e hJ9; simp only [runB, B272, ma_272, rho_200000, wf_13_111, wf_13_114, wf_13_146, wf_13_17, wf_13_20, wf_13_23, wf_13_507, wf_13_516, wpf_13_510, wpf_13_516, wpopadd_pf_13_516, wc_198, wc_199, wc_272, wc_273, wc_274, w_cst, w_ldi, w_ldj, w_lda, w_ljk, w_ldk, w_ldw, w_ldk2, w_ldt, w_ldtw, w_neg, w_cvb, w_cvs, w_cvc, w_cvj, w_add, w_sub, w_mul, w_ban, w_bor, w_bxo, w_shl, w_shr, w_ush, w_dvi, w_rmi, w_aldi, w_aldj, w_aldz, w_aldc, w_alda, w_ite, w_cmp, w_cmj, w_cz, w_cnot, w_cand, w_cor, w_nil, w_cons, w_cvi, w_csta, w_cvt, w_cvv, w_csv, w_cpy, w_seq, w_sbr, w_sbn, w_brk, w_ifs, w_ifx, w_ife, w_wk, w_rets, w_rtv, w_thr, w_asi, w_asj, w_asa, w_inc, w_exs, w_asti, w_astj, w_astz, w_astc, w_aopadd, w_aopsub, w_sw, if_true, if_false, ↓reduceIte, hdl_c, S9_1, S9_m, bud9, live9, inb9, wrn, wr9_14, wr9_15, wr9_16, wr9_17, tq9_14, tq9_15, tq9_16, tq9_17, tq_0, tq_1, tq_3, upr_rl, rl_0, rl_1, rl_2, rl_3, rl_4, rl_5, rl_6, rl_7, rl_8, rl_9, rl_10, rl_11, rl_12, rl_13, sp_0, sp_1, sp_2, sp_3, sp_4, sp_5, sp_6, sp_7, sp_8, sp_9, sp_10, sp_11, sp_12, sp_13, se_0, se_1, se_2, se_3, se_4, se_5, se_6, se_7, se_8, se_9, se_10, se_11, se_12, se_13, sem_0, sem_1, sem_2, sem_3, sem_4, sem_5, sr_249_61, sr_249_51, sr_249_70, sr_249_43, sr_249_13, sr_249_58, sr_249_63, sr_249_68, sr_249_69, sr_249_22, sr_249_34, sr_249_14, sr_249_10, sr_249_55, sr_249_2, sr_249_67, sr_249_23, sr_249_50, sr_249_57, kl9_249, sr_249_17, sr_249_31, sr_249_24, sr_249_41, sr_249_64, sr_249_52, sr_249_16, sr_249_71, sr_249_42, kc_249, sr_249_12, sr_249_30, sr_249_54, sr_249_8, sr_249_35, sr_249_15, sr_249_11, sr_249_40, sr_249_25, sr_249_9, kc_252, kl9_252, kc_253, kl9_253, kl9_254, kc_254, kc_255, kl9_255, kl9_258, kc_258, kc_283, kl9_283, kl9_284, kc_284, List.getD_cons_zero, List.getD_cons_succ, Bool.false_eq_true, wrn3, wrn1, cpmS, cpok9, h58]; (try simp (disch := omega) only [w15_0, w15_1, w15_3, w15_4, w15_5, w15_6, w3_0, w3_1, w3_2, upm_app, Int.reduceEq, and_self, and_true, true_and, and_false, false_and, if_true, if_false, ↓reduceIte, h58]))
    (with_reducible refine And.intro ?_ ?_)
    intro _
    (with_reducible refine And.intro ?_ ?_)
    omega
    (with_reducible refine And.intro ?_ ?_)
    omega
    (with_reducible refine And.intro ?_ ?_)
    omega
    (with_reducible refine And.intro ?_ ?_)
    omega
    (with_reducible refine And.intro ?_ ?_)
    omega
    (with_reducible refine And.intro ?_ ?_)
    omega
    focus (with_reducible refine ⟨k - 1, ?_, _, _, _, rfl, rfl, ?_, ?_, ?_⟩; (next => omega); (next => refine JW_of hL ?_ (by decide); repeat (first | assumption | (exact JW_len0 (by assumption)) | (refine JW_up ?_ (by first | decide | (unfold frR; omega)) (by first | decide | simp [frc]) (by first | decide | simp [frw]) (by first | (simp [BdR]; done) | (refine BdR_n (by simp) ?_; (first | (refine rb_at ?_ ?_ <;> first | omega | (simp only [upm_app]; (repeat' split) <;> omega)) | (refine rb_us ?_ ?_ <;> first | omega | (simp only [upm_app]; (repeat' split) <;> omega)) | (refine rb_ho ?_ ?_ <;> first | omega | (simp only [upm_app]; (repeat' split) <;> omega)) | (refine rb_on ?_ ?_ <;> first | omega | (simp only [upm_app]; (repeat' split) <;> omega)) | ((try simp (disch := omega) only [w32_eq]); (refine (rb_i ?_ ?_).2 ?_ <;> omega)) | (refine rb_us ?_ ?_ <;> first | omega | (unfold w32; omega)))) | (simp [BdR] <;> first | omega | (unfold w32; omega)) | (simp [BdR, upm] <;> first | omega | (unfold w32; omega)))))); (next => first | (with_reducible exact True.intro) | assumption | omega | (with_reducible rfl) | (unfold w32; omega) | (simp [upm]; done) | (simp [upm] <;> (first | omega | (unfold w32; omega)))); (next => first | (with_reducible exact True.intro) | assumption | omega | (with_reducible rfl) | (unfold w32; omega) | (simp [upm]; done) | (simp [upm] <;> (first | omega | (unfold w32; omega)))))
    intro _
    (with_reducible refine And.intro ?_ ?_)
    omega
    (with_reducible refine And.intro ?_ ?_)
    omega
    (with_reducible refine And.intro ?_ ?_)
    omega
    focus (refine hq _ _ ?_; exact JW_up hJ9 (by first | decide | (unfold frR; omega)) (by decide) (by decide) (by simp [BdR]))
    intro _
    (with_reducible refine And.intro ?_ ?_)
    omega
    (with_reducible refine And.intro ?_ ?_)
    omega
    focus (with_reducible refine s_274 (g := g) (tc := tc) (pl := pl) (N := N) (W := W) ?_ (fun v9 m9 hJ9  => ?_); (next => refine JW_of hL ?_ (by decide); repeat (first | assumption | (exact JW_len0 (by assumption)) | (refine JW_up ?_ (by first | decide | (unfold frR; omega)) (by first | decide | simp [frc]) (by first | decide | simp [frw]) (by first | (simp [BdR]; done) | (refine BdR_n (by simp) ?_; (first | (refine rb_at ?_ ?_ <;> first | omega | (simp only [upm_app]; (repeat' split) <;> omega)) | (refine rb_us ?_ ?_ <;> first | omega | (simp only [upm_app]; (repeat' split) <;> omega)) | (refine rb_ho ?_ ?_ <;> first | omega | (simp only [upm_app]; (repeat' split) <;> omega)) | (refine rb_on ?_ ?_ <;> first | omega | (simp only [upm_app]; (repeat' split) <;> omega)) | ((try simp (disch := omega) only [w32_eq]); (refine (rb_i ?_ ?_).2 ?_ <;> omega)) | (refine rb_us ?_ ?_ <;> first | omega | (unfold w32; omega)))) | (simp [BdR] <;> first | omega | (unfold w32; omega)) | (simp [BdR, upm] <;> first | omega | (unfold w32; omega)))))); (try clear hs9); have hJ9 := JW_dn hL hJ9; have hs9 := JW_s hJ9; (try clear h58); have h58 := JW_2 hJ9; (try clear h5e); have h5e := JW_53e hJ9; simp only [hdl_c, S9_1, S9_m, bud9, live9, inb9, wrn, wr9_14, wr9_15, wr9_16, wr9_17, tq9_14, tq9_15, tq9_16, tq9_17, tq_0, tq_1, tq_3, upr_rl, rl_0, rl_1, rl_2, rl_3, rl_4, rl_5, rl_6, rl_7, rl_8, rl_9, rl_10, rl_11, rl_12, rl_13, sp_0, sp_1, sp_2, sp_3, sp_4, sp_5, sp_6, sp_7, sp_8, sp_9, sp_10, sp_11, sp_12, sp_13, se_0, se_1, se_2, se_3, se_4, se_5, se_6, se_7, se_8, se_9, se_10, se_11, se_12, se_13, sem_0, sem_1, sem_2, sem_3, sem_4, sem_5, List.getD_cons_zero, List.getD_cons_succ, Bool.false_eq_true, wrn3, wrn1, cpmS, cpok9, if_true, if_false, ↓reduceIte, wc_198, wc_199, wc_272, wc_273, wc_274, sr_249_61, sr_249_51, sr_249_70, sr_249_43, sr_249_13, sr_249_58, sr_249_63, sr_249_68, sr_249_69, sr_249_22, sr_249_34, sr_249_14, sr_249_10, sr_249_55, sr_249_2, sr_249_67, sr_249_23, sr_249_50, sr_249_57, kl9_249, sr_249_17, sr_249_31, sr_249_24, sr_249_41, sr_249_64, sr_249_52, sr_249_16, sr_249_71, sr_249_42, kc_249, sr_249_12, sr_249_30, sr_249_54, sr_249_8, sr_249_35, sr_249_15, sr_249_11, sr_249_40, sr_249_25, sr_249_9, kc_252, kl9_252, kc_253, kl9_253, kl9_254, kc_254, kc_255, kl9_255, kl9_258, kc_258, kc_283, kl9_283, kl9_284, kc_284, h58]; (try simp (disch := omega) only [w15_0, w15_1, w15_3, w15_4, w15_5, w15_6, w3_0, w3_1, w3_2, upm_app, Int.reduceEq, and_self, and_true, true_and, and_false, false_and, if_true, if_false, ↓reduceIte, h58]))
    (with_reducible refine And.intro ?_ ?_)
    intro _
    (with_reducible refine And.intro ?_ ?_)
    omega
    (with_reducible refine And.intro ?_ ?_)
    omega
    focus (with_reducible refine whl_i (C := 85) (fun k r u => ∃ (v8 x : Int) (m9 : Mem), r = rl [249, a, b, c, f, h, m 284 (w32 (b - 1)), v8, x] ∧ u = S9 e m9 ∧ JW 4 g tc pl N W m9 ∧ (0 ≤ x) ∧ (x + k = 11)) 11 ?_ ?_; (next => refine ⟨_, _, _, rfl, rfl, ?_, ?_, ?_⟩; (next => refine JW_of hL ?_ (by decide); repeat (first | assumption | (exact JW_len0 (by assumption)) | (refine JW_up ?_ (by first | decide | (unfold frR; omega)) (by first | decide | simp [frc]) (by first | decide | simp [frw]) (by first | (simp [BdR]; done) | (refine BdR_n (by simp) ?_; (first | (refine rb_at ?_ ?_ <;> first | omega | (simp only [upm_app]; (repeat' split) <;> omega)) | (refine rb_us ?_ ?_ <;> first | omega | (simp only [upm_app]; (repeat' split) <;> omega)) | (refine rb_ho ?_ ?_ <;> first | omega | (simp only [upm_app]; (repeat' split) <;> omega)) | (refine rb_on ?_ ?_ <;> first | omega | (simp only [upm_app]; (repeat' split) <;> omega)) | ((try simp (disch := omega) only [w32_eq]); (refine (rb_i ?_ ?_).2 ?_ <;> omega)) | (refine rb_us ?_ ?_ <;> first | omega | (unfold w32; omega)))) | (simp [BdR] <;> first | omega | (unfold w32; omega)) | (simp [BdR, upm] <;> first | omega | (unfold w32; omega)))))); (next => first | (with_reducible exact True.intro) | assumption | omega | (with_reducible rfl) | (unfold w32; omega) | (simp [upm]; done) | (simp [upm] <;> (first | omega | (unfold w32; omega)))); (next => first | (with_reducible exact True.intro) | assumption | omega | (with_reducible rfl) | (unfold w32; omega) | (simp [upm]; done) | (simp [upm] <;> (first | omega | (unfold w32; omega))))); rintro k r u ⟨v8, x, m9, rfl, rfl, hJ9, h9a, h9b⟩; (try clear hs9); have hJ9 := JW_dn hL hJ9; have hs9 := JW_s hJ9; (try clear h58); have h58 := JW_2 hJ9; (try clear h5e); have h5e := JW_53e hJ9; have hl9 := JW_s hJ9; have hl5 := JW_53e hJ9; simp only [runB, B272, ma_272, rho_200000, wf_13_111, wf_13_114, wf_13_146, wf_13_17, wf_13_20, wf_13_23, wf_13_507, wf_13_516, wpf_13_510, wpf_13_516, wpopadd_pf_13_516, wc_198, wc_199, wc_272, wc_273, wc_274, w_cst, w_ldi, w_ldj, w_lda, w_ljk, w_ldk, w_ldw, w_ldk2, w_ldt, w_ldtw, w_neg, w_cvb, w_cvs, w_cvc, w_cvj, w_add, w_sub, w_mul, w_ban, w_bor, w_bxo, w_shl, w_shr, w_ush, w_dvi, w_rmi, w_aldi, w_aldj, w_aldz, w_aldc, w_alda, w_ite, w_cmp, w_cmj, w_cz, w_cnot, w_cand, w_cor, w_nil, w_cons, w_cvi, w_csta, w_cvt, w_cvv, w_csv, w_cpy, w_seq, w_sbr, w_sbn, w_brk, w_ifs, w_ifx, w_ife, w_wk, w_rets, w_rtv, w_thr, w_asi, w_asj, w_asa, w_inc, w_exs, w_asti, w_astj, w_astz, w_astc, w_aopadd, w_aopsub, w_sw, if_true, if_false, ↓reduceIte, hdl_c, S9_1, S9_m, bud9, live9, inb9, wrn, wr9_14, wr9_15, wr9_16, wr9_17, tq9_14, tq9_15, tq9_16, tq9_17, tq_0, tq_1, tq_3, upr_rl, rl_0, rl_1, rl_2, rl_3, rl_4, rl_5, rl_6, rl_7, rl_8, rl_9, rl_10, rl_11, rl_12, rl_13, sp_0, sp_1, sp_2, sp_3, sp_4, sp_5, sp_6, sp_7, sp_8, sp_9, sp_10, sp_11, sp_12, sp_13, se_0, se_1, se_2, se_3, se_4, se_5, se_6, se_7, se_8, se_9, se_10, se_11, se_12, se_13, sem_0, sem_1, sem_2, sem_3, sem_4, sem_5, sr_249_61, sr_249_51, sr_249_70, sr_249_43, sr_249_13, sr_249_58, sr_249_63, sr_249_68, sr_249_69, sr_249_22, sr_249_34, sr_249_14, sr_249_10, sr_249_55, sr_249_2, sr_249_67, sr_249_23, sr_249_50, sr_249_57, kl9_249, sr_249_17, sr_249_31, sr_249_24, sr_249_41, sr_249_64, sr_249_52, sr_249_16, sr_249_71, sr_249_42, kc_249, sr_249_12, sr_249_30, sr_249_54, sr_249_8, sr_249_35, sr_249_15, sr_249_11, sr_249_40, sr_249_25, sr_249_9, kc_252, kl9_252, kc_253, kl9_253, kl9_254, kc_254, kc_255, kl9_255, kl9_258, kc_258, kc_283, kl9_283, kl9_284, kc_284, List.getD_cons_zero, List.getD_cons_succ, Bool.false_eq_true, wrn3, wrn1, cpmS, cpok9, h58]; (try simp (disch := omega) only [w15_0, w15_1, w15_3, w15_4, w15_5, w15_6, w3_0, w3_1, w3_2, upm_app, Int.reduceEq, and_self, and_true, true_and, and_false, false_and, if_true, if_false, ↓reduceIte, h58]))
    (with_reducible refine And.intro ?_ ?_)
    intro _
    (with_reducible refine And.intro ?_ ?_)
    omega
    (with_reducible refine And.intro ?_ ?_)
    omega
    (with_reducible refine And.intro ?_ ?_)
    omega
    (with_reducible refine And.intro ?_ ?_)
    omega
    (with_reducible refine And.intro ?_ ?_)
    omega
    (with_reducible refine And.intro ?_ ?_)
    omega
    focus (with_reducible refine ⟨k - 1, ?_, _, _, _, rfl, rfl, ?_, ?_, ?_⟩; (next => omega); (next => refine JW_of hL ?_ (by decide); repeat (first | assumption | (exact JW_len0 (by assumption)) | (refine JW_up ?_ (by first | decide | (unfold frR; omega)) (by first | decide | simp [frc]) (by first | decide | simp [frw]) (by first | (simp [BdR]; done) | (refine BdR_n (by simp) ?_; (first | (refine rb_at ?_ ?_ <;> first | omega | (simp only [upm_app]; (repeat' split) <;> omega)) | (refine rb_us ?_ ?_ <;> first | omega | (simp only [upm_app]; (repeat' split) <;> omega)) | (refine rb_ho ?_ ?_ <;> first | omega | (simp only [upm_app]; (repeat' split) <;> omega)) | (refine rb_on ?_ ?_ <;> first | omega | (simp only [upm_app]; (repeat' split) <;> omega)) | ((try simp (disch := omega) only [w32_eq]); (refine (rb_i ?_ ?_).2 ?_ <;> omega)) | (refine rb_us ?_ ?_ <;> first | omega | (unfold w32; omega)))) | (simp [BdR] <;> first | omega | (unfold w32; omega)) | (simp [BdR, upm] <;> first | omega | (unfold w32; omega)))))); (next => first | (with_reducible exact True.intro) | assumption | omega | (with_reducible rfl) | (unfold w32; omega) | (simp [upm]; done) | (simp [upm] <;> (first | omega | (unfold w32; omega)))); (next => first | (with_reducible exact True.intro) | assumption | omega | (with_reducible rfl) | (unfold w32; omega) | (simp [upm]; done) | (simp [upm] <;> (first | omega | (unfold w32; omega)))))
    intro _
    (with_reducible refine And.intro ?_ ?_)
    omega
    (with_reducible refine And.intro ?_ ?_)
    omega
    (with_reducible refine And.intro ?_ ?_)
    omega
    focus (refine hq _ _ ?_; exact JW_up hJ9 (by first | decide | (unfold frR; omega)) (by decide) (by decide) (by simp [BdR]))
    intro _
    (with_reducible refine And.intro ?_ ?_)
    omega
    (with_reducible refine And.intro ?_ ?_)
    omega
    (with_reducible refine And.intro ?_ ?_)
    omega
    focus (refine hq _ _ ?_; exact JW_up hJ9 (by first | decide | (unfold frR; omega)) (by decide) (by decide) (by simp [BdR]))
    intro _
    focus (with_reducible refine hq _ _ ?_; (next => refine JW_of hL ?_ (by decide); repeat (first | assumption | (exact JW_len0 (by assumption)) | (refine JW_up ?_ (by first | decide | (unfold frR; omega)) (by first | decide | simp [frc]) (by first | decide | simp [frw]) (by first | (simp [BdR]; done) | (refine BdR_n (by simp) ?_; (first | (refine rb_at ?_ ?_ <;> first | omega | (simp only [upm_app]; (repeat' split) <;> omega)) | (refine rb_us ?_ ?_ <;> first | omega | (simp only [upm_app]; (repeat' split) <;> omega)) | (refine rb_ho ?_ ?_ <;> first | omega | (simp only [upm_app]; (repeat' split) <;> omega)) | (refine rb_on ?_ ?_ <;> first | omega | (simp only [upm_app]; (repeat' split) <;> omega)) | ((try simp (disch := omega) only [w32_eq]); (refine (rb_i ?_ ?_).2 ?_ <;> omega)) | (refine rb_us ?_ ?_ <;> first | omega | (unfold w32; omega)))) | (simp [BdR] <;> first | omega | (unfold w32; omega)) | (simp [BdR, upm] <;> first | omega | (unfold w32; omega))))); done))
    intro _
    focus (with_reducible refine whl_i (C := 222) (fun k2 r u => ∃ (v8 x y t : Int) (m9 : Mem), r = rl [249, a, b, c, f, h, m 284 (w32 (b - 1)), v8, x, y, t] ∧ u = S9 e m9 ∧ JW 4 g tc pl N W m9 ∧ (0 ≤ x) ∧ (x + k2 = 15)) 15 ?_ ?_; (next => refine ⟨_, _, _, _, _, rlp9_2, rfl, ?_, ?_, ?_⟩; (next => refine JW_of hL ?_ (by decide); repeat (first | assumption | (exact JW_len0 (by assumption)) | (refine JW_up ?_ (by first | decide | (unfold frR; omega)) (by first | decide | simp [frc]) (by first | decide | simp [frw]) (by first | (simp [BdR]; done) | (refine BdR_n (by simp) ?_; (first | (refine rb_at ?_ ?_ <;> first | omega | (simp only [upm_app]; (repeat' split) <;> omega)) | (refine rb_us ?_ ?_ <;> first | omega | (simp only [upm_app]; (repeat' split) <;> omega)) | (refine rb_ho ?_ ?_ <;> first | omega | (simp only [upm_app]; (repeat' split) <;> omega)) | (refine rb_on ?_ ?_ <;> first | omega | (simp only [upm_app]; (repeat' split) <;> omega)) | ((try simp (disch := omega) only [w32_eq]); (refine (rb_i ?_ ?_).2 ?_ <;> omega)) | (refine rb_us ?_ ?_ <;> first | omega | (unfold w32; omega)))) | (simp [BdR] <;> first | omega | (unfold w32; omega)) | (simp [BdR, upm] <;> first | omega | (unfold w32; omega)))))); (next => first | (with_reducible exact True.intro) | assumption | omega | (with_reducible rfl) | (unfold w32; omega) | (simp [upm]; done) | (simp [upm] <;> (first | omega | (unfold w32; omega)))); (next => first | (with_reducible exact True.intro) | assumption | omega | (with_reducible rfl) | (unfold w32; omega) | (simp [upm]; done) | (simp [upm] <;> (first | omega | (unfold w32; omega))))); rintro k2 r u ⟨v8, x, y, t, m9, rfl, rfl, hJ9, h9a, h9b⟩; (try clear hs9); have hJ9 := JW_dn hL hJ9; have hs9 := JW_s hJ9; (try clear h58); have h58 := JW_2 hJ9; (try clear h5e); have h5e := JW_53e hJ9; have hl9 := JW_s hJ9; have hl5 := JW_53e hJ9; have hy0 := JR_252 (JW_1 hJ9) x; have hy1 := JR_253 (JW_1 hJ9) x; have hy2 := fit_in (x := m9 252 x) (y := m9 253 x) (p := m 284 (w32 (b - 1))) (by omega) (by omega); have q1 := w32_eq (v := b + 1) (by omega) (by omega); have g1 := fit1i (s := c) (o := w32 (w32 (m9 252 x + m9 253 x) - m 284 (w32 (b - 1)))) hc; have g0 := fit0i (s := c) (o := w32 (w32 (m9 252 x + m9 253 x) - m 284 (w32 (b - 1)))) hc; simp only [runB, B272, ma_272, rho_200000, wf_13_111, wf_13_114, wf_13_146, wf_13_17, wf_13_20, wf_13_23, wf_13_507, wf_13_516, wpf_13_510, wpf_13_516, wpopadd_pf_13_516, wc_198, wc_199, wc_272, wc_273, wc_274, w_cst, w_ldi, w_ldj, w_lda, w_ljk, w_ldk, w_ldw, w_ldk2, w_ldt, w_ldtw, w_neg, w_cvb, w_cvs, w_cvc, w_cvj, w_add, w_sub, w_mul, w_ban, w_bor, w_bxo, w_shl, w_shr, w_ush, w_dvi, w_rmi, w_aldi, w_aldj, w_aldz, w_aldc, w_alda, w_ite, w_cmp, w_cmj, w_cz, w_cnot, w_cand, w_cor, w_nil, w_cons, w_cvi, w_csta, w_cvt, w_cvv, w_csv, w_cpy, w_seq, w_sbr, w_sbn, w_brk, w_ifs, w_ifx, w_ife, w_wk, w_rets, w_rtv, w_thr, w_asi, w_asj, w_asa, w_inc, w_exs, w_asti, w_astj, w_astz, w_astc, w_aopadd, w_aopsub, w_sw, if_true, if_false, ↓reduceIte, hdl_c, S9_1, S9_m, bud9, live9, inb9, wrn, wr9_14, wr9_15, wr9_16, wr9_17, tq9_14, tq9_15, tq9_16, tq9_17, tq_0, tq_1, tq_3, upr_rl, rl_0, rl_1, rl_2, rl_3, rl_4, rl_5, rl_6, rl_7, rl_8, rl_9, rl_10, rl_11, rl_12, rl_13, sp_0, sp_1, sp_2, sp_3, sp_4, sp_5, sp_6, sp_7, sp_8, sp_9, sp_10, sp_11, sp_12, sp_13, se_0, se_1, se_2, se_3, se_4, se_5, se_6, se_7, se_8, se_9, se_10, se_11, se_12, se_13, sem_0, sem_1, sem_2, sem_3, sem_4, sem_5, sr_249_61, sr_249_51, sr_249_70, sr_249_43, sr_249_13, sr_249_58, sr_249_63, sr_249_68, sr_249_69, sr_249_22, sr_249_34, sr_249_14, sr_249_10, sr_249_55, sr_249_2, sr_249_67, sr_249_23, sr_249_50, sr_249_57, kl9_249, sr_249_17, sr_249_31, sr_249_24, sr_249_41, sr_249_64, sr_249_52, sr_249_16, sr_249_71, sr_249_42, kc_249, sr_249_12, sr_249_30, sr_249_54, sr_249_8, sr_249_35, sr_249_15, sr_249_11, sr_249_40, sr_249_25, sr_249_9, kc_252, kl9_252, kc_253, kl9_253, kl9_254, kc_254, kc_255, kl9_255, kl9_258, kc_258, kc_283, kl9_283, kl9_284, kc_284, List.getD_cons_zero, List.getD_cons_succ, Bool.false_eq_true, wrn3, wrn1, cpmS, cpok9, h58]; (try simp (disch := omega) only [w15_0, w15_1, w15_3, w15_4, w15_5, w15_6, w3_0, w3_1, w3_2, upm_app, Int.reduceEq, and_self, and_true, true_and, and_false, false_and, if_true, if_false, ↓reduceIte, h58]))
    (with_reducible refine And.intro ?_ ?_)
    omega
    (with_reducible refine And.intro ?_ ?_)
    omega
    (with_reducible refine And.intro ?_ ?_)
    intro _
    (with_reducible refine And.intro ?_ ?_)
    omega
    (with_reducible refine And.intro ?_ ?_)
    omega
    (with_reducible refine And.intro ?_ ?_)
    omega
    (with_reducible refine And.intro ?_ ?_)
    intro _
    (with_reducible refine And.intro ?_ ?_)
    omega
    (with_reducible refine And.intro ?_ ?_)
    omega
    (with_reducible refine And.intro ?_ ?_)
    omega
    (with_reducible refine And.intro ?_ ?_)
    omega
    (with_reducible refine And.intro ?_ ?_)
    omega
    (with_reducible refine And.intro ?_ ?_)
    omega
    (with_reducible refine And.intro ?_ ?_)
    intro _
    (with_reducible refine And.intro ?_ ?_)
    omega
    (with_reducible refine And.intro ?_ ?_)
    omega
    focus (with_reducible refine p_198 ?_ (fun v9 h9 => ?_); (next => first | omega | (with_reducible rfl) | decide | (unfold w32; omega) | (simp (disch := omega) only [w32_eq]; omega) | (simp [upm] <;> (first | omega | (unfold w32; omega)))); (try simp only [h58] at h9); simp only [hdl_c, S9_1, S9_m, bud9, live9, inb9, wrn, wr9_14, wr9_15, wr9_16, wr9_17, tq9_14, tq9_15, tq9_16, tq9_17, tq_0, tq_1, tq_3, upr_rl, rl_0, rl_1, rl_2, rl_3, rl_4, rl_5, rl_6, rl_7, rl_8, rl_9, rl_10, rl_11, rl_12, rl_13, sp_0, sp_1, sp_2, sp_3, sp_4, sp_5, sp_6, sp_7, sp_8, sp_9, sp_10, sp_11, sp_12, sp_13, se_0, se_1, se_2, se_3, se_4, se_5, se_6, se_7, se_8, se_9, se_10, se_11, se_12, se_13, sem_0, sem_1, sem_2, sem_3, sem_4, sem_5, List.getD_cons_zero, List.getD_cons_succ, Bool.false_eq_true, wrn3, wrn1, cpmS, cpok9, if_true, if_false, ↓reduceIte, wc_198, wc_199, wc_272, wc_273, wc_274, sr_249_61, sr_249_51, sr_249_70, sr_249_43, sr_249_13, sr_249_58, sr_249_63, sr_249_68, sr_249_69, sr_249_22, sr_249_34, sr_249_14, sr_249_10, sr_249_55, sr_249_2, sr_249_67, sr_249_23, sr_249_50, sr_249_57, kl9_249, sr_249_17, sr_249_31, sr_249_24, sr_249_41, sr_249_64, sr_249_52, sr_249_16, sr_249_71, sr_249_42, kc_249, sr_249_12, sr_249_30, sr_249_54, sr_249_8, sr_249_35, sr_249_15, sr_249_11, sr_249_40, sr_249_25, sr_249_9, kc_252, kl9_252, kc_253, kl9_253, kl9_254, kc_254, kc_255, kl9_255, kl9_258, kc_258, kc_283, kl9_283, kl9_284, kc_284, h58]; (try simp (disch := omega) only [w15_0, w15_1, w15_3, w15_4, w15_5, w15_6, w3_0, w3_1, w3_2, upm_app, Int.reduceEq, and_self, and_true, true_and, and_false, false_and, if_true, if_false, ↓reduceIte, h58]))
    (with_reducible refine And.intro ?_ ?_)
    intro _
    focus (with_reducible refine p_199 (fun v9 h9 => ?_); (try simp only [h58] at h9); simp only [hdl_c, S9_1, S9_m, bud9, live9, inb9, wrn, wr9_14, wr9_15, wr9_16, wr9_17, tq9_14, tq9_15, tq9_16, tq9_17, tq_0, tq_1, tq_3, upr_rl, rl_0, rl_1, rl_2, rl_3, rl_4, rl_5, rl_6, rl_7, rl_8, rl_9, rl_10, rl_11, rl_12, rl_13, sp_0, sp_1, sp_2, sp_3, sp_4, sp_5, sp_6, sp_7, sp_8, sp_9, sp_10, sp_11, sp_12, sp_13, se_0, se_1, se_2, se_3, se_4, se_5, se_6, se_7, se_8, se_9, se_10, se_11, se_12, se_13, sem_0, sem_1, sem_2, sem_3, sem_4, sem_5, List.getD_cons_zero, List.getD_cons_succ, Bool.false_eq_true, wrn3, wrn1, cpmS, cpok9, if_true, if_false, ↓reduceIte, wc_198, wc_199, wc_272, wc_273, wc_274, sr_249_61, sr_249_51, sr_249_70, sr_249_43, sr_249_13, sr_249_58, sr_249_63, sr_249_68, sr_249_69, sr_249_22, sr_249_34, sr_249_14, sr_249_10, sr_249_55, sr_249_2, sr_249_67, sr_249_23, sr_249_50, sr_249_57, kl9_249, sr_249_17, sr_249_31, sr_249_24, sr_249_41, sr_249_64, sr_249_52, sr_249_16, sr_249_71, sr_249_42, kc_249, sr_249_12, sr_249_30, sr_249_54, sr_249_8, sr_249_35, sr_249_15, sr_249_11, sr_249_40, sr_249_25, sr_249_9, kc_252, kl9_252, kc_253, kl9_253, kl9_254, kc_254, kc_255, kl9_255, kl9_258, kc_258, kc_283, kl9_283, kl9_284, kc_284, h58]; (try simp (disch := omega) only [w15_0, w15_1, w15_3, w15_4, w15_5, w15_6, w3_0, w3_1, w3_2, upm_app, Int.reduceEq, and_self, and_true, true_and, and_false, false_and, if_true, if_false, ↓reduceIte, h58]))
    (with_reducible refine And.intro ?_ ?_)
    intro _
    focus (with_reducible refine ⟨k2 - 1, ?_, _, _, _, _, _, rfl, rfl, ?_, ?_, ?_⟩; (next => omega); (next => refine JW_of hL ?_ (by decide); repeat (first | assumption | (exact JW_len0 (by assumption)) | (refine JW_up ?_ (by first | decide | (unfold frR; omega)) (by first | decide | simp [frc]) (by first | decide | simp [frw]) (by first | (simp [BdR]; done) | (refine BdR_n (by simp) ?_; (first | (refine rb_at ?_ ?_ <;> first | omega | (simp only [upm_app]; (repeat' split) <;> omega)) | (refine rb_us ?_ ?_ <;> first | omega | (simp only [upm_app]; (repeat' split) <;> omega)) | (refine rb_ho ?_ ?_ <;> first | omega | (simp only [upm_app]; (repeat' split) <;> omega)) | (refine rb_on ?_ ?_ <;> first | omega | (simp only [upm_app]; (repeat' split) <;> omega)) | ((try simp (disch := omega) only [w32_eq]); (refine (rb_i ?_ ?_).2 ?_ <;> omega)) | (refine rb_us ?_ ?_ <;> first | omega | (unfold w32; omega)))) | (simp [BdR] <;> first | omega | (unfold w32; omega)) | (simp [BdR, upm] <;> first | omega | (unfold w32; omega)))))); (next => first | (with_reducible exact True.intro) | assumption | omega | (with_reducible rfl) | (unfold w32; omega) | (simp [upm]; done) | (simp [upm] <;> (first | omega | (unfold w32; omega)))); (next => first | (with_reducible exact True.intro) | assumption | omega | (with_reducible rfl) | (unfold w32; omega) | (simp [upm]; done) | (simp [upm] <;> (first | omega | (unfold w32; omega)))))
    omega
    intro _
    focus (with_reducible refine ⟨k2 - 1, ?_, _, _, _, _, _, rfl, rfl, ?_, ?_, ?_⟩; (next => omega); (next => refine JW_of hL ?_ (by decide); repeat (first | assumption | (exact JW_len0 (by assumption)) | (refine JW_up ?_ (by first | decide | (unfold frR; omega)) (by first | decide | simp [frc]) (by first | decide | simp [frw]) (by first | (simp [BdR]; done) | (refine BdR_n (by simp) ?_; (first | (refine rb_at ?_ ?_ <;> first | omega | (simp only [upm_app]; (repeat' split) <;> omega)) | (refine rb_us ?_ ?_ <;> first | omega | (simp only [upm_app]; (repeat' split) <;> omega)) | (refine rb_ho ?_ ?_ <;> first | omega | (simp only [upm_app]; (repeat' split) <;> omega)) | (refine rb_on ?_ ?_ <;> first | omega | (simp only [upm_app]; (repeat' split) <;> omega)) | ((try simp (disch := omega) only [w32_eq]); (refine (rb_i ?_ ?_).2 ?_ <;> omega)) | (refine rb_us ?_ ?_ <;> first | omega | (unfold w32; omega)))) | (simp [BdR] <;> first | omega | (unfold w32; omega)) | (simp [BdR, upm] <;> first | omega | (unfold w32; omega)))))); (next => first | (with_reducible exact True.intro) | assumption | omega | (with_reducible rfl) | (unfold w32; omega) | (simp [upm]; done) | (simp [upm] <;> (first | omega | (unfold w32; omega)))); (next => first | (with_reducible exact True.intro) | assumption | omega | (with_reducible rfl) | (unfold w32; omega) | (simp [upm]; done) | (simp [upm] <;> (first | omega | (unfold w32; omega)))))
    intro _
    (with_reducible contradiction)
    intro _
    (with_reducible refine And.intro ?_ ?_)
    omega
    (with_reducible refine And.intro ?_ ?_)
    omega
    (with_reducible refine And.intro ?_ ?_)
    omega
    (with_reducible refine And.intro ?_ ?_)
    intro _
    (with_reducible refine And.intro ?_ ?_)
    omega
    (with_reducible refine And.intro ?_ ?_)
    omega
    (with_reducible refine And.intro ?_ ?_)
    omega
    (with_reducible refine And.intro ?_ ?_)
    omega
    (with_reducible refine And.intro ?_ ?_)
    omega
    (with_reducible refine And.intro ?_ ?_)
    omega
    (with_reducible refine And.intro ?_ ?_)
    intro _
    (with_reducible refine And.intro ?_ ?_)
    omega
    (with_reducible refine And.intro ?_ ?_)
    omega
    focus (with_reducible refine p_198 ?_ (fun v9 h9 => ?_); (next => first | omega | (with_reducible rfl) | decide | (unfold w32; omega) | (simp (disch := omega) only [w32_eq]; omega) | (simp [upm] <;> (first | omega | (unfold w32; omega)))); (try simp only [h58] at h9); simp only [hdl_c, S9_1, S9_m, bud9, live9, inb9, wrn, wr9_14, wr9_15, wr9_16, wr9_17, tq9_14, tq9_15, tq9_16, tq9_17, tq_0, tq_1, tq_3, upr_rl, rl_0, rl_1, rl_2, rl_3, rl_4, rl_5, rl_6, rl_7, rl_8, rl_9, rl_10, rl_11, rl_12, rl_13, sp_0, sp_1, sp_2, sp_3, sp_4, sp_5, sp_6, sp_7, sp_8, sp_9, sp_10, sp_11, sp_12, sp_13, se_0, se_1, se_2, se_3, se_4, se_5, se_6, se_7, se_8, se_9, se_10, se_11, se_12, se_13, sem_0, sem_1, sem_2, sem_3, sem_4, sem_5, List.getD_cons_zero, List.getD_cons_succ, Bool.false_eq_true, wrn3, wrn1, cpmS, cpok9, if_true, if_false, ↓reduceIte, wc_198, wc_199, wc_272, wc_273, wc_274, sr_249_61, sr_249_51, sr_249_70, sr_249_43, sr_249_13, sr_249_58, sr_249_63, sr_249_68, sr_249_69, sr_249_22, sr_249_34, sr_249_14, sr_249_10, sr_249_55, sr_249_2, sr_249_67, sr_249_23, sr_249_50, sr_249_57, kl9_249, sr_249_17, sr_249_31, sr_249_24, sr_249_41, sr_249_64, sr_249_52, sr_249_16, sr_249_71, sr_249_42, kc_249, sr_249_12, sr_249_30, sr_249_54, sr_249_8, sr_249_35, sr_249_15, sr_249_11, sr_249_40, sr_249_25, sr_249_9, kc_252, kl9_252, kc_253, kl9_253, kl9_254, kc_254, kc_255, kl9_255, kl9_258, kc_258, kc_283, kl9_283, kl9_284, kc_284, h58]; (try simp (disch := omega) only [w15_0, w15_1, w15_3, w15_4, w15_5, w15_6, w3_0, w3_1, w3_2, upm_app, Int.reduceEq, and_self, and_true, true_and, and_false, false_and, if_true, if_false, ↓reduceIte, h58]))
    (with_reducible refine And.intro ?_ ?_)
    intro _
    focus (with_reducible refine p_199 (fun v9 h9 => ?_); (try simp only [h58] at h9); simp only [hdl_c, S9_1, S9_m, bud9, live9, inb9, wrn, wr9_14, wr9_15, wr9_16, wr9_17, tq9_14, tq9_15, tq9_16, tq9_17, tq_0, tq_1, tq_3, upr_rl, rl_0, rl_1, rl_2, rl_3, rl_4, rl_5, rl_6, rl_7, rl_8, rl_9, rl_10, rl_11, rl_12, rl_13, sp_0, sp_1, sp_2, sp_3, sp_4, sp_5, sp_6, sp_7, sp_8, sp_9, sp_10, sp_11, sp_12, sp_13, se_0, se_1, se_2, se_3, se_4, se_5, se_6, se_7, se_8, se_9, se_10, se_11, se_12, se_13, sem_0, sem_1, sem_2, sem_3, sem_4, sem_5, List.getD_cons_zero, List.getD_cons_succ, Bool.false_eq_true, wrn3, wrn1, cpmS, cpok9, if_true, if_false, ↓reduceIte, wc_198, wc_199, wc_272, wc_273, wc_274, sr_249_61, sr_249_51, sr_249_70, sr_249_43, sr_249_13, sr_249_58, sr_249_63, sr_249_68, sr_249_69, sr_249_22, sr_249_34, sr_249_14, sr_249_10, sr_249_55, sr_249_2, sr_249_67, sr_249_23, sr_249_50, sr_249_57, kl9_249, sr_249_17, sr_249_31, sr_249_24, sr_249_41, sr_249_64, sr_249_52, sr_249_16, sr_249_71, sr_249_42, kc_249, sr_249_12, sr_249_30, sr_249_54, sr_249_8, sr_249_35, sr_249_15, sr_249_11, sr_249_40, sr_249_25, sr_249_9, kc_252, kl9_252, kc_253, kl9_253, kl9_254, kc_254, kc_255, kl9_255, kl9_258, kc_258, kc_283, kl9_283, kl9_284, kc_284, h58]; (try simp (disch := omega) only [w15_0, w15_1, w15_3, w15_4, w15_5, w15_6, w3_0, w3_1, w3_2, upm_app, Int.reduceEq, and_self, and_true, true_and, and_false, false_and, if_true, if_false, ↓reduceIte, h58]))
    (with_reducible refine And.intro ?_ ?_)
    intro _
    focus (with_reducible refine ⟨k2 - 1, ?_, _, _, _, _, _, rfl, rfl, ?_, ?_, ?_⟩; (next => omega); (next => refine JW_of hL ?_ (by decide); repeat (first | assumption | (exact JW_len0 (by assumption)) | (refine JW_up ?_ (by first | decide | (unfold frR; omega)) (by first | decide | simp [frc]) (by first | decide | simp [frw]) (by first | (simp [BdR]; done) | (refine BdR_n (by simp) ?_; (first | (refine rb_at ?_ ?_ <;> first | omega | (simp only [upm_app]; (repeat' split) <;> omega)) | (refine rb_us ?_ ?_ <;> first | omega | (simp only [upm_app]; (repeat' split) <;> omega)) | (refine rb_ho ?_ ?_ <;> first | omega | (simp only [upm_app]; (repeat' split) <;> omega)) | (refine rb_on ?_ ?_ <;> first | omega | (simp only [upm_app]; (repeat' split) <;> omega)) | ((try simp (disch := omega) only [w32_eq]); (refine (rb_i ?_ ?_).2 ?_ <;> omega)) | (refine rb_us ?_ ?_ <;> first | omega | (unfold w32; omega)))) | (simp [BdR] <;> first | omega | (unfold w32; omega)) | (simp [BdR, upm] <;> first | omega | (unfold w32; omega)))))); (next => first | (with_reducible exact True.intro) | assumption | omega | (with_reducible rfl) | (unfold w32; omega) | (simp [upm]; done) | (simp [upm] <;> (first | omega | (unfold w32; omega)))); (next => first | (with_reducible exact True.intro) | assumption | omega | (with_reducible rfl) | (unfold w32; omega) | (simp [upm]; done) | (simp [upm] <;> (first | omega | (unfold w32; omega)))))
    omega
    intro _
    focus (with_reducible refine ⟨k2 - 1, ?_, _, _, _, _, _, rfl, rfl, ?_, ?_, ?_⟩; (next => omega); (next => refine JW_of hL ?_ (by decide); repeat (first | assumption | (exact JW_len0 (by assumption)) | (refine JW_up ?_ (by first | decide | (unfold frR; omega)) (by first | decide | simp [frc]) (by first | decide | simp [frw]) (by first | (simp [BdR]; done) | (refine BdR_n (by simp) ?_; (first | (refine rb_at ?_ ?_ <;> first | omega | (simp only [upm_app]; (repeat' split) <;> omega)) | (refine rb_us ?_ ?_ <;> first | omega | (simp only [upm_app]; (repeat' split) <;> omega)) | (refine rb_ho ?_ ?_ <;> first | omega | (simp only [upm_app]; (repeat' split) <;> omega)) | (refine rb_on ?_ ?_ <;> first | omega | (simp only [upm_app]; (repeat' split) <;> omega)) | ((try simp (disch := omega) only [w32_eq]); (refine (rb_i ?_ ?_).2 ?_ <;> omega)) | (refine rb_us ?_ ?_ <;> first | omega | (unfold w32; omega)))) | (simp [BdR] <;> first | omega | (unfold w32; omega)) | (simp [BdR, upm] <;> first | omega | (unfold w32; omega)))))); (next => first | (with_reducible exact True.intro) | assumption | omega | (with_reducible rfl) | (unfold w32; omega) | (simp [upm]; done) | (simp [upm] <;> (first | omega | (unfold w32; omega)))); (next => first | (with_reducible exact True.intro) | assumption | omega | (with_reducible rfl) | (unfold w32; omega) | (simp [upm]; done) | (simp [upm] <;> (first | omega | (unfold w32; omega)))))
    intro _
    (with_reducible contradiction)
    intro _
    (with_reducible refine And.intro ?_ ?_)
    omega
    (with_reducible refine And.intro ?_ ?_)
    omega
    (with_reducible refine And.intro ?_ ?_)
    omega
    (with_reducible refine And.intro ?_ ?_)
    omega
    (with_reducible refine And.intro ?_ ?_)
    omega
    (with_reducible refine And.intro ?_ ?_)
    omega
    (with_reducible refine And.intro ?_ ?_)
    intro _
    (with_reducible contradiction)
    intro _
    focus (with_reducible refine ⟨k2 - 1, ?_, _, _, _, _, _, rfl, rfl, ?_, ?_, ?_⟩; (next => omega); (next => refine JW_of hL ?_ (by decide); repeat (first | assumption | (exact JW_len0 (by assumption)) | (refine JW_up ?_ (by first | decide | (unfold frR; omega)) (by first | decide | simp [frc]) (by first | decide | simp [frw]) (by first | (simp [BdR]; done) | (refine BdR_n (by simp) ?_; (first | (refine rb_at ?_ ?_ <;> first | omega | (simp only [upm_app]; (repeat' split) <;> omega)) | (refine rb_us ?_ ?_ <;> first | omega | (simp only [upm_app]; (repeat' split) <;> omega)) | (refine rb_ho ?_ ?_ <;> first | omega | (simp only [upm_app]; (repeat' split) <;> omega)) | (refine rb_on ?_ ?_ <;> first | omega | (simp only [upm_app]; (repeat' split) <;> omega)) | ((try simp (disch := omega) only [w32_eq]); (refine (rb_i ?_ ?_).2 ?_ <;> omega)) | (refine rb_us ?_ ?_ <;> first | omega | (unfold w32; omega)))) | (simp [BdR] <;> first | omega | (unfold w32; omega)) | (simp [BdR, upm] <;> first | omega | (unfold w32; omega)))))); (next => first | (with_reducible exact True.intro) | assumption | omega | (with_reducible rfl) | (unfold w32; omega) | (simp [upm]; done) | (simp [upm] <;> (first | omega | (unfold w32; omega)))); (next => first | (with_reducible exact True.intro) | assumption | omega | (with_reducible rfl) | (unfold w32; omega) | (simp [upm]; done) | (simp [upm] <;> (first | omega | (unfold w32; omega)))))
    intro _
    focus (with_reducible refine hq _ _ ?_; (next => refine JW_of hL ?_ (by decide); repeat (first | assumption | (exact JW_len0 (by assumption)) | (refine JW_up ?_ (by first | decide | (unfold frR; omega)) (by first | decide | simp [frc]) (by first | decide | simp [frw]) (by first | (simp [BdR]; done) | (refine BdR_n (by simp) ?_; (first | (refine rb_at ?_ ?_ <;> first | omega | (simp only [upm_app]; (repeat' split) <;> omega)) | (refine rb_us ?_ ?_ <;> first | omega | (simp only [upm_app]; (repeat' split) <;> omega)) | (refine rb_ho ?_ ?_ <;> first | omega | (simp only [upm_app]; (repeat' split) <;> omega)) | (refine rb_on ?_ ?_ <;> first | omega | (simp only [upm_app]; (repeat' split) <;> omega)) | ((try simp (disch := omega) only [w32_eq]); (refine (rb_i ?_ ?_).2 ?_ <;> omega)) | (refine rb_us ?_ ?_ <;> first | omega | (unfold w32; omega)))) | (simp [BdR] <;> first | omega | (unfold w32; omega)) | (simp [BdR, upm] <;> first | omega | (unfold w32; omega))))); done))
  | succ z9 IH =>
    intro d tc pl e W g m Q N a b c f h hb hz hc hp hJ hq
    have hL := JW_l hJ
    rw [show d + (z9 + 1) + 4 = d + z9 + 5 from by omega]
    have hs := JW_s hJ
    have h58 := JW_2 hJ
    simp only [cl_272, runB, B272, ma_272, rho_200000, wf_13_111, wf_13_114, wf_13_146, wf_13_17, wf_13_20, wf_13_23, wf_13_507, wf_13_516, wpf_13_510, wpf_13_516, wpopadd_pf_13_516, wc_198, wc_199, wc_272, wc_273, wc_274, w_cst, w_ldi, w_ldj, w_lda, w_ljk, w_ldk, w_ldw, w_ldk2, w_ldt, w_ldtw, w_neg, w_cvb, w_cvs, w_cvc, w_cvj, w_add, w_sub, w_mul, w_ban, w_bor, w_bxo, w_shl, w_shr, w_ush, w_dvi, w_rmi, w_aldi, w_aldj, w_aldz, w_aldc, w_alda, w_ite, w_cmp, w_cmj, w_cz, w_cnot, w_cand, w_cor, w_nil, w_cons, w_cvi, w_csta, w_cvt, w_cvv, w_csv, w_cpy, w_seq, w_sbr, w_sbn, w_brk, w_ifs, w_ifx, w_ife, w_wk, w_rets, w_rtv, w_thr, w_asi, w_asj, w_asa, w_inc, w_exs, w_asti, w_astj, w_astz, w_astc, w_aopadd, w_aopsub, w_sw, if_true, if_false, ↓reduceIte, hdl_c, S9_1, S9_m, bud9, live9, inb9, wrn, wr9_14, wr9_15, wr9_16, wr9_17, tq9_14, tq9_15, tq9_16, tq9_17, tq_0, tq_1, tq_3, upr_rl, rl_0, rl_1, rl_2, rl_3, rl_4, rl_5, rl_6, rl_7, rl_8, rl_9, rl_10, rl_11, rl_12, rl_13, sp_0, sp_1, sp_2, sp_3, sp_4, sp_5, sp_6, sp_7, sp_8, sp_9, sp_10, sp_11, sp_12, sp_13, se_0, se_1, se_2, se_3, se_4, se_5, se_6, se_7, se_8, se_9, se_10, se_11, se_12, se_13, sem_0, sem_1, sem_2, sem_3, sem_4, sem_5, sr_249_61, sr_249_51, sr_249_70, sr_249_43, sr_249_13, sr_249_58, sr_249_63, sr_249_68, sr_249_69, sr_249_22, sr_249_34, sr_249_14, sr_249_10, sr_249_55, sr_249_2, sr_249_67, sr_249_23, sr_249_50, sr_249_57, kl9_249, sr_249_17, sr_249_31, sr_249_24, sr_249_41, sr_249_64, sr_249_52, sr_249_16, sr_249_71, sr_249_42, kc_249, sr_249_12, sr_249_30, sr_249_54, sr_249_8, sr_249_35, sr_249_15, sr_249_11, sr_249_40, sr_249_25, sr_249_9, kc_252, kl9_252, kc_253, kl9_253, kl9_254, kc_254, kc_255, kl9_255, kl9_258, kc_258, kc_283, kl9_283, kl9_284, kc_284, List.getD_cons_zero, List.getD_cons_succ, Bool.false_eq_true, wrn3, wrn1, cpmS, cpok9, h58]
    (try simp (disch := omega) only [w15_0, w15_1, w15_3, w15_4, w15_5, w15_6, w3_0, w3_1, w3_2, upm_app, Int.reduceEq, and_self, and_true, true_and, and_false, false_and, if_true, if_false, ↓reduceIte, h58])
    (with_reducible refine And.intro ?_ ?_)
    omega
    (with_reducible refine And.intro ?_ ?_)
    omega
    iterate 2 ((with_reducible refine And.intro ?_ ?_))
    omega
    (with_reducible refine And.intro ?_ ?_)
    iterate 2 (focus (unfold w32; omega))
    (with_reducible refine And.intro ?_ ?_)
    omega
    (with_reducible refine And.intro ?_ ?_)
    omega
    focus (with_reducible refine s_273 (g := g) (tc := tc) (pl := pl) (N := N) (W := W) ?_ (fun v9 m9 hJ9  => ?_); (next => refine JW_of hL ?_ (by decide); repeat (first | assumption | (exact JW_len0 (by assumption)) | (refine JW_up ?_ (by first | decide | (unfold frR; omega)) (by first | decide | simp [frc]) (by first | decide | simp [frw]) (by first | (simp [BdR]; done) | (refine BdR_n (by simp) ?_; (first | (refine rb_at ?_ ?_ <;> first | omega | (simp only [upm_app]; (repeat' split) <;> omega)) | (refine rb_us ?_ ?_ <;> first | omega | (simp only [upm_app]; (repeat' split) <;> omega)) | (refine rb_ho ?_ ?_ <;> first | omega | (simp only [upm_app]; (repeat' split) <;> omega)) | (refine rb_on ?_ ?_ <;> first | omega | (simp only [upm_app]; (repeat' split) <;> omega)) | ((try simp (disch := omega) only [w32_eq]); (refine (rb_i ?_ ?_).2 ?_ <;> omega)) | (refine rb_us ?_ ?_ <;> first | omega | (unfold w32; omega)))) | (simp [BdR] <;> first | omega | (unfold w32; omega)) | (simp [BdR, upm] <;> first | omega | (unfold w32; omega)))))); (try clear hs9); have hJ9 := JW_dn hL hJ9; have hs9 := JW_s hJ9; (try clear h58); have h58 := JW_2 hJ9; (try clear h5e); have h5e := JW_53e hJ9; simp only [hdl_c, S9_1, S9_m, bud9, live9, inb9, wrn, wr9_14, wr9_15, wr9_16, wr9_17, tq9_14, tq9_15, tq9_16, tq9_17, tq_0, tq_1, tq_3, upr_rl, rl_0, rl_1, rl_2, rl_3, rl_4, rl_5, rl_6, rl_7, rl_8, rl_9, rl_10, rl_11, rl_12, rl_13, sp_0, sp_1, sp_2, sp_3, sp_4, sp_5, sp_6, sp_7, sp_8, sp_9, sp_10, sp_11, sp_12, sp_13, se_0, se_1, se_2, se_3, se_4, se_5, se_6, se_7, se_8, se_9, se_10, se_11, se_12, se_13, sem_0, sem_1, sem_2, sem_3, sem_4, sem_5, List.getD_cons_zero, List.getD_cons_succ, Bool.false_eq_true, wrn3, wrn1, cpmS, cpok9, if_true, if_false, ↓reduceIte, wc_198, wc_199, wc_272, wc_273, wc_274, sr_249_61, sr_249_51, sr_249_70, sr_249_43, sr_249_13, sr_249_58, sr_249_63, sr_249_68, sr_249_69, sr_249_22, sr_249_34, sr_249_14, sr_249_10, sr_249_55, sr_249_2, sr_249_67, sr_249_23, sr_249_50, sr_249_57, kl9_249, sr_249_17, sr_249_31, sr_249_24, sr_249_41, sr_249_64, sr_249_52, sr_249_16, sr_249_71, sr_249_42, kc_249, sr_249_12, sr_249_30, sr_249_54, sr_249_8, sr_249_35, sr_249_15, sr_249_11, sr_249_40, sr_249_25, sr_249_9, kc_252, kl9_252, kc_253, kl9_253, kl9_254, kc_254, kc_255, kl9_255, kl9_258, kc_258, kc_283, kl9_283, kl9_284, kc_284, h58]; (try simp (disch := omega) only [w15_0, w15_1, w15_3, w15_4, w15_5, w15_6, w3_0, w3_1, w3_2, upm_app, Int.reduceEq, and_self, and_true, true_and, and_false, false_and, if_true, if_false, ↓reduceIte, h58]))
    (with_reducible refine And.intro ?_ ?_)
    intro _
    (with_reducible refine And.intro ?_ ?_)
    omega
    (with_reducible refine And.intro ?_ ?_)
    omega
    (with_reducible refine And.intro ?_ ?_)
    intro _
    (with_reducible refine And.intro ?_ ?_)
    omega
    (with_reducible refine And.intro ?_ ?_)
    omega
    (with_reducible refine And.intro ?_ ?_)
    intro _
    (with_reducible refine And.intro ?_ ?_)
    omega
    (with_reducible refine And.intro ?_ ?_)
    omega
    focus (with_reducible refine whl_i (C := 85) (fun k r u => ∃ (v8 x : Int) (m9 : Mem), r = rl [249, a, b, c, f, h, m 284 (w32 (b - 1)), v8, x] ∧ u = S9 e m9 ∧ JW 4 g tc pl N W m9 ∧ (0 ≤ x) ∧ (x + k = 11)) 11 ?_ ?_; (next => refine ⟨_, _, _, rfl, rfl, ?_, ?_, ?_⟩; (next => refine JW_of hL ?_ (by decide); repeat (first | assumption | (exact JW_len0 (by assumption)) | (refine JW_up ?_ (by first | decide | (unfold frR; omega)) (by first | decide | simp [frc]) (by first | decide | simp [frw]) (by first | (simp [BdR]; done) | (refine BdR_n (by simp) ?_; (first | (refine rb_at ?_ ?_ <;> first | omega | (simp only [upm_app]; (repeat' split) <;> omega)) | (refine rb_us ?_ ?_ <;> first | omega | (simp only [upm_app]; (repeat' split) <;> omega)) | (refine rb_ho ?_ ?_ <;> first | omega | (simp only [upm_app]; (repeat' split) <;> omega)) | (refine rb_on ?_ ?_ <;> first | omega | (simp only [upm_app]; (repeat' split) <;> omega)) | ((try simp (disch := omega) only [w32_eq]); (refine (rb_i ?_ ?_).2 ?_ <;> omega)) | (refine rb_us ?_ ?_ <;> first | omega | (unfold w32; omega)))) | (simp [BdR] <;> first | omega | (unfold w32; omega)) | (simp [BdR, upm] <;> first | omega | (unfold w32; omega)))))); (next => first | (with_reducible exact True.intro) | assumption | omega | (with_reducible rfl) | (unfold w32; omega) | (simp [upm]; done) | (simp [upm] <;> (first | omega | (unfold w32; omega)))); (next => first | (with_reducible exact True.intro) | assumption | omega | (with_reducible rfl) | (unfold w32; omega) | (simp [upm]; done) | (simp [upm] <;> (first | omega | (unfold w32; omega))))); rintro k r u ⟨v8, x, m9, rfl, rfl, hJ9, h9a, h9b⟩; (try clear hs9); have hJ9 := JW_dn hL hJ9; have hs9 := JW_s hJ9; (try clear h58); have h58 := JW_2 hJ9; (try clear h5e); have h5e := JW_53e hJ9; have hl9 := JW_s hJ9; have hl5 := JW_53e hJ9; simp only [runB, B272, ma_272, rho_200000, wf_13_111, wf_13_114, wf_13_146, wf_13_17, wf_13_20, wf_13_23, wf_13_507, wf_13_516, wpf_13_510, wpf_13_516, wpopadd_pf_13_516, wc_198, wc_199, wc_272, wc_273, wc_274, w_cst, w_ldi, w_ldj, w_lda, w_ljk, w_ldk, w_ldw, w_ldk2, w_ldt, w_ldtw, w_neg, w_cvb, w_cvs, w_cvc, w_cvj, w_add, w_sub, w_mul, w_ban, w_bor, w_bxo, w_shl, w_shr, w_ush, w_dvi, w_rmi, w_aldi, w_aldj, w_aldz, w_aldc, w_alda, w_ite, w_cmp, w_cmj, w_cz, w_cnot, w_cand, w_cor, w_nil, w_cons, w_cvi, w_csta, w_cvt, w_cvv, w_csv, w_cpy, w_seq, w_sbr, w_sbn, w_brk, w_ifs, w_ifx, w_ife, w_wk, w_rets, w_rtv, w_thr, w_asi, w_asj, w_asa, w_inc, w_exs, w_asti, w_astj, w_astz, w_astc, w_aopadd, w_aopsub, w_sw, if_true, if_false, ↓reduceIte, hdl_c, S9_1, S9_m, bud9, live9, inb9, wrn, wr9_14, wr9_15, wr9_16, wr9_17, tq9_14, tq9_15, tq9_16, tq9_17, tq_0, tq_1, tq_3, upr_rl, rl_0, rl_1, rl_2, rl_3, rl_4, rl_5, rl_6, rl_7, rl_8, rl_9, rl_10, rl_11, rl_12, rl_13, sp_0, sp_1, sp_2, sp_3, sp_4, sp_5, sp_6, sp_7, sp_8, sp_9, sp_10, sp_11, sp_12, sp_13, se_0, se_1, se_2, se_3, se_4, se_5, se_6, se_7, se_8, se_9, se_10, se_11, se_12, se_13, sem_0, sem_1, sem_2, sem_3, sem_4, sem_5, sr_249_61, sr_249_51, sr_249_70, sr_249_43, sr_249_13, sr_249_58, sr_249_63, sr_249_68, sr_249_69, sr_249_22, sr_249_34, sr_249_14, sr_249_10, sr_249_55, sr_249_2, sr_249_67, sr_249_23, sr_249_50, sr_249_57, kl9_249, sr_249_17, sr_249_31, sr_249_24, sr_249_41, sr_249_64, sr_249_52, sr_249_16, sr_249_71, sr_249_42, kc_249, sr_249_12, sr_249_30, sr_249_54, sr_249_8, sr_249_35, sr_249_15, sr_249_11, sr_249_40, sr_249_25, sr_249_9, kc_252, kl9_252, kc_253, kl9_253, kl9_254, kc_254, kc_255, kl9_255, kl9_258, kc_258, kc_283, kl9_283, kl9_284, kc_284, List.getD_cons_zero, List.getD_cons_succ, Bool.false_eq_true, wrn3, wrn1, cpmS, cpok9, h58]; (try simp (disch := omega) only [w15_0, w15_1, w15_3, w15_4, w15_5, w15_6, w3_0, w3_1, w3_2, upm_app, Int.reduceEq, and_self, and_true, true_and, and_false, false_and, if_true, if_false, ↓reduceIte, h58]))
    (with_reducible refine And.intro ?_ ?_)
    intro _
    (with_reducible refine And.intro ?_ ?_)
    omega
    (with_reducible refine And.intro ?_ ?_)
    omega
    (with_reducible refine And.intro ?_ ?_)
    omega
    (with_reducible refine And.intro ?_ ?_)
    omega
    (with_reducible refine And.intro ?_ ?_)
    omega
    (with_reducible refine And.intro ?_ ?_)
    omega
    focus (with_reducible refine ⟨k - 1, ?_, _, _, _, rfl, rfl, ?_, ?_, ?_⟩; (next => omega); (next => refine JW_of hL ?_ (by decide); repeat (first | assumption | (exact JW_len0 (by assumption)) | (refine JW_up ?_ (by first | decide | (unfold frR; omega)) (by first | decide | simp [frc]) (by first | decide | simp [frw]) (by first | (simp [BdR]; done) | (refine BdR_n (by simp) ?_; (first | (refine rb_at ?_ ?_ <;> first | omega | (simp only [upm_app]; (repeat' split) <;> omega)) | (refine rb_us ?_ ?_ <;> first | omega | (simp only [upm_app]; (repeat' split) <;> omega)) | (refine rb_ho ?_ ?_ <;> first | omega | (simp only [upm_app]; (repeat' split) <;> omega)) | (refine rb_on ?_ ?_ <;> first | omega | (simp only [upm_app]; (repeat' split) <;> omega)) | ((try simp (disch := omega) only [w32_eq]); (refine (rb_i ?_ ?_).2 ?_ <;> omega)) | (refine rb_us ?_ ?_ <;> first | omega | (unfold w32; omega)))) | (simp [BdR] <;> first | omega | (unfold w32; omega)) | (simp [BdR, upm] <;> first | omega | (unfold w32; omega)))))); (next => first | (with_reducible exact True.intro) | assumption | omega | (with_reducible rfl) | (unfold w32; omega) | (simp [upm]; done) | (simp [upm] <;> (first | omega | (unfold w32; omega)))); (next => first | (with_reducible exact True.intro) | assumption | omega | (with_reducible rfl) | (unfold w32; omega) | (simp [upm]; done) | (simp [upm] <;> (first | omega | (unfold w32; omega)))))
    intro _
    (with_reducible refine And.intro ?_ ?_)
    omega
    (with_reducible refine And.intro ?_ ?_)
    omega
    (with_reducible refine And.intro ?_ ?_)
    omega
    focus (refine hq _ _ ?_; exact JW_up hJ9 (by first | decide | (unfold frR; omega)) (by decide) (by decide) (by simp [BdR]))
    intro _
    (with_reducible refine And.intro ?_ ?_)
    omega
    (with_reducible refine And.intro ?_ ?_)
    omega
    focus (with_reducible refine s_274 (g := g) (tc := tc) (pl := pl) (N := N) (W := W) ?_ (fun v9 m9 hJ9  => ?_); (next => refine JW_of hL ?_ (by decide); repeat (first | assumption | (exact JW_len0 (by assumption)) | (refine JW_up ?_ (by first | decide | (unfold frR; omega)) (by first | decide | simp [frc]) (by first | decide | simp [frw]) (by first | (simp [BdR]; done) | (refine BdR_n (by simp) ?_; (first | (refine rb_at ?_ ?_ <;> first | omega | (simp only [upm_app]; (repeat' split) <;> omega)) | (refine rb_us ?_ ?_ <;> first | omega | (simp only [upm_app]; (repeat' split) <;> omega)) | (refine rb_ho ?_ ?_ <;> first | omega | (simp only [upm_app]; (repeat' split) <;> omega)) | (refine rb_on ?_ ?_ <;> first | omega | (simp only [upm_app]; (repeat' split) <;> omega)) | ((try simp (disch := omega) only [w32_eq]); (refine (rb_i ?_ ?_).2 ?_ <;> omega)) | (refine rb_us ?_ ?_ <;> first | omega | (unfold w32; omega)))) | (simp [BdR] <;> first | omega | (unfold w32; omega)) | (simp [BdR, upm] <;> first | omega | (unfold w32; omega)))))); (try clear hs9); have hJ9 := JW_dn hL hJ9; have hs9 := JW_s hJ9; (try clear h58); have h58 := JW_2 hJ9; (try clear h5e); have h5e := JW_53e hJ9; simp only [hdl_c, S9_1, S9_m, bud9, live9, inb9, wrn, wr9_14, wr9_15, wr9_16, wr9_17, tq9_14, tq9_15, tq9_16, tq9_17, tq_0, tq_1, tq_3, upr_rl, rl_0, rl_1, rl_2, rl_3, rl_4, rl_5, rl_6, rl_7, rl_8, rl_9, rl_10, rl_11, rl_12, rl_13, sp_0, sp_1, sp_2, sp_3, sp_4, sp_5, sp_6, sp_7, sp_8, sp_9, sp_10, sp_11, sp_12, sp_13, se_0, se_1, se_2, se_3, se_4, se_5, se_6, se_7, se_8, se_9, se_10, se_11, se_12, se_13, sem_0, sem_1, sem_2, sem_3, sem_4, sem_5, List.getD_cons_zero, List.getD_cons_succ, Bool.false_eq_true, wrn3, wrn1, cpmS, cpok9, if_true, if_false, ↓reduceIte, wc_198, wc_199, wc_272, wc_273, wc_274, sr_249_61, sr_249_51, sr_249_70, sr_249_43, sr_249_13, sr_249_58, sr_249_63, sr_249_68, sr_249_69, sr_249_22, sr_249_34, sr_249_14, sr_249_10, sr_249_55, sr_249_2, sr_249_67, sr_249_23, sr_249_50, sr_249_57, kl9_249, sr_249_17, sr_249_31, sr_249_24, sr_249_41, sr_249_64, sr_249_52, sr_249_16, sr_249_71, sr_249_42, kc_249, sr_249_12, sr_249_30, sr_249_54, sr_249_8, sr_249_35, sr_249_15, sr_249_11, sr_249_40, sr_249_25, sr_249_9, kc_252, kl9_252, kc_253, kl9_253, kl9_254, kc_254, kc_255, kl9_255, kl9_258, kc_258, kc_283, kl9_283, kl9_284, kc_284, h58]; (try simp (disch := omega) only [w15_0, w15_1, w15_3, w15_4, w15_5, w15_6, w3_0, w3_1, w3_2, upm_app, Int.reduceEq, and_self, and_true, true_and, and_false, false_and, if_true, if_false, ↓reduceIte, h58]))
    (with_reducible refine And.intro ?_ ?_)
    intro _
    (with_reducible refine And.intro ?_ ?_)
    omega
    (with_reducible refine And.intro ?_ ?_)
    omega
    focus (with_reducible refine whl_i (C := 85) (fun k r u => ∃ (v8 x : Int) (m9 : Mem), r = rl [249, a, b, c, f, h, m 284 (w32 (b - 1)), v8, x] ∧ u = S9 e m9 ∧ JW 4 g tc pl N W m9 ∧ (0 ≤ x) ∧ (x + k = 11)) 11 ?_ ?_; (next => refine ⟨_, _, _, rfl, rfl, ?_, ?_, ?_⟩; (next => refine JW_of hL ?_ (by decide); repeat (first | assumption | (exact JW_len0 (by assumption)) | (refine JW_up ?_ (by first | decide | (unfold frR; omega)) (by first | decide | simp [frc]) (by first | decide | simp [frw]) (by first | (simp [BdR]; done) | (refine BdR_n (by simp) ?_; (first | (refine rb_at ?_ ?_ <;> first | omega | (simp only [upm_app]; (repeat' split) <;> omega)) | (refine rb_us ?_ ?_ <;> first | omega | (simp only [upm_app]; (repeat' split) <;> omega)) | (refine rb_ho ?_ ?_ <;> first | omega | (simp only [upm_app]; (repeat' split) <;> omega)) | (refine rb_on ?_ ?_ <;> first | omega | (simp only [upm_app]; (repeat' split) <;> omega)) | ((try simp (disch := omega) only [w32_eq]); (refine (rb_i ?_ ?_).2 ?_ <;> omega)) | (refine rb_us ?_ ?_ <;> first | omega | (unfold w32; omega)))) | (simp [BdR] <;> first | omega | (unfold w32; omega)) | (simp [BdR, upm] <;> first | omega | (unfold w32; omega)))))); (next => first | (with_reducible exact True.intro) | assumption | omega | (with_reducible rfl) | (unfold w32; omega) | (simp [upm]; done) | (simp [upm] <;> (first | omega | (unfold w32; omega)))); (next => first | (with_reducible exact True.intro) | assumption | omega | (with_reducible rfl) | (unfold w32; omega) | (simp [upm]; done) | (simp [upm] <;> (first | omega | (unfold w32; omega))))); rintro k r u ⟨v8, x, m9, rfl, rfl, hJ9, h9a, h9b⟩; (try clear hs9); have hJ9 := JW_dn hL hJ9; have hs9 := JW_s hJ9; (try clear h58); have h58 := JW_2 hJ9; (try clear h5e); have h5e := JW_53e hJ9; have hl9 := JW_s hJ9; have hl5 := JW_53e hJ9; simp only [runB, B272, ma_272, rho_200000, wf_13_111, wf_13_114, wf_13_146, wf_13_17, wf_13_20, wf_13_23, wf_13_507, wf_13_516, wpf_13_510, wpf_13_516, wpopadd_pf_13_516, wc_198, wc_199, wc_272, wc_273, wc_274, w_cst, w_ldi, w_ldj, w_lda, w_ljk, w_ldk, w_ldw, w_ldk2, w_ldt, w_ldtw, w_neg, w_cvb, w_cvs, w_cvc, w_cvj, w_add, w_sub, w_mul, w_ban, w_bor, w_bxo, w_shl, w_shr, w_ush, w_dvi, w_rmi, w_aldi, w_aldj, w_aldz, w_aldc, w_alda, w_ite, w_cmp, w_cmj, w_cz, w_cnot, w_cand, w_cor, w_nil, w_cons, w_cvi, w_csta, w_cvt, w_cvv, w_csv, w_cpy, w_seq, w_sbr, w_sbn, w_brk, w_ifs, w_ifx, w_ife, w_wk, w_rets, w_rtv, w_thr, w_asi, w_asj, w_asa, w_inc, w_exs, w_asti, w_astj, w_astz, w_astc, w_aopadd, w_aopsub, w_sw, if_true, if_false, ↓reduceIte, hdl_c, S9_1, S9_m, bud9, live9, inb9, wrn, wr9_14, wr9_15, wr9_16, wr9_17, tq9_14, tq9_15, tq9_16, tq9_17, tq_0, tq_1, tq_3, upr_rl, rl_0, rl_1, rl_2, rl_3, rl_4, rl_5, rl_6, rl_7, rl_8, rl_9, rl_10, rl_11, rl_12, rl_13, sp_0, sp_1, sp_2, sp_3, sp_4, sp_5, sp_6, sp_7, sp_8, sp_9, sp_10, sp_11, sp_12, sp_13, se_0, se_1, se_2, se_3, se_4, se_5, se_6, se_7, se_8, se_9, se_10, se_11, se_12, se_13, sem_0, sem_1, sem_2, sem_3, sem_4, sem_5, sr_249_61, sr_249_51, sr_249_70, sr_249_43, sr_249_13, sr_249_58, sr_249_63, sr_249_68, sr_249_69, sr_249_22, sr_249_34, sr_249_14, sr_249_10, sr_249_55, sr_249_2, sr_249_67, sr_249_23, sr_249_50, sr_249_57, kl9_249, sr_249_17, sr_249_31, sr_249_24, sr_249_41, sr_249_64, sr_249_52, sr_249_16, sr_249_71, sr_249_42, kc_249, sr_249_12, sr_249_30, sr_249_54, sr_249_8, sr_249_35, sr_249_15, sr_249_11, sr_249_40, sr_249_25, sr_249_9, kc_252, kl9_252, kc_253, kl9_253, kl9_254, kc_254, kc_255, kl9_255, kl9_258, kc_258, kc_283, kl9_283, kl9_284, kc_284, List.getD_cons_zero, List.getD_cons_succ, Bool.false_eq_true, wrn3, wrn1, cpmS, cpok9, h58]; (try simp (disch := omega) only [w15_0, w15_1, w15_3, w15_4, w15_5, w15_6, w3_0, w3_1, w3_2, upm_app, Int.reduceEq, and_self, and_true, true_and, and_false, false_and, if_true, if_false, ↓reduceIte, h58]))
    (with_reducible refine And.intro ?_ ?_)
    intro _
    (with_reducible refine And.intro ?_ ?_)
    omega
    (with_reducible refine And.intro ?_ ?_)
    omega
    (with_reducible refine And.intro ?_ ?_)
    omega
    (with_reducible refine And.intro ?_ ?_)
    omega
    (with_reducible refine And.intro ?_ ?_)
    omega
    (with_reducible refine And.intro ?_ ?_)
    omega
    focus (with_reducible refine ⟨k - 1, ?_, _, _, _, rfl, rfl, ?_, ?_, ?_⟩; (next => omega); (next => refine JW_of hL ?_ (by decide); repeat (first | assumption | (exact JW_len0 (by assumption)) | (refine JW_up ?_ (by first | decide | (unfold frR; omega)) (by first | decide | simp [frc]) (by first | decide | simp [frw]) (by first | (simp [BdR]; done) | (refine BdR_n (by simp) ?_; (first | (refine rb_at ?_ ?_ <;> first | omega | (simp only [upm_app]; (repeat' split) <;> omega)) | (refine rb_us ?_ ?_ <;> first | omega | (simp only [upm_app]; (repeat' split) <;> omega)) | (refine rb_ho ?_ ?_ <;> first | omega | (simp only [upm_app]; (repeat' split) <;> omega)) | (refine rb_on ?_ ?_ <;> first | omega | (simp only [upm_app]; (repeat' split) <;> omega)) | ((try simp (disch := omega) only [w32_eq]); (refine (rb_i ?_ ?_).2 ?_ <;> omega)) | (refine rb_us ?_ ?_ <;> first | omega | (unfold w32; omega)))) | (simp [BdR] <;> first | omega | (unfold w32; omega)) | (simp [BdR, upm] <;> first | omega | (unfold w32; omega)))))); (next => first | (with_reducible exact True.intro) | assumption | omega | (with_reducible rfl) | (unfold w32; omega) | (simp [upm]; done) | (simp [upm] <;> (first | omega | (unfold w32; omega)))); (next => first | (with_reducible exact True.intro) | assumption | omega | (with_reducible rfl) | (unfold w32; omega) | (simp [upm]; done) | (simp [upm] <;> (first | omega | (unfold w32; omega)))))
    intro _
    (with_reducible refine And.intro ?_ ?_)
    omega
    (with_reducible refine And.intro ?_ ?_)
    omega
    (with_reducible refine And.intro ?_ ?_)
    omega
    focus (refine hq _ _ ?_; exact JW_up hJ9 (by first | decide | (unfold frR; omega)) (by decide) (by decide) (by simp [BdR]))
    intro _
    (with_reducible refine And.intro ?_ ?_)
    omega
    (with_reducible refine And.intro ?_ ?_)
    omega
    (with_reducible refine And.intro ?_ ?_)
    omega
    focus (refine hq _ _ ?_; exact JW_up hJ9 (by first | decide | (unfold frR; omega)) (by decide) (by decide) (by simp [BdR]))
    intro _
    focus (with_reducible refine hq _ _ ?_; (next => refine JW_of hL ?_ (by decide); repeat (first | assumption | (exact JW_len0 (by assumption)) | (refine JW_up ?_ (by first | decide | (unfold frR; omega)) (by first | decide | simp [frc]) (by first | decide | simp [frw]) (by first | (simp [BdR]; done) | (refine BdR_n (by simp) ?_; (first | (refine rb_at ?_ ?_ <;> first | omega | (simp only [upm_app]; (repeat' split) <;> omega)) | (refine rb_us ?_ ?_ <;> first | omega | (simp only [upm_app]; (repeat' split) <;> omega)) | (refine rb_ho ?_ ?_ <;> first | omega | (simp only [upm_app]; (repeat' split) <;> omega)) | (refine rb_on ?_ ?_ <;> first | omega | (simp only [upm_app]; (repeat' split) <;> omega)) | ((try simp (disch := omega) only [w32_eq]); (refine (rb_i ?_ ?_).2 ?_ <;> omega)) | (refine rb_us ?_ ?_ <;> first | omega | (unfold w32; omega)))) | (simp [BdR] <;> first | omega | (unfold w32; omega)) | (simp [BdR, upm] <;> first | omega | (unfold w32; omega))))); done))
    intro _
    focus (with_reducible refine whl_i (C := 222) (fun k2 r u => ∃ (v8 x y t : Int) (m9 : Mem), r = rl [249, a, b, c, f, h, m 284 (w32 (b - 1)), v8, x, y, t] ∧ u = S9 e m9 ∧ JW 4 g tc pl N W m9 ∧ (0 ≤ x) ∧ (x + k2 = 15)) 15 ?_ ?_; (next => refine ⟨_, _, _, _, _, rlp9_2, rfl, ?_, ?_, ?_⟩; (next => refine JW_of hL ?_ (by decide); repeat (first | assumption | (exact JW_len0 (by assumption)) | (refine JW_up ?_ (by first | decide | (unfold frR; omega)) (by first | decide | simp [frc]) (by first | decide | simp [frw]) (by first | (simp [BdR]; done) | (refine BdR_n (by simp) ?_; (first | (refine rb_at ?_ ?_ <;> first | omega | (simp only [upm_app]; (repeat' split) <;> omega)) | (refine rb_us ?_ ?_ <;> first | omega | (simp only [upm_app]; (repeat' split) <;> omega)) | (refine rb_ho ?_ ?_ <;> first | omega | (simp only [upm_app]; (repeat' split) <;> omega)) | (refine rb_on ?_ ?_ <;> first | omega | (simp only [upm_app]; (repeat' split) <;> omega)) | ((try simp (disch := omega) only [w32_eq]); (refine (rb_i ?_ ?_).2 ?_ <;> omega)) | (refine rb_us ?_ ?_ <;> first | omega | (unfold w32; omega)))) | (simp [BdR] <;> first | omega | (unfold w32; omega)) | (simp [BdR, upm] <;> first | omega | (unfold w32; omega)))))); (next => first | (with_reducible exact True.intro) | assumption | omega | (with_reducible rfl) | (unfold w32; omega) | (simp [upm]; done) | (simp [upm] <;> (first | omega | (unfold w32; omega)))); (next => first | (with_reducible exact True.intro) | assumption | omega | (with_reducible rfl) | (unfold w32; omega) | (simp [upm]; done) | (simp [upm] <;> (first | omega | (unfold w32; omega))))); rintro k2 r u ⟨v8, x, y, t, m9, rfl, rfl, hJ9, h9a, h9b⟩; (try clear hs9); have hJ9 := JW_dn hL hJ9; have hs9 := JW_s hJ9; (try clear h58); have h58 := JW_2 hJ9; (try clear h5e); have h5e := JW_53e hJ9; have hl9 := JW_s hJ9; have hl5 := JW_53e hJ9; have hy0 := JR_252 (JW_1 hJ9) x; have hy1 := JR_253 (JW_1 hJ9) x; have hy2 := fit_in (x := m9 252 x) (y := m9 253 x) (p := m 284 (w32 (b - 1))) (by omega) (by omega); have q1 := w32_eq (v := b + 1) (by omega) (by omega); have g1 := fit1i (s := c) (o := w32 (w32 (m9 252 x + m9 253 x) - m 284 (w32 (b - 1)))) hc; have g0 := fit0i (s := c) (o := w32 (w32 (m9 252 x + m9 253 x) - m 284 (w32 (b - 1)))) hc; simp only [runB, B272, ma_272, rho_200000, wf_13_111, wf_13_114, wf_13_146, wf_13_17, wf_13_20, wf_13_23, wf_13_507, wf_13_516, wpf_13_510, wpf_13_516, wpopadd_pf_13_516, wc_198, wc_199, wc_272, wc_273, wc_274, w_cst, w_ldi, w_ldj, w_lda, w_ljk, w_ldk, w_ldw, w_ldk2, w_ldt, w_ldtw, w_neg, w_cvb, w_cvs, w_cvc, w_cvj, w_add, w_sub, w_mul, w_ban, w_bor, w_bxo, w_shl, w_shr, w_ush, w_dvi, w_rmi, w_aldi, w_aldj, w_aldz, w_aldc, w_alda, w_ite, w_cmp, w_cmj, w_cz, w_cnot, w_cand, w_cor, w_nil, w_cons, w_cvi, w_csta, w_cvt, w_cvv, w_csv, w_cpy, w_seq, w_sbr, w_sbn, w_brk, w_ifs, w_ifx, w_ife, w_wk, w_rets, w_rtv, w_thr, w_asi, w_asj, w_asa, w_inc, w_exs, w_asti, w_astj, w_astz, w_astc, w_aopadd, w_aopsub, w_sw, if_true, if_false, ↓reduceIte, hdl_c, S9_1, S9_m, bud9, live9, inb9, wrn, wr9_14, wr9_15, wr9_16, wr9_17, tq9_14, tq9_15, tq9_16, tq9_17, tq_0, tq_1, tq_3, upr_rl, rl_0, rl_1, rl_2, rl_3, rl_4, rl_5, rl_6, rl_7, rl_8, rl_9, rl_10, rl_11, rl_12, rl_13, sp_0, sp_1, sp_2, sp_3, sp_4, sp_5, sp_6, sp_7, sp_8, sp_9, sp_10, sp_11, sp_12, sp_13, se_0, se_1, se_2, se_3, se_4, se_5, se_6, se_7, se_8, se_9, se_10, se_11, se_12, se_13, sem_0, sem_1, sem_2, sem_3, sem_4, sem_5, sr_249_61, sr_249_51, sr_249_70, sr_249_43, sr_249_13, sr_249_58, sr_249_63, sr_249_68, sr_249_69, sr_249_22, sr_249_34, sr_249_14, sr_249_10, sr_249_55, sr_249_2, sr_249_67, sr_249_23, sr_249_50, sr_249_57, kl9_249, sr_249_17, sr_249_31, sr_249_24, sr_249_41, sr_249_64, sr_249_52, sr_249_16, sr_249_71, sr_249_42, kc_249, sr_249_12, sr_249_30, sr_249_54, sr_249_8, sr_249_35, sr_249_15, sr_249_11, sr_249_40, sr_249_25, sr_249_9, kc_252, kl9_252, kc_253, kl9_253, kl9_254, kc_254, kc_255, kl9_255, kl9_258, kc_258, kc_283, kl9_283, kl9_284, kc_284, List.getD_cons_zero, List.getD_cons_succ, Bool.false_eq_true, wrn3, wrn1, cpmS, cpok9, h58]; (try simp (disch := omega) only [w15_0, w15_1, w15_3, w15_4, w15_5, w15_6, w3_0, w3_1, w3_2, upm_app, Int.reduceEq, and_self, and_true, true_and, and_false, false_and, if_true, if_false, ↓reduceIte, h58]))
    (with_reducible refine And.intro ?_ ?_)
    omega
    (with_reducible refine And.intro ?_ ?_)
    omega
    (with_reducible refine And.intro ?_ ?_)
    intro _
    (with_reducible refine And.intro ?_ ?_)
    omega
    (with_reducible refine And.intro ?_ ?_)
    omega
    (with_reducible refine And.intro ?_ ?_)
    omega
    (with_reducible refine And.intro ?_ ?_)
    intro _
    (with_reducible refine And.intro ?_ ?_)
    omega
    (with_reducible refine And.intro ?_ ?_)
    omega
    (with_reducible refine And.intro ?_ ?_)
    omega
    (with_reducible refine And.intro ?_ ?_)
    omega
    (with_reducible refine And.intro ?_ ?_)
    omega
    (with_reducible refine And.intro ?_ ?_)
    omega
    (with_reducible refine And.intro ?_ ?_)
    intro _
    (with_reducible refine And.intro ?_ ?_)
    omega
    (with_reducible refine And.intro ?_ ?_)
    omega
    focus (with_reducible refine p_198 ?_ (fun v9 h9 => ?_); (next => first | omega | (with_reducible rfl) | decide | (unfold w32; omega) | (simp (disch := omega) only [w32_eq]; omega) | (simp [upm] <;> (first | omega | (unfold w32; omega)))); (try simp only [h58] at h9); simp only [hdl_c, S9_1, S9_m, bud9, live9, inb9, wrn, wr9_14, wr9_15, wr9_16, wr9_17, tq9_14, tq9_15, tq9_16, tq9_17, tq_0, tq_1, tq_3, upr_rl, rl_0, rl_1, rl_2, rl_3, rl_4, rl_5, rl_6, rl_7, rl_8, rl_9, rl_10, rl_11, rl_12, rl_13, sp_0, sp_1, sp_2, sp_3, sp_4, sp_5, sp_6, sp_7, sp_8, sp_9, sp_10, sp_11, sp_12, sp_13, se_0, se_1, se_2, se_3, se_4, se_5, se_6, se_7, se_8, se_9, se_10, se_11, se_12, se_13, sem_0, sem_1, sem_2, sem_3, sem_4, sem_5, List.getD_cons_zero, List.getD_cons_succ, Bool.false_eq_true, wrn3, wrn1, cpmS, cpok9, if_true, if_false, ↓reduceIte, wc_198, wc_199, wc_272, wc_273, wc_274, sr_249_61, sr_249_51, sr_249_70, sr_249_43, sr_249_13, sr_249_58, sr_249_63, sr_249_68, sr_249_69, sr_249_22, sr_249_34, sr_249_14, sr_249_10, sr_249_55, sr_249_2, sr_249_67, sr_249_23, sr_249_50, sr_249_57, kl9_249, sr_249_17, sr_249_31, sr_249_24, sr_249_41, sr_249_64, sr_249_52, sr_249_16, sr_249_71, sr_249_42, kc_249, sr_249_12, sr_249_30, sr_249_54, sr_249_8, sr_249_35, sr_249_15, sr_249_11, sr_249_40, sr_249_25, sr_249_9, kc_252, kl9_252, kc_253, kl9_253, kl9_254, kc_254, kc_255, kl9_255, kl9_258, kc_258, kc_283, kl9_283, kl9_284, kc_284, h58]; (try simp (disch := omega) only [w15_0, w15_1, w15_3, w15_4, w15_5, w15_6, w3_0, w3_1, w3_2, upm_app, Int.reduceEq, and_self, and_true, true_and, and_false, false_and, if_true, if_false, ↓reduceIte, h58]))
    (with_reducible refine And.intro ?_ ?_)
    intro _
    focus (with_reducible refine p_199 (fun v9 h9 => ?_); (try simp only [h58] at h9); simp only [hdl_c, S9_1, S9_m, bud9, live9, inb9, wrn, wr9_14, wr9_15, wr9_16, wr9_17, tq9_14, tq9_15, tq9_16, tq9_17, tq_0, tq_1, tq_3, upr_rl, rl_0, rl_1, rl_2, rl_3, rl_4, rl_5, rl_6, rl_7, rl_8, rl_9, rl_10, rl_11, rl_12, rl_13, sp_0, sp_1, sp_2, sp_3, sp_4, sp_5, sp_6, sp_7, sp_8, sp_9, sp_10, sp_11, sp_12, sp_13, se_0, se_1, se_2, se_3, se_4, se_5, se_6, se_7, se_8, se_9, se_10, se_11, se_12, se_13, sem_0, sem_1, sem_2, sem_3, sem_4, sem_5, List.getD_cons_zero, List.getD_cons_succ, Bool.false_eq_true, wrn3, wrn1, cpmS, cpok9, if_true, if_false, ↓reduceIte, wc_198, wc_199, wc_272, wc_273, wc_274, sr_249_61, sr_249_51, sr_249_70, sr_249_43, sr_249_13, sr_249_58, sr_249_63, sr_249_68, sr_249_69, sr_249_22, sr_249_34, sr_249_14, sr_249_10, sr_249_55, sr_249_2, sr_249_67, sr_249_23, sr_249_50, sr_249_57, kl9_249, sr_249_17, sr_249_31, sr_249_24, sr_249_41, sr_249_64, sr_249_52, sr_249_16, sr_249_71, sr_249_42, kc_249, sr_249_12, sr_249_30, sr_249_54, sr_249_8, sr_249_35, sr_249_15, sr_249_11, sr_249_40, sr_249_25, sr_249_9, kc_252, kl9_252, kc_253, kl9_253, kl9_254, kc_254, kc_255, kl9_255, kl9_258, kc_258, kc_283, kl9_283, kl9_284, kc_284, h58]; (try simp (disch := omega) only [w15_0, w15_1, w15_3, w15_4, w15_5, w15_6, w3_0, w3_1, w3_2, upm_app, Int.reduceEq, and_self, and_true, true_and, and_false, false_and, if_true, if_false, ↓reduceIte, h58]))
    (with_reducible refine And.intro ?_ ?_)
    intro _
    focus (with_reducible refine ⟨k2 - 1, ?_, _, _, _, _, _, rfl, rfl, ?_, ?_, ?_⟩; (next => omega); (next => refine JW_of hL ?_ (by decide); repeat (first | assumption | (exact JW_len0 (by assumption)) | (refine JW_up ?_ (by first | decide | (unfold frR; omega)) (by first | decide | simp [frc]) (by first | decide | simp [frw]) (by first | (simp [BdR]; done) | (refine BdR_n (by simp) ?_; (first | (refine rb_at ?_ ?_ <;> first | omega | (simp only [upm_app]; (repeat' split) <;> omega)) | (refine rb_us ?_ ?_ <;> first | omega | (simp only [upm_app]; (repeat' split) <;> omega)) | (refine rb_ho ?_ ?_ <;> first | omega | (simp only [upm_app]; (repeat' split) <;> omega)) | (refine rb_on ?_ ?_ <;> first | omega | (simp only [upm_app]; (repeat' split) <;> omega)) | ((try simp (disch := omega) only [w32_eq]); (refine (rb_i ?_ ?_).2 ?_ <;> omega)) | (refine rb_us ?_ ?_ <;> first | omega | (unfold w32; omega)))) | (simp [BdR] <;> first | omega | (unfold w32; omega)) | (simp [BdR, upm] <;> first | omega | (unfold w32; omega)))))); (next => first | (with_reducible exact True.intro) | assumption | omega | (with_reducible rfl) | (unfold w32; omega) | (simp [upm]; done) | (simp [upm] <;> (first | omega | (unfold w32; omega)))); (next => first | (with_reducible exact True.intro) | assumption | omega | (with_reducible rfl) | (unfold w32; omega) | (simp [upm]; done) | (simp [upm] <;> (first | omega | (unfold w32; omega)))))
    intro _
    (with_reducible refine And.intro ?_ ?_)
    omega
    (with_reducible refine And.intro ?_ ?_)
    omega
    (with_reducible refine And.intro ?_ ?_)
    omega
    (with_reducible refine And.intro ?_ ?_)
    omega
    (with_reducible refine And.intro ?_ ?_)
    omega
    (with_reducible refine And.intro ?_ ?_)
    omega
    (with_reducible refine And.intro ?_ ?_)
    omega
    (with_reducible refine And.intro ?_ ?_)
    omega
    focus (with_reducible refine IH (g := g) (tc := tc) (pl := pl) (N := N) (W := W) ?_ ?_ ?_ ?_ ?_ (fun v9 m9 hJ9 => ?_); (next => first | omega | (with_reducible rfl) | decide | (unfold w32; omega) | (simp (disch := omega) only [w32_eq]; omega) | (simp [upm] <;> (first | omega | (unfold w32; omega)))); (next => first | omega | (with_reducible rfl) | decide | (unfold w32; omega) | (simp (disch := omega) only [w32_eq]; omega) | (simp [upm] <;> (first | omega | (unfold w32; omega)))); (next => first | omega | (with_reducible rfl) | decide | (unfold w32; omega) | (simp (disch := omega) only [w32_eq]; omega) | (simp [upm] <;> (first | omega | (unfold w32; omega)))); (next => first | omega | (with_reducible rfl) | decide | (unfold w32; omega) | (simp (disch := omega) only [w32_eq]; omega) | (simp [upm] <;> (first | omega | (unfold w32; omega)))); (next => refine JW_of hL ?_ (by decide); repeat (first | assumption | (exact JW_len0 (by assumption)) | (refine JW_up ?_ (by first | decide | (unfold frR; omega)) (by first | decide | simp [frc]) (by first | decide | simp [frw]) (by first | (simp [BdR]; done) | (refine BdR_n (by simp) ?_; (first | (refine rb_at ?_ ?_ <;> first | omega | (simp only [upm_app]; (repeat' split) <;> omega)) | (refine rb_us ?_ ?_ <;> first | omega | (simp only [upm_app]; (repeat' split) <;> omega)) | (refine rb_ho ?_ ?_ <;> first | omega | (simp only [upm_app]; (repeat' split) <;> omega)) | (refine rb_on ?_ ?_ <;> first | omega | (simp only [upm_app]; (repeat' split) <;> omega)) | ((try simp (disch := omega) only [w32_eq]); (refine (rb_i ?_ ?_).2 ?_ <;> omega)) | (refine rb_us ?_ ?_ <;> first | omega | (unfold w32; omega)))) | (simp [BdR] <;> first | omega | (unfold w32; omega)) | (simp [BdR, upm] <;> first | omega | (unfold w32; omega)))))); (try clear hs9); have hJ9 := JW_dn hL hJ9; have hs9 := JW_s hJ9; (try clear h58); have h58 := JW_2 hJ9; (try clear h5e); have h5e := JW_53e hJ9; simp only [hdl_c, S9_1, S9_m, bud9, live9, inb9, wrn, wr9_14, wr9_15, wr9_16, wr9_17, tq9_14, tq9_15, tq9_16, tq9_17, tq_0, tq_1, tq_3, upr_rl, rl_0, rl_1, rl_2, rl_3, rl_4, rl_5, rl_6, rl_7, rl_8, rl_9, rl_10, rl_11, rl_12, rl_13, sp_0, sp_1, sp_2, sp_3, sp_4, sp_5, sp_6, sp_7, sp_8, sp_9, sp_10, sp_11, sp_12, sp_13, se_0, se_1, se_2, se_3, se_4, se_5, se_6, se_7, se_8, se_9, se_10, se_11, se_12, se_13, sem_0, sem_1, sem_2, sem_3, sem_4, sem_5, List.getD_cons_zero, List.getD_cons_succ, Bool.false_eq_true, wrn3, wrn1, cpmS, cpok9, if_true, if_false, ↓reduceIte, wc_198, wc_199, wc_272, wc_273, wc_274, sr_249_61, sr_249_51, sr_249_70, sr_249_43, sr_249_13, sr_249_58, sr_249_63, sr_249_68, sr_249_69, sr_249_22, sr_249_34, sr_249_14, sr_249_10, sr_249_55, sr_249_2, sr_249_67, sr_249_23, sr_249_50, sr_249_57, kl9_249, sr_249_17, sr_249_31, sr_249_24, sr_249_41, sr_249_64, sr_249_52, sr_249_16, sr_249_71, sr_249_42, kc_249, sr_249_12, sr_249_30, sr_249_54, sr_249_8, sr_249_35, sr_249_15, sr_249_11, sr_249_40, sr_249_25, sr_249_9, kc_252, kl9_252, kc_253, kl9_253, kl9_254, kc_254, kc_255, kl9_255, kl9_258, kc_258, kc_283, kl9_283, kl9_284, kc_284, h58]; (try simp (disch := omega) only [w15_0, w15_1, w15_3, w15_4, w15_5, w15_6, w3_0, w3_1, w3_2, upm_app, Int.reduceEq, and_self, and_true, true_and, and_false, false_and, if_true, if_false, ↓reduceIte, h58]))
    focus (with_reducible refine ⟨k2 - 1, ?_, _, _, _, _, _, rfl, rfl, ?_, ?_, ?_⟩; (next => omega); (next => refine JW_of hL ?_ (by decide); repeat (first | assumption | (exact JW_len0 (by assumption)) | (refine JW_up ?_ (by first | decide | (unfold frR; omega)) (by first | decide | simp [frc]) (by first | decide | simp [frw]) (by first | (simp [BdR]; done) | (refine BdR_n (by simp) ?_; (first | (refine rb_at ?_ ?_ <;> first | omega | (simp only [upm_app]; (repeat' split) <;> omega)) | (refine rb_us ?_ ?_ <;> first | omega | (simp only [upm_app]; (repeat' split) <;> omega)) | (refine rb_ho ?_ ?_ <;> first | omega | (simp only [upm_app]; (repeat' split) <;> omega)) | (refine rb_on ?_ ?_ <;> first | omega | (simp only [upm_app]; (repeat' split) <;> omega)) | ((try simp (disch := omega) only [w32_eq]); (refine (rb_i ?_ ?_).2 ?_ <;> omega)) | (refine rb_us ?_ ?_ <;> first | omega | (unfold w32; omega)))) | (simp [BdR] <;> first | omega | (unfold w32; omega)) | (simp [BdR, upm] <;> first | omega | (unfold w32; omega)))))); (next => first | (with_reducible exact True.intro) | assumption | omega | (with_reducible rfl) | (unfold w32; omega) | (simp [upm]; done) | (simp [upm] <;> (first | omega | (unfold w32; omega)))); (next => first | (with_reducible exact True.intro) | assumption | omega | (with_reducible rfl) | (unfold w32; omega) | (simp [upm]; done) | (simp [upm] <;> (first | omega | (unfold w32; omega)))))
    intro _
    focus (with_reducible refine ⟨k2 - 1, ?_, _, _, _, _, _, rfl, rfl, ?_, ?_, ?_⟩; (next => omega); (next => refine JW_of hL ?_ (by decide); repeat (first | assumption | (exact JW_len0 (by assumption)) | (refine JW_up ?_ (by first | decide | (unfold frR; omega)) (by first | decide | simp [frc]) (by first | decide | simp [frw]) (by first | (simp [BdR]; done) | (refine BdR_n (by simp) ?_; (first | (refine rb_at ?_ ?_ <;> first | omega | (simp only [upm_app]; (repeat' split) <;> omega)) | (refine rb_us ?_ ?_ <;> first | omega | (simp only [upm_app]; (repeat' split) <;> omega)) | (refine rb_ho ?_ ?_ <;> first | omega | (simp only [upm_app]; (repeat' split) <;> omega)) | (refine rb_on ?_ ?_ <;> first | omega | (simp only [upm_app]; (repeat' split) <;> omega)) | ((try simp (disch := omega) only [w32_eq]); (refine (rb_i ?_ ?_).2 ?_ <;> omega)) | (refine rb_us ?_ ?_ <;> first | omega | (unfold w32; omega)))) | (simp [BdR] <;> first | omega | (unfold w32; omega)) | (simp [BdR, upm] <;> first | omega | (unfold w32; omega)))))); (next => first | (with_reducible exact True.intro) | assumption | omega | (with_reducible rfl) | (unfold w32; omega) | (simp [upm]; done) | (simp [upm] <;> (first | omega | (unfold w32; omega)))); (next => first | (with_reducible exact True.intro) | assumption | omega | (with_reducible rfl) | (unfold w32; omega) | (simp [upm]; done) | (simp [upm] <;> (first | omega | (unfold w32; omega)))))
    intro _
    (with_reducible contradiction)
    intro _
    (with_reducible refine And.intro ?_ ?_)
    omega
    (with_reducible refine And.intro ?_ ?_)
    omega
    (with_reducible refine And.intro ?_ ?_)
    omega
    (with_reducible refine And.intro ?_ ?_)
    intro _
    (with_reducible refine And.intro ?_ ?_)
    omega
    (with_reducible refine And.intro ?_ ?_)
    omega
    (with_reducible refine And.intro ?_ ?_)
    omega
    (with_reducible refine And.intro ?_ ?_)
    omega
    (with_reducible refine And.intro ?_ ?_)
    omega
    (with_reducible refine And.intro ?_ ?_)
    omega
    (with_reducible refine And.intro ?_ ?_)
    intro _
    (with_reducible refine And.intro ?_ ?_)
    omega
    (with_reducible refine And.intro ?_ ?_)
    omega
    focus (with_reducible refine p_198 ?_ (fun v9 h9 => ?_); (next => first | omega | (with_reducible rfl) | decide | (unfold w32; omega) | (simp (disch := omega) only [w32_eq]; omega) | (simp [upm] <;> (first | omega | (unfold w32; omega)))); (try simp only [h58] at h9); simp only [hdl_c, S9_1, S9_m, bud9, live9, inb9, wrn, wr9_14, wr9_15, wr9_16, wr9_17, tq9_14, tq9_15, tq9_16, tq9_17, tq_0, tq_1, tq_3, upr_rl, rl_0, rl_1, rl_2, rl_3, rl_4, rl_5, rl_6, rl_7, rl_8, rl_9, rl_10, rl_11, rl_12, rl_13, sp_0, sp_1, sp_2, sp_3, sp_4, sp_5, sp_6, sp_7, sp_8, sp_9, sp_10, sp_11, sp_12, sp_13, se_0, se_1, se_2, se_3, se_4, se_5, se_6, se_7, se_8, se_9, se_10, se_11, se_12, se_13, sem_0, sem_1, sem_2, sem_3, sem_4, sem_5, List.getD_cons_zero, List.getD_cons_succ, Bool.false_eq_true, wrn3, wrn1, cpmS, cpok9, if_true, if_false, ↓reduceIte, wc_198, wc_199, wc_272, wc_273, wc_274, sr_249_61, sr_249_51, sr_249_70, sr_249_43, sr_249_13, sr_249_58, sr_249_63, sr_249_68, sr_249_69, sr_249_22, sr_249_34, sr_249_14, sr_249_10, sr_249_55, sr_249_2, sr_249_67, sr_249_23, sr_249_50, sr_249_57, kl9_249, sr_249_17, sr_249_31, sr_249_24, sr_249_41, sr_249_64, sr_249_52, sr_249_16, sr_249_71, sr_249_42, kc_249, sr_249_12, sr_249_30, sr_249_54, sr_249_8, sr_249_35, sr_249_15, sr_249_11, sr_249_40, sr_249_25, sr_249_9, kc_252, kl9_252, kc_253, kl9_253, kl9_254, kc_254, kc_255, kl9_255, kl9_258, kc_258, kc_283, kl9_283, kl9_284, kc_284, h58]; (try simp (disch := omega) only [w15_0, w15_1, w15_3, w15_4, w15_5, w15_6, w3_0, w3_1, w3_2, upm_app, Int.reduceEq, and_self, and_true, true_and, and_false, false_and, if_true, if_false, ↓reduceIte, h58]))
    (with_reducible refine And.intro ?_ ?_)
    intro _
    focus (with_reducible refine p_199 (fun v9 h9 => ?_); (try simp only [h58] at h9); simp only [hdl_c, S9_1, S9_m, bud9, live9, inb9, wrn, wr9_14, wr9_15, wr9_16, wr9_17, tq9_14, tq9_15, tq9_16, tq9_17, tq_0, tq_1, tq_3, upr_rl, rl_0, rl_1, rl_2, rl_3, rl_4, rl_5, rl_6, rl_7, rl_8, rl_9, rl_10, rl_11, rl_12, rl_13, sp_0, sp_1, sp_2, sp_3, sp_4, sp_5, sp_6, sp_7, sp_8, sp_9, sp_10, sp_11, sp_12, sp_13, se_0, se_1, se_2, se_3, se_4, se_5, se_6, se_7, se_8, se_9, se_10, se_11, se_12, se_13, sem_0, sem_1, sem_2, sem_3, sem_4, sem_5, List.getD_cons_zero, List.getD_cons_succ, Bool.false_eq_true, wrn3, wrn1, cpmS, cpok9, if_true, if_false, ↓reduceIte, wc_198, wc_199, wc_272, wc_273, wc_274, sr_249_61, sr_249_51, sr_249_70, sr_249_43, sr_249_13, sr_249_58, sr_249_63, sr_249_68, sr_249_69, sr_249_22, sr_249_34, sr_249_14, sr_249_10, sr_249_55, sr_249_2, sr_249_67, sr_249_23, sr_249_50, sr_249_57, kl9_249, sr_249_17, sr_249_31, sr_249_24, sr_249_41, sr_249_64, sr_249_52, sr_249_16, sr_249_71, sr_249_42, kc_249, sr_249_12, sr_249_30, sr_249_54, sr_249_8, sr_249_35, sr_249_15, sr_249_11, sr_249_40, sr_249_25, sr_249_9, kc_252, kl9_252, kc_253, kl9_253, kl9_254, kc_254, kc_255, kl9_255, kl9_258, kc_258, kc_283, kl9_283, kl9_284, kc_284, h58]; (try simp (disch := omega) only [w15_0, w15_1, w15_3, w15_4, w15_5, w15_6, w3_0, w3_1, w3_2, upm_app, Int.reduceEq, and_self, and_true, true_and, and_false, false_and, if_true, if_false, ↓reduceIte, h58]))
    (with_reducible refine And.intro ?_ ?_)
    intro _
    focus (with_reducible refine ⟨k2 - 1, ?_, _, _, _, _, _, rfl, rfl, ?_, ?_, ?_⟩; (next => omega); (next => refine JW_of hL ?_ (by decide); repeat (first | assumption | (exact JW_len0 (by assumption)) | (refine JW_up ?_ (by first | decide | (unfold frR; omega)) (by first | decide | simp [frc]) (by first | decide | simp [frw]) (by first | (simp [BdR]; done) | (refine BdR_n (by simp) ?_; (first | (refine rb_at ?_ ?_ <;> first | omega | (simp only [upm_app]; (repeat' split) <;> omega)) | (refine rb_us ?_ ?_ <;> first | omega | (simp only [upm_app]; (repeat' split) <;> omega)) | (refine rb_ho ?_ ?_ <;> first | omega | (simp only [upm_app]; (repeat' split) <;> omega)) | (refine rb_on ?_ ?_ <;> first | omega | (simp only [upm_app]; (repeat' split) <;> omega)) | ((try simp (disch := omega) only [w32_eq]); (refine (rb_i ?_ ?_).2 ?_ <;> omega)) | (refine rb_us ?_ ?_ <;> first | omega | (unfold w32; omega)))) | (simp [BdR] <;> first | omega | (unfold w32; omega)) | (simp [BdR, upm] <;> first | omega | (unfold w32; omega)))))); (next => first | (with_reducible exact True.intro) | assumption | omega | (with_reducible rfl) | (unfold w32; omega) | (simp [upm]; done) | (simp [upm] <;> (first | omega | (unfold w32; omega)))); (next => first | (with_reducible exact True.intro) | assumption | omega | (with_reducible rfl) | (unfold w32; omega) | (simp [upm]; done) | (simp [upm] <;> (first | omega | (unfold w32; omega)))))
    intro _
    (with_reducible refine And.intro ?_ ?_)
    omega
    (with_reducible refine And.intro ?_ ?_)
    omega
    (with_reducible refine And.intro ?_ ?_)
    omega
    (with_reducible refine And.intro ?_ ?_)
    omega
    (with_reducible refine And.intro ?_ ?_)
    omega
    (with_reducible refine And.intro ?_ ?_)
    omega
    (with_reducible refine And.intro ?_ ?_)
    omega
    (with_reducible refine And.intro ?_ ?_)
    omega
    focus (with_reducible refine IH (g := g) (tc := tc) (pl := pl) (N := N) (W := W) ?_ ?_ ?_ ?_ ?_ (fun v9 m9 hJ9 => ?_); (next => first | omega | (with_reducible rfl) | decide | (unfold w32; omega) | (simp (disch := omega) only [w32_eq]; omega) | (simp [upm] <;> (first | omega | (unfold w32; omega)))); (next => first | omega | (with_reducible rfl) | decide | (unfold w32; omega) | (simp (disch := omega) only [w32_eq]; omega) | (simp [upm] <;> (first | omega | (unfold w32; omega)))); (next => first | omega | (with_reducible rfl) | decide | (unfold w32; omega) | (simp (disch := omega) only [w32_eq]; omega) | (simp [upm] <;> (first | omega | (unfold w32; omega)))); (next => first | omega | (with_reducible rfl) | decide | (unfold w32; omega) | (simp (disch := omega) only [w32_eq]; omega) | (simp [upm] <;> (first | omega | (unfold w32; omega)))); (next => refine JW_of hL ?_ (by decide); repeat (first | assumption | (exact JW_len0 (by assumption)) | (refine JW_up ?_ (by first | decide | (unfold frR; omega)) (by first | decide | simp [frc]) (by first | decide | simp [frw]) (by first | (simp [BdR]; done) | (refine BdR_n (by simp) ?_; (first | (refine rb_at ?_ ?_ <;> first | omega | (simp only [upm_app]; (repeat' split) <;> omega)) | (refine rb_us ?_ ?_ <;> first | omega | (simp only [upm_app]; (repeat' split) <;> omega)) | (refine rb_ho ?_ ?_ <;> first | omega | (simp only [upm_app]; (repeat' split) <;> omega)) | (refine rb_on ?_ ?_ <;> first | omega | (simp only [upm_app]; (repeat' split) <;> omega)) | ((try simp (disch := omega) only [w32_eq]); (refine (rb_i ?_ ?_).2 ?_ <;> omega)) | (refine rb_us ?_ ?_ <;> first | omega | (unfold w32; omega)))) | (simp [BdR] <;> first | omega | (unfold w32; omega)) | (simp [BdR, upm] <;> first | omega | (unfold w32; omega)))))); (try clear hs9); have hJ9 := JW_dn hL hJ9; have hs9 := JW_s hJ9; (try clear h58); have h58 := JW_2 hJ9; (try clear h5e); have h5e := JW_53e hJ9; simp only [hdl_c, S9_1, S9_m, bud9, live9, inb9, wrn, wr9_14, wr9_15, wr9_16, wr9_17, tq9_14, tq9_15, tq9_16, tq9_17, tq_0, tq_1, tq_3, upr_rl, rl_0, rl_1, rl_2, rl_3, rl_4, rl_5, rl_6, rl_7, rl_8, rl_9, rl_10, rl_11, rl_12, rl_13, sp_0, sp_1, sp_2, sp_3, sp_4, sp_5, sp_6, sp_7, sp_8, sp_9, sp_10, sp_11, sp_12, sp_13, se_0, se_1, se_2, se_3, se_4, se_5, se_6, se_7, se_8, se_9, se_10, se_11, se_12, se_13, sem_0, sem_1, sem_2, sem_3, sem_4, sem_5, List.getD_cons_zero, List.getD_cons_succ, Bool.false_eq_true, wrn3, wrn1, cpmS, cpok9, if_true, if_false, ↓reduceIte, wc_198, wc_199, wc_272, wc_273, wc_274, sr_249_61, sr_249_51, sr_249_70, sr_249_43, sr_249_13, sr_249_58, sr_249_63, sr_249_68, sr_249_69, sr_249_22, sr_249_34, sr_249_14, sr_249_10, sr_249_55, sr_249_2, sr_249_67, sr_249_23, sr_249_50, sr_249_57, kl9_249, sr_249_17, sr_249_31, sr_249_24, sr_249_41, sr_249_64, sr_249_52, sr_249_16, sr_249_71, sr_249_42, kc_249, sr_249_12, sr_249_30, sr_249_54, sr_249_8, sr_249_35, sr_249_15, sr_249_11, sr_249_40, sr_249_25, sr_249_9, kc_252, kl9_252, kc_253, kl9_253, kl9_254, kc_254, kc_255, kl9_255, kl9_258, kc_258, kc_283, kl9_283, kl9_284, kc_284, h58]; (try simp (disch := omega) only [w15_0, w15_1, w15_3, w15_4, w15_5, w15_6, w3_0, w3_1, w3_2, upm_app, Int.reduceEq, and_self, and_true, true_and, and_false, false_and, if_true, if_false, ↓reduceIte, h58]))
    focus (with_reducible refine ⟨k2 - 1, ?_, _, _, _, _, _, rfl, rfl, ?_, ?_, ?_⟩; (next => omega); (next => refine JW_of hL ?_ (by decide); repeat (first | assumption | (exact JW_len0 (by assumption)) | (refine JW_up ?_ (by first | decide | (unfold frR; omega)) (by first | decide | simp [frc]) (by first | decide | simp [frw]) (by first | (simp [BdR]; done) | (refine BdR_n (by simp) ?_; (first | (refine rb_at ?_ ?_ <;> first | omega | (simp only [upm_app]; (repeat' split) <;> omega)) | (refine rb_us ?_ ?_ <;> first | omega | (simp only [upm_app]; (repeat' split) <;> omega)) | (refine rb_ho ?_ ?_ <;> first | omega | (simp only [upm_app]; (repeat' split) <;> omega)) | (refine rb_on ?_ ?_ <;> first | omega | (simp only [upm_app]; (repeat' split) <;> omega)) | ((try simp (disch := omega) only [w32_eq]); (refine (rb_i ?_ ?_).2 ?_ <;> omega)) | (refine rb_us ?_ ?_ <;> first | omega | (unfold w32; omega)))) | (simp [BdR] <;> first | omega | (unfold w32; omega)) | (simp [BdR, upm] <;> first | omega | (unfold w32; omega)))))); (next => first | (with_reducible exact True.intro) | assumption | omega | (with_reducible rfl) | (unfold w32; omega) | (simp [upm]; done) | (simp [upm] <;> (first | omega | (unfold w32; omega)))); (next => first | (with_reducible exact True.intro) | assumption | omega | (with_reducible rfl) | (unfold w32; omega) | (simp [upm]; done) | (simp [upm] <;> (first | omega | (unfold w32; omega)))))
    intro _
    focus (with_reducible refine ⟨k2 - 1, ?_, _, _, _, _, _, rfl, rfl, ?_, ?_, ?_⟩; (next => omega); (next => refine JW_of hL ?_ (by decide); repeat (first | assumption | (exact JW_len0 (by assumption)) | (refine JW_up ?_ (by first | decide | (unfold frR; omega)) (by first | decide | simp [frc]) (by first | decide | simp [frw]) (by first | (simp [BdR]; done) | (refine BdR_n (by simp) ?_; (first | (refine rb_at ?_ ?_ <;> first | omega | (simp only [upm_app]; (repeat' split) <;> omega)) | (refine rb_us ?_ ?_ <;> first | omega | (simp only [upm_app]; (repeat' split) <;> omega)) | (refine rb_ho ?_ ?_ <;> first | omega | (simp only [upm_app]; (repeat' split) <;> omega)) | (refine rb_on ?_ ?_ <;> first | omega | (simp only [upm_app]; (repeat' split) <;> omega)) | ((try simp (disch := omega) only [w32_eq]); (refine (rb_i ?_ ?_).2 ?_ <;> omega)) | (refine rb_us ?_ ?_ <;> first | omega | (unfold w32; omega)))) | (simp [BdR] <;> first | omega | (unfold w32; omega)) | (simp [BdR, upm] <;> first | omega | (unfold w32; omega)))))); (next => first | (with_reducible exact True.intro) | assumption | omega | (with_reducible rfl) | (unfold w32; omega) | (simp [upm]; done) | (simp [upm] <;> (first | omega | (unfold w32; omega)))); (next => first | (with_reducible exact True.intro) | assumption | omega | (with_reducible rfl) | (unfold w32; omega) | (simp [upm]; done) | (simp [upm] <;> (first | omega | (unfold w32; omega)))))
    intro _
    (with_reducible contradiction)
    intro _
    (with_reducible refine And.intro ?_ ?_)
    omega
    (with_reducible refine And.intro ?_ ?_)
    omega
    (with_reducible refine And.intro ?_ ?_)
    omega
    (with_reducible refine And.intro ?_ ?_)
    omega
    (with_reducible refine And.intro ?_ ?_)
    omega
    (with_reducible refine And.intro ?_ ?_)
    omega
    (with_reducible refine And.intro ?_ ?_)
    intro _
    (with_reducible contradiction)
    intro _
    focus (with_reducible refine ⟨k2 - 1, ?_, _, _, _, _, _, rfl, rfl, ?_, ?_, ?_⟩; (next => omega); (next => refine JW_of hL ?_ (by decide); repeat (first | assumption | (exact JW_len0 (by assumption)) | (refine JW_up ?_ (by first | decide | (unfold frR; omega)) (by first | decide | simp [frc]) (by first | decide | simp [frw]) (by first | (simp [BdR]; done) | (refine BdR_n (by simp) ?_; (first | (refine rb_at ?_ ?_ <;> first | omega | (simp only [upm_app]; (repeat' split) <;> omega)) | (refine rb_us ?_ ?_ <;> first | omega | (simp only [upm_app]; (repeat' split) <;> omega)) | (refine rb_ho ?_ ?_ <;> first | omega | (simp only [upm_app]; (repeat' split) <;> omega)) | (refine rb_on ?_ ?_ <;> first | omega | (simp only [upm_app]; (repeat' split) <;> omega)) | ((try simp (disch := omega) only [w32_eq]); (refine (rb_i ?_ ?_).2 ?_ <;> omega)) | (refine rb_us ?_ ?_ <;> first | omega | (unfold w32; omega)))) | (simp [BdR] <;> first | omega | (unfold w32; omega)) | (simp [BdR, upm] <;> first | omega | (unfold w32; omega)))))); (next => first | (with_reducible exact True.intro) | assumption | omega | (with_reducible rfl) | (unfold w32; omega) | (simp [upm]; done) | (simp [upm] <;> (first | omega | (unfold w32; omega)))); (next => first | (with_reducible exact True.intro) | assumption | omega | (with_reducible rfl) | (unfold w32; omega) | (simp [upm]; done) | (simp [upm] <;> (first | omega | (unfold w32; omega)))))
    intro _
    focus (with_reducible refine hq _ _ ?_; (next => refine JW_of hL ?_ (by decide); repeat (first | assumption | (exact JW_len0 (by assumption)) | (refine JW_up ?_ (by first | decide | (unfold frR; omega)) (by first | decide | simp [frc]) (by first | decide | simp [frw]) (by first | (simp [BdR]; done) | (refine BdR_n (by simp) ?_; (first | (refine rb_at ?_ ?_ <;> first | omega | (simp only [upm_app]; (repeat' split) <;> omega)) | (refine rb_us ?_ ?_ <;> first | omega | (simp only [upm_app]; (repeat' split) <;> omega)) | (refine rb_ho ?_ ?_ <;> first | omega | (simp only [upm_app]; (repeat' split) <;> omega)) | (refine rb_on ?_ ?_ <;> first | omega | (simp only [upm_app]; (repeat' split) <;> omega)) | ((try simp (disch := omega) only [w32_eq]); (refine (rb_i ?_ ?_).2 ?_ <;> omega)) | (refine rb_us ?_ ?_ <;> first | omega | (unfold w32; omega)))) | (simp [BdR] <;> first | omega | (unfold w32; omega)) | (simp [BdR, upm] <;> first | omega | (unfold w32; omega))))); done))

set_option maxHeartbeats 8000000 in
theorem s_271 {d : Nat} {tc pl e : Int} {g : Fg} {m : Mem} {Q : Int → Sto → Prop} {a b : Int} (hJ : JR 4 g tc pl m) (hq : ∀ v m', JR 4 g tc pl m' → Q v (S9 e m')) : Cl (d + 15) 271 [249, a, b] Q (S9 e m) := by
  have hL := JR_l hJ
  obtain ⟨N, W, hJ0⟩ : ∃ N W, JW 4 g tc pl N W m := ⟨_, _, JW_mk hJ⟩
  have hJ1 : JW 4 g tc pl N W (upm m 249 0 0) := by refine JW_of hL ?_ (by decide); repeat (first | assumption | (exact JW_len0 (by assumption)) | (refine JW_up ?_ (by first | decide | (unfold frR; omega)) (by first | decide | simp [frc]) (by first | decide | simp [frw]) (by first | (simp [BdR]; done) | (refine BdR_n (by simp) ?_; (first | (refine rb_at ?_ ?_ <;> first | omega | (simp only [upm_app]; (repeat' split) <;> omega)) | (refine rb_us ?_ ?_ <;> first | omega | (simp only [upm_app]; (repeat' split) <;> omega)) | (refine rb_ho ?_ ?_ <;> first | omega | (simp only [upm_app]; (repeat' split) <;> omega)) | (refine rb_on ?_ ?_ <;> first | omega | (simp only [upm_app]; (repeat' split) <;> omega)) | ((try simp (disch := omega) only [w32_eq]); (refine (rb_i ?_ ?_).2 ?_ <;> omega)) | (refine rb_us ?_ ?_ <;> first | omega | (unfold w32; omega)))) | (simp [BdR] <;> first | omega | (unfold w32; omega)) | (simp [BdR, upm] <;> first | omega | (unfold w32; omega)))))
  simp only [cl_271, runB, B271, ma_271, rho_200, wf_13_111, wf_13_114, wf_13_510, wf_13_516, wpf_13_126, wpf_13_130, wpopadd_pf_13_130, wpf_13_516, wpopadd_pf_13_516, wc_194, wc_225, wc_272, w_cst, w_ldi, w_ldj, w_lda, w_ljk, w_ldk, w_ldw, w_ldk2, w_ldt, w_ldtw, w_neg, w_cvb, w_cvs, w_cvc, w_cvj, w_add, w_sub, w_mul, w_ban, w_bor, w_bxo, w_shl, w_shr, w_ush, w_dvi, w_rmi, w_aldi, w_aldj, w_aldz, w_aldc, w_alda, w_ite, w_cmp, w_cmj, w_cz, w_cnot, w_cand, w_cor, w_nil, w_cons, w_cvi, w_csta, w_cvt, w_cvv, w_csv, w_cpy, w_seq, w_sbr, w_sbn, w_brk, w_ifs, w_ifx, w_ife, w_wk, w_rets, w_rtv, w_thr, w_asi, w_asj, w_asa, w_inc, w_exs, w_asti, w_astj, w_astz, w_astc, w_aopadd, w_aopsub, w_sw, if_true, if_false, ↓reduceIte, hdl_c, S9_1, S9_m, bud9, live9, inb9, wrn, wr9_14, wr9_15, wr9_16, wr9_17, tq9_14, tq9_15, tq9_16, tq9_17, tq_0, tq_1, tq_3, upr_rl, rl_0, rl_1, rl_2, rl_3, rl_4, rl_5, rl_6, rl_7, rl_8, rl_9, rl_10, rl_11, rl_12, rl_13, sp_0, sp_1, sp_2, sp_3, sp_4, sp_5, sp_6, sp_7, sp_8, sp_9, sp_10, sp_11, sp_12, sp_13, se_0, se_1, se_2, se_3, se_4, se_5, se_6, se_7, se_8, se_9, se_10, se_11, se_12, se_13, sem_0, sem_1, sem_2, sem_3, sem_4, sem_5, sr_249_61, sr_249_51, sr_249_70, sr_249_43, sr_249_13, sr_249_58, sr_249_63, sr_249_68, sr_249_69, sr_249_22, sr_249_34, sr_249_14, sr_249_10, sr_249_55, sr_249_2, sr_249_67, sr_249_23, sr_249_50, sr_249_57, kl9_249, sr_249_17, sr_249_31, sr_249_24, sr_249_41, sr_249_64, sr_249_52, sr_249_16, sr_249_71, sr_249_42, kc_249, sr_249_12, sr_249_30, sr_249_54, sr_249_8, sr_249_35, sr_249_15, sr_249_11, sr_249_40, sr_249_25, sr_249_9, kc_283, kl9_283, kl9_284, kc_284, List.getD_cons_zero, List.getD_cons_succ, Bool.false_eq_true, wrn3, wrn1, cpmS, cpok9]
  generalize upm m 249 0 0 = m1 at hJ1 ⊢
  have hs := JW_s hJ1
  have h58 := JW_2 hJ1
  (try simp (disch := omega) only [w15_0, w15_1, w15_3, w15_4, w15_5, w15_6, w3_0, w3_1, w3_2, upm_app, Int.reduceEq, and_self, and_true, true_and, and_false, false_and, if_true, if_false, ↓reduceIte, h58])
  (with_reducible refine And.intro ?_ ?_)
  omega
  (with_reducible refine And.intro ?_ ?_)
  omega
  (with_reducible refine And.intro ?_ ?_)
  omega
  (with_reducible refine And.intro ?_ ?_)
  omega
  focus (with_reducible refine p_194 ?_ (fun v9 h9 => ?_); (next => first | omega | (with_reducible rfl) | decide | (unfold w32; omega) | (simp (disch := omega) only [w32_eq]; omega) | (simp [upm] <;> (first | omega | (unfold w32; omega)))); (try simp only [h58] at h9); simp only [hdl_c, S9_1, S9_m, bud9, live9, inb9, wrn, wr9_14, wr9_15, wr9_16, wr9_17, tq9_14, tq9_15, tq9_16, tq9_17, tq_0, tq_1, tq_3, upr_rl, rl_0, rl_1, rl_2, rl_3, rl_4, rl_5, rl_6, rl_7, rl_8, rl_9, rl_10, rl_11, rl_12, rl_13, sp_0, sp_1, sp_2, sp_3, sp_4, sp_5, sp_6, sp_7, sp_8, sp_9, sp_10, sp_11, sp_12, sp_13, se_0, se_1, se_2, se_3, se_4, se_5, se_6, se_7, se_8, se_9, se_10, se_11, se_12, se_13, sem_0, sem_1, sem_2, sem_3, sem_4, sem_5, List.getD_cons_zero, List.getD_cons_succ, Bool.false_eq_true, wrn3, wrn1, cpmS, cpok9, if_true, if_false, ↓reduceIte, wc_194, wc_225, wc_272, sr_249_61, sr_249_51, sr_249_70, sr_249_43, sr_249_13, sr_249_58, sr_249_63, sr_249_68, sr_249_69, sr_249_22, sr_249_34, sr_249_14, sr_249_10, sr_249_55, sr_249_2, sr_249_67, sr_249_23, sr_249_50, sr_249_57, kl9_249, sr_249_17, sr_249_31, sr_249_24, sr_249_41, sr_249_64, sr_249_52, sr_249_16, sr_249_71, sr_249_42, kc_249, sr_249_12, sr_249_30, sr_249_54, sr_249_8, sr_249_35, sr_249_15, sr_249_11, sr_249_40, sr_249_25, sr_249_9, kc_283, kl9_283, kl9_284, kc_284, h58]; (try simp (disch := omega) only [w15_0, w15_1, w15_3, w15_4, w15_5, w15_6, w3_0, w3_1, w3_2, upm_app, Int.reduceEq, and_self, and_true, true_and, and_false, false_and, if_true, if_false, ↓reduceIte, h58]))
  (with_reducible refine And.intro ?_ ?_)
  intro _
  (with_reducible refine And.intro ?_ ?_)
  omega
  (with_reducible refine And.intro ?_ ?_)
  omega
  focus (with_reducible refine p_194 ?_ (fun v9 h9 => ?_); (next => first | omega | (with_reducible rfl) | decide | (unfold w32; omega) | (simp (disch := omega) only [w32_eq]; omega) | (simp [upm] <;> (first | omega | (unfold w32; omega)))); (try simp only [h58] at h9); simp only [hdl_c, S9_1, S9_m, bud9, live9, inb9, wrn, wr9_14, wr9_15, wr9_16, wr9_17, tq9_14, tq9_15, tq9_16, tq9_17, tq_0, tq_1, tq_3, upr_rl, rl_0, rl_1, rl_2, rl_3, rl_4, rl_5, rl_6, rl_7, rl_8, rl_9, rl_10, rl_11, rl_12, rl_13, sp_0, sp_1, sp_2, sp_3, sp_4, sp_5, sp_6, sp_7, sp_8, sp_9, sp_10, sp_11, sp_12, sp_13, se_0, se_1, se_2, se_3, se_4, se_5, se_6, se_7, se_8, se_9, se_10, se_11, se_12, se_13, sem_0, sem_1, sem_2, sem_3, sem_4, sem_5, List.getD_cons_zero, List.getD_cons_succ, Bool.false_eq_true, wrn3, wrn1, cpmS, cpok9, if_true, if_false, ↓reduceIte, wc_194, wc_225, wc_272, sr_249_61, sr_249_51, sr_249_70, sr_249_43, sr_249_13, sr_249_58, sr_249_63, sr_249_68, sr_249_69, sr_249_22, sr_249_34, sr_249_14, sr_249_10, sr_249_55, sr_249_2, sr_249_67, sr_249_23, sr_249_50, sr_249_57, kl9_249, sr_249_17, sr_249_31, sr_249_24, sr_249_41, sr_249_64, sr_249_52, sr_249_16, sr_249_71, sr_249_42, kc_249, sr_249_12, sr_249_30, sr_249_54, sr_249_8, sr_249_35, sr_249_15, sr_249_11, sr_249_40, sr_249_25, sr_249_9, kc_283, kl9_283, kl9_284, kc_284, h58]; (try simp (disch := omega) only [w15_0, w15_1, w15_3, w15_4, w15_5, w15_6, w3_0, w3_1, w3_2, upm_app, Int.reduceEq, and_self, and_true, true_and, and_false, false_and, if_true, if_false, ↓reduceIte, h58]))
  (with_reducible refine And.intro ?_ ?_)
  intro _
  (with_reducible refine And.intro ?_ ?_)
  intro _
  focus (with_reducible refine hq _ _ (JW_1 (N := N) (W := W) ?_); (next => refine JW_of hL ?_ (by decide); repeat (first | assumption | (exact JW_len0 (by assumption)) | (refine JW_up ?_ (by first | decide | (unfold frR; omega)) (by first | decide | simp [frc]) (by first | decide | simp [frw]) (by first | (simp [BdR]; done) | (refine BdR_n (by simp) ?_; (first | (refine rb_at ?_ ?_ <;> first | omega | (simp only [upm_app]; (repeat' split) <;> omega)) | (refine rb_us ?_ ?_ <;> first | omega | (simp only [upm_app]; (repeat' split) <;> omega)) | (refine rb_ho ?_ ?_ <;> first | omega | (simp only [upm_app]; (repeat' split) <;> omega)) | (refine rb_on ?_ ?_ <;> first | omega | (simp only [upm_app]; (repeat' split) <;> omega)) | ((try simp (disch := omega) only [w32_eq]); (refine (rb_i ?_ ?_).2 ?_ <;> omega)) | (refine rb_us ?_ ?_ <;> first | omega | (unfold w32; omega)))) | (simp [BdR] <;> first | omega | (unfold w32; omega)) | (simp [BdR, upm] <;> first | omega | (unfold w32; omega))))); done))
  intro _
  (with_reducible refine And.intro ?_ ?_)
  omega
  (with_reducible refine And.intro ?_ ?_)
  omega
  (with_reducible refine And.intro ?_ ?_)
  omega
  (with_reducible refine And.intro ?_ ?_)
  omega
  (with_reducible refine And.intro ?_ ?_)
  omega
  (with_reducible refine And.intro ?_ ?_)
  omega
  (with_reducible refine And.intro ?_ ?_)
  omega
  focus (with_reducible refine s_272 9 (d := d + 1) (g := g) (tc := tc) (pl := pl) (N := N) (W := W) ?_ ?_ ?_ ?_ ?_ (fun v9 m9 hJ9 => ?_); (next => decide); (next => decide); (next => have := fits1i (o := a) (by omega); omega); (next => exact (fits1i (o := a) (by omega)).2.2); (next => refine JW_of hL ?_ (by decide); repeat (first | assumption | (exact JW_len0 (by assumption)) | (refine JW_up ?_ (by first | decide | (unfold frR; omega)) (by first | decide | simp [frc]) (by first | decide | simp [frw]) (by first | (simp [BdR]; done) | (refine BdR_n (by simp) ?_; (first | (refine rb_at ?_ ?_ <;> first | omega | (simp only [upm_app]; (repeat' split) <;> omega)) | (refine rb_us ?_ ?_ <;> first | omega | (simp only [upm_app]; (repeat' split) <;> omega)) | (refine rb_ho ?_ ?_ <;> first | omega | (simp only [upm_app]; (repeat' split) <;> omega)) | (refine rb_on ?_ ?_ <;> first | omega | (simp only [upm_app]; (repeat' split) <;> omega)) | ((try simp (disch := omega) only [w32_eq]); (refine (rb_i ?_ ?_).2 ?_ <;> omega)) | (refine rb_us ?_ ?_ <;> first | omega | (unfold w32; omega)))) | (simp [BdR] <;> first | omega | (unfold w32; omega)) | (simp [BdR, upm] <;> first | omega | (unfold w32; omega)))))); (try clear hs9); have hJ9 := JW_dn hL hJ9; have hs9 := JW_s hJ9; (try clear h58); have h58 := JW_2 hJ9; (try clear h5e); have h5e := JW_53e hJ9; simp only [hdl_c, S9_1, S9_m, bud9, live9, inb9, wrn, wr9_14, wr9_15, wr9_16, wr9_17, tq9_14, tq9_15, tq9_16, tq9_17, tq_0, tq_1, tq_3, upr_rl, rl_0, rl_1, rl_2, rl_3, rl_4, rl_5, rl_6, rl_7, rl_8, rl_9, rl_10, rl_11, rl_12, rl_13, sp_0, sp_1, sp_2, sp_3, sp_4, sp_5, sp_6, sp_7, sp_8, sp_9, sp_10, sp_11, sp_12, sp_13, se_0, se_1, se_2, se_3, se_4, se_5, se_6, se_7, se_8, se_9, se_10, se_11, se_12, se_13, sem_0, sem_1, sem_2, sem_3, sem_4, sem_5, List.getD_cons_zero, List.getD_cons_succ, Bool.false_eq_true, wrn3, wrn1, cpmS, cpok9, if_true, if_false, ↓reduceIte, wc_194, wc_225, wc_272, sr_249_61, sr_249_51, sr_249_70, sr_249_43, sr_249_13, sr_249_58, sr_249_63, sr_249_68, sr_249_69, sr_249_22, sr_249_34, sr_249_14, sr_249_10, sr_249_55, sr_249_2, sr_249_67, sr_249_23, sr_249_50, sr_249_57, kl9_249, sr_249_17, sr_249_31, sr_249_24, sr_249_41, sr_249_64, sr_249_52, sr_249_16, sr_249_71, sr_249_42, kc_249, sr_249_12, sr_249_30, sr_249_54, sr_249_8, sr_249_35, sr_249_15, sr_249_11, sr_249_40, sr_249_25, sr_249_9, kc_283, kl9_283, kl9_284, kc_284, h58]; (try simp (disch := omega) only [w15_0, w15_1, w15_3, w15_4, w15_5, w15_6, w3_0, w3_1, w3_2, upm_app, Int.reduceEq, and_self, and_true, true_and, and_false, false_and, if_true, if_false, ↓reduceIte, h58]))
  (with_reducible refine And.intro ?_ ?_)
  omega
  (with_reducible refine And.intro ?_ ?_)
  omega
  focus (with_reducible refine whl_i (fun k r u => ∃ (i : Int) (m9 : Mem), r = rl [249, a, b, i] ∧ u = S9 e m9 ∧ JW 4 g tc pl N W m9 ∧ (0 ≤ i) ∧ (i + k = 11) ∧ (m9 249 1 ≤ i)) 11 ?_ ?_; (next => refine ⟨_, _, rfl, rfl, ?_, ?_, ?_, ?_⟩; (next => refine JW_of hL ?_ (by decide); repeat (first | assumption | (exact JW_len0 (by assumption)) | (refine JW_up ?_ (by first | decide | (unfold frR; omega)) (by first | decide | simp [frc]) (by first | decide | simp [frw]) (by first | (simp [BdR]; done) | (refine BdR_n (by simp) ?_; (first | (refine rb_at ?_ ?_ <;> first | omega | (simp only [upm_app]; (repeat' split) <;> omega)) | (refine rb_us ?_ ?_ <;> first | omega | (simp only [upm_app]; (repeat' split) <;> omega)) | (refine rb_ho ?_ ?_ <;> first | omega | (simp only [upm_app]; (repeat' split) <;> omega)) | (refine rb_on ?_ ?_ <;> first | omega | (simp only [upm_app]; (repeat' split) <;> omega)) | ((try simp (disch := omega) only [w32_eq]); (refine (rb_i ?_ ?_).2 ?_ <;> omega)) | (refine rb_us ?_ ?_ <;> first | omega | (unfold w32; omega)))) | (simp [BdR] <;> first | omega | (unfold w32; omega)) | (simp [BdR, upm] <;> first | omega | (unfold w32; omega)))))); (next => first | (with_reducible exact True.intro) | assumption | omega | (with_reducible rfl) | (unfold w32; omega) | (simp [upm]; done) | (simp [upm] <;> (first | omega | (unfold w32; omega)))); (next => first | (with_reducible exact True.intro) | assumption | omega | (with_reducible rfl) | (unfold w32; omega) | (simp [upm]; done) | (simp [upm] <;> (first | omega | (unfold w32; omega)))); (next => first | (with_reducible exact True.intro) | assumption | omega | (with_reducible rfl) | (unfold w32; omega) | (simp [upm]; done) | (simp [upm] <;> (first | omega | (unfold w32; omega))))); rintro k r u ⟨i, m9, rfl, rfl, hJ9, h9a, h9b, h9c⟩; (try clear hs9); have hJ9 := JW_dn hL hJ9; have hs9 := JW_s hJ9; (try clear h58); have h58 := JW_2 hJ9; (try clear h5e); have h5e := JW_53e hJ9; have hl9 := JW_s hJ9; have hl5 := JW_53e hJ9; simp only [cl_271, runB, B271, ma_271, rho_200, wf_13_111, wf_13_114, wf_13_510, wf_13_516, wpf_13_126, wpf_13_130, wpopadd_pf_13_130, wpf_13_516, wpopadd_pf_13_516, wc_194, wc_225, wc_272, w_cst, w_ldi, w_ldj, w_lda, w_ljk, w_ldk, w_ldw, w_ldk2, w_ldt, w_ldtw, w_neg, w_cvb, w_cvs, w_cvc, w_cvj, w_add, w_sub, w_mul, w_ban, w_bor, w_bxo, w_shl, w_shr, w_ush, w_dvi, w_rmi, w_aldi, w_aldj, w_aldz, w_aldc, w_alda, w_ite, w_cmp, w_cmj, w_cz, w_cnot, w_cand, w_cor, w_nil, w_cons, w_cvi, w_csta, w_cvt, w_cvv, w_csv, w_cpy, w_seq, w_sbr, w_sbn, w_brk, w_ifs, w_ifx, w_ife, w_wk, w_rets, w_rtv, w_thr, w_asi, w_asj, w_asa, w_inc, w_exs, w_asti, w_astj, w_astz, w_astc, w_aopadd, w_aopsub, w_sw, if_true, if_false, ↓reduceIte, hdl_c, S9_1, S9_m, bud9, live9, inb9, wrn, wr9_14, wr9_15, wr9_16, wr9_17, tq9_14, tq9_15, tq9_16, tq9_17, tq_0, tq_1, tq_3, upr_rl, rl_0, rl_1, rl_2, rl_3, rl_4, rl_5, rl_6, rl_7, rl_8, rl_9, rl_10, rl_11, rl_12, rl_13, sp_0, sp_1, sp_2, sp_3, sp_4, sp_5, sp_6, sp_7, sp_8, sp_9, sp_10, sp_11, sp_12, sp_13, se_0, se_1, se_2, se_3, se_4, se_5, se_6, se_7, se_8, se_9, se_10, se_11, se_12, se_13, sem_0, sem_1, sem_2, sem_3, sem_4, sem_5, sr_249_61, sr_249_51, sr_249_70, sr_249_43, sr_249_13, sr_249_58, sr_249_63, sr_249_68, sr_249_69, sr_249_22, sr_249_34, sr_249_14, sr_249_10, sr_249_55, sr_249_2, sr_249_67, sr_249_23, sr_249_50, sr_249_57, kl9_249, sr_249_17, sr_249_31, sr_249_24, sr_249_41, sr_249_64, sr_249_52, sr_249_16, sr_249_71, sr_249_42, kc_249, sr_249_12, sr_249_30, sr_249_54, sr_249_8, sr_249_35, sr_249_15, sr_249_11, sr_249_40, sr_249_25, sr_249_9, kc_283, kl9_283, kl9_284, kc_284, List.getD_cons_zero, List.getD_cons_succ, Bool.false_eq_true, wrn3, wrn1, cpmS, cpok9, h58]; (try simp (disch := omega) only [w15_0, w15_1, w15_3, w15_4, w15_5, w15_6, w3_0, w3_1, w3_2, upm_app, Int.reduceEq, and_self, and_true, true_and, and_false, false_and, if_true, if_false, ↓reduceIte, h58]))
  (with_reducible refine And.intro ?_ ?_)
  omega
  (with_reducible refine And.intro ?_ ?_)
  omega
  (with_reducible refine And.intro ?_ ?_)
  intro _
  (with_reducible refine And.intro ?_ ?_)
  omega
  (with_reducible refine And.intro ?_ ?_)
  omega
  (with_reducible refine And.intro ?_ ?_)
  intro _
  (with_reducible refine And.intro ?_ ?_)
  omega
  (with_reducible refine And.intro ?_ ?_)
  omega
  (with_reducible refine And.intro ?_ ?_)
  omega
  (with_reducible refine And.intro ?_ ?_)
  omega
  (with_reducible refine And.intro ?_ ?_)
  omega
  focus (with_reducible refine s_225 (g := g) (tc := tc) (pl := pl) (N := N) (W := W) ?_ ?_ (fun v9 m9 hJ9 p9 => ?_); (next => first | omega | (with_reducible rfl) | decide | (unfold w32; omega) | (simp (disch := omega) only [w32_eq]; omega) | (simp [upm] <;> (first | omega | (unfold w32; omega)))); (next => refine JW_of hL ?_ (by decide); repeat (first | assumption | (exact JW_len0 (by assumption)) | (refine JW_up ?_ (by first | decide | (unfold frR; omega)) (by first | decide | simp [frc]) (by first | decide | simp [frw]) (by first | (simp [BdR]; done) | (refine BdR_n (by simp) ?_; (first | (refine rb_at ?_ ?_ <;> first | omega | (simp only [upm_app]; (repeat' split) <;> omega)) | (refine rb_us ?_ ?_ <;> first | omega | (simp only [upm_app]; (repeat' split) <;> omega)) | (refine rb_ho ?_ ?_ <;> first | omega | (simp only [upm_app]; (repeat' split) <;> omega)) | (refine rb_on ?_ ?_ <;> first | omega | (simp only [upm_app]; (repeat' split) <;> omega)) | ((try simp (disch := omega) only [w32_eq]); (refine (rb_i ?_ ?_).2 ?_ <;> omega)) | (refine rb_us ?_ ?_ <;> first | omega | (unfold w32; omega)))) | (simp [BdR] <;> first | omega | (unfold w32; omega)) | (simp [BdR, upm] <;> first | omega | (unfold w32; omega)))))); (try simp [upm] at p9); (try clear hs9); have hJ9 := JW_dn hL hJ9; have hs9 := JW_s hJ9; (try clear h58); have h58 := JW_2 hJ9; (try clear h5e); have h5e := JW_53e hJ9; simp only [hdl_c, S9_1, S9_m, bud9, live9, inb9, wrn, wr9_14, wr9_15, wr9_16, wr9_17, tq9_14, tq9_15, tq9_16, tq9_17, tq_0, tq_1, tq_3, upr_rl, rl_0, rl_1, rl_2, rl_3, rl_4, rl_5, rl_6, rl_7, rl_8, rl_9, rl_10, rl_11, rl_12, rl_13, sp_0, sp_1, sp_2, sp_3, sp_4, sp_5, sp_6, sp_7, sp_8, sp_9, sp_10, sp_11, sp_12, sp_13, se_0, se_1, se_2, se_3, se_4, se_5, se_6, se_7, se_8, se_9, se_10, se_11, se_12, se_13, sem_0, sem_1, sem_2, sem_3, sem_4, sem_5, List.getD_cons_zero, List.getD_cons_succ, Bool.false_eq_true, wrn3, wrn1, cpmS, cpok9, if_true, if_false, ↓reduceIte, wc_194, wc_225, wc_272, sr_249_61, sr_249_51, sr_249_70, sr_249_43, sr_249_13, sr_249_58, sr_249_63, sr_249_68, sr_249_69, sr_249_22, sr_249_34, sr_249_14, sr_249_10, sr_249_55, sr_249_2, sr_249_67, sr_249_23, sr_249_50, sr_249_57, kl9_249, sr_249_17, sr_249_31, sr_249_24, sr_249_41, sr_249_64, sr_249_52, sr_249_16, sr_249_71, sr_249_42, kc_249, sr_249_12, sr_249_30, sr_249_54, sr_249_8, sr_249_35, sr_249_15, sr_249_11, sr_249_40, sr_249_25, sr_249_9, kc_283, kl9_283, kl9_284, kc_284, h58]; (try simp (disch := omega) only [w15_0, w15_1, w15_3, w15_4, w15_5, w15_6, w3_0, w3_1, w3_2, upm_app, Int.reduceEq, and_self, and_true, true_and, and_false, false_and, if_true, if_false, ↓reduceIte, h58]))
  focus (with_reducible refine ⟨k - 1, ?_, _, _, rfl, rfl, ?_, ?_, ?_, ?_⟩; (next => omega); (next => refine JW_of hL ?_ (by decide); repeat (first | assumption | (exact JW_len0 (by assumption)) | (refine JW_up ?_ (by first | decide | (unfold frR; omega)) (by first | decide | simp [frc]) (by first | decide | simp [frw]) (by first | (simp [BdR]; done) | (refine BdR_n (by simp) ?_; (first | (refine rb_at ?_ ?_ <;> first | omega | (simp only [upm_app]; (repeat' split) <;> omega)) | (refine rb_us ?_ ?_ <;> first | omega | (simp only [upm_app]; (repeat' split) <;> omega)) | (refine rb_ho ?_ ?_ <;> first | omega | (simp only [upm_app]; (repeat' split) <;> omega)) | (refine rb_on ?_ ?_ <;> first | omega | (simp only [upm_app]; (repeat' split) <;> omega)) | ((try simp (disch := omega) only [w32_eq]); (refine (rb_i ?_ ?_).2 ?_ <;> omega)) | (refine rb_us ?_ ?_ <;> first | omega | (unfold w32; omega)))) | (simp [BdR] <;> first | omega | (unfold w32; omega)) | (simp [BdR, upm] <;> first | omega | (unfold w32; omega)))))); (next => first | (with_reducible exact True.intro) | assumption | omega | (with_reducible rfl) | (unfold w32; omega) | (simp [upm]; done) | (simp [upm] <;> (first | omega | (unfold w32; omega)))); (next => first | (with_reducible exact True.intro) | assumption | omega | (with_reducible rfl) | (unfold w32; omega) | (simp [upm]; done) | (simp [upm] <;> (first | omega | (unfold w32; omega)))); (next => first | (with_reducible exact True.intro) | assumption | omega | (with_reducible rfl) | (unfold w32; omega) | (simp [upm]; done) | (simp [upm] <;> (first | omega | (unfold w32; omega)))))
  intro _
  (with_reducible refine And.intro ?_ ?_)
  omega
  (with_reducible refine And.intro ?_ ?_)
  omega
  focus (with_reducible refine hq _ _ (JW_1 (N := N) (W := W) ?_); (next => refine JW_of hL ?_ (by decide); repeat (first | assumption | (exact JW_len0 (by assumption)) | (refine JW_up ?_ (by first | decide | (unfold frR; omega)) (by first | decide | simp [frc]) (by first | decide | simp [frw]) (by first | (simp [BdR]; done) | (refine BdR_n (by simp) ?_; (first | (refine rb_at ?_ ?_ <;> first | omega | (simp only [upm_app]; (repeat' split) <;> omega)) | (refine rb_us ?_ ?_ <;> first | omega | (simp only [upm_app]; (repeat' split) <;> omega)) | (refine rb_ho ?_ ?_ <;> first | omega | (simp only [upm_app]; (repeat' split) <;> omega)) | (refine rb_on ?_ ?_ <;> first | omega | (simp only [upm_app]; (repeat' split) <;> omega)) | ((try simp (disch := omega) only [w32_eq]); (refine (rb_i ?_ ?_).2 ?_ <;> omega)) | (refine rb_us ?_ ?_ <;> first | omega | (unfold w32; omega)))) | (simp [BdR] <;> first | omega | (unfold w32; omega)) | (simp [BdR, upm] <;> first | omega | (unfold w32; omega))))); done))
  intro _
  (with_reducible refine And.intro ?_ ?_)
  omega
  (with_reducible refine And.intro ?_ ?_)
  omega
  focus (with_reducible refine hq _ _ (JW_1 (N := N) (W := W) ?_); (next => refine JW_of hL ?_ (by decide); repeat (first | assumption | (exact JW_len0 (by assumption)) | (refine JW_up ?_ (by first | decide | (unfold frR; omega)) (by first | decide | simp [frc]) (by first | decide | simp [frw]) (by first | (simp [BdR]; done) | (refine BdR_n (by simp) ?_; (first | (refine rb_at ?_ ?_ <;> first | omega | (simp only [upm_app]; (repeat' split) <;> omega)) | (refine rb_us ?_ ?_ <;> first | omega | (simp only [upm_app]; (repeat' split) <;> omega)) | (refine rb_ho ?_ ?_ <;> first | omega | (simp only [upm_app]; (repeat' split) <;> omega)) | (refine rb_on ?_ ?_ <;> first | omega | (simp only [upm_app]; (repeat' split) <;> omega)) | ((try simp (disch := omega) only [w32_eq]); (refine (rb_i ?_ ?_).2 ?_ <;> omega)) | (refine rb_us ?_ ?_ <;> first | omega | (unfold w32; omega)))) | (simp [BdR] <;> first | omega | (unfold w32; omega)) | (simp [BdR, upm] <;> first | omega | (unfold w32; omega))))); done))
  intro _
  focus (with_reducible refine hq _ _ (JW_1 (N := N) (W := W) ?_); (next => refine JW_of hL ?_ (by decide); repeat (first | assumption | (exact JW_len0 (by assumption)) | (refine JW_up ?_ (by first | decide | (unfold frR; omega)) (by first | decide | simp [frc]) (by first | decide | simp [frw]) (by first | (simp [BdR]; done) | (refine BdR_n (by simp) ?_; (first | (refine rb_at ?_ ?_ <;> first | omega | (simp only [upm_app]; (repeat' split) <;> omega)) | (refine rb_us ?_ ?_ <;> first | omega | (simp only [upm_app]; (repeat' split) <;> omega)) | (refine rb_ho ?_ ?_ <;> first | omega | (simp only [upm_app]; (repeat' split) <;> omega)) | (refine rb_on ?_ ?_ <;> first | omega | (simp only [upm_app]; (repeat' split) <;> omega)) | ((try simp (disch := omega) only [w32_eq]); (refine (rb_i ?_ ?_).2 ?_ <;> omega)) | (refine rb_us ?_ ?_ <;> first | omega | (unfold w32; omega)))) | (simp [BdR] <;> first | omega | (unfold w32; omega)) | (simp [BdR, upm] <;> first | omega | (unfold w32; omega))))); done))
  intro _
  focus (with_reducible refine hq _ _ (JW_1 (N := N) (W := W) ?_); (next => refine JW_of hL ?_ (by decide); repeat (first | assumption | (exact JW_len0 (by assumption)) | (refine JW_up ?_ (by first | decide | (unfold frR; omega)) (by first | decide | simp [frc]) (by first | decide | simp [frw]) (by first | (simp [BdR]; done) | (refine BdR_n (by simp) ?_; (first | (refine rb_at ?_ ?_ <;> first | omega | (simp only [upm_app]; (repeat' split) <;> omega)) | (refine rb_us ?_ ?_ <;> first | omega | (simp only [upm_app]; (repeat' split) <;> omega)) | (refine rb_ho ?_ ?_ <;> first | omega | (simp only [upm_app]; (repeat' split) <;> omega)) | (refine rb_on ?_ ?_ <;> first | omega | (simp only [upm_app]; (repeat' split) <;> omega)) | ((try simp (disch := omega) only [w32_eq]); (refine (rb_i ?_ ?_).2 ?_ <;> omega)) | (refine rb_us ?_ ?_ <;> first | omega | (unfold w32; omega)))) | (simp [BdR] <;> first | omega | (unfold w32; omega)) | (simp [BdR, upm] <;> first | omega | (unfold w32; omega))))); done))


