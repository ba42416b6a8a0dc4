/-- the reference's state, nothing counted -/
def x0R (m : Mem) : AS := asU (asU (asU (asR m 258 0) 11 0 0) 11 1 0) 11 2 0
theorem x0R_SE {P H : Int} (m : Mem) : SE P H (x0R m) (asR m 258 0) := by
  have g : ∀ f j, f ≠ 11 → x0R m f j = asR m 258 0 f j := fun f j h => by
    unfold x0R
    rw [asU_f _ _ _ _ h, asU_f _ _ _ _ h, asU_f _ _ _ _ h]
  exact ⟨fun f j _ _ _ _ => g f j (by omega), fun f j _ _ _ _ => g f j (by omega), g 10 0 (by decide), g 10 1 (by decide)⟩
theorem x0_SN {m m' : Mem} : SN (x0C m) (x0R m') := fun j j0 j1 => by
  have : j = 0 ∨ j = 1 ∨ j = 2 := by omega
  rcases this with rfl | rfl | rfl <;> rfl
theorem x0R_110 (m : Mem) : x0R m 11 0 = 0 := by
  unfold x0R; rw [asU_j _ _ _ _ (by decide), asU_j _ _ _ _ (by decide), asU_v]
theorem x0C_110 (m : Mem) : x0C m 11 0 = 0 := by
  unfold x0C; rw [asU_j _ _ _ _ (by decide), asU_j _ _ _ _ (by decide), asU_v]
theorem hold_c {R : ENV → Int} {BE : Int → Int} {p : Int} {x : AS} (h6 : 0 ≤ x 6 p ∧ x 6 p ≤ 1) (h : 0 ≤ x 11 0 ∧ x 11 0 < 1000000) : x 11 0 ≤ holdS R BE p x 11 0 ∧ holdS R BE p x 11 0 ≤ x 11 0 + 1 := by
  unfold holdS
  split
  · split
    · rw [asU_f _ _ _ _ (by decide), asU_f _ _ _ _ (by decide), asU_f _ _ _ _ (by decide), asU_j _ _ _ _ (by decide), asU_j _ _ _ _ (by decide), asU_v, w32_eq (by omega) (by omega)]; omega
    · rw [asU_f _ _ _ _ (by omega)]; omega
  · omega
theorem hlds_c {R : ENV → Int} {BE : Int → Int} {x : AS} (h : 0 ≤ x 11 0 ∧ x 11 0 < 900000) : ∀ n : Nat, n ≤ 5 → (∀ p : Int, 0 ≤ p → p < n → 0 ≤ x 6 p ∧ x 6 p ≤ 1) → x 11 0 ≤ hlds R BE n x 11 0 ∧ hlds R BE n x 11 0 ≤ x 11 0 + n
  | 0, _, _ => ⟨Int.le_refl _, by show x 11 0 ≤ x 11 0 + 0; omega⟩
  | n + 1, hn, h6 => by
    obtain ⟨a, b⟩ := hlds_c (R := R) (BE := BE) h n (by omega) (fun p p0 p1 => h6 p p0 (by omega))
    have e6 := hlds_6 (R := R) (BE := BE) (x := x) n n (fun p p0 p1 => h6 p p0 (by omega))
    obtain ⟨c, d⟩ := hold_c (R := R) (BE := BE) (p := n) (x := hlds R BE n x) (by rw [e6]; exact h6 n (by omega) (by omega)) (by omega)
    show _ ≤ holdS R BE n (hlds R BE n x) 11 0 ∧ holdS R BE n (hlds R BE n x) 11 0 ≤ _
    omega
theorem sec_c {R : ENV → Int} {BE CO : Int → Int} {P H : Nat} {x : AS} (hH : H ≤ 5) (h : 0 ≤ x 11 0 ∧ x 11 0 < 900000) (h6 : ∀ p : Int, 0 ≤ p → p < H → 0 ≤ x 6 p ∧ x 6 p ≤ 1) : x 11 0 ≤ sec R BE CO P H x 11 0 ∧ sec R BE CO P H x 11 0 ≤ x 11 0 + 5 := by
  have e1 : sec R BE CO P H x 11 0 = hlds R BE H x 11 0 := sec_n (by decide)
  have := hlds_c (R := R) (BE := BE) h H hH h6
  rw [e1]; omega
/-- how often people are burnt in n seconds -/
theorem secs_c {R : ENV → Int} {BE CO : Int → Int} {L : Int} {P H : Nat} (hH : H ≤ 5) (hc : ∀ q : Int, 0 ≤ q → q < P → 0 ≤ CO q ∧ CO q ≤ 9) : ∀ (n : Nat) (x : AS), IV L P H x → 0 ≤ x 11 0 → x 11 0 + 5 * n < 900000 → x 11 0 ≤ secs R BE CO P H n x 11 0 ∧ secs R BE CO P H n x 11 0 ≤ x 11 0 + 5 * n
  | 0, x, _, _, _ => ⟨Int.le_refl _, by show x 11 0 ≤ _; omega⟩
  | n + 1, x, h, h0, h1 => by
    obtain ⟨a, b⟩ := sec_c (R := R) (BE := BE) (CO := CO) (P := P) hH ⟨h0, by omega⟩ (fun p p0 p1 => (h.1 p p0 p1).2.2.1)
    obtain ⟨c, d⟩ := secs_c (R := R) (BE := BE) hH hc n _ (IV_sec (R := R) (BE := BE) h hc) (by omega) (by omega)
    show _ ≤ secs R BE CO P H n (sec R BE CO P H x) 11 0 ∧ secs R BE CO P H n (sec R BE CO P H x) 11 0 ≤ _
    omega
abbrev NT0 (m : Mem) : Mem := upm (upm (upm (NTR m) 249 36 0) 249 37 0) 249 38 0
theorem NT0_J {g : Fg} {tc pl : Int} {m : Mem} (h : JR 3 g tc pl m) : JR 3 g tc pl (NT0 m) := by
  have hL := JR_l h
  exact JR_up (JR_up (JR_up (NTR_J h) (by first | decide | (unfold frR; omega)) (by simp [frc]) (by simp [BdR])) (by first | decide | (unfold frR; omega)) (by simp [frc]) (by simp [BdR])) (by first | decide | (unfold frR; omega)) (by simp [frc]) (by simp [BdR])
theorem NT0_A (m : Mem) : asR (NT0 m) 258 0 = x0R m := by
  unfold NT0 x0R
  rw [asR_c (j := 2) _ (by decide) (by decide) (by decide), asR_c (j := 1) _ (by decide) (by decide) (by decide), asR_c (j := 0) _ (by decide) (by decide) (by decide), NTR_A]
theorem NT0_f (m : Mem) {x j : Int} (h : x ≠ 269) (h2 : ¬ (x = 249 ∧ (j = 0 ∨ 36 ≤ j ∧ j ≤ 38))) : NT0 m x j = m x j := by
  unfold NT0
  rw [upm_app, if_neg (by omega), upm_app, if_neg (by omega), upm_app, if_neg (by omega)]
  exact NTR_f m h (by omega)
theorem FB_0 {m m3 : Mem} (h : FB (NT0 m) m3) : FB (NTR m) m3 := fun x j q => by
  rw [h x j q]
  unfold NT0
  rw [upm_app, if_neg (by omega), upm_app, if_neg (by omega), upm_app, if_neg (by omega)]
theorem ACR_end {tc pl e v s : Int} {g : Fg} {m m3 m4 m5 : Mem} {X : AR} {Q : Int → Sto → Prop} (hu : 0 ≤ m 249 39 ∧ m 249 39 ≤ 15) (h3 : FB (NTR m) m3) (hv : (v, asR m3 258 0) = X) (hq : ∀ m', JR 3 g tc pl m' → ACR m m' s → (v, asR m' 258 0) = X → Q v (S9 e m')) (h4 : s < 0 ∧ m4 = m5 ∨ 0 ≤ s ∧ ADR m5 m4) (hJ : JR 3 g tc pl m4) (hr : RwR m3 m5) : Q v (S9 e m4) := by
  have e39 : m5 249 39 = m 249 39 := (hr 249 39 (by decide) (by omega)).trans ((h3 249 39 (by omega)).trans (NTR_f m (by decide) (by omega)))
  have c3 : ∀ x j, (x < 249 ∨ (x = 249 ∧ j = 32) ∨ (251 ≤ x ∧ x ≤ 257) ∨ x = 265 ∨ x = 287) → m5 x j = m x j := fun x j q => (hr x j (by omega) (by omega)).trans ((h3 x j (by omega)).trans (NTR_f m (by omega) (by omega)))
  have c9 : ∀ y, m5 269 y = NTR m 269 y := fun y => (hr 269 y (by decide) (by omega)).trans (h3 269 y (by omega))
  have eA : asR m5 258 0 = asR m3 258 0 := asR_fr (fun y _ _ => hr 258 _ (by decide) (by omega)) (fun y _ _ => hr 249 y (by decide) (by omega))
  rcases h4 with ⟨hs, e⟩ | ⟨hs, hf, h4⟩
  · rw [e] at hJ ⊢
    exact hq m5 hJ ⟨c3, Or.inl ⟨hs, e39, fun y hy => (c9 y).trans (NTR_lo m hy)⟩⟩ (by rw [eA]; exact hv)
  · refine hq m4 hJ ⟨fun x j q => (hf x j (by omega) (by omega)).trans (c3 x j q), ?_⟩ (by rw [show asR m4 258 0 = asR m5 258 0 from asR_fr (fun y _ _ => hf 258 _ (by decide) (by omega)) (fun y _ _ => hf 249 y (by decide) (by omega)), eA]; exact hv)
    rcases h4 with ⟨q, q1, q2⟩ | ⟨q, q1, q2⟩
    · right; left
      exact ⟨hs, by omega, by omega, fun y hy => ((q2 y).trans (c9 y)).trans (NTR_lo m hy), fun y y0 y1 => ((q2 _).trans (c9 _)).trans (NTR_hi m y0 y1)⟩
    · right; right
      refine ⟨hs, by omega, q1, fun y y0 y1 => ?_, fun y y0 y1 => ?_⟩
      · rw [q2 y y0 (by omega), c9]; exact NTR_lo m (by omega)
      · rw [q2 _ (by omega) (by omega), c9, show 728 + y + 52 = 52 * m 249 39 + y by omega]; exact NTR_hi m y0 y1
theorem walk_p {R : ENV → Int} {BE CO : Int → Int} {P H : Nat} {W : Int} {O T S D : Int → Int} {x y : AS} {a b v : Int} (h : (v, y) = aWalk R BE CO P H W O T S D x a b) (hv : 0 ≤ v) : 0 ≤ a ∧ a < H := by
  unfold aWalk at h
  by_cases z : per H a
  · exact z
  · rw [if_pos z] at h
    have := congrArg Prod.fst h
    simp only at this
    omega
set_option maxHeartbeats 8000000 in
theorem f_221 {d : Nat} {tc pl e : Int} {g : Fg} {m : Mem} {Q : Int → Sto → Prop} {R : ENV → Int} {L : Int} {a b : Int} (hJ : JR 3 g tc pl m) (hI : IV L (m 249 5) (m 249 6) (asR m 258 0)) (hK : KR2 m) (hR : RuR m R) (hq : ∀ v m', JR 3 g tc pl m' → ACR m m' v → (v, asR m' 258 0) = aWalk R (m 257) (m 256) (m 249 5).toNat (m 249 6).toNat (m 249 4) (m 252) (m 253) (m 254) (m 255) (x0R m) a b → Q v (S9 e m')) : Cl (d + 8) 221 [249, a, b] Q (S9 e m) := by
  have hs := JR_s hJ
  have hL := JR_l hJ
  have hu : 0 ≤ m 249 39 ∧ m 249 39 ≤ 15 := by omega
  have n4 : NT0 m 249 4 = m 249 4 := NT0_f m (by decide) (by omega)
  have n5 : NT0 m 249 5 = m 249 5 := NT0_f m (by decide) (by omega)
  have n6 : NT0 m 249 6 = m 249 6 := NT0_f m (by decide) (by omega)
  have n32 : NT0 m 249 32 = m 249 32 := NT0_f m (by decide) (by omega)
  have n252 : NT0 m 252 = m 252 := by funext j; exact NT0_f m (by decide) (by omega)
  have n253 : NT0 m 253 = m 253 := by funext j; exact NT0_f m (by decide) (by omega)
  have n254 : NT0 m 254 = m 254 := by funext j; exact NT0_f m (by decide) (by omega)
  have n255 : NT0 m 255 = m 255 := by funext j; exact NT0_f m (by decide) (by omega)
  have n256 : NT0 m 256 = m 256 := by funext j; exact NT0_f m (by decide) (by omega)
  have n257 : NT0 m 257 = m 257 := by funext j; exact NT0_f m (by decide) (by omega)
  have n265 : NT0 m 265 = m 265 := by funext j; exact NT0_f m (by decide) (by omega)
  have hJ2 := NT0_J hJ
  have hI2 : IV L (NT0 m 249 5) (NT0 m 249 6) (asR (NT0 m) 258 0) := by rw [n5, n6, NT0_A]; exact IV_SE hI (SE_sy (x0R_SE m))
  have hK2 : KR2 (NT0 m) := KR2_fr hK n5 n6 (fun j => by rw [n256]) (fun j => by rw [n257])
  have hR2 : RuR (NT0 m) R := RuR_fr hR n32 (fun j => by rw [n265])
  simp only [cl_221, runB, B221, ma_221, rho_200, wf_13_304, wf_13_36, wpf_13_126, wpf_13_130, wpopadd_pf_13_130, wc_188, wc_215, wc_217, wc_222, wc_223, wc_225, cl_222, B222, ma_222, rho_2, wpf_13_304, wpopadd_pf_13_304, wpf_13_307, wpopor_pf_13_307, wpf_13_310, wpopor_pf_13_310, cl_225, B225, ma_225, rho_21, wf_13_130, wf_13_9, w_cst, w_ldi, w_ldj, w_lda, w_ljk, w_ldk, w_ldw, w_ldk2, w_ldt, w_ldtw, w_neg, w_cvb, w_cvs, w_cvc, w_cvj, w_add, w_sub, w_mul, w_ban, w_bor, w_bxo, w_shl, w_shr, w_ush, w_dvi, w_rmi, w_aldi, w_aldj, w_aldz, w_aldc, w_alda, w_ite, w_cmp, w_cmj, w_cz, w_cnot, w_cand, w_cor, w_nil, w_cons, w_cvi, w_csta, w_cvt, w_cvv, w_csv, w_cpy, w_seq, w_sbr, w_sbn, w_brk, w_ifs, w_ifx, w_ife, w_wk, w_rets, w_rtv, w_thr, w_asi, w_asj, w_asa, w_inc, w_exs, w_asti, w_astj, w_astz, w_astc, w_aopadd, w_aopsub, w_sw, if_true, if_false, ↓reduceIte, hdl_c, S9_1, S9_m, bud9, live9, inb9, wrn, wr9_14, wr9_15, wr9_16, wr9_17, tq9_14, tq9_15, tq9_16, tq9_17, tq_0, tq_1, tq_3, upr_rl, rl_0, rl_1, rl_2, rl_3, rl_4, rl_5, rl_6, rl_7, rl_8, rl_9, rl_10, rl_11, rl_12, rl_13, sp_0, sp_1, sp_2, sp_3, sp_4, sp_5, sp_6, sp_7, sp_8, sp_9, sp_10, sp_11, sp_12, sp_13, se_0, se_1, se_2, se_3, se_4, se_5, se_6, se_7, se_8, se_9, se_10, se_11, se_12, se_13, sem_0, sem_1, sem_2, sem_3, sem_4, sem_5, kc_249, kl9_249, sr_249_10, sr_249_11, sr_249_12, sr_249_13, sr_249_14, sr_249_15, sr_249_16, sr_249_17, sr_249_2, sr_249_22, sr_249_23, sr_249_24, sr_249_25, sr_249_30, sr_249_31, sr_249_34, sr_249_35, sr_249_40, sr_249_41, sr_249_42, sr_249_43, sr_249_50, sr_249_51, sr_249_52, sr_249_54, sr_249_55, sr_249_57, sr_249_58, sr_249_61, sr_249_63, sr_249_64, sr_249_67, sr_249_68, sr_249_69, sr_249_70, sr_249_71, sr_249_8, sr_249_9, kc_250, kl9_250, kc_258, kl9_258, kc_269, kl9_269, List.getD_cons_zero, List.getD_cons_succ, Bool.false_eq_true, wrn3, wrn1, cpmS, cpok9, upm_app, Int.reduceEq, and_self, and_true, true_and, and_false, false_and, if_true, if_false, ↓reduceIte, Int.reduceToNat, upm_f, Int.reduceEq, Int.reduceNe, ne_eq, not_false_eq_true, not_true_eq_false]
  repeat' (first
    | (with_reducible exact True.intro)
    | omega
    | (with_reducible rfl)
    | (with_reducible contradiction)
    | (with_reducible refine And.intro ?_ ?_)
    | intro _
    | ((with_reducible refine p_215x ?_ (fun v9 => ?_)); (next => simp only [upm_app, Int.reduceEq, and_self, and_true, true_and, and_false, false_and, if_true, if_false, ↓reduceIte, Int.reduceToNat, upm_f, Int.reduceEq, Int.reduceNe, ne_eq, not_false_eq_true, not_true_eq_false]; omega); (try simp only [hdl_c, S9_1, S9_m, bud9, live9, inb9, wrn, wr9_14, wr9_15, wr9_16, wr9_17, tq9_14, tq9_15, tq9_16, tq9_17, tq_0, tq_1, tq_3, upr_rl, rl_0, rl_1, rl_2, rl_3, rl_4, rl_5, rl_6, rl_7, rl_8, rl_9, rl_10, rl_11, rl_12, rl_13, sp_0, sp_1, sp_2, sp_3, sp_4, sp_5, sp_6, sp_7, sp_8, sp_9, sp_10, sp_11, sp_12, sp_13, se_0, se_1, se_2, se_3, se_4, se_5, se_6, se_7, se_8, se_9, se_10, se_11, se_12, se_13, sem_0, sem_1, sem_2, sem_3, sem_4, sem_5, List.getD_cons_zero, List.getD_cons_succ, Bool.false_eq_true, wrn3, wrn1, cpmS, cpok9, if_true, if_false, ↓reduceIte, wc_188, wc_215, wc_217, wc_222, wc_223, wc_225, cl_222, runB, B222, ma_222, rho_2, wpf_13_304, wpopadd_pf_13_304, wpf_13_307, wpopor_pf_13_307, wpf_13_310, wpopor_pf_13_310, cl_225, B225, ma_225, rho_21, wf_13_130, wf_13_9, wpf_13_130, wpopadd_pf_13_130, w_cst, w_ldi, w_ldj, w_lda, w_ljk, w_ldk, w_ldw, w_ldk2, w_ldt, w_ldtw, w_neg, w_cvb, w_cvs, w_cvc, w_cvj, w_add, w_sub, w_mul, w_ban, w_bor, w_bxo, w_shl, w_shr, w_ush, w_dvi, w_rmi, w_aldi, w_aldj, w_aldz, w_aldc, w_alda, w_ite, w_cmp, w_cmj, w_cz, w_cnot, w_cand, w_cor, w_nil, w_cons, w_cvi, w_csta, w_cvt, w_cvv, w_csv, w_cpy, w_seq, w_sbr, w_sbn, w_brk, w_ifs, w_ifx, w_ife, w_wk, w_rets, w_rtv, w_thr, w_asi, w_asj, w_asa, w_inc, w_exs, w_asti, w_astj, w_astz, w_astc, w_aopadd, w_aopsub, w_sw, if_true, if_false, ↓reduceIte, kc_249, kl9_249, sr_249_10, sr_249_11, sr_249_12, sr_249_13, sr_249_14, sr_249_15, sr_249_16, sr_249_17, sr_249_2, sr_249_22, sr_249_23, sr_249_24, sr_249_25, sr_249_30, sr_249_31, sr_249_34, sr_249_35, sr_249_40, sr_249_41, sr_249_42, sr_249_43, sr_249_50, sr_249_51, sr_249_52, sr_249_54, sr_249_55, sr_249_57, sr_249_58, sr_249_61, sr_249_63, sr_249_64, sr_249_67, sr_249_68, sr_249_69, sr_249_70, sr_249_71, sr_249_8, sr_249_9, kc_250, kl9_250, kc_258, kl9_258, kc_269, kl9_269, upm_app, Int.reduceEq, and_self, and_true, true_and, and_false, false_and, if_true, if_false, ↓reduceIte, Int.reduceToNat, upm_f, Int.reduceEq, Int.reduceNe, ne_eq, not_false_eq_true, not_true_eq_false]))
    | ((with_reducible refine f_223 (g := g) (tc := tc) (pl := pl) (R := R) (L := L) hJ2 hI2 hK2 hR2 (fun v2 m3 hJ3 hF3 h3 => ?_)); (try simp only [n4, n5, n6, n252, n253, n254, n255, n256, n257, NT0_A] at h3); have hs3 := JR_s hJ3; have k21 : 0 ≤ v2 → 0 ≤ a ∧ a ≤ 4 ∧ 0 ≤ m3 258 (18 + 7 * a) ∧ m3 258 (18 + 7 * a) ≤ 1 := (fun q => by have q1 := walk_p h3 q; have q2 := JW_p (JW_mk hJ3) a q1.1 (by omega); omega); (try simp only [hdl_c, S9_1, S9_m, bud9, live9, inb9, wrn, wr9_14, wr9_15, wr9_16, wr9_17, tq9_14, tq9_15, tq9_16, tq9_17, tq_0, tq_1, tq_3, upr_rl, rl_0, rl_1, rl_2, rl_3, rl_4, rl_5, rl_6, rl_7, rl_8, rl_9, rl_10, rl_11, rl_12, rl_13, sp_0, sp_1, sp_2, sp_3, sp_4, sp_5, sp_6, sp_7, sp_8, sp_9, sp_10, sp_11, sp_12, sp_13, se_0, se_1, se_2, se_3, se_4, se_5, se_6, se_7, se_8, se_9, se_10, se_11, se_12, se_13, sem_0, sem_1, sem_2, sem_3, sem_4, sem_5, List.getD_cons_zero, List.getD_cons_succ, Bool.false_eq_true, wrn3, wrn1, cpmS, cpok9, if_true, if_false, ↓reduceIte, wc_188, wc_215, wc_217, wc_222, wc_223, wc_225, cl_222, runB, B222, ma_222, rho_2, wpf_13_304, wpopadd_pf_13_304, wpf_13_307, wpopor_pf_13_307, wpf_13_310, wpopor_pf_13_310, cl_225, B225, ma_225, rho_21, wf_13_130, wf_13_9, wpf_13_130, wpopadd_pf_13_130, w_cst, w_ldi, w_ldj, w_lda, w_ljk, w_ldk, w_ldw, w_ldk2, w_ldt, w_ldtw, w_neg, w_cvb, w_cvs, w_cvc, w_cvj, w_add, w_sub, w_mul, w_ban, w_bor, w_bxo, w_shl, w_shr, w_ush, w_dvi, w_rmi, w_aldi, w_aldj, w_aldz, w_aldc, w_alda, w_ite, w_cmp, w_cmj, w_cz, w_cnot, w_cand, w_cor, w_nil, w_cons, w_cvi, w_csta, w_cvt, w_cvv, w_csv, w_cpy, w_seq, w_sbr, w_sbn, w_brk, w_ifs, w_ifx, w_ife, w_wk, w_rets, w_rtv, w_thr, w_asi, w_asj, w_asa, w_inc, w_exs, w_asti, w_astj, w_astz, w_astc, w_aopadd, w_aopsub, w_sw, if_true, if_false, ↓reduceIte, kc_249, kl9_249, sr_249_10, sr_249_11, sr_249_12, sr_249_13, sr_249_14, sr_249_15, sr_249_16, sr_249_17, sr_249_2, sr_249_22, sr_249_23, sr_249_24, sr_249_25, sr_249_30, sr_249_31, sr_249_34, sr_249_35, sr_249_40, sr_249_41, sr_249_42, sr_249_43, sr_249_50, sr_249_51, sr_249_52, sr_249_54, sr_249_55, sr_249_57, sr_249_58, sr_249_61, sr_249_63, sr_249_64, sr_249_67, sr_249_68, sr_249_69, sr_249_70, sr_249_71, sr_249_8, sr_249_9, kc_250, kl9_250, kc_258, kl9_258, kc_269, kl9_269, upm_app, Int.reduceEq, and_self, and_true, true_and, and_false, false_and, if_true, if_false, ↓reduceIte, Int.reduceToNat, upm_f, Int.reduceEq, Int.reduceNe, ne_eq, not_false_eq_true, not_true_eq_false]))
    | ((with_reducible refine f_217 (g := g) (tc := tc) (pl := pl) ?_ (fun q => ?_) (fun q m4 hJ4 h4 => ?_)); (next => repeat (first | assumption | (refine JR_up ?_ (by first | decide | (unfold frR; omega)) (by first | decide | simp [frc]) (by first | (simp [BdR]; done) | (simp [BdR] <;> first | omega | (unfold w32; omega)))))); all_goals (try simp only [hdl_c, S9_1, S9_m, bud9, live9, inb9, wrn, wr9_14, wr9_15, wr9_16, wr9_17, tq9_14, tq9_15, tq9_16, tq9_17, tq_0, tq_1, tq_3, upr_rl, rl_0, rl_1, rl_2, rl_3, rl_4, rl_5, rl_6, rl_7, rl_8, rl_9, rl_10, rl_11, rl_12, rl_13, sp_0, sp_1, sp_2, sp_3, sp_4, sp_5, sp_6, sp_7, sp_8, sp_9, sp_10, sp_11, sp_12, sp_13, se_0, se_1, se_2, se_3, se_4, se_5, se_6, se_7, se_8, se_9, se_10, se_11, se_12, se_13, sem_0, sem_1, sem_2, sem_3, sem_4, sem_5, List.getD_cons_zero, List.getD_cons_succ, Bool.false_eq_true, wrn3, wrn1, cpmS, cpok9, if_true, if_false, ↓reduceIte, wc_188, wc_215, wc_217, wc_222, wc_223, wc_225, cl_222, runB, B222, ma_222, rho_2, wpf_13_304, wpopadd_pf_13_304, wpf_13_307, wpopor_pf_13_307, wpf_13_310, wpopor_pf_13_310, cl_225, B225, ma_225, rho_21, wf_13_130, wf_13_9, wpf_13_130, wpopadd_pf_13_130, w_cst, w_ldi, w_ldj, w_lda, w_ljk, w_ldk, w_ldw, w_ldk2, w_ldt, w_ldtw, w_neg, w_cvb, w_cvs, w_cvc, w_cvj, w_add, w_sub, w_mul, w_ban, w_bor, w_bxo, w_shl, w_shr, w_ush, w_dvi, w_rmi, w_aldi, w_aldj, w_aldz, w_aldc, w_alda, w_ite, w_cmp, w_cmj, w_cz, w_cnot, w_cand, w_cor, w_nil, w_cons, w_cvi, w_csta, w_cvt, w_cvv, w_csv, w_cpy, w_seq, w_sbr, w_sbn, w_brk, w_ifs, w_ifx, w_ife, w_wk, w_rets, w_rtv, w_thr, w_asi, w_asj, w_asa, w_inc, w_exs, w_asti, w_astj, w_astz, w_astc, w_aopadd, w_aopsub, w_sw, if_true, if_false, ↓reduceIte, kc_249, kl9_249, sr_249_10, sr_249_11, sr_249_12, sr_249_13, sr_249_14, sr_249_15, sr_249_16, sr_249_17, sr_249_2, sr_249_22, sr_249_23, sr_249_24, sr_249_25, sr_249_30, sr_249_31, sr_249_34, sr_249_35, sr_249_40, sr_249_41, sr_249_42, sr_249_43, sr_249_50, sr_249_51, sr_249_52, sr_249_54, sr_249_55, sr_249_57, sr_249_58, sr_249_61, sr_249_63, sr_249_64, sr_249_67, sr_249_68, sr_249_69, sr_249_70, sr_249_71, sr_249_8, sr_249_9, kc_250, kl9_250, kc_258, kl9_258, kc_269, kl9_269, upm_app, Int.reduceEq, and_self, and_true, true_and, and_false, false_and, if_true, if_false, ↓reduceIte, Int.reduceToNat, upm_f, Int.reduceEq, Int.reduceNe, ne_eq, not_false_eq_true, not_true_eq_false]))
    | (with_reducible refine p_188 ?_ ?_; (next => first | omega | (with_reducible rfl) | decide | (unfold w32; omega) | (simp (disch := omega) only [w32_eq]; omega) | (simp [upm] <;> (first | omega | (unfold w32; omega)))); simp only [hdl_c, S9_1, S9_m, bud9, live9, inb9, wrn, wr9_14, wr9_15, wr9_16, wr9_17, tq9_14, tq9_15, tq9_16, tq9_17, tq_0, tq_1, tq_3, upr_rl, rl_0, rl_1, rl_2, rl_3, rl_4, rl_5, rl_6, rl_7, rl_8, rl_9, rl_10, rl_11, rl_12, rl_13, sp_0, sp_1, sp_2, sp_3, sp_4, sp_5, sp_6, sp_7, sp_8, sp_9, sp_10, sp_11, sp_12, sp_13, se_0, se_1, se_2, se_3, se_4, se_5, se_6, se_7, se_8, se_9, se_10, se_11, se_12, se_13, sem_0, sem_1, sem_2, sem_3, sem_4, sem_5, List.getD_cons_zero, List.getD_cons_succ, Bool.false_eq_true, wrn3, wrn1, cpmS, cpok9, if_true, if_false, ↓reduceIte, wc_188, wc_215, wc_217, wc_222, wc_223, wc_225, cl_222, runB, B222, ma_222, rho_2, wpf_13_304, wpopadd_pf_13_304, wpf_13_307, wpopor_pf_13_307, wpf_13_310, wpopor_pf_13_310, cl_225, B225, ma_225, rho_21, wf_13_130, wf_13_9, wpf_13_130, wpopadd_pf_13_130, w_cst, w_ldi, w_ldj, w_lda, w_ljk, w_ldk, w_ldw, w_ldk2, w_ldt, w_ldtw, w_neg, w_cvb, w_cvs, w_cvc, w_cvj, w_add, w_sub, w_mul, w_ban, w_bor, w_bxo, w_shl, w_shr, w_ush, w_dvi, w_rmi, w_aldi, w_aldj, w_aldz, w_aldc, w_alda, w_ite, w_cmp, w_cmj, w_cz, w_cnot, w_cand, w_cor, w_nil, w_cons, w_cvi, w_csta, w_cvt, w_cvv, w_csv, w_cpy, w_seq, w_sbr, w_sbn, w_brk, w_ifs, w_ifx, w_ife, w_wk, w_rets, w_rtv, w_thr, w_asi, w_asj, w_asa, w_inc, w_exs, w_asti, w_astj, w_astz, w_astc, w_aopadd, w_aopsub, w_sw, if_true, if_false, ↓reduceIte, kc_249, kl9_249, sr_249_10, sr_249_11, sr_249_12, sr_249_13, sr_249_14, sr_249_15, sr_249_16, sr_249_17, sr_249_2, sr_249_22, sr_249_23, sr_249_24, sr_249_25, sr_249_30, sr_249_31, sr_249_34, sr_249_35, sr_249_40, sr_249_41, sr_249_42, sr_249_43, sr_249_50, sr_249_51, sr_249_52, sr_249_54, sr_249_55, sr_249_57, sr_249_58, sr_249_61, sr_249_63, sr_249_64, sr_249_67, sr_249_68, sr_249_69, sr_249_70, sr_249_71, sr_249_8, sr_249_9, kc_250, kl9_250, kc_258, kl9_258, kc_269, kl9_269, upm_app, Int.reduceEq, and_self, and_true, true_and, and_false, false_and, if_true, if_false, ↓reduceIte, Int.reduceToNat, upm_f, Int.reduceEq, Int.reduceNe, ne_eq, not_false_eq_true, not_true_eq_false]; (try simp (disch := omega) only [w15_0, w15_1, w15_3, w15_4, w15_5, w15_6, w3_0, w3_1, w3_2, upm_app, Int.reduceEq, and_self, and_true, true_and, and_false, false_and, if_true, if_false, ↓reduceIte]))
    | ((with_reducible refine ACR_end (s := v2) hu (FB_0 hF3) h3 (hq _) (Or.inl ⟨?_, rfl⟩) ?_ ?_); (next => omega); (next => repeat (first | assumption | (refine JR_up ?_ (by first | decide | (unfold frR; omega)) (by first | decide | simp [frc]) (by first | (simp [BdR]; done) | (simp [BdR] <;> first | omega | (unfold w32; omega)))))); (next => intro x j z1 z2; (try simp only [upm_app]); (repeat rw [if_neg (by omega)])))
    | ((with_reducible refine ACR_end (s := v2) hu (FB_0 hF3) h3 (hq _) (Or.inr ⟨?_, h4⟩) hJ4 ?_); (next => omega); (next => intro x j z1 z2; (try simp only [upm_app]); (repeat rw [if_neg (by omega)])))
    | (exfalso; omega)
    | (have k := k21 (by omega); (try simp (disch := omega) only [w15_0, w15_1, w15_3, w15_4, w15_5, w15_6, upm_app, Int.reduceEq, and_self, and_true, true_and, and_false, false_and, if_true, if_false, ↓reduceIte, Int.reduceToNat, upm_f, Int.reduceEq, Int.reduceNe, ne_eq, not_false_eq_true, not_true_eq_false]); first | omega | (unfold w32; omega))
    | (unfold w32; omega)
    | (simp (disch := omega) only [w32_eq]; omega)
    | (with_reducible show (_ : Int) ≤ _; simp [upm] <;> (first | omega | (unfold w32; omega)))
    | (with_reducible show (_ : Int) < _; simp [upm] <;> (first | omega | (unfold w32; omega))))

