/-! the reference's second over what is now -/
theorem w3a {i : Int} (h0 : 0 ≤ i) (h1 : i ≤ 5) : w32 (w32 (3 * i) + 0) = 3 * i := by
  rw [w32_eq (v := 3 * i) (by omega) (by omega), Int.add_zero, w32_eq (by omega) (by omega)]
theorem w3b {i : Int} (h0 : 0 ≤ i) (h1 : i ≤ 5) : w32 (w32 (3 * i) + 2) = 3 * i + 2 := by
  rw [w32_eq (v := 3 * i) (by omega) (by omega), w32_eq (by omega) (by omega)]
theorem w15x {p h : Int} (h0 : 0 ≤ p) (h1 : p ≤ 4) (hh : 0 ≤ h ∧ h ≤ 1) : w32 (16 + 7 * p + h) = 16 + 7 * p + h := by unfold w32; omega
abbrev FB (m m' : Mem) : Prop := ∀ x j, ¬ (x = 258 ∨ x = 267 ∨ x = 268 ∨ (x = 249 ∧ 36 ≤ j ∧ j ≤ 38)) → m' x j = m x j
def KR2 (m : Mem) : Prop := (∀ p, 0 ≤ p → p < m 249 6 → inI (m 257 p)) ∧ (∀ q, 0 ≤ q → q < m 249 5 → 0 ≤ m 256 q ∧ m 256 q ≤ 9)
theorem KR2_fr {m m' : Mem} (h : KR2 m) (e5 : m' 249 5 = m 249 5) (e6 : m' 249 6 = m 249 6) (e13 : ∀ j, m' 256 j = m 256 j) (e14 : ∀ j, m' 257 j = m 257 j) : KR2 m' :=
  ⟨fun p p0 p1 => by rw [e14]; exact h.1 p p0 (by rw [← e6]; exact p1), fun q q0 q1 => by rw [e13]; exact h.2 q q0 (by rw [← e5]; exact q1)⟩
section
variable (m : Mem) {i j : Int}
theorem r_0 (hj : 0 ≤ j ∧ j < 5) : asR m i 0 0 j = m i (3 * j) := by rw [q_p m (by decide) hj]; congr 1; omega
theorem r_1 (hj : 0 ≤ j ∧ j < 5) : asR m i 0 1 j = m i (3 * j + 1) := by rw [q_p m (by decide) hj]; congr 1; omega
theorem r_2 (hj : 0 ≤ j ∧ j < 5) : asR m i 0 2 j = m i (3 * j + 2) := by rw [q_p m (by decide) hj]; congr 1; omega
theorem r_3 (hj : 0 ≤ j ∧ j < 5) : asR m i 0 3 j = m i (15 + 7 * j) := by rw [q_h m (by decide) hj]; congr 1; omega
theorem r_h {h : Int} (hh : 0 ≤ h ∧ h ≤ 1) (hj : 0 ≤ j ∧ j < 5) : asR m i 0 (4 + h) j = m i (16 + 7 * j + h) := by rw [q_h m (by omega) hj]; congr 1; omega
theorem r_4 (hj : 0 ≤ j ∧ j < 5) : asR m i 0 4 j = m i (16 + 7 * j) := by rw [q_h m (by decide) hj]; congr 1; omega
theorem r_5 (hj : 0 ≤ j ∧ j < 5) : asR m i 0 5 j = m i (17 + 7 * j) := by rw [q_h m (by decide) hj]; congr 1; omega
theorem r_6 (hj : 0 ≤ j ∧ j < 5) : asR m i 0 6 j = m i (18 + 7 * j) := by rw [q_h m (by decide) hj]; congr 1; omega
theorem r_7 (hj : 0 ≤ j ∧ j < 5) : asR m i 0 7 j = m i (19 + 7 * j) := by rw [q_h m (by decide) hj]; congr 1; omega
theorem r_8 (hj : 0 ≤ j ∧ j < 5) : asR m i 0 8 j = m i (20 + 7 * j) := by rw [q_h m (by decide) hj]; congr 1; omega
theorem r_9 (hj : 0 ≤ j ∧ j < 5) : asR m i 0 9 j = m i (21 + 7 * j) := by rw [q_h m (by decide) hj]; congr 1; omega
theorem r_op : asR m i 0 10 0 = m i 50 := by rw [q_o m (by decide)]; rfl
theorem r_no : asR m i 0 10 1 = m i 51 := by rw [q_o m (by decide)]; rfl
theorem r_c0 : asR m i 0 11 0 = m 249 36 := by rw [q_c m (by decide)]; rfl
theorem r_c1 : asR m i 0 11 1 = m 249 37 := by rw [q_c m (by decide)]; rfl
theorem r_c2 : asR m i 0 11 2 = m 249 38 := by rw [q_c m (by decide)]; rfl
end
theorem asR_g {m m' : Mem} {i : Int} (h : ∀ y, y ≠ 267 → y ≠ 268 → m' y = m y) (hi : i ≠ 267 ∧ i ≠ 268) : asR m' i 0 = asR m i 0 :=
  asR_fr (fun y _ _ => by rw [h i hi.1 hi.2]) (fun y _ _ => by rw [h 249 (by decide) (by decide)])
set_option maxHeartbeats 8000000 in
theorem f_206 {d : Nat} {tc pl e : Int} {g : Fg} {m : Mem} {Q : Int → Sto → Prop} {R : ENV → Int} {L : Int} {a : Int} (hJ : JR 3 g tc pl m) (hI : IV L (m 249 5) (m 249 6) (asR m 258 0)) (hK : KR2 m) (hR : RuR m R) (h0 : 0 ≤ a) (h1 : a < m 249 6) (hq : ∀ v m', JR 3 g tc pl m' → (∀ y, y ≠ 267 → y ≠ 268 → m' y = m y) → (0 ≤ m 258 (20 + 7 * a) → v = thru R (m 257) (asR m 258 0) a) → Q v (S9 e m')) : Cl (d + 5) 206 [249, 258, a] Q (S9 e m) := by
  have hL := JR_l hJ
  have hs := JR_s hJ
  have hp5 : 0 ≤ a ∧ a < 5 := by omega
  obtain ⟨i1, i2, i3, i4, i5, i6, i7⟩ := hI.1 a h0 h1
  have hx0 := hI.2.2.1 (m 258 (20 + 7 * a))
  rw [r_8 m hp5] at i1
  rw [r_6 m hp5] at i3
  rw [r_7 m hp5] at i7
  have xw : asR m 258 0 (4 + m 258 (18 + 7 * a)) a = m 258 (16 + 7 * a + m 258 (18 + 7 * a)) := r_h m i3 hp5
  have iw : inI (m 258 (16 + 7 * a + m 258 (18 + 7 * a))) := by
    rw [← xw]
    have : m 258 (18 + 7 * a) = 0 ∨ m 258 (18 + 7 * a) = 1 := by omega
    rcases this with z | z
    · rw [z]; exact i5
    · rw [z]; exact i6
  have ew := w15x (p := a) h0 (by omega) i3
  have e51 := hI.2.2.2
  rw [r_no] at e51
  simp only [cl_206, runB, B206, ma_206, rho_220, wc_188, wc_207, w_cst, w_ldi, w_ldj, w_lda, w_ljk, w_ldk, w_ldw, w_ldk2, w_ldt, w_ldtw, w_neg, w_cvb, w_cvs, w_cvc, w_cvj, w_add, w_sub, w_mul, w_ban, w_bor, w_bxo, w_shl, w_shr, w_ush, w_dvi, w_rmi, w_aldi, w_aldj, w_aldz, w_aldc, w_alda, w_ite, w_cmp, w_cmj, w_cz, w_cnot, w_cand, w_cor, w_nil, w_cons, w_cvi, w_csta, w_cvt, w_cvv, w_csv, w_cpy, w_seq, w_sbr, w_sbn, w_brk, w_ifs, w_ifx, w_ife, w_wk, w_rets, w_rtv, w_thr, w_asi, w_asj, w_asa, w_inc, w_exs, w_asti, w_astj, w_astz, w_astc, w_aopadd, w_aopsub, w_sw, if_true, if_false, ↓reduceIte, hdl_c, S9_1, S9_m, bud9, live9, inb9, wrn, wr9_14, wr9_15, wr9_16, wr9_17, tq9_14, tq9_15, tq9_16, tq9_17, tq_0, tq_1, tq_3, upr_rl, rl_0, rl_1, rl_2, rl_3, rl_4, rl_5, rl_6, rl_7, rl_8, rl_9, rl_10, rl_11, rl_12, rl_13, sp_0, sp_1, sp_2, sp_3, sp_4, sp_5, sp_6, sp_7, sp_8, sp_9, sp_10, sp_11, sp_12, sp_13, se_0, se_1, se_2, se_3, se_4, se_5, se_6, se_7, se_8, se_9, se_10, se_11, se_12, se_13, sem_0, sem_1, sem_2, sem_3, sem_4, sem_5, sr_249_13, sr_249_51, sr_249_23, sr_249_42, sr_249_11, sr_249_34, sr_249_15, sr_249_52, kc_249, sr_249_68, sr_249_35, sr_249_9, sr_249_25, sr_249_58, sr_249_2, sr_249_67, kl9_249, sr_249_31, sr_249_43, sr_249_24, sr_249_10, sr_249_55, sr_249_41, sr_249_64, sr_249_61, sr_249_16, sr_249_14, sr_249_17, sr_249_70, sr_249_63, sr_249_71, sr_249_30, sr_249_50, sr_249_69, sr_249_12, sr_249_40, sr_249_54, sr_249_8, sr_249_22, sr_249_57, kc_256, kl9_256, kl9_257, kc_257, kl9_258, kc_258, List.getD_cons_zero, List.getD_cons_succ, Bool.false_eq_true, wrn3, wrn1, cpmS, cpok9, upm_app, Int.reduceEq, and_self, and_true, true_and, and_false, false_and, if_true, if_false, ↓reduceIte, Int.reduceToNat, upm_f, Int.reduceEq, Int.reduceNe, ne_eq, not_false_eq_true, not_true_eq_false]
  (try simp (disch := omega) only [w15_0, w15_1, w15_3, w15_4, w15_5, w15_6, w3_0, w3_1, w3_2, upm_app, Int.reduceEq, and_self, and_true, true_and, and_false, false_and, if_true, if_false, ↓reduceIte])
  repeat' (first
    | (with_reducible exact True.intro)
    | omega
    | (with_reducible rfl)
    | (with_reducible contradiction)
    | (with_reducible refine And.intro ?_ ?_)
    | intro _
    | (with_reducible refine p_188 ?_ ?_; (next => first | omega | (with_reducible rfl) | decide | (unfold w32; omega) | (simp (disch := omega) only [w32_eq]; omega) | (simp [upm] <;> (first | omega | (unfold w32; omega)))); simp only [hdl_c, S9_1, S9_m, bud9, live9, inb9, wrn, wr9_14, wr9_15, wr9_16, wr9_17, tq9_14, tq9_15, tq9_16, tq9_17, tq_0, tq_1, tq_3, upr_rl, rl_0, rl_1, rl_2, rl_3, rl_4, rl_5, rl_6, rl_7, rl_8, rl_9, rl_10, rl_11, rl_12, rl_13, sp_0, sp_1, sp_2, sp_3, sp_4, sp_5, sp_6, sp_7, sp_8, sp_9, sp_10, sp_11, sp_12, sp_13, se_0, se_1, se_2, se_3, se_4, se_5, se_6, se_7, se_8, se_9, se_10, se_11, se_12, se_13, sem_0, sem_1, sem_2, sem_3, sem_4, sem_5, List.getD_cons_zero, List.getD_cons_succ, Bool.false_eq_true, wrn3, wrn1, cpmS, cpok9, if_true, if_false, ↓reduceIte, wc_188, wc_207, sr_249_13, sr_249_51, sr_249_23, sr_249_42, sr_249_11, sr_249_34, sr_249_15, sr_249_52, kc_249, sr_249_68, sr_249_35, sr_249_9, sr_249_25, sr_249_58, sr_249_2, sr_249_67, kl9_249, sr_249_31, sr_249_43, sr_249_24, sr_249_10, sr_249_55, sr_249_41, sr_249_64, sr_249_61, sr_249_16, sr_249_14, sr_249_17, sr_249_70, sr_249_63, sr_249_71, sr_249_30, sr_249_50, sr_249_69, sr_249_12, sr_249_40, sr_249_54, sr_249_8, sr_249_22, sr_249_57, kc_256, kl9_256, kl9_257, kc_257, kl9_258, kc_258, upm_app, Int.reduceEq, and_self, and_true, true_and, and_false, false_and, if_true, if_false, ↓reduceIte, Int.reduceToNat, upm_f, Int.reduceEq, Int.reduceNe, ne_eq, not_false_eq_true, not_true_eq_false]; (try simp (disch := omega) only [w15_0, w15_1, w15_3, w15_4, w15_5, w15_6, w3_0, w3_1, w3_2, upm_app, Int.reduceEq, and_self, and_true, true_and, and_false, false_and, if_true, if_false, ↓reduceIte]))
    | ((try simp (disch := omega) only [ew, w3_0, w3_1, w3_2]); (with_reducible refine f_207 (g := g) (tc := tc) (pl := pl) (R := R) ?_ hJ hR ?_ (fun v9 m9 hJ9 hF9 w9 => ?_)); (next => omega); (next => refine ev8_r ?_ ?_ ?_ (hK.1 a h0 h1) ?_ ?_ ?_ ?_; (next => have q := (hx0 (by omega) (by omega)).1; rw [r_0 m (by omega)] at q; unfold inI; omega); (next => first | assumption | (unfold inI at *; omega)); (next => (try rw [ew]); first | assumption | (unfold inI at *; omega)); (next => exact e51); (next => unfold inI; omega); (next => unfold inI; omega); (next => unfold inI; omega)); simp only [hdl_c, S9_1, S9_m, bud9, live9, inb9, wrn, wr9_14, wr9_15, wr9_16, wr9_17, tq9_14, tq9_15, tq9_16, tq9_17, tq_0, tq_1, tq_3, upr_rl, rl_0, rl_1, rl_2, rl_3, rl_4, rl_5, rl_6, rl_7, rl_8, rl_9, rl_10, rl_11, rl_12, rl_13, sp_0, sp_1, sp_2, sp_3, sp_4, sp_5, sp_6, sp_7, sp_8, sp_9, sp_10, sp_11, sp_12, sp_13, se_0, se_1, se_2, se_3, se_4, se_5, se_6, se_7, se_8, se_9, se_10, se_11, se_12, se_13, sem_0, sem_1, sem_2, sem_3, sem_4, sem_5, List.getD_cons_zero, List.getD_cons_succ, Bool.false_eq_true, wrn3, wrn1, cpmS, cpok9, if_true, if_false, ↓reduceIte, wc_188, wc_207, sr_249_13, sr_249_51, sr_249_23, sr_249_42, sr_249_11, sr_249_34, sr_249_15, sr_249_52, kc_249, sr_249_68, sr_249_35, sr_249_9, sr_249_25, sr_249_58, sr_249_2, sr_249_67, kl9_249, sr_249_31, sr_249_43, sr_249_24, sr_249_10, sr_249_55, sr_249_41, sr_249_64, sr_249_61, sr_249_16, sr_249_14, sr_249_17, sr_249_70, sr_249_63, sr_249_71, sr_249_30, sr_249_50, sr_249_69, sr_249_12, sr_249_40, sr_249_54, sr_249_8, sr_249_22, sr_249_57, kc_256, kl9_256, kl9_257, kc_257, kl9_258, kc_258, upm_app, Int.reduceEq, and_self, and_true, true_and, and_false, false_and, if_true, if_false, ↓reduceIte, Int.reduceToNat, upm_f, Int.reduceEq, Int.reduceNe, ne_eq, not_false_eq_true, not_true_eq_false])
    | ((with_reducible refine hq _ _ hJ9 hF9 (fun _ => ?_)); rw [w9]; unfold thru hwm; rw [r_8 m hp5, r_6 m hp5, xw, r_7 m hp5, r_no, r_0 m (by omega)]; first | done | rfl | (rw [ew]))
    | ((with_reducible refine hq _ _ hJ (fun _ _ _ => rfl) (fun _ => ?_)); (exfalso; omega))
    | (exfalso; omega)
    | (unfold w32; omega)
    | (simp (disch := omega) only [w32_eq]; omega)
    | (with_reducible show (_ : Int) ≤ _; simp [upm] <;> (first | omega | (unfold w32; omega)))
    | (with_reducible show (_ : Int) < _; simp [upm] <;> (first | omega | (unfold w32; omega))))

theorem cool_2 {p v0 v1 : Int} {y : AS} (h : 0 ≤ y 6 p ∧ y 6 p ≤ 1) (h0 : v0 = if 0 ≤ y 8 p ∧ y 6 p = 0 then y 4 p else cl4 (y 4 p)) (h1 : v1 = if 0 ≤ y 8 p ∧ y 6 p = 1 then y 5 p else cl4 (y 5 p)) : asU (asU y 4 p v0) 5 p v1 = coolS p y := by
  subst h0 h1
  funext a b
  rw [coolS_app, asU_app, asU_app]
  by_cases z : a = 5 ∧ b = p
  · obtain ⟨rfl, rfl⟩ := z
    rw [if_pos ⟨rfl, rfl⟩]
    by_cases w : 0 ≤ y 8 b ∧ y 6 b = 1
    · rw [if_pos w, if_neg (by omega)]
    · rw [if_neg w, if_pos ⟨Or.inr rfl, rfl, by omega⟩]
  · rw [if_neg z]
    by_cases z2 : a = 4 ∧ b = p
    · obtain ⟨rfl, rfl⟩ := z2
      rw [if_pos ⟨rfl, rfl⟩]
      by_cases w : 0 ≤ y 8 b ∧ y 6 b = 0
      · rw [if_pos w, if_neg (by omega)]
      · rw [if_neg w, if_pos ⟨Or.inl rfl, rfl, by omega⟩]
    · rw [if_neg z2, if_neg (by omega)]
theorem asR_burn (m : Mem) {i p w q vb c1 c2 c3 h : Int} (hh : 0 ≤ h ∧ h ≤ 1) (hi : i = 16 + 7 * p + h) (hp : 0 ≤ p ∧ p < 5) (hq : 0 ≤ q ∧ q < 5) : asR (upm (upm (upm (upm (upm (upm (upm (upm m 258 i w) 258 (21 + 7 * p) vb) 258 (20 + 7 * p) (-1)) 258 (3 * q) 0) 258 (3 * q + 2) 1) 249 36 c1) 249 37 c2) 249 38 c3) 258 0 = asU (asU (asU (asU (asU (asU (asU (asU (asR m 258 0) (4 + h) p w) 9 p vb) 11 0 c1) 11 1 c2) 11 2 c3) 8 p (-1)) 0 q 0) 2 q 1 := by
  rw [asR_c (j := 2) _ (by decide) (by decide) (by decide), asR_c (j := 1) _ (by decide) (by decide) (by decide), asR_c (j := 0) _ (by decide) (by decide) (by decide), asR_p (f := 2) (j := q) _ (by decide) (by decide) hq (by omega), asR_p (f := 0) (j := q) _ (by decide) (by decide) hq (by omega), asR_h (f := 8) (j := p) _ (by decide) (by decide) hp (by omega), asR_h (f := 9) (j := p) _ (by decide) (by decide) hp (by omega), asR_h (f := 4 + h) (j := p) _ (by decide) (by omega) hp (by omega)]
  have k2 : ∀ (X : AS) (j v : Int), asU (asU X 2 q 1) 11 j v = asU (asU X 11 j v) 2 q 1 := fun X j v => asU_c (Or.inl (by decide))
  have k0 : ∀ (X : AS) (j v : Int), asU (asU X 0 q 0) 11 j v = asU (asU X 11 j v) 0 q 0 := fun X j v => asU_c (Or.inl (by decide))
  have k8 : ∀ (X : AS) (j v : Int), asU (asU X 8 p (-1)) 11 j v = asU (asU X 11 j v) 8 p (-1) := fun X j v => asU_c (Or.inl (by decide))
  simp only [k2, k0, k8]
theorem JR_burn {tc pl i h q w vb c1 c2 c3 : Int} {g : Fg} {m8 : Mem} (hJ : JR 3 g tc pl m8) (i0 : 0 ≤ i) (i5 : i < 5) (hh : 0 ≤ h ∧ h ≤ 1) (hq : 0 ≤ q ∧ q < 5) : JR 3 g tc pl (upm (upm (upm (upm (upm (upm (upm (upm m8 258 (16 + 7 * i + h) w) 258 (21 + 7 * i) vb) 258 (20 + 7 * i) (-1)) 258 (3 * q) 0) 258 (3 * q + 2) 1) 249 36 c1) 249 37 c2) 249 38 c3) := by
  have hL := JR_l hJ
  have hs := JR_s hJ
  refine JR_of hL ?_ (by decide); repeat (first | assumption | (refine JR_up ?_ (by first | decide | (unfold frR; omega)) (by first | decide | simp [frc]) (by first | (simp [BdR]; done) | (simp [BdR] <;> first | omega | (unfold w32; omega)) | (simp [BdR, upm] <;> first | omega | (unfold w32; omega)) | (refine BdR_n (by simp) ?_; (first | (refine rb_at ?_ ?_ <;> first | omega | (simp only [upm_app]; (repeat' split) <;> omega)) | (refine rb_us ?_ ?_ <;> first | omega | (simp only [upm_app]; (repeat' split) <;> omega)) | (refine rb_ho ?_ ?_ <;> first | omega | (simp only [upm_app]; (repeat' split) <;> omega)) | (refine rb_on ?_ ?_ <;> first | omega | (simp only [upm_app]; (repeat' split) <;> omega)) | ((try simp (disch := omega) only [w32_eq]); (refine (rb_i ?_ ?_).2 ?_ <;> omega)) | (refine rb_us ?_ ?_ <;> first | omega | (unfold w32; omega)))))))
theorem asR_burn2 {R : ENV → Int} {BE : Int → Int} {i w vb c1 c2 c3 h q : Int} {m8 m9 : Mem} (i0 : 0 ≤ i) (i5 : i < 5) (gA : asR m8 258 0 = asR m9 258 0) (h6 : m9 258 (18 + 7 * i) = h) (hh : 0 ≤ h ∧ h ≤ 1) (h8 : m9 258 (20 + 7 * i) = q) (hq : 0 ≤ q ∧ q < 5) (eb : bwm R BE (asR m9 258 0) i = w) (hb : BE i < w) (e9 : vb = w32 (m9 258 (21 + 7 * i) + 1)) (e1 : c1 = w32 (m9 249 36 + 1)) (e2 : c2 = ior (m9 249 37) (ishl 1 i)) (e3 : c3 = ior (m9 249 38) (ishl 1 q)) : asR (upm (upm (upm (upm (upm (upm (upm (upm m8 258 (16 + 7 * i + h) w) 258 (21 + 7 * i) vb) 258 (20 + 7 * i) (-1)) 258 (3 * q) 0) 258 (3 * q + 2) 1) 249 36 c1) 249 37 c2) 249 38 c3) 258 0 = holdS R BE i (asR m9 258 0) := by
  rw [asR_burn (h := h) _ hh rfl ⟨i0, i5⟩ hq, gA, hold_b (by rw [r_8 m9 ⟨i0, i5⟩]; omega) (by rw [eb]; exact hb), eb, r_6 m9 ⟨i0, i5⟩, r_8 m9 ⟨i0, i5⟩, r_9 m9 ⟨i0, i5⟩, r_c0, r_c1, r_c2, h6, h8, e9, e1, e2, e3]
theorem JR_pot {tc pl i v : Int} {g : Fg} {m9 : Mem} (hJ : JR 3 g tc pl m9) (i0 : 0 ≤ i) (i5 : i < 5) : JR 3 g tc pl (upm m9 258 (3 * i) v) :=
  JR_up hJ (by first | decide | (unfold frR; omega)) (by simp [frc]) (by refine BdR_n (by simp) ?_; refine rb_free ⟨by omega, by omega⟩ (fun _ => by omega) (fun z => by omega))
theorem asR_pot2 {CO : Int → Int} {L P H i v : Int} {m9 : Mem} (hI : IV L P H (asR m9 258 0)) (i0 : 0 ≤ i) (i1 : i < P) (hP : P ≤ 5) (hc : 0 ≤ CO i ∧ CO i ≤ 9) (hv : v = max 0 (w32 (m9 258 (3 * i) - (if m9 258 (3 * i + 2) = 0 then CO i else 0)))) : asR (upm m9 258 (3 * i) v) 258 0 = potS CO i (asR m9 258 0) := by
  rw [asR_p (f := 0) (j := i) _ (by decide) (by decide) ⟨i0, by omega⟩ (by omega), ← (pot_e (CO := CO) hI i0 i1 hc).1]
  unfold potT
  rw [r_0 m9 ⟨i0, by omega⟩, r_2 m9 ⟨i0, by omega⟩, hv]
