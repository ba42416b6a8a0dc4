set_option maxHeartbeats 8000000 in
theorem s_171x {d : Nat} {tc pl e W : Int} {g : Fg} {m : Mem} {Q : Int → Sto → Prop} {N : Int → Int} {a : Int} (ha : 0 ≤ a ∧ a ≤ 80) (hJ : JW 4 g tc pl N W m) (hq : ∀ v m', JW 4 g 0 pl N W m' → (v = tc ∧ m' 249 19 = 0 ∧ m' 249 20 = min tc a) → Q v (S9 e m')) : Cl (d + 2) 171 [249, a] Q (S9 e m) := by
  have hL := JW_l hJ
  have hs := JW_s hJ
  have h58 := JW_2 hJ
  simp only [cl_171, runB, B171, ma_171, rho_20, wf_13_160, wpf_13_160, wpopadd_pf_13_160, wpf_13_163, wpopadd_pf_13_163, wpopsub_pf_13_163, wpf_13_166, wpopadd_pf_13_166, wpopsub_pf_13_166, wpf_13_175, wc_19, cl_19, B19, ma_19, rho_00, w_cst, w_ldi, w_ldj, w_lda, w_ljk, w_ldk, w_ldw, w_ldk2, w_ldt, w_ldtw, w_neg, w_cvb, w_cvs, w_cvc, w_cvj, w_add, w_sub, w_mul, w_ban, w_bor, w_bxo, w_shl, w_shr, w_ush, w_dvi, w_rmi, w_aldi, w_aldj, w_aldz, w_aldc, w_alda, w_ite, w_cmp, w_cmj, w_cz, w_cnot, w_cand, w_cor, w_nil, w_cons, w_cvi, w_csta, w_cvt, w_cvv, w_csv, w_cpy, w_seq, w_sbr, w_sbn, w_brk, w_ifs, w_ifx, w_ife, w_wk, w_rets, w_rtv, w_thr, w_asi, w_asj, w_asa, w_inc, w_exs, w_asti, w_astj, w_astz, w_astc, w_aopadd, w_aopsub, w_sw, if_true, if_false, ↓reduceIte, hdl_c, S9_1, S9_m, bud9, live9, inb9, wrn, wr9_14, wr9_15, wr9_16, wr9_17, tq9_14, tq9_15, tq9_16, tq9_17, tq_0, tq_1, tq_3, upr_rl, rl_0, rl_1, rl_2, rl_3, rl_4, rl_5, rl_6, rl_7, rl_8, rl_9, rl_10, rl_11, rl_12, rl_13, sp_0, sp_1, sp_2, sp_3, sp_4, sp_5, sp_6, sp_7, sp_8, sp_9, sp_10, sp_11, sp_12, sp_13, se_0, se_1, se_2, se_3, se_4, se_5, se_6, se_7, se_8, se_9, se_10, se_11, se_12, se_13, sem_0, sem_1, sem_2, sem_3, sem_4, sem_5, kc_249, kl9_249, sr_249_10, sr_249_11, sr_249_12, sr_249_13, sr_249_14, sr_249_15, sr_249_16, sr_249_17, sr_249_2, sr_249_22, sr_249_23, sr_249_24, sr_249_25, sr_249_30, sr_249_31, sr_249_34, sr_249_35, sr_249_40, sr_249_41, sr_249_42, sr_249_43, sr_249_50, sr_249_51, sr_249_52, sr_249_54, sr_249_55, sr_249_57, sr_249_58, sr_249_61, sr_249_63, sr_249_64, sr_249_67, sr_249_68, sr_249_69, sr_249_70, sr_249_71, sr_249_8, sr_249_9, List.getD_cons_zero, List.getD_cons_succ, Bool.false_eq_true, wrn3, wrn1, cpmS, cpok9, h58]
  (try simp (disch := omega) only [w15_0, w15_1, w15_3, w15_4, w15_5, w15_6, w3_0, w3_1, w3_2, upm_app, Int.reduceEq, and_self, and_true, true_and, and_false, false_and, if_true, if_false, ↓reduceIte, h58])
  repeat' (first
    | (with_reducible exact True.intro)
    | omega
    | (with_reducible rfl)
    | (with_reducible contradiction)
    | (with_reducible refine And.intro ?_ ?_)
    | intro _
    | (with_reducible refine hq _ _ ?_ ?_; (next => refine JW_of hL ?_ (by decide); repeat (first | assumption | (exact JW_len0 (by assumption)) | (refine JW_up ?_ (by first | decide | (unfold frR; omega)) (by first | decide | simp [frc]) (by first | decide | simp [frw]) (by first | (simp [BdR]; done) | (simp [BdR] <;> first | omega | (unfold w32; omega)) | (simp [BdR, upm] <;> first | omega | (unfold w32; omega)) | (refine BdR_n (by simp) ?_; (first | (refine rb_at ?_ ?_ <;> first | omega | (simp only [upm_app]; (repeat' split) <;> omega)) | (refine rb_us ?_ ?_ <;> first | omega | (simp only [upm_app]; (repeat' split) <;> omega)) | (refine rb_ho ?_ ?_ <;> first | omega | (simp only [upm_app]; (repeat' split) <;> omega)) | (refine rb_on ?_ ?_ <;> first | omega | (simp only [upm_app]; (repeat' split) <;> omega)) | ((try simp (disch := omega) only [w32_eq]); (refine (rb_i ?_ ?_).2 ?_ <;> omega)) | (refine rb_us ?_ ?_ <;> first | omega | (unfold w32; omega)))))))); (next => (try simp only [upm_app, Int.reduceEq, and_self, and_true, true_and, and_false, false_and, if_true, if_false, ↓reduceIte]); omega))
    | (unfold w32; omega)
    | (simp (disch := omega) only [w32_eq]; omega)
    | (with_reducible show (_ : Int) ≤ _; simp [upm] <;> (first | omega | (unfold w32; omega)))
    | (with_reducible show (_ : Int) < _; simp [upm] <;> (first | omega | (unfold w32; omega))))

/-! the reference's kitchen with values, the whole -/
def kvM (m : Mem) : Int → Int := fun j =>
  if j < 100 then m 251 (j - 0) else
  if j < 120 then m 252 (j - 100) else
  if j < 140 then m 253 (j - 120) else
  if j < 160 then m 254 (j - 140) else
  if j < 200 then m 255 (j - 160) else
  if j < 210 then m 258 (3 * (j - 200)) else
  if j < 220 then m 258 (3 * (j - 210) + 1) else
  if j < 230 then m 258 (3 * (j - 220) + 2) else
  if j < 300 then m 256 (j - 230) else
  if j < 310 then m 257 (j - 300) else
  if j < 320 then m 258 (15 + 7 * (j - 310)) else
  if j < 330 then m 258 (16 + 7 * (j - 320)) else
  if j < 340 then m 258 (17 + 7 * (j - 330)) else
  if j < 350 then m 258 (18 + 7 * (j - 340)) else
  if j < 360 then m 258 (19 + 7 * (j - 350)) else
  if j < 370 then m 258 (20 + 7 * (j - 360)) else
  m 258 (21 + 7 * (j - 370))
theorem kvR_M {m : Mem} {j : Int} (hb : m 249 3 ≤ 10 ∧ m 249 4 ≤ 14 ∧ m 249 5 ≤ 5 ∧ m 249 6 ≤ 5) (h : VI (m 249 3) (m 249 4) (m 249 5) (m 249 6) j) : kvR m j = kvM m j := by
  unfold VI at h
  unfold kvR kvM
  by_cases h0 : j < 100
  · rw [if_pos h0, if_pos h0, if_pos (by omega)]
  rw [if_neg h0, if_neg h0]
  by_cases h1 : j < 120
  · rw [if_pos h1, if_pos h1, if_pos (by omega)]
  rw [if_neg h1, if_neg h1]
  by_cases h2 : j < 140
  · rw [if_pos h2, if_pos h2, if_pos (by omega)]
  rw [if_neg h2, if_neg h2]
  by_cases h3 : j < 160
  · rw [if_pos h3, if_pos h3, if_pos (by omega)]
  rw [if_neg h3, if_neg h3]
  by_cases h4 : j < 200
  · rw [if_pos h4, if_pos h4, if_pos (by omega)]
  rw [if_neg h4, if_neg h4]
  by_cases h5 : j < 210
  · rw [if_pos h5, if_pos h5, if_pos (by omega)]
  rw [if_neg h5, if_neg h5]
  by_cases h6 : j < 220
  · rw [if_pos h6, if_pos h6, if_pos (by omega)]
  rw [if_neg h6, if_neg h6]
  by_cases h7 : j < 230
  · rw [if_pos h7, if_pos h7, if_pos (by omega)]
  rw [if_neg h7, if_neg h7]
  by_cases h8 : j < 300
  · rw [if_pos h8, if_pos h8, if_pos (by omega)]
  rw [if_neg h8, if_neg h8]
  by_cases h9 : j < 310
  · rw [if_pos h9, if_pos h9, if_pos (by omega)]
  rw [if_neg h9, if_neg h9]
  by_cases h10 : j < 320
  · rw [if_pos h10, if_pos h10, if_pos (by omega)]
  rw [if_neg h10, if_neg h10]
  by_cases h11 : j < 330
  · rw [if_pos h11, if_pos h11, if_pos (by omega)]
  rw [if_neg h11, if_neg h11]
  by_cases h12 : j < 340
  · rw [if_pos h12, if_pos h12, if_pos (by omega)]
  rw [if_neg h12, if_neg h12]
  by_cases h13 : j < 350
  · rw [if_pos h13, if_pos h13, if_pos (by omega)]
  rw [if_neg h13, if_neg h13]
  by_cases h14 : j < 360
  · rw [if_pos h14, if_pos h14, if_pos (by omega)]
  rw [if_neg h14, if_neg h14]
  by_cases h15 : j < 370
  · rw [if_pos h15, if_pos h15, if_pos (by omega)]
  rw [if_neg h15, if_neg h15]
  rw [if_pos (by omega)]
theorem kvW_M {z3 z4 z5 z6 : Int} {m : Mem} {j : Int} (hb : m 249 3 ≤ 10 ∧ m 249 4 ≤ 14 ∧ m 249 5 ≤ 5 ∧ m 249 6 ≤ 5) (h : VI (m 249 3) (m 249 4) (m 249 5) (m 249 6) j) : kvW z3 z4 z5 z6 m j = kvM m j := by
  unfold VI at h
  unfold kvW kvM
  by_cases h0 : j < 100
  · rw [if_pos h0, if_pos h0, if_pos (by omega)]
  rw [if_neg h0, if_neg h0]
  by_cases h1 : j < 120
  · rw [if_pos h1, if_pos h1, if_pos (by omega)]
  rw [if_neg h1, if_neg h1]
  by_cases h2 : j < 140
  · rw [if_pos h2, if_pos h2, if_pos (by omega)]
  rw [if_neg h2, if_neg h2]
  by_cases h3 : j < 160
  · rw [if_pos h3, if_pos h3, if_pos (by omega)]
  rw [if_neg h3, if_neg h3]
  by_cases h4 : j < 200
  · rw [if_pos h4, if_pos h4, if_pos (by omega)]
  rw [if_neg h4, if_neg h4]
  by_cases h5 : j < 210
  · rw [if_pos h5, if_pos h5, if_pos (by omega)]
  rw [if_neg h5, if_neg h5]
  by_cases h6 : j < 220
  · rw [if_pos h6, if_pos h6, if_pos (by omega)]
  rw [if_neg h6, if_neg h6]
  by_cases h7 : j < 230
  · rw [if_pos h7, if_pos h7, if_pos (by omega)]
  rw [if_neg h7, if_neg h7]
  by_cases h8 : j < 300
  · rw [if_pos h8, if_pos h8, if_pos (by omega)]
  rw [if_neg h8, if_neg h8]
  by_cases h9 : j < 310
  · rw [if_pos h9, if_pos h9, if_pos (by omega)]
  rw [if_neg h9, if_neg h9]
  by_cases h10 : j < 320
  · rw [if_pos h10, if_pos h10, if_pos (by omega)]
  rw [if_neg h10, if_neg h10]
  by_cases h11 : j < 330
  · rw [if_pos h11, if_pos h11, if_pos (by omega)]
  rw [if_neg h11, if_neg h11]
  by_cases h12 : j < 340
  · rw [if_pos h12, if_pos h12, if_pos (by omega)]
  rw [if_neg h12, if_neg h12]
  by_cases h13 : j < 350
  · rw [if_pos h13, if_pos h13, if_pos (by omega)]
  rw [if_neg h13, if_neg h13]
  by_cases h14 : j < 360
  · rw [if_pos h14, if_pos h14, if_pos (by omega)]
  rw [if_neg h14, if_neg h14]
  by_cases h15 : j < 370
  · rw [if_pos h15, if_pos h15, if_pos (by omega)]
  rw [if_neg h15, if_neg h15]
  rw [if_pos (by omega)]
theorem kvM_e {m m' : Mem} (e : ∀ x, 251 ≤ x ∧ x ≤ 257 → m' x = m x) (e8 : ∀ j, j < 50 → m' 258 j = m 258 j) {a b c d j : Int} (hb : a ≤ 10 ∧ b ≤ 14 ∧ c ≤ 5 ∧ d ≤ 5) (hj : VI a b c d j) : kvM m' j = kvM m j := by
  unfold VI at hj
  unfold kvM
  rw [e 251 (by omega), e 252 (by omega), e 253 (by omega), e 254 (by omega), e 255 (by omega), e 256 (by omega), e 257 (by omega)]
  by_cases h0 : j < 100
  · (repeat rewrite [if_pos h0]); first | rfl | exact e8 _ (by omega)
  (repeat rewrite [if_neg h0])
  by_cases h1 : j < 120
  · (repeat rewrite [if_pos h1]); first | rfl | exact e8 _ (by omega)
  (repeat rewrite [if_neg h1])
  by_cases h2 : j < 140
  · (repeat rewrite [if_pos h2]); first | rfl | exact e8 _ (by omega)
  (repeat rewrite [if_neg h2])
  by_cases h3 : j < 160
  · (repeat rewrite [if_pos h3]); first | rfl | exact e8 _ (by omega)
  (repeat rewrite [if_neg h3])
  by_cases h4 : j < 200
  · (repeat rewrite [if_pos h4]); first | rfl | exact e8 _ (by omega)
  (repeat rewrite [if_neg h4])
  by_cases h5 : j < 210
  · (repeat rewrite [if_pos h5]); first | rfl | exact e8 _ (by omega)
  (repeat rewrite [if_neg h5])
  by_cases h6 : j < 220
  · (repeat rewrite [if_pos h6]); first | rfl | exact e8 _ (by omega)
  (repeat rewrite [if_neg h6])
  by_cases h7 : j < 230
  · (repeat rewrite [if_pos h7]); first | rfl | exact e8 _ (by omega)
  (repeat rewrite [if_neg h7])
  by_cases h8 : j < 300
  · (repeat rewrite [if_pos h8]); first | rfl | exact e8 _ (by omega)
  (repeat rewrite [if_neg h8])
  by_cases h9 : j < 310
  · (repeat rewrite [if_pos h9]); first | rfl | exact e8 _ (by omega)
  (repeat rewrite [if_neg h9])
  by_cases h10 : j < 320
  · (repeat rewrite [if_pos h10]); first | rfl | exact e8 _ (by omega)
  (repeat rewrite [if_neg h10])
  by_cases h11 : j < 330
  · (repeat rewrite [if_pos h11]); first | rfl | exact e8 _ (by omega)
  (repeat rewrite [if_neg h11])
  by_cases h12 : j < 340
  · (repeat rewrite [if_pos h12]); first | rfl | exact e8 _ (by omega)
  (repeat rewrite [if_neg h12])
  by_cases h13 : j < 350
  · (repeat rewrite [if_pos h13]); first | rfl | exact e8 _ (by omega)
  (repeat rewrite [if_neg h13])
  by_cases h14 : j < 360
  · (repeat rewrite [if_pos h14]); first | rfl | exact e8 _ (by omega)
  (repeat rewrite [if_neg h14])
  by_cases h15 : j < 370
  · (repeat rewrite [if_pos h15]); first | rfl | exact e8 _ (by omega)
  (repeat rewrite [if_neg h15])
  first | rfl | exact e8 _ (by omega)
def sK (m : Mem) : KS := (m 249 3, m 249 4, m 249 5, m 249 6, kvR m)
def K170 (tc : Int) (m m' : Mem) : Prop := ((0 < tc ∧ (∃ r, kit (m 260) tc (sK m) = some r ∧ KE r (sK m')) ∧ m' 249 7 = w32 (m 249 7 + 1) ∧ m' 249 39 = 0) ∨ ((tc = 0 ∨ kit (m 260) tc (sK m) = none) ∧ KE (sK m) (sK m') ∧ m' 249 7 = m 249 7 ∧ m' 249 39 = m 249 39)) ∧ m' 285 = m 285 ∧ m' 286 = m 286 ∧ (∀ x j, KFx x j → ¬ (x = 249 ∧ j = 39) → m' x j = m x j)
/-- all that a call of level 4 leaves -/
def KFr (m m' : Mem) : Prop := ∀ x j, frR 4 x j → m' x j = m x j
theorem KFr_x {m m' : Mem} (h : KFr m m') {x : Int} (hx : (251 ≤ x ∧ x ≤ 258) ∨ x = 260 ∨ x = 265 ∨ x = 269 ∨ x = 285 ∨ x = 286 ∨ x = 287) : m' x = m x := by
  funext j; exact h x j (by unfold frR; omega)
theorem KFr_9 {m m' : Mem} (h : KFr m m') {j : Int} (hj : (3 ≤ j ∧ j ≤ 7) ∨ j = 32 ∨ j = 39) : m' 249 j = m 249 j := h 249 j (by unfold frR; omega)
theorem KFr_K {m m' : Mem} (h : KFr m m') {x j : Int} (hx : KFx x j) : m' x j = m x j := by
  unfold KFx at hx; exact h x j (by unfold frR; omega)
theorem sK_0 {m m1 : Mem} (h : KFr m m1) (hb : m 249 3 ≤ 10 ∧ m 249 4 ≤ 14 ∧ m 249 5 ≤ 5 ∧ m 249 6 ≤ 5) (h26 : m1 249 26 = 0) (h27 : m1 249 27 = 0) (h28 : m1 249 28 = 0) (h29 : m1 249 29 = 0) : KE (sK m) (sR m1) := by
  have e3 := KFr_9 h (j := 3) (by omega)
  have e4 := KFr_9 h (j := 4) (by omega)
  have e5 := KFr_9 h (j := 5) (by omega)
  have e6 := KFr_9 h (j := 6) (by omega)
  unfold KE sK sR
  dsimp only
  refine ⟨by omega, by omega, by omega, by omega, fun j hj => ?_⟩
  rw [kvR_M hb hj, kvR_M (by omega) (by rw [e3, e4, e5, e6]; exact hj)]
  exact kvM_e (fun x q => KFr_x h (by omega)) (fun y _ => congrFun (KFr_x h (by omega)) y) hb hj
theorem sK_n {m m' : Mem} (h : KFr m m') (hb : m 249 3 ≤ 10 ∧ m 249 4 ≤ 14 ∧ m 249 5 ≤ 5 ∧ m 249 6 ≤ 5) : KE (sK m) (sK m') := by
  have e3 := KFr_9 h (j := 3) (by omega)
  have e4 := KFr_9 h (j := 4) (by omega)
  have e5 := KFr_9 h (j := 5) (by omega)
  have e6 := KFr_9 h (j := 6) (by omega)
  refine ⟨e3, e4, e5, e6, fun j hj => ?_⟩
  have hj : VI (m 249 3) (m 249 4) (m 249 5) (m 249 6) j := hj
  show kvR m' j = kvR m j
  rw [kvR_M hb hj, kvR_M (by omega) (by rw [e3, e4, e5, e6]; exact hj)]
  exact kvM_e (fun x q => KFr_x h (by omega)) (fun y _ => congrFun (KFr_x h (by omega)) y) hb hj
/-- what was read is copied: the kitchen that was read -/
theorem sR_cp {m8 m' : Mem} (hw : kvW (m8 249 3) (m8 249 4) (m8 249 5) (m8 249 6) m' = kvR m8) (hb : m' 249 3 ≤ 10 ∧ m' 249 4 ≤ 14 ∧ m' 249 5 ≤ 5 ∧ m' 249 6 ≤ 5) (k3 : m' 249 3 = m8 249 3 + m8 249 26) (k4 : m' 249 4 = m8 249 4 + m8 249 27) (k5 : m' 249 5 = m8 249 5 + m8 249 28) (k6 : m' 249 6 = m8 249 6 + m8 249 29) : KE (sR m8) (sK m') := by
  refine ⟨k3, k4, k5, k6, fun j hj => ?_⟩
  have hj : VI (m8 249 3 + m8 249 26) (m8 249 4 + m8 249 27) (m8 249 5 + m8 249 28) (m8 249 6 + m8 249 29) j := hj
  rw [← k3, ← k4, ← k5, ← k6] at hj
  show kvR m' j = kvR m8 j
  rw [kvR_M hb hj, ← hw, kvW_M hb hj]
theorem K170_y {tc p : Int} {m M2 m8 m' : Mem} (hF2 : KE (sK m) (sR M2)) (hF8 : KFr m m8) (h : lks (m 260) (min tc 76) 81 (sR M2) 0 = some (sR m8, p)) (hp : p = min tc 76 ∧ tc ≤ 76) (ht : 0 < tc) (hE : KE (sR m8) (sK m')) (h7 : m' 249 7 = w32 (m 249 7 + 1)) (h39 : m' 249 39 = 0) (h85 : m' 285 = m 285) (h86 : m' 286 = m 286) (hG : ∀ x j, KFx x j → ¬ (x = 249 ∧ j = 39) → m' x j = m x j) : K170 tc m m' := by
  refine ⟨Or.inl ⟨ht, ?_, h7, h39⟩, h85, h86, hG⟩
  rcases kit_e (T := m 260) (T' := m 260) (tc := tc) (fun _ _ _ => rfl) hF2 with ⟨-, q⟩ | ⟨r, r', q1, q2, q3⟩
  · rw [kit_y h hp] at q; exact absurd q (by simp)
  · rw [kit_y h hp] at q2
    have e := Option.some.inj q2
    subst e
    exact ⟨r, q1, KE_tr q3 hE⟩
theorem K170_z {m M2 m8 m' : Mem} (hF2 : KE (sK m) (sR M2)) (hF8 : KFr m m8) (h : sR M2 = sR m8) (hE : KE (sR m8) (sK m')) (h7 : m' 249 7 = m 249 7) (h39 : m' 249 39 = m 249 39) (h85 : m' 285 = m 285) (h86 : m' 286 = m 286) (hG : ∀ x j, KFx x j → ¬ (x = 249 ∧ j = 39) → m' x j = m x j) : K170 0 m m' := by
  rw [h] at hF2
  exact ⟨Or.inr ⟨Or.inl rfl, KE_tr hF2 hE, h7, h39⟩, h85, h86, hG⟩
theorem K170_f {tc : Int} {m M2 m8 : Mem} (hF2 : KE (sK m) (sR M2)) (hF8 : KFr m m8) (hb : m 249 3 ≤ 10 ∧ m 249 4 ≤ 14 ∧ m 249 5 ≤ 5 ∧ m 249 6 ≤ 5) (h : tc ≠ 0 → kit (m 260) tc (sR M2) = none) : K170 tc m m8 := by
  refine ⟨Or.inr ⟨?_, sK_n hF8 hb, KFr_9 hF8 (by omega), KFr_9 hF8 (by omega)⟩, KFr_x hF8 (by omega), KFr_x hF8 (by omega), fun x j q _ => KFr_K hF8 q⟩
  by_cases ht : tc = 0
  · exact Or.inl ht
  · right
    rcases kit_e (T := m 260) (T' := m 260) (tc := tc) (fun _ _ _ => rfl) hF2 with ⟨q, -⟩ | ⟨r, r', q1, q2, q3⟩
    · exact q
    · rw [h ht] at q2; exact absurd q2 (by simp)
set_option maxHeartbeats 4000000 in
theorem m170a {d : Nat} {pl e W a x y : Int} {g : Fg} {m : Mem} {N : Int → Int} {R : Option (KS × Int)} {Kn Kb : Rho → Sto → Prop} {Kr : Int → Sto → Prop} (hB : ∀ j, 0 ≤ m 260 j ∧ m 260 j < 256) (hJ : JW 4 g 0 pl N W m) (hA : 0 ≤ m 249 19 ∧ m 249 19 ≤ m 249 20) (hK : KR m) (hx : x = 1) (hy : y = 0 ∧ R = some (sR m, m 249 19) ∨ y = 1 ∧ lks (m 260) (m 249 20) 81 (sR m) (m 249 19) = R) (hq : ∀ m' x', JW 4 g 0 pl N W m' → (0 ≤ m' 249 19 ∧ m' 249 19 ≤ 80 ∧ m' 249 20 = m 249 20) → (x' = 0 ∧ R = none ∨ x' = 1 ∧ KR m' ∧ m' 249 19 ≤ m' 249 20 ∧ R = some (sR m', m' 249 19)) → Kn (rl [249, a, x', 0]) (S9 e m')) : ((whl false 44 (cz 1 (by decide) (ldi 3)) (seq 53 (asi 2 (cvi v_13_253 (acons (lda 0) (anil)))) (asi 3 (ite 70 71 (cand 0 (cz 1 (by decide) (ldi 2)) (cz 1 (by decide) (cvi v_13_220 (acons (lda 0) (acons (cst 59) (anil)))))) (cst 1) (cst 0)))) (rtv)) : SX 13).1.2 (Cl (d + 10)) Kn Kb Kr (rl [249, a, x, y]) (S9 e m) := by
  have hL := JW_l hJ
  have hkm := hK.1
  unfold KRc at hkm
  refine whl_i (fun k r u => ∃ (x y : Int) (m9 : Mem), r = rl [249, a, x, y] ∧ u = S9 e m9 ∧ JW 4 g 0 pl N W m9 ∧ (0 ≤ m9 249 19 ∧ m9 249 19 ≤ 80 ∧ m9 249 20 = m 249 20 ∧ m9 260 = m 260) ∧ (x = 0 ∧ y = 0 ∧ R = none ∨ x = 1 ∧ KR m9 ∧ m9 249 19 ≤ m9 249 20 ∧ (y = 0 ∧ R = some (sR m9, m9 249 19) ∨ y = 1 ∧ m9 249 20 - m9 249 19 < (k : Int) ∧ lks (m 260) (m 249 20) k (sR m9) (m9 249 19) = R))) 81 ?_ ?_
  next => exact ⟨x, y, m, rfl, rfl, hJ, ⟨hA.1, by omega, rfl, rfl⟩, Or.inr ⟨hx, hK, hA.2, by rcases hy with h | ⟨h1, h2⟩; exact Or.inl h; exact Or.inr ⟨h1, by omega, h2⟩⟩⟩
  rintro k r u ⟨x, y, m9, rfl, rfl, hJ9, ⟨hu1, hu2, hu3, hu4⟩, hc⟩
  have hJ9 := JW_dn hL hJ9; have hs9 := JW_s hJ9
  have h58 := JW_2 hJ9
  rcases hc with ⟨rfl, rfl, hR⟩ | ⟨rfl, hKR, hAR, ⟨rfl, hR⟩ | ⟨rfl, hlt, hR⟩⟩
  next =>
    simp only [cl_170, runB, B170, ma_170, rho_2, wf_13_13, wf_13_133, wf_13_140, wf_13_143, wf_13_146, wf_13_17, wf_13_20, wf_13_204, wf_13_212, wf_13_224, wf_13_23, wf_13_233, wf_13_26, wf_13_30, wf_13_33, wf_13_36, wf_13_45, wf_13_48, wf_13_51, wf_13_54, wpf_13_126, wpf_13_133, wpopadd_pf_13_133, wpf_13_140, wpopadd_pf_13_140, wpf_13_143, wpopadd_pf_13_143, wpf_13_146, wpopadd_pf_13_146, wpf_13_204, wpopadd_pf_13_204, wpf_13_212, wpopadd_pf_13_212, wpf_13_224, wpopadd_pf_13_224, wpf_13_233, wpopadd_pf_13_233, wpf_13_260, wpopadd_pf_13_260, wpopsub_pf_13_260, wpf_13_263, wpopadd_pf_13_263, wc_171, wc_172, wc_181, wc_187, wc_188, w_cst, w_ldi, w_ldj, w_lda, w_ljk, w_ldk, w_ldw, w_ldk2, w_ldt, w_ldtw, w_neg, w_cvb, w_cvs, w_cvc, w_cvj, w_add, w_sub, w_mul, w_ban, w_bor, w_bxo, w_shl, w_shr, w_ush, w_dvi, w_rmi, w_aldi, w_aldj, w_aldz, w_aldc, w_alda, w_ite, w_cmp, w_cmj, w_cz, w_cnot, w_cand, w_cor, w_nil, w_cons, w_cvi, w_csta, w_cvt, w_cvv, w_csv, w_cpy, w_seq, w_sbr, w_sbn, w_brk, w_ifs, w_ifx, w_ife, w_wk, w_rets, w_rtv, w_thr, w_asi, w_asj, w_asa, w_inc, w_exs, w_asti, w_astj, w_astz, w_astc, w_aopadd, w_aopsub, w_sw, if_true, if_false, ↓reduceIte, hdl_c, S9_1, S9_m, bud9, live9, inb9, wrn, wr9_14, wr9_15, wr9_16, wr9_17, tq9_14, tq9_15, tq9_16, tq9_17, tq_0, tq_1, tq_3, upr_rl, rl_0, rl_1, rl_2, rl_3, rl_4, rl_5, rl_6, rl_7, rl_8, rl_9, rl_10, rl_11, rl_12, rl_13, sp_0, sp_1, sp_2, sp_3, sp_4, sp_5, sp_6, sp_7, sp_8, sp_9, sp_10, sp_11, sp_12, sp_13, se_0, se_1, se_2, se_3, se_4, se_5, se_6, se_7, se_8, se_9, se_10, se_11, se_12, se_13, sem_0, sem_1, sem_2, sem_3, sem_4, sem_5, kc_249, kl9_249, sr_249_10, sr_249_11, sr_249_12, sr_249_13, sr_249_14, sr_249_15, sr_249_16, sr_249_17, sr_249_2, sr_249_22, sr_249_23, sr_249_24, sr_249_25, sr_249_30, sr_249_31, sr_249_34, sr_249_35, sr_249_40, sr_249_41, sr_249_42, sr_249_43, sr_249_50, sr_249_51, sr_249_52, sr_249_54, sr_249_55, sr_249_57, sr_249_58, sr_249_61, sr_249_63, sr_249_64, sr_249_67, sr_249_68, sr_249_69, sr_249_70, sr_249_71, sr_249_8, sr_249_9, kc_260, kl9_260, List.getD_cons_zero, List.getD_cons_succ, Bool.false_eq_true, wrn3, wrn1, cpmS, cpok9, upm_app, Int.reduceEq, and_self, and_true, true_and, and_false, false_and, if_true, if_false, ↓reduceIte]
    exact ⟨fun c => absurd trivial c, fun _ => hq _ _ hJ9 ⟨hu1, hu2, hu3⟩ (Or.inl ⟨rfl, hR⟩)⟩
  next =>
    simp only [cl_170, runB, B170, ma_170, rho_2, wf_13_13, wf_13_133, wf_13_140, wf_13_143, wf_13_146, wf_13_17, wf_13_20, wf_13_204, wf_13_212, wf_13_224, wf_13_23, wf_13_233, wf_13_26, wf_13_30, wf_13_33, wf_13_36, wf_13_45, wf_13_48, wf_13_51, wf_13_54, wpf_13_126, wpf_13_133, wpopadd_pf_13_133, wpf_13_140, wpopadd_pf_13_140, wpf_13_143, wpopadd_pf_13_143, wpf_13_146, wpopadd_pf_13_146, wpf_13_204, wpopadd_pf_13_204, wpf_13_212, wpopadd_pf_13_212, wpf_13_224, wpopadd_pf_13_224, wpf_13_233, wpopadd_pf_13_233, wpf_13_260, wpopadd_pf_13_260, wpopsub_pf_13_260, wpf_13_263, wpopadd_pf_13_263, wc_171, wc_172, wc_181, wc_187, wc_188, w_cst, w_ldi, w_ldj, w_lda, w_ljk, w_ldk, w_ldw, w_ldk2, w_ldt, w_ldtw, w_neg, w_cvb, w_cvs, w_cvc, w_cvj, w_add, w_sub, w_mul, w_ban, w_bor, w_bxo, w_shl, w_shr, w_ush, w_dvi, w_rmi, w_aldi, w_aldj, w_aldz, w_aldc, w_alda, w_ite, w_cmp, w_cmj, w_cz, w_cnot, w_cand, w_cor, w_nil, w_cons, w_cvi, w_csta, w_cvt, w_cvv, w_csv, w_cpy, w_seq, w_sbr, w_sbn, w_brk, w_ifs, w_ifx, w_ife, w_wk, w_rets, w_rtv, w_thr, w_asi, w_asj, w_asa, w_inc, w_exs, w_asti, w_astj, w_astz, w_astc, w_aopadd, w_aopsub, w_sw, if_true, if_false, ↓reduceIte, hdl_c, S9_1, S9_m, bud9, live9, inb9, wrn, wr9_14, wr9_15, wr9_16, wr9_17, tq9_14, tq9_15, tq9_16, tq9_17, tq_0, tq_1, tq_3, upr_rl, rl_0, rl_1, rl_2, rl_3, rl_4, rl_5, rl_6, rl_7, rl_8, rl_9, rl_10, rl_11, rl_12, rl_13, sp_0, sp_1, sp_2, sp_3, sp_4, sp_5, sp_6, sp_7, sp_8, sp_9, sp_10, sp_11, sp_12, sp_13, se_0, se_1, se_2, se_3, se_4, se_5, se_6, se_7, se_8, se_9, se_10, se_11, se_12, se_13, sem_0, sem_1, sem_2, sem_3, sem_4, sem_5, kc_249, kl9_249, sr_249_10, sr_249_11, sr_249_12, sr_249_13, sr_249_14, sr_249_15, sr_249_16, sr_249_17, sr_249_2, sr_249_22, sr_249_23, sr_249_24, sr_249_25, sr_249_30, sr_249_31, sr_249_34, sr_249_35, sr_249_40, sr_249_41, sr_249_42, sr_249_43, sr_249_50, sr_249_51, sr_249_52, sr_249_54, sr_249_55, sr_249_57, sr_249_58, sr_249_61, sr_249_63, sr_249_64, sr_249_67, sr_249_68, sr_249_69, sr_249_70, sr_249_71, sr_249_8, sr_249_9, kc_260, kl9_260, List.getD_cons_zero, List.getD_cons_succ, Bool.false_eq_true, wrn3, wrn1, cpmS, cpok9, upm_app, Int.reduceEq, and_self, and_true, true_and, and_false, false_and, if_true, if_false, ↓reduceIte]
    exact ⟨fun c => absurd trivial c, fun _ => hq _ _ hJ9 ⟨hu1, hu2, hu3⟩ (Or.inr ⟨rfl, hKR, hAR, hR⟩)⟩
  obtain ⟨k, rfl⟩ : ∃ k9 : Nat, k = k9 + 1 := ⟨k - 1, by omega⟩
  simp only [cl_170, runB, B170, ma_170, rho_2, wf_13_13, wf_13_133, wf_13_140, wf_13_143, wf_13_146, wf_13_17, wf_13_20, wf_13_204, wf_13_212, wf_13_224, wf_13_23, wf_13_233, wf_13_26, wf_13_30, wf_13_33, wf_13_36, wf_13_45, wf_13_48, wf_13_51, wf_13_54, wpf_13_126, wpf_13_133, wpopadd_pf_13_133, wpf_13_140, wpopadd_pf_13_140, wpf_13_143, wpopadd_pf_13_143, wpf_13_146, wpopadd_pf_13_146, wpf_13_204, wpopadd_pf_13_204, wpf_13_212, wpopadd_pf_13_212, wpf_13_224, wpopadd_pf_13_224, wpf_13_233, wpopadd_pf_13_233, wpf_13_260, wpopadd_pf_13_260, wpopsub_pf_13_260, wpf_13_263, wpopadd_pf_13_263, wc_171, wc_172, wc_181, wc_187, wc_188, w_cst, w_ldi, w_ldj, w_lda, w_ljk, w_ldk, w_ldw, w_ldk2, w_ldt, w_ldtw, w_neg, w_cvb, w_cvs, w_cvc, w_cvj, w_add, w_sub, w_mul, w_ban, w_bor, w_bxo, w_shl, w_shr, w_ush, w_dvi, w_rmi, w_aldi, w_aldj, w_aldz, w_aldc, w_alda, w_ite, w_cmp, w_cmj, w_cz, w_cnot, w_cand, w_cor, w_nil, w_cons, w_cvi, w_csta, w_cvt, w_cvv, w_csv, w_cpy, w_seq, w_sbr, w_sbn, w_brk, w_ifs, w_ifx, w_ife, w_wk, w_rets, w_rtv, w_thr, w_asi, w_asj, w_asa, w_inc, w_exs, w_asti, w_astj, w_astz, w_astc, w_aopadd, w_aopsub, w_sw, if_true, if_false, ↓reduceIte, hdl_c, S9_1, S9_m, bud9, live9, inb9, wrn, wr9_14, wr9_15, wr9_16, wr9_17, tq9_14, tq9_15, tq9_16, tq9_17, tq_0, tq_1, tq_3, upr_rl, rl_0, rl_1, rl_2, rl_3, rl_4, rl_5, rl_6, rl_7, rl_8, rl_9, rl_10, rl_11, rl_12, rl_13, sp_0, sp_1, sp_2, sp_3, sp_4, sp_5, sp_6, sp_7, sp_8, sp_9, sp_10, sp_11, sp_12, sp_13, se_0, se_1, se_2, se_3, se_4, se_5, se_6, se_7, se_8, se_9, se_10, se_11, se_12, se_13, sem_0, sem_1, sem_2, sem_3, sem_4, sem_5, kc_249, kl9_249, sr_249_10, sr_249_11, sr_249_12, sr_249_13, sr_249_14, sr_249_15, sr_249_16, sr_249_17, sr_249_2, sr_249_22, sr_249_23, sr_249_24, sr_249_25, sr_249_30, sr_249_31, sr_249_34, sr_249_35, sr_249_40, sr_249_41, sr_249_42, sr_249_43, sr_249_50, sr_249_51, sr_249_52, sr_249_54, sr_249_55, sr_249_57, sr_249_58, sr_249_61, sr_249_63, sr_249_64, sr_249_67, sr_249_68, sr_249_69, sr_249_70, sr_249_71, sr_249_8, sr_249_9, kc_260, kl9_260, List.getD_cons_zero, List.getD_cons_succ, Bool.false_eq_true, wrn3, wrn1, cpmS, cpok9, upm_app, Int.reduceEq, and_self, and_true, true_and, and_false, false_and, if_true, if_false, ↓reduceIte]
  repeat' (first
    | (with_reducible exact True.intro)
    | omega
    | (with_reducible rfl)
    | (with_reducible contradiction)
    | (with_reducible refine And.intro ?_ ?_)
    | intro _
    | ((with_reducible refine f_172 (g := g) (tc := 0) (pl := pl) (N := N) (W := W) hKR ⟨?_, ?_⟩ ?_ hJ9 (fun v9 m8 hJ8 p9 r9 => ?_)); (next => omega); (next => omega); (next => rw [hu4]; exact hB); obtain ⟨⟨pa, pb, pc⟩, pv⟩ := p9; obtain ⟨rv, r60⟩ := r9; rw [hu4, hu3] at rv; rcases rv with ⟨rfl, rv⟩ | ⟨rfl, rv⟩; all_goals (simp only [hdl_c, S9_1, S9_m, bud9, live9, inb9, wrn, wr9_14, wr9_15, wr9_16, wr9_17, tq9_14, tq9_15, tq9_16, tq9_17, tq_0, tq_1, tq_3, upr_rl, rl_0, rl_1, rl_2, rl_3, rl_4, rl_5, rl_6, rl_7, rl_8, rl_9, rl_10, rl_11, rl_12, rl_13, sp_0, sp_1, sp_2, sp_3, sp_4, sp_5, sp_6, sp_7, sp_8, sp_9, sp_10, sp_11, sp_12, sp_13, se_0, se_1, se_2, se_3, se_4, se_5, se_6, se_7, se_8, se_9, se_10, se_11, se_12, se_13, sem_0, sem_1, sem_2, sem_3, sem_4, sem_5, List.getD_cons_zero, List.getD_cons_succ, Bool.false_eq_true, wrn3, wrn1, cpmS, cpok9, if_true, if_false, ↓reduceIte, wc_171, wc_172, wc_181, wc_187, wc_188, kc_249, kl9_249, sr_249_10, sr_249_11, sr_249_12, sr_249_13, sr_249_14, sr_249_15, sr_249_16, sr_249_17, sr_249_2, sr_249_22, sr_249_23, sr_249_24, sr_249_25, sr_249_30, sr_249_31, sr_249_34, sr_249_35, sr_249_40, sr_249_41, sr_249_42, sr_249_43, sr_249_50, sr_249_51, sr_249_52, sr_249_54, sr_249_55, sr_249_57, sr_249_58, sr_249_61, sr_249_63, sr_249_64, sr_249_67, sr_249_68, sr_249_69, sr_249_70, sr_249_71, sr_249_8, sr_249_9, kc_260, kl9_260, upm_app, Int.reduceEq, and_self, and_true, true_and, and_false, false_and, if_true, if_false, ↓reduceIte]))
    | ((with_reducible refine p_181x ?_ ?_ (fun v9 x9 h9 => ?_)); (next => omega); (next => omega); rw [r60, hu4, pc, hu3] at h9; rcases h9 with ⟨rfl, h9a, rfl⟩ | ⟨rfl, h9a, rfl⟩; all_goals (simp only [hdl_c, S9_1, S9_m, bud9, live9, inb9, wrn, wr9_14, wr9_15, wr9_16, wr9_17, tq9_14, tq9_15, tq9_16, tq9_17, tq_0, tq_1, tq_3, upr_rl, rl_0, rl_1, rl_2, rl_3, rl_4, rl_5, rl_6, rl_7, rl_8, rl_9, rl_10, rl_11, rl_12, rl_13, sp_0, sp_1, sp_2, sp_3, sp_4, sp_5, sp_6, sp_7, sp_8, sp_9, sp_10, sp_11, sp_12, sp_13, se_0, se_1, se_2, se_3, se_4, se_5, se_6, se_7, se_8, se_9, se_10, se_11, se_12, se_13, sem_0, sem_1, sem_2, sem_3, sem_4, sem_5, List.getD_cons_zero, List.getD_cons_succ, Bool.false_eq_true, wrn3, wrn1, cpmS, cpok9, if_true, if_false, ↓reduceIte, wc_171, wc_172, wc_181, wc_187, wc_188, kc_249, kl9_249, sr_249_10, sr_249_11, sr_249_12, sr_249_13, sr_249_14, sr_249_15, sr_249_16, sr_249_17, sr_249_2, sr_249_22, sr_249_23, sr_249_24, sr_249_25, sr_249_30, sr_249_31, sr_249_34, sr_249_35, sr_249_40, sr_249_41, sr_249_42, sr_249_43, sr_249_50, sr_249_51, sr_249_52, sr_249_54, sr_249_55, sr_249_57, sr_249_58, sr_249_61, sr_249_63, sr_249_64, sr_249_67, sr_249_68, sr_249_69, sr_249_70, sr_249_71, sr_249_8, sr_249_9, kc_260, kl9_260, upm_app, Int.reduceEq, and_self, and_true, true_and, and_false, false_and, if_true, if_false, ↓reduceIte]))
    | ((with_reducible refine ⟨k, ?_, _, _, _, rfl, rfl, ?_, ⟨?_, ?_, ?_, ?_⟩, Or.inl ⟨rfl, rfl, ?_⟩⟩); (next => omega); (next => first | exact hJ8 | (with_reducible (refine JW_up hJ8 (by first | decide | (unfold frR; omega)) (by first | decide | simp [frc]) (by first | decide | simp [frw]) (by simp [BdR] <;> omega)); done)); (next => (first | (simp only [upm_app, Int.reduceEq, and_self, and_true, true_and, and_false, false_and, if_true, if_false, ↓reduceIte]; done) | ((try simp only [upm_app, Int.reduceEq, and_self, and_true, true_and, and_false, false_and, if_true, if_false, ↓reduceIte]); first | omega | ((repeat' split) <;> omega) | (unfold w32; omega) | ((repeat' split) <;> (first | omega | (unfold w32; omega))) | (unfold w32 at *; omega)))); (next => (first | (simp only [upm_app, Int.reduceEq, and_self, and_true, true_and, and_false, false_and, if_true, if_false, ↓reduceIte]; done) | ((try simp only [upm_app, Int.reduceEq, and_self, and_true, true_and, and_false, false_and, if_true, if_false, ↓reduceIte]); first | omega | ((repeat' split) <;> omega) | (unfold w32; omega) | ((repeat' split) <;> (first | omega | (unfold w32; omega))) | (unfold w32 at *; omega)))); (next => (first | (simp only [upm_app, Int.reduceEq, and_self, and_true, true_and, and_false, false_and, if_true, if_false, ↓reduceIte]; done) | ((try simp only [upm_app, Int.reduceEq, and_self, and_true, true_and, and_false, false_and, if_true, if_false, ↓reduceIte]); first | omega | ((repeat' split) <;> omega) | (unfold w32; omega) | ((repeat' split) <;> (first | omega | (unfold w32; omega))) | (unfold w32 at *; omega)))); (next => first | exact r60.trans hu4 | (rw [upm_f _ _ _ _ _ (by decide)]; exact r60.trans hu4)); (next => rw [← hR]; exact lks_n k rv))
    | ((with_reducible refine ⟨k, ?_, _, _, _, rfl, rfl, ?_, ⟨?_, ?_, ?_, ?_⟩, Or.inr ⟨rfl, ?_, ?_, Or.inl ⟨rfl, ?_⟩⟩⟩); (next => omega); (next => first | exact hJ8 | (with_reducible (refine JW_up hJ8 (by first | decide | (unfold frR; omega)) (by first | decide | simp [frc]) (by first | decide | simp [frw]) (by simp [BdR] <;> omega)); done)); (next => (first | (simp only [upm_app, Int.reduceEq, and_self, and_true, true_and, and_false, false_and, if_true, if_false, ↓reduceIte]; done) | ((try simp only [upm_app, Int.reduceEq, and_self, and_true, true_and, and_false, false_and, if_true, if_false, ↓reduceIte]); first | omega | ((repeat' split) <;> omega) | (unfold w32; omega) | ((repeat' split) <;> (first | omega | (unfold w32; omega))) | (unfold w32 at *; omega)))); (next => (first | (simp only [upm_app, Int.reduceEq, and_self, and_true, true_and, and_false, false_and, if_true, if_false, ↓reduceIte]; done) | ((try simp only [upm_app, Int.reduceEq, and_self, and_true, true_and, and_false, false_and, if_true, if_false, ↓reduceIte]); first | omega | ((repeat' split) <;> omega) | (unfold w32; omega) | ((repeat' split) <;> (first | omega | (unfold w32; omega))) | (unfold w32 at *; omega)))); (next => (first | (simp only [upm_app, Int.reduceEq, and_self, and_true, true_and, and_false, false_and, if_true, if_false, ↓reduceIte]; done) | ((try simp only [upm_app, Int.reduceEq, and_self, and_true, true_and, and_false, false_and, if_true, if_false, ↓reduceIte]); first | omega | ((repeat' split) <;> omega) | (unfold w32; omega) | ((repeat' split) <;> (first | omega | (unfold w32; omega))) | (unfold w32 at *; omega)))); (next => first | exact r60.trans hu4 | (rw [upm_f _ _ _ _ _ (by decide)]; exact r60.trans hu4)); (next => first | (rw [upm_self]; exact (pv.resolve_left (by decide)).2.1) | (have hk8 := (pv.resolve_left (by decide)).2.1; first | exact hk8 | (refine KR_up hk8 ?_; simp [nKR]))); (next => (first | (simp only [upm_app, Int.reduceEq, and_self, and_true, true_and, and_false, false_and, if_true, if_false, ↓reduceIte]; done) | ((try simp only [upm_app, Int.reduceEq, and_self, and_true, true_and, and_false, false_and, if_true, if_false, ↓reduceIte]); first | omega | ((repeat' split) <;> omega) | (unfold w32; omega) | ((repeat' split) <;> (first | omega | (unfold w32; omega))) | (unfold w32 at *; omega)))); (next => rw [(show sR (upm m8 249 19 _) = sR m8 from by (simp only [sR, kvR_j (m := m8) (j := 19) (Or.inr (by decide)), Int.reduceNe, ne_eq, not_false_eq_true, upm_app, Int.reduceEq, and_self, and_true, true_and, and_false, false_and, if_true, if_false, ↓reduceIte])), upm_v, ← hR]; exact lks_x k rv h9a))
    | ((with_reducible refine ⟨k, ?_, _, _, _, rfl, rfl, ?_, ⟨?_, ?_, ?_, ?_⟩, Or.inr ⟨rfl, ?_, ?_, Or.inr ⟨rfl, ?_, ?_⟩⟩⟩); (next => omega); (next => first | exact hJ8 | (with_reducible (refine JW_up hJ8 (by first | decide | (unfold frR; omega)) (by first | decide | simp [frc]) (by first | decide | simp [frw]) (by simp [BdR] <;> omega)); done)); (next => (first | (simp only [upm_app, Int.reduceEq, and_self, and_true, true_and, and_false, false_and, if_true, if_false, ↓reduceIte]; done) | ((try simp only [upm_app, Int.reduceEq, and_self, and_true, true_and, and_false, false_and, if_true, if_false, ↓reduceIte]); first | omega | ((repeat' split) <;> omega) | (unfold w32; omega) | ((repeat' split) <;> (first | omega | (unfold w32; omega))) | (unfold w32 at *; omega)))); (next => (first | (simp only [upm_app, Int.reduceEq, and_self, and_true, true_and, and_false, false_and, if_true, if_false, ↓reduceIte]; done) | ((try simp only [upm_app, Int.reduceEq, and_self, and_true, true_and, and_false, false_and, if_true, if_false, ↓reduceIte]); first | omega | ((repeat' split) <;> omega) | (unfold w32; omega) | ((repeat' split) <;> (first | omega | (unfold w32; omega))) | (unfold w32 at *; omega)))); (next => (first | (simp only [upm_app, Int.reduceEq, and_self, and_true, true_and, and_false, false_and, if_true, if_false, ↓reduceIte]; done) | ((try simp only [upm_app, Int.reduceEq, and_self, and_true, true_and, and_false, false_and, if_true, if_false, ↓reduceIte]); first | omega | ((repeat' split) <;> omega) | (unfold w32; omega) | ((repeat' split) <;> (first | omega | (unfold w32; omega))) | (unfold w32 at *; omega)))); (next => first | exact r60.trans hu4 | (rw [upm_f _ _ _ _ _ (by decide)]; exact r60.trans hu4)); (next => (have hk8 := (pv.resolve_left (by decide)).2.1; first | exact hk8 | (refine KR_up hk8 ?_; simp [nKR]))); (next => (first | (simp only [upm_app, Int.reduceEq, and_self, and_true, true_and, and_false, false_and, if_true, if_false, ↓reduceIte]; done) | ((try simp only [upm_app, Int.reduceEq, and_self, and_true, true_and, and_false, false_and, if_true, if_false, ↓reduceIte]); first | omega | ((repeat' split) <;> omega) | (unfold w32; omega) | ((repeat' split) <;> (first | omega | (unfold w32; omega))) | (unfold w32 at *; omega)))); (next => have := lk_r rv; (first | (simp only [upm_app, Int.reduceEq, and_self, and_true, true_and, and_false, false_and, if_true, if_false, ↓reduceIte]; done) | ((try simp only [upm_app, Int.reduceEq, and_self, and_true, true_and, and_false, false_and, if_true, if_false, ↓reduceIte]); first | omega | ((repeat' split) <;> omega) | (unfold w32; omega) | ((repeat' split) <;> (first | omega | (unfold w32; omega))) | (unfold w32 at *; omega)))); (next => rw [(show sR (upm m8 249 19 _) = sR m8 from by (simp only [sR, kvR_j (m := m8) (j := 19) (Or.inr (by decide)), Int.reduceNe, ne_eq, not_false_eq_true, upm_app, Int.reduceEq, and_self, and_true, true_and, and_false, false_and, if_true, if_false, ↓reduceIte])), upm_v, ← lks_y k rv h9a]; exact hR))
    | (unfold w32; omega)
    | (simp (disch := omega) only [w32_eq]; omega)
    | (with_reducible show (_ : Int) ≤ _; simp [upm] <;> (first | omega | (unfold w32; omega)))
    | (with_reducible show (_ : Int) < _; simp [upm] <;> (first | omega | (unfold w32; omega))))

theorem p_187x {d : Nat} {e : Int} {m : Mem} {Q : Int → Sto → Prop} {a b c : Int} (h0 : 0 ≤ m 249 19 ∧ m 249 19 ≤ 80) (hb : 0 ≤ b ∧ b ≤ 80) (h1 : (c ≠ 0 ∧ m 249 19 = m 249 20 ∧ a ≤ b) → Q 0 (S9 e m)) (hq : ∀ v, v < 0 → ¬ (c ≠ 0 ∧ m 249 19 = m 249 20 ∧ a ≤ b) → Q v (S9 e m)) : Cl (d + 1) 187 [249, a, b, c] Q (S9 e m) := by
  simp only [cl_187, runB, B187, ma_187, rho_2000, wf_13_163, wf_13_175, w_cst, w_ldi, w_ldj, w_lda, w_ljk, w_ldk, w_ldw, w_ldk2, w_ldt, w_ldtw, w_neg, w_cvb, w_cvs, w_cvc, w_cvj, w_add, w_sub, w_mul, w_ban, w_bor, w_bxo, w_shl, w_shr, w_ush, w_dvi, w_rmi, w_aldi, w_aldj, w_aldz, w_aldc, w_alda, w_ite, w_cmp, w_cmj, w_cz, w_cnot, w_cand, w_cor, w_nil, w_cons, w_cvi, w_csta, w_cvt, w_cvv, w_csv, w_cpy, w_seq, w_sbr, w_sbn, w_brk, w_ifs, w_ifx, w_ife, w_wk, w_rets, w_rtv, w_thr, w_asi, w_asj, w_asa, w_inc, w_exs, w_asti, w_astj, w_astz, w_astc, w_aopadd, w_aopsub, w_sw, if_true, if_false, ↓reduceIte, hdl_c, S9_1, S9_m, bud9, live9, inb9, wrn, wr9_14, wr9_15, wr9_16, wr9_17, tq9_14, tq9_15, tq9_16, tq9_17, tq_0, tq_1, tq_3, upr_rl, rl_0, rl_1, rl_2, rl_3, rl_4, rl_5, rl_6, rl_7, rl_8, rl_9, rl_10, rl_11, rl_12, rl_13, sp_0, sp_1, sp_2, sp_3, sp_4, sp_5, sp_6, sp_7, sp_8, sp_9, sp_10, sp_11, sp_12, sp_13, se_0, se_1, se_2, se_3, se_4, se_5, se_6, se_7, se_8, se_9, se_10, se_11, se_12, se_13, sem_0, sem_1, sem_2, sem_3, sem_4, sem_5, kc_249, kl9_249, sr_249_10, sr_249_11, sr_249_12, sr_249_13, sr_249_14, sr_249_15, sr_249_16, sr_249_17, sr_249_2, sr_249_22, sr_249_23, sr_249_24, sr_249_25, sr_249_30, sr_249_31, sr_249_34, sr_249_35, sr_249_40, sr_249_41, sr_249_42, sr_249_43, sr_249_50, sr_249_51, sr_249_52, sr_249_54, sr_249_55, sr_249_57, sr_249_58, sr_249_61, sr_249_63, sr_249_64, sr_249_67, sr_249_68, sr_249_69, sr_249_70, sr_249_71, sr_249_8, sr_249_9, List.getD_cons_zero, List.getD_cons_succ, Bool.false_eq_true, wrn3, wrn1, cpmS, cpok9]
  repeat' (first
    | (with_reducible exact True.intro)
    | omega
    | (with_reducible rfl)
    | (with_reducible contradiction)
    | (with_reducible refine And.intro ?_ ?_)
    | intro _
    | (refine h1 ⟨?_, ?_, ?_⟩ <;> omega)
    | (with_reducible refine hq _ ?_ ?_ <;> (first | omega | (unfold w32; omega)))
    | (unfold w32; omega)
    | (simp (disch := omega) only [w32_eq]; omega)
    | (with_reducible show (_ : Int) ≤ _; simp [upm] <;> (first | omega | (unfold w32; omega)))
    | (with_reducible show (_ : Int) < _; simp [upm] <;> (first | omega | (unfold w32; omega))))

