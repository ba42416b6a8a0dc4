/-! methods that throw: nothing is there -/
theorem u1_out {cc : ByteArray} {pc : Nat} (h : cc.size ≤ pc) : (Reader.u1 : Decoder Nat).runAt cc pc = .error (HasTruncated.truncated pc) := by
  show (ReaderT.run (if h : pc < cc.size then (do set (pc + 1); pure cc[pc].toNat : Reader DecodeError Nat) else throw (HasTruncated.truncated pc)) cc).run pc = _
  rw [dif_neg (by omega)]
  rfl
theorem dec_out {cc : ByteArray} {pc : Nat} (h : cc.size ≤ pc) (x : Instr × Nat) : decode cc pc ≠ .ok x := by
  intro hx
  have e := u1_out h
  unfold decode Decoder.instr at hx
  have e2 : ∀ f : Nat → Decoder Instr, (Reader.u1 >>= f).runAt cc pc = .error (HasTruncated.truncated pc) := fun f => by
    show ((Reader.u1 : Decoder Nat).runAt cc pc >>= fun q => (f q.1).runAt cc q.2) = _
    rw [e]; rfl
  rw [e2] at hx
  cases hx
def nwk (cc : ByteArray) : Bool := (List.range cc.size).all (fun pc => match decode cc pc with
  | .ok (.new ik, _) => (ik == 132) && (match decode cc (pc + 4) with
    | .ok (.invokespecial ic, _) => ic == 134
    | _ => true)
  | _ => true)
theorem nwk_ok {cc : ByteArray} (h : nwk cc = true) {pc ik ic a b : Nat} (h0 : decode cc pc = .ok (.new ik, a)) (h4 : decode cc (pc + 4) = .ok (.invokespecial ic, b)) : ik = 132 ∧ ic = 134 := by
  have hp : pc < cc.size := by
    rcases Nat.lt_or_ge pc cc.size with h | h
    · exact h
    · exact absurd h0 (dec_out h _)
  have h1 := List.all_eq_true.mp h pc (List.mem_range.mpr hp)
  rw [h0] at h1
  dsimp only at h1
  rw [h4] at h1
  simp at h1
  exact h1
def nseN : String := "java/util/NoSuchElementException"
def nseL : List String := ["java/lang/RuntimeException", "java/lang/Exception"]
def nseX : List Cond := Cond.classLink "HotThrough" 132 nseN :: Cond.initialized nseN :: vx_at0 "HotThrough" 134 nseN nseL
theorem nse_t : ∀ w ∈ nseX, w ∈ lw_tbl := by decide +kernel
theorem nse_f : ∀ w ∈ nseX, w.onTables = true ∧ w.keepsFace = true := by decide +kernel
theorem nse_o : ∀ w ∈ nseX, vx_ot w = true := by decide +kernel
theorem face_pay {args : Array Value} {s : State} {w : Cond} (h : w.onTables = true ∧ w.keepsFace = true) (hw : w.before args s = true) (a' : Array Value) (U : State) (hW : s.WarmedH U.vm) : w.before a' U = true :=
  va_tabs h.1 (rfl : (s.setVm U.vm).vm = U.vm) (Cond.before_shiftedFace (State.Shifted.of_warmed hW) w h.2 hw)
def wsT (K : Nat) : List Cond := mWor K :: (gTbl ++ nseX)
def rmT (n : Nat) : Room := { frames := n, cells := 1, slots := 6, locals := 90 * n }
def xcT (G : Geo) (u : Sto) : String → State → State → Prop := fun E st t => E = nseN ∧ Rel G u t.heap ∧ FrH G st t
def chkT {ow : Nat} (K : Nat) (b : SX ow) (code : Cds) : Bool := match b.1.1 (gam0 0 (mArg K)) (mMax K) 0 0 [] (20 + mRty K) code with
  | some (_, []) => true
  | _ => false
theorem rel_up {G : Geo} {u : Sto} {H H' : Heap} (h : Rel G u H) (h0 : sex u ≠ 1) (hz : H.size ≤ H'.size) (hq : ∀ q, q < H.size → H'[q]? = H[q]?) (hK : ∀ a : Int, 0 < a → G.1 a = G.2.2.2 + (a.toNat - 1)) : Rel G u H' := by
  obtain ⟨r1, r2, r3, r4, r5⟩ := h
  refine ⟨fun a a1 a2 a3 => ?_, r2, r3, by omega, fun q => absurd q h0⟩
  obtain ⟨cell, q1, q2⟩ := r1 a a1 a2 a3
  refine ⟨cell, ?_, q2⟩
  rw [hq _ (by rw [hK a a1]; omega)]
  exact q1
theorem thr_met (K : Nat) (b : SX 1) (code : Cds) (hown : (mNam K).cls = "HotThrough") (hchk : chkT K b code = true) (hdec : Dec (mCod K) code) (hpc : pcOf code = 0) (hnw : nwk (mCod K) = true) (hr : mRty K = 0 ∨ mRty K = 1) (hwid : wid (mArg K) ≤ mMax K)
    {l : Launch} {G : Geo} {d : Nat} {vs : List Int} {m0 : Mem} (hd5 : 5 ≤ d) (hfl : l.flags = flags0)
    (hf : b.1.2 (Cl d) (fun _ _ => False) (fun _ _ => False) (fun v u => v = XV ∧ u = bud (S9 0 m0) 1 6) (rho0 (mArg K) vs) (bud (S9 0 m0) 1 6)) :
    vx_Met l (mNam K) (wsT K) (rmT (d + 1)) (PcOf G K vs (S9 0 m0)) (fun _ _ _ _ => False) (xcT G (S9 0 m0)) 1 6 (fun q => G.2.2.2 ≤ q) := by
  refine vx_ofW (cc := mCod K) (maxL := mMax K) (ret := mRet K) (by rw [hown]; decide) rfl ?_
  intro p e s m args below meth c s₁ B hml hno hv
  obtain ⟨rfl, hok, hrel, hK, hbase, hSO⟩ := hv
  have hts := atoms_spec (ws := wsT K) B.pre
  have hX : MX p (rmT (d + 1)) s m (encA G.1 (mArg K) vs).toArray c (mCod K) (mMax K) 1 G :=
    ⟨B.exec, B.bytes, hml, by show s.vm.findClass "HotThrough" = _; rw [← hown]; exact findClass_of_methodNamed B.named, fun w hw => hts w (List.mem_cons_of_mem _ (List.mem_append_left _ hw)), hK, hbase, Nat.succ_le_succ (Nat.zero_le d), by show 40 ≤ 90 * (d + 1); omega, hSO, fun h => absurd h (by decide)⟩
  rw [lg_entry_eq]
  have hl := lv_entry (encA G.1 (mArg K) vs) (n := mMax K) (by rw [sl_wid _ _ _ hok]; exact hwid)
  generalize (lg_sl (encA G.1 (mArg K) vs) ++ List.replicate (mMax K - (lg_sl (encA G.1 (mArg K) vs)).length) Slot.unset).toArray = ls at hl ⊢
  have hg := gam0_lv G.1 (mArg K) vs 0 (rho0 (mArg K) vs) hok (fun j => by rw [Nat.zero_add]; rfl)
  have hL : LR G (mMax K) (gam0 0 (mArg K)) (rho0 (mArg K) vs) ls := ⟨by rw [hg.1]; exact hl, hg.2⟩
  have hA : At G (rmT (d + 1)) s.heap (bud (S9 0 m0) 1 6) s.heap [] 0 0 := ⟨hrel, ⟨Nat.le_refl _, fun _ _ => rfl, fun _ h => by cases h⟩, Nat.le_refl _, Nat.le_refl _⟩
  unfold chkT at hchk
  split at hchk
  case h_2 => cases hchk
  rename_i ga9 h0
  have hlocks := B.notSynchronized
  suffices h9 : W p l e (rmT (d + 1)) s m (encA G.1 (mArg K) vs).toArray below meth c s.heap [] 0 0 (vx_MQ below (fun _ _ _ _ => False) (xcT G (S9 0 m0)) (encA G.1 (mArg K) vs).toArray s 1 6 fun q => G.2.2.2 ≤ q) (F0 m (pcOf code) ls []) by
    rw [hpc] at h9
    exact h9
  refine b.2.1 p l e (rmT (d + 1)) s m _ below meth c (mCod K) (mMax K) G _ (Cl d) hX (clD hfl d _ (Nat.le_refl _) (Nat.le_refl _)) (gam0 0 (mArg K)) 0 0 [] (20 + mRty K) code ga9 [] h0 hdec (rho0 (mArg K) vs) (bud (S9 0 m0) 1 6) s.heap [] 0 0 ls _ _ _ hL hA hf ?_ ?_ ?_ ?_
  · intro _ _ _ _ _ _ _ _ _ h; exact h.elim
  · intro _ _ _ _ _ _ _ _ _ h; exact h.elim
  · intro v u' H' locs' cells' slots' ls' pc hv hA' hq hd
    obtain ⟨rfl, -⟩ := hq
    rcases hr with hr | hr
    · rw [hr] at hv
      exact absurd hv (by show ¬ inI XV; unfold inI XV; omega)
    · rw [hr] at hv
      exact absurd hv (by show ¬ inL XV; unfold inL XV; omega)
  · intro _ u' H' locs' cells' slots' ls' pc ik ic hls hA' hq d0 d3 d4 d7
    obtain ⟨-, rfl⟩ := hq
    obtain ⟨rfl, rfl⟩ := nwk_ok hnw d0 d4
    obtain ⟨hrel', ⟨f1, f2, f3⟩, b1, b2⟩ := hA'
    have hn : ∀ w ∈ nseX, w.before (encA G.1 (mArg K) vs).toArray s = true := fun w hw => hts w (List.mem_cons_of_mem _ (List.mem_append_right _ hw))
    have c1 : cells' + 1 ≤ 1 := b1
    have c2 : slots' + 6 ≤ 6 := b2
    obtain ⟨-, -, -, -, hU, hN⟩ := id hSO
    refine vx_throw0 (own := "HotThrough") (cls := nseN) (names := nseL) (ik := 132) (ic := 134) (A := fun q => G.2.2.2 ≤ q) B.exec B.bytes (by rw [Launch.stackTraces, hfl]; rfl) (by rw [← hown]; exact findClass_of_methodNamed B.named) (by decide +kernel) (by decide +kernel)
      (hn _ List.mem_cons_self) (hn _ (List.mem_cons_of_mem _ List.mem_cons_self)) (fun w hw => hn w (List.mem_cons_of_mem _ (List.mem_cons_of_mem _ hw))) nse_o hU hN ⟨f1, fun q _ hq => f2 q (by omega), f3⟩ (by rw [hls, hml]) d0 d3 d4 d7 (fun x hx => (hno x hx).elim)
      (by show 2 + 3 < d + 1; omega) (by show 0 + (13 * (2 + 1) + 42) ≤ 90 * (d + 1); omega) c1 c2 hlocks (fun t _ hz hq => ?_) f3 c1 c2
    exact ⟨rfl, rel_up (u := S9 0 m0) hrel' (show (0 : Int) ≠ 1 by decide) hz hq hK.1, Nat.le_trans f1 hz, fun q hq' => (hq q (Nat.lt_of_lt_of_le hq' (Nat.le_trans hbase f1))).trans (f2 q hq')⟩
/-! the five that throw, on fresh objects -/
theorem b_live (u : Sto) (c w : Nat) (a : Int) (k : Nat) : live (bud u c w) a k = live u a k := rfl
theorem b_hdl (vs : List Int) (u : Sto) (c w k : Nat) : hdl vs (bud u c w) k = hdl vs u k := rfl
theorem b_1 (u : Sto) (c w : Nat) : (bud u c w).1 = u.1 := rfl
theorem b_2 (u : Sto) (c w : Nat) : (bud u c w).2.1 = u.2.1 := rfl
theorem b_wc (cl : ClT) (K : Nat) (h : mCel K = 0 ∧ mSlo K = 0) (Q : Int → Sto → Prop) (vs : List Int) (e : Int) (m : Mem) (c w : Nat) : wcl cl K Q vs (bud (S9 e m) c w) = cl K vs (fun v u' => Q v (bud u' c w)) (S9 e m) := by
  unfold wcl
  rw [h.1, h.2]
  show ((0 ≤ c ∧ 0 ≤ w) ∧ cl K vs (fun v u' => Q v (bud u' c w)) (S9 e m)) = _
  simp only [Nat.zero_le, and_self, true_and]
theorem b_33 : mCel 33 = 0 ∧ mSlo 33 = 0 := ⟨rfl, rfl⟩
theorem b_52 : mCel 52 = 0 ∧ mSlo 52 = 0 := ⟨rfl, rfl⟩
theorem b_63 : mCel 63 = 0 ∧ mSlo 63 = 0 := ⟨rfl, rfl⟩
theorem b_70 : mCel 70 = 0 ∧ mSlo 70 = 0 := ⟨rfl, rfl⟩
theorem x_156 {d : Nat} {a b : Int} : B156.1.2 (Cl (d + 6)) (fun _ _ => False) (fun _ _ => False) (fun v u => v = XV ∧ u = bud (S9 0 zM) 1 6) (rho0 (mArg 156) [1, a, b]) (bud (S9 0 zM) 1 6) := by
  simp only [B156, ma_156, rho_200, wf_1_135, wf_1_139, wf_1_146, wf_1_26, wf_1_33, w_cst, w_ldi, w_ldj, w_lda, w_ljk, w_ldk, w_ldw, w_ldk2, w_ldt, w_ldtw, w_neg, w_cvb, w_cvs, w_cvc, w_cvj, w_add, w_sub, w_mul, w_ban, w_bor, w_bxo, w_shl, w_shr, w_ush, w_dvi, w_rmi, w_aldi, w_aldj, w_aldz, w_aldc, w_alda, w_ite, w_cmp, w_cmj, w_cz, w_cnot, w_cand, w_cor, w_nil, w_cons, w_cvi, w_csta, w_cvt, w_cvv, w_csv, w_cpy, w_seq, w_sbr, w_sbn, w_brk, w_ifs, w_ifx, w_ife, w_wk, w_rets, w_rtv, w_thr, w_asi, w_asj, w_asa, w_inc, w_exs, w_asti, w_astj, w_astz, w_astc, w_aopadd, w_aopsub, w_sw, if_true, if_false, ↓reduceIte, hdl_c, S9_1, S9_m, bud9, live9, inb9, wrn, wr9_14, wr9_15, wr9_16, wr9_17, tq9_14, tq9_15, tq9_16, tq9_17, tq_0, tq_1, tq_3, upr_rl, rl_0, rl_1, rl_2, rl_3, rl_4, rl_5, rl_6, rl_7, rl_8, rl_9, rl_10, rl_11, rl_12, rl_13, sp_0, sp_1, sp_2, sp_3, sp_4, sp_5, sp_6, sp_7, sp_8, sp_9, sp_10, sp_11, sp_12, sp_13, se_0, se_1, se_2, se_3, se_4, se_5, se_6, se_7, se_8, se_9, se_10, se_11, se_12, se_13, sem_0, sem_1, sem_2, sem_3, sem_4, sem_5, sr_1_4, sr_1_3, sr_1_13, kc_1, kl9_1, sr_1_9, sr_1_1, sr_1_10, sr_1_7, sr_1_5, sr_1_2, sr_1_11, sr_1_6, sr_1_0, sr_1_8, sr_8_6, sr_8_10, sr_8_4, sr_8_9, sr_8_5, kc_8, sr_8_7, kl9_8, b_live, b_hdl, b_1, b_2, zM_0, b_wc _ _ b_33, e_33 (zM_0 8 0)]
  simp [b_live, b_hdl, b_1, b_2, zM_0, sr_1_4, sr_1_3, sr_1_13, kc_1, kl9_1, sr_1_9, sr_1_1, sr_1_10, sr_1_7, sr_1_5, sr_1_2, sr_1_11, sr_1_6, sr_1_0, sr_1_8, sr_8_6, sr_8_10, sr_8_4, sr_8_9, sr_8_5, kc_8, sr_8_7, kl9_8]
theorem x_160 {d : Nat} {a b : Int} : B160.1.2 (Cl (d + 6)) (fun _ _ => False) (fun _ _ => False) (fun v u => v = XV ∧ u = bud (S9 0 zM) 1 6) (rho0 (mArg 160) [1, a, b]) (bud (S9 0 zM) 1 6) := by
  simp only [B160, ma_160, rho_200, wf_1_158, wf_1_161, wf_1_164, wf_1_170, wf_1_26, wf_1_33, w_cst, w_ldi, w_ldj, w_lda, w_ljk, w_ldk, w_ldw, w_ldk2, w_ldt, w_ldtw, w_neg, w_cvb, w_cvs, w_cvc, w_cvj, w_add, w_sub, w_mul, w_ban, w_bor, w_bxo, w_shl, w_shr, w_ush, w_dvi, w_rmi, w_aldi, w_aldj, w_aldz, w_aldc, w_alda, w_ite, w_cmp, w_cmj, w_cz, w_cnot, w_cand, w_cor, w_nil, w_cons, w_cvi, w_csta, w_cvt, w_cvv, w_csv, w_cpy, w_seq, w_sbr, w_sbn, w_brk, w_ifs, w_ifx, w_ife, w_wk, w_rets, w_rtv, w_thr, w_asi, w_asj, w_asa, w_inc, w_exs, w_asti, w_astj, w_astz, w_astc, w_aopadd, w_aopsub, w_sw, if_true, if_false, ↓reduceIte, hdl_c, S9_1, S9_m, bud9, live9, inb9, wrn, wr9_14, wr9_15, wr9_16, wr9_17, tq9_14, tq9_15, tq9_16, tq9_17, tq_0, tq_1, tq_3, upr_rl, rl_0, rl_1, rl_2, rl_3, rl_4, rl_5, rl_6, rl_7, rl_8, rl_9, rl_10, rl_11, rl_12, rl_13, sp_0, sp_1, sp_2, sp_3, sp_4, sp_5, sp_6, sp_7, sp_8, sp_9, sp_10, sp_11, sp_12, sp_13, se_0, se_1, se_2, se_3, se_4, se_5, se_6, se_7, se_8, se_9, se_10, se_11, se_12, se_13, sem_0, sem_1, sem_2, sem_3, sem_4, sem_5, sr_1_4, sr_1_3, sr_1_13, kc_1, kl9_1, sr_1_9, sr_1_1, sr_1_10, sr_1_7, sr_1_5, sr_1_2, sr_1_11, sr_1_6, sr_1_0, sr_1_8, sr_8_6, sr_8_10, sr_8_4, sr_8_9, sr_8_5, kc_8, sr_8_7, kl9_8, b_live, b_hdl, b_1, b_2, zM_0, b_wc _ _ b_70, e_70 (zM_0 8 1)]
  simp [b_live, b_hdl, b_1, b_2, zM_0, sr_1_4, sr_1_3, sr_1_13, kc_1, kl9_1, sr_1_9, sr_1_1, sr_1_10, sr_1_7, sr_1_5, sr_1_2, sr_1_11, sr_1_6, sr_1_0, sr_1_8, sr_8_6, sr_8_10, sr_8_4, sr_8_9, sr_8_5, kc_8, sr_8_7, kl9_8]
theorem x_161 {d : Nat} {a b : Int} : B161.1.2 (Cl (d + 6)) (fun _ _ => False) (fun _ _ => False) (fun v u => v = XV ∧ u = bud (S9 0 zM) 1 6) (rho0 (mArg 161) [1, a, b]) (bud (S9 0 zM) 1 6) := by
  simp only [B161, ma_161, rho_200, wf_1_176, wf_1_179, wf_1_182, wf_1_185, wf_1_188, wf_1_26, wf_1_33, w_cst, w_ldi, w_ldj, w_lda, w_ljk, w_ldk, w_ldw, w_ldk2, w_ldt, w_ldtw, w_neg, w_cvb, w_cvs, w_cvc, w_cvj, w_add, w_sub, w_mul, w_ban, w_bor, w_bxo, w_shl, w_shr, w_ush, w_dvi, w_rmi, w_aldi, w_aldj, w_aldz, w_aldc, w_alda, w_ite, w_cmp, w_cmj, w_cz, w_cnot, w_cand, w_cor, w_nil, w_cons, w_cvi, w_csta, w_cvt, w_cvv, w_csv, w_cpy, w_seq, w_sbr, w_sbn, w_brk, w_ifs, w_ifx, w_ife, w_wk, w_rets, w_rtv, w_thr, w_asi, w_asj, w_asa, w_inc, w_exs, w_asti, w_astj, w_astz, w_astc, w_aopadd, w_aopsub, w_sw, if_true, if_false, ↓reduceIte, hdl_c, S9_1, S9_m, bud9, live9, inb9, wrn, wr9_14, wr9_15, wr9_16, wr9_17, tq9_14, tq9_15, tq9_16, tq9_17, tq_0, tq_1, tq_3, upr_rl, rl_0, rl_1, rl_2, rl_3, rl_4, rl_5, rl_6, rl_7, rl_8, rl_9, rl_10, rl_11, rl_12, rl_13, sp_0, sp_1, sp_2, sp_3, sp_4, sp_5, sp_6, sp_7, sp_8, sp_9, sp_10, sp_11, sp_12, sp_13, se_0, se_1, se_2, se_3, se_4, se_5, se_6, se_7, se_8, se_9, se_10, se_11, se_12, se_13, sem_0, sem_1, sem_2, sem_3, sem_4, sem_5, sr_1_4, sr_1_3, sr_1_13, kc_1, kl9_1, sr_1_9, sr_1_1, sr_1_10, sr_1_7, sr_1_5, sr_1_2, sr_1_11, sr_1_6, sr_1_0, sr_1_8, sr_8_6, sr_8_10, sr_8_4, sr_8_9, sr_8_5, kc_8, sr_8_7, kl9_8, b_live, b_hdl, b_1, b_2, zM_0, b_wc _ _ b_52, e_52 (zM_0 8 2)]
  simp [b_live, b_hdl, b_1, b_2, zM_0, sr_1_4, sr_1_3, sr_1_13, kc_1, kl9_1, sr_1_9, sr_1_1, sr_1_10, sr_1_7, sr_1_5, sr_1_2, sr_1_11, sr_1_6, sr_1_0, sr_1_8, sr_8_6, sr_8_10, sr_8_4, sr_8_9, sr_8_5, kc_8, sr_8_7, kl9_8]
theorem x_162 {d : Nat} {a b : Int} : B162.1.2 (Cl (d + 6)) (fun _ _ => False) (fun _ _ => False) (fun v u => v = XV ∧ u = bud (S9 0 zM) 1 6) (rho0 (mArg 162) [1, a, b]) (bud (S9 0 zM) 1 6) := by
  simp only [B162, ma_162, rho_200, wf_1_194, wf_1_197, wf_1_200, wf_1_203, wf_1_206, wf_1_209, wf_1_212, wf_1_26, wf_1_33, w_cst, w_ldi, w_ldj, w_lda, w_ljk, w_ldk, w_ldw, w_ldk2, w_ldt, w_ldtw, w_neg, w_cvb, w_cvs, w_cvc, w_cvj, w_add, w_sub, w_mul, w_ban, w_bor, w_bxo, w_shl, w_shr, w_ush, w_dvi, w_rmi, w_aldi, w_aldj, w_aldz, w_aldc, w_alda, w_ite, w_cmp, w_cmj, w_cz, w_cnot, w_cand, w_cor, w_nil, w_cons, w_cvi, w_csta, w_cvt, w_cvv, w_csv, w_cpy, w_seq, w_sbr, w_sbn, w_brk, w_ifs, w_ifx, w_ife, w_wk, w_rets, w_rtv, w_thr, w_asi, w_asj, w_asa, w_inc, w_exs, w_asti, w_astj, w_astz, w_astc, w_aopadd, w_aopsub, w_sw, if_true, if_false, ↓reduceIte, hdl_c, S9_1, S9_m, bud9, live9, inb9, wrn, wr9_14, wr9_15, wr9_16, wr9_17, tq9_14, tq9_15, tq9_16, tq9_17, tq_0, tq_1, tq_3, upr_rl, rl_0, rl_1, rl_2, rl_3, rl_4, rl_5, rl_6, rl_7, rl_8, rl_9, rl_10, rl_11, rl_12, rl_13, sp_0, sp_1, sp_2, sp_3, sp_4, sp_5, sp_6, sp_7, sp_8, sp_9, sp_10, sp_11, sp_12, sp_13, se_0, se_1, se_2, se_3, se_4, se_5, se_6, se_7, se_8, se_9, se_10, se_11, se_12, se_13, sem_0, sem_1, sem_2, sem_3, sem_4, sem_5, sr_1_4, sr_1_3, sr_1_13, kc_1, kl9_1, sr_1_9, sr_1_1, sr_1_10, sr_1_7, sr_1_5, sr_1_2, sr_1_11, sr_1_6, sr_1_0, sr_1_8, sr_8_6, sr_8_10, sr_8_4, sr_8_9, sr_8_5, kc_8, sr_8_7, kl9_8, b_live, b_hdl, b_1, b_2, zM_0, b_wc _ _ b_63, e_63 (zM_0 8 3)]
  simp [b_live, b_hdl, b_1, b_2, zM_0, sr_1_4, sr_1_3, sr_1_13, kc_1, kl9_1, sr_1_9, sr_1_1, sr_1_10, sr_1_7, sr_1_5, sr_1_2, sr_1_11, sr_1_6, sr_1_0, sr_1_8, sr_8_6, sr_8_10, sr_8_4, sr_8_9, sr_8_5, kc_8, sr_8_7, kl9_8]
theorem x_164 {d : Nat} {a : Int} : B164.1.2 (Cl (d + 6)) (fun _ _ => False) (fun _ _ => False) (fun v u => v = XV ∧ u = bud (S9 0 zM) 1 6) (rho0 (mArg 164) [1, a]) (bud (S9 0 zM) 1 6) := by
  simp only [B164, ma_164, rho_20, wf_1_100, wf_1_395, w_cst, w_ldi, w_ldj, w_lda, w_ljk, w_ldk, w_ldw, w_ldk2, w_ldt, w_ldtw, w_neg, w_cvb, w_cvs, w_cvc, w_cvj, w_add, w_sub, w_mul, w_ban, w_bor, w_bxo, w_shl, w_shr, w_ush, w_dvi, w_rmi, w_aldi, w_aldj, w_aldz, w_aldc, w_alda, w_ite, w_cmp, w_cmj, w_cz, w_cnot, w_cand, w_cor, w_nil, w_cons, w_cvi, w_csta, w_cvt, w_cvv, w_csv, w_cpy, w_seq, w_sbr, w_sbn, w_brk, w_ifs, w_ifx, w_ife, w_wk, w_rets, w_rtv, w_thr, w_asi, w_asj, w_asa, w_inc, w_exs, w_asti, w_astj, w_astz, w_astc, w_aopadd, w_aopsub, w_sw, if_true, if_false, ↓reduceIte, hdl_c, S9_1, S9_m, bud9, live9, inb9, wrn, wr9_14, wr9_15, wr9_16, wr9_17, tq9_14, tq9_15, tq9_16, tq9_17, tq_0, tq_1, tq_3, upr_rl, rl_0, rl_1, rl_2, rl_3, rl_4, rl_5, rl_6, rl_7, rl_8, rl_9, rl_10, rl_11, rl_12, rl_13, sp_0, sp_1, sp_2, sp_3, sp_4, sp_5, sp_6, sp_7, sp_8, sp_9, sp_10, sp_11, sp_12, sp_13, se_0, se_1, se_2, se_3, se_4, se_5, se_6, se_7, se_8, se_9, se_10, se_11, se_12, se_13, sem_0, sem_1, sem_2, sem_3, sem_4, sem_5, sr_1_4, sr_1_3, sr_1_13, kc_1, kl9_1, sr_1_9, sr_1_1, sr_1_10, sr_1_7, sr_1_5, sr_1_2, sr_1_11, sr_1_6, sr_1_0, sr_1_8, sr_8_6, sr_8_10, sr_8_4, sr_8_9, sr_8_5, kc_8, sr_8_7, kl9_8, b_live, b_hdl, b_1, b_2, zM_0]
  simp [b_live, b_hdl, b_1, b_2, zM_0, sr_1_4, sr_1_3, sr_1_13, kc_1, kl9_1, sr_1_9, sr_1_1, sr_1_10, sr_1_7, sr_1_5, sr_1_2, sr_1_11, sr_1_6, sr_1_0, sr_1_8, sr_8_6, sr_8_10, sr_8_4, sr_8_9, sr_8_5, kc_8, sr_8_7, kl9_8]
  intro h1 h2; omega
