section
/-! methods that throw: nothing is there -/
theorem u1_out {cc : ByteArray} {pc : Nat} (h : cc.size ≤ pc) : (Reader.u1 : Decoder Nat).runAt cc pc = .error (HasTruncated.truncated pc) := by
  show (ReaderT.run (if h : pc < cc.size then (do set (pc + 1); pure cc[pc].toNat : Reader DecodeError Nat) else throw (HasTruncated.truncated pc)) cc).run pc = _
  rw [dif_neg (by omega)]
  rfl
theorem dec_out {cc : ByteArray} {pc : Nat} (h : cc.size ≤ pc) (x : Instr × Nat) : decode cc pc ≠ .ok x := by
  intro hx
  have e := u1_out h
  unfold decode Decoder.instr at hx
  have e2 : ∀ f : Nat → Decoder Instr, (Reader.u1 >>= f).runAt cc pc = .error (HasTruncated.truncated pc) := fun f => by
    show ((Reader.u1 : Decoder Nat).runAt cc pc >>= fun q => (f q.1).runAt cc q.2) = _
    rw [e]; rfl
  rw [e2] at hx
  cases hx
def nwk (cc : ByteArray) : Bool := (List.range cc.size).all (fun pc => match decode cc pc with
  | .ok (.new ik, _) => (ik == 132) && (match decode cc (pc + 4) with
    | .ok (.invokespecial ic, _) => ic == 134
    | _ => true)
  | _ => true)
theorem nwk_ok {cc : ByteArray} (h : nwk cc = true) {pc ik ic a b : Nat} (h0 : decode cc pc = .ok (.new ik, a)) (h4 : decode cc (pc + 4) = .ok (.invokespecial ic, b)) : ik = 132 ∧ ic = 134 := by
  have hp : pc < cc.size := by
    rcases Nat.lt_or_ge pc cc.size with h | h
    · exact h
    · exact absurd h0 (dec_out h _)
  have h1 := List.all_eq_true.mp h pc (List.mem_range.mpr hp)
  rw [h0] at h1
  dsimp only at h1
  rw [h4] at h1
  simp at h1
  exact h1
def nseN : String := "java/util/NoSuchElementException"
def nseL : List String := ["java/lang/RuntimeException", "java/lang/Exception"]
def nseX : List Cond := Cond.classLink "HotThrough" 132 nseN :: Cond.initialized nseN :: vx_at0 "HotThrough" 134 nseN nseL
theorem nse_t : ∀ w ∈ nseX, w ∈ lw_tbl := by decide +kernel
theorem nse_f : ∀ w ∈ nseX, w.onTables = true ∧ w.keepsFace = true := by decide +kernel
theorem nse_o : ∀ w ∈ nseX, vx_ot w = true := by decide +kernel
theorem face_pay {args : Array Value} {s : State} {w : Cond} (h : w.onTables = true ∧ w.keepsFace = true) (hw : w.before args s = true) (a' : Array Value) (U : State) (hW : s.WarmedH U.vm) : w.before a' U = true :=
  va_tabs h.1 (rfl : (s.setVm U.vm).vm = U.vm) (Cond.before_shiftedFace (State.Shifted.of_warmed hW) w h.2 hw)
def wsT (K : Nat) : List Cond := mWor K :: (gTbl ++ nseX)
def rmT (n : Nat) : Room := { frames := n, cells := 1, slots := 6, locals := 90 * n }
def xcM (G : Geo) (PM : Mem → Prop) : String → State → State → Prop := fun E st t => E = nseN ∧ (∃ m', PM m' ∧ Rel G (S9 0 m') t.heap) ∧ FrH G st t
def chkT {ow : Nat} (K : Nat) (b : SX ow) (code : Cds) : Bool := match b.1.1 (gam0 0 (mArg K)) (mMax K) 0 0 [] (20 + mRty K) code with
  | some (_, []) => true
  | _ => false
theorem rel_up {G : Geo} {u : Sto} {H H' : Heap} (h : Rel G u H) (h0 : sex u ≠ 1) (hz : H.size ≤ H'.size) (hq : ∀ q, q < H.size → H'[q]? = H[q]?) (hK : ∀ a : Int, 0 < a → G.1 a = G.2.2.2 + (a.toNat - 1)) : Rel G u H' := by
  obtain ⟨r1, r2, r3, r4, r5⟩ := h
  refine ⟨fun a a1 a2 a3 => ?_, r2, r3, by omega, fun q => absurd q h0⟩
  obtain ⟨cell, q1, q2⟩ := r1 a a1 a2 a3
  refine ⟨cell, ?_, q2⟩
  rw [hq _ (by rw [hK a a1]; omega)]
  exact q1
theorem thr_met2 (K : Nat) (b : SX 1) (code : Cds) (hown : (mNam K).cls = "HotThrough") (hchk : chkT K b code = true) (hdec : Dec (mCod K) code) (hpc : pcOf code = 0) (hnw : nwk (mCod K) = true) (hr : mRty K = 0 ∧ mRet K = some .int ∨ mRty K = 1 ∧ mRet K = some .long) (hwid : wid (mArg K) ≤ mMax K)
    {l : Launch} {G : Geo} {d : Nat} {vs : List Int} {m0 : Mem} {PM : Mem → Prop} (hd5 : 5 ≤ d) (hfl : l.flags = flags0)
    (hf : b.1.2 (Cl d) (fun _ _ => False) (fun _ _ => False) (fun _ u => ∃ m', u = bud (S9 0 m') 1 6 ∧ PM m') (rho0 (mArg K) vs) (bud (S9 0 m0) 1 6)) :
    vx_Met l (mNam K) (wsT K) (rmT (d + 1)) (PcOf G K vs (S9 0 m0)) (QcOf G K (fun _ u => ∃ m', u = bud (S9 0 m') 1 6 ∧ PM m')) (xcM G PM) 1 6 (fun q => G.2.2.2 ≤ q) := by
  refine vx_ofW (cc := mCod K) (maxL := mMax K) (ret := mRet K) (by rw [hown]; decide) rfl ?_
  intro p e s m args below meth c s₁ B hml hno hv
  obtain ⟨rfl, hok, hrel, hK, hbase, hSO⟩ := hv
  have hts := atoms_spec (ws := wsT K) B.pre
  have hX : MX p (rmT (d + 1)) s m (encA G.1 (mArg K) vs).toArray c (mCod K) (mMax K) 1 G :=
    ⟨B.exec, B.bytes, hml, by show s.vm.findClass "HotThrough" = _; rw [← hown]; exact findClass_of_methodNamed B.named, fun w hw => hts w (List.mem_cons_of_mem _ (List.mem_append_left _ hw)), hK, hbase, Nat.succ_le_succ (Nat.zero_le d), by show 40 ≤ 90 * (d + 1); omega, hSO, fun h => absurd h (by decide)⟩
  rw [lg_entry_eq]
  have hl := lv_entry (encA G.1 (mArg K) vs) (n := mMax K) (by rw [sl_wid _ _ _ hok]; exact hwid)
  generalize (lg_sl (encA G.1 (mArg K) vs) ++ List.replicate (mMax K - (lg_sl (encA G.1 (mArg K) vs)).length) Slot.unset).toArray = ls at hl ⊢
  have hg := gam0_lv G.1 (mArg K) vs 0 (rho0 (mArg K) vs) hok (fun j => by rw [Nat.zero_add]; rfl)
  have hL : LR G (mMax K) (gam0 0 (mArg K)) (rho0 (mArg K) vs) ls := ⟨by rw [hg.1]; exact hl, hg.2⟩
  have hA : At G (rmT (d + 1)) s.heap (bud (S9 0 m0) 1 6) s.heap [] 0 0 := ⟨hrel, ⟨Nat.le_refl _, fun _ _ => rfl, fun _ h => by cases h⟩, Nat.le_refl _, Nat.le_refl _⟩
  unfold chkT at hchk
  split at hchk
  case h_2 => cases hchk
  rename_i ga9 h0
  have hlocks := B.notSynchronized
  suffices h9 : W p l e (rmT (d + 1)) s m (encA G.1 (mArg K) vs).toArray below meth c s.heap [] 0 0 (vx_MQ below (QcOf G K (fun _ u => ∃ m', u = bud (S9 0 m') 1 6 ∧ PM m')) (xcM G PM) (encA G.1 (mArg K) vs).toArray s 1 6 fun q => G.2.2.2 ≤ q) (F0 m (pcOf code) ls []) by
    rw [hpc] at h9
    exact h9
  refine b.2.1 p l e (rmT (d + 1)) s m _ below meth c (mCod K) (mMax K) G _ (Cl d) hX (clD hfl d _ (Nat.le_refl _) (Nat.le_refl _)) (gam0 0 (mArg K)) 0 0 [] (20 + mRty K) code ga9 [] h0 hdec (rho0 (mArg K) vs) (bud (S9 0 m0) 1 6) s.heap [] 0 0 ls _ _ _ hL hA hf ?_ ?_ ?_ ?_
  · intro _ _ _ _ _ _ _ _ _ h; exact h.elim
  · intro _ _ _ _ _ _ _ _ _ h; exact h.elim
  · intro v u' H' locs' cells' slots' ls' pc hv hA' hq hd
    have hrt9 : (20 + mRty K) % 20 = mRty K := by rcases hr with h | h <;> rw [h.1]
    rw [hrt9] at hv hd ⊢
    obtain ⟨hrel', ⟨f1, f2, f3⟩, b1, b2⟩ := hA'
    have fin : ∀ o, o = encR G.1 (mRty K) v → ∀ t : State, t.heap = H' → s.WarmedH t.vm → QcOf G K (fun _ u => ∃ m', u = bud (S9 0 m') 1 6 ∧ PM m') (encA G.1 (mArg K) vs).toArray s (.returned o) t := fun o ho t ht _ =>
      ⟨⟨v, u', by rw [ho], hv, hq, by rw [ht]; exact hrel'⟩, by rw [ht]; exact f1, fun q hq => by rw [ht]; exact f2 q hq⟩
    have c1 : cells' ≤ 1 := Nat.le_trans (Nat.le_add_right _ _) b1
    have c2 : slots' ≤ 6 := Nat.le_trans (Nat.le_add_right _ _) b2
    refine vx_ret ?_
    refine W.widen c1 c2 ?_
    have hrr := B.returns
    rcases hr with ⟨e1, e2⟩ | ⟨e1, e2⟩
    · rw [e1] at hd fin hv ⊢
      exact W.iret hX.1 hX.2.1 (hrr.trans e2) (fin _ rfl) f3 hd
    · rw [e1] at hd fin hv ⊢
      exact W.lret hX.1 hX.2.1 (hrr.trans e2) (fin _ rfl) f3 hd
  · intro _ u' H' locs' cells' slots' ls' pc ik ic hls hA' hq d0 d3 d4 d7
    obtain ⟨m9, rfl, hPM⟩ := hq
    obtain ⟨rfl, rfl⟩ := nwk_ok hnw d0 d4
    obtain ⟨hrel', ⟨f1, f2, f3⟩, b1, b2⟩ := hA'
    have hn : ∀ w ∈ nseX, w.before (encA G.1 (mArg K) vs).toArray s = true := fun w hw => hts w (List.mem_cons_of_mem _ (List.mem_append_right _ hw))
    have c1 : cells' + 1 ≤ 1 := b1
    have c2 : slots' + 6 ≤ 6 := b2
    obtain ⟨-, -, -, -, hU, hN⟩ := id hSO
    refine vx_throw0 (own := "HotThrough") (cls := nseN) (names := nseL) (ik := 132) (ic := 134) (A := fun q => G.2.2.2 ≤ q) B.exec B.bytes (by rw [Launch.stackTraces, hfl]; rfl) (by rw [← hown]; exact findClass_of_methodNamed B.named) (by decide +kernel) (by decide +kernel)
      (hn _ List.mem_cons_self) (hn _ (List.mem_cons_of_mem _ List.mem_cons_self)) (fun w hw => hn w (List.mem_cons_of_mem _ (List.mem_cons_of_mem _ hw))) nse_o hU hN ⟨f1, fun q _ hq => f2 q (by omega), f3⟩ (by rw [hls, hml]) d0 d3 d4 d7 (fun x hx => (hno x hx).elim)
      (by show 2 + 3 < d + 1; omega) (by show 0 + (13 * (2 + 1) + 42) ≤ 90 * (d + 1); omega) c1 c2 hlocks (fun t _ hz hq => ?_) f3 c1 c2
    exact ⟨rfl, ⟨m9, hPM, rel_up (u := S9 0 m9) hrel' (show (0 : Int) ≠ 1 by decide) hz hq hK.1⟩, Nat.le_trans f1 hz, fun q hq' => (hq q (Nat.lt_of_lt_of_le hq' (Nat.le_trans hbase f1))).trans (f2 q hq')⟩
/-! the five that throw -/
theorem b_live (u : Sto) (c w : Nat) (a : Int) (k : Nat) : live (bud u c w) a k = live u a k := rfl
theorem b_hdl (vs : List Int) (u : Sto) (c w k : Nat) : hdl vs (bud u c w) k = hdl vs u k := rfl
theorem b_1 (u : Sto) (c w : Nat) : (bud u c w).1 = u.1 := rfl
theorem b_2 (u : Sto) (c w : Nat) : (bud u c w).2.1 = u.2.1 := rfl
theorem b_wc (cl : ClT) (K : Nat) (h : mCel K = 0 ∧ mSlo K = 0) (Q : Int → Sto → Prop) (vs : List Int) (e : Int) (m : Mem) (c w : Nat) : wcl cl K Q vs (bud (S9 e m) c w) = cl K vs (fun v u' => Q v (bud u' c w)) (S9 e m) := by
  unfold wcl
  rw [h.1, h.2]
  show ((0 ≤ c ∧ 0 ≤ w) ∧ cl K vs (fun v u' => Q v (bud u' c w)) (S9 e m)) = _
  simp only [Nat.zero_le, and_self, true_and]
theorem b_33 : mCel 33 = 0 ∧ mSlo 33 = 0 := ⟨rfl, rfl⟩
theorem b_52 : mCel 52 = 0 ∧ mSlo 52 = 0 := ⟨rfl, rfl⟩
theorem b_63 : mCel 63 = 0 ∧ mSlo 63 = 0 := ⟨rfl, rfl⟩
theorem b_70 : mCel 70 = 0 ∧ mSlo 70 = 0 := ⟨rfl, rfl⟩
theorem b_w (cl : ClT) (K : Nat) (h : mCel K = 0 ∧ mSlo K = 0) (Q : Int → Sto → Prop) (vs : List Int) (e : Int) (m : Mem) (c w : Nat) : wcl cl K Q vs (bud (S9 e m) c w) = cl K vs (fun v u' => Q v (bud u' c w)) (S9 e m) := b_wc cl K h Q vs e m c w
theorem b_inb (u : Sto) (c w : Nat) (a : Int) (k : Nat) (j : Int) : inb (bud u c w) a k j = inb u a k j := rfl
theorem b_72 : mCel 72 = 0 ∧ mSlo 72 = 0 := ⟨rfl, rfl⟩
theorem b_157 : mCel 157 = 0 ∧ mSlo 157 = 0 := ⟨rfl, rfl⟩
theorem b_158 : mCel 158 = 0 ∧ mSlo 158 = 0 := ⟨rfl, rfl⟩
theorem b_159 : mCel 159 = 0 ∧ mSlo 159 = 0 := ⟨rfl, rfl⟩
theorem b_163 : mCel 163 = 0 ∧ mSlo 163 = 0 := ⟨rfl, rfl⟩
theorem x_156 {d : Nat} {tc a b : Int} {g : Fg} {m : Mem} (hJ : JC 4 g tc m) : B156.1.2 (Cl (d + 20)) (fun _ _ => False) (fun _ _ => False) (fun _ u => ∃ m', u = bud (S9 0 m') 1 6 ∧ JC 4 g tc m') (rho0 (mArg 156) [1, a, b]) (bud (S9 0 m) 1 6) := by
  have hL := JC_l hJ
  have hs := JC_s hJ
  simp only [B156, ma_156, rho_200, wf_1_135, wf_1_139, wf_1_146, wf_1_26, wf_1_33, cl_33, runB, B33, ma_33, rho_20, wf_4_30, w_cst, w_ldi, w_ldj, w_lda, w_ljk, w_ldk, w_ldw, w_ldk2, w_ldt, w_ldtw, w_neg, w_cvb, w_cvs, w_cvc, w_cvj, w_add, w_sub, w_mul, w_ban, w_bor, w_bxo, w_shl, w_shr, w_ush, w_dvi, w_rmi, w_aldi, w_aldj, w_aldz, w_aldc, w_alda, w_ite, w_cmp, w_cmj, w_cz, w_cnot, w_cand, w_cor, w_nil, w_cons, w_cvi, w_csta, w_cvt, w_cvv, w_csv, w_cpy, w_seq, w_sbr, w_sbn, w_brk, w_ifs, w_ifx, w_ife, w_wk, w_rets, w_rtv, w_thr, w_asi, w_asj, w_asa, w_inc, w_exs, w_asti, w_astj, w_astz, w_astc, w_aopadd, w_aopsub, w_sw, if_true, if_false, ↓reduceIte, hdl_c, S9_1, S9_m, bud9, live9, inb9, wrn, wr9_14, wr9_15, wr9_16, wr9_17, tq9_14, tq9_15, tq9_16, tq9_17, tq_0, tq_1, tq_3, upr_rl, rl_0, rl_1, rl_2, rl_3, rl_4, rl_5, rl_6, rl_7, rl_8, rl_9, rl_10, rl_11, rl_12, rl_13, sp_0, sp_1, sp_2, sp_3, sp_4, sp_5, sp_6, sp_7, sp_8, sp_9, sp_10, sp_11, sp_12, sp_13, se_0, se_1, se_2, se_3, se_4, se_5, se_6, se_7, se_8, se_9, se_10, se_11, se_12, se_13, sem_0, sem_1, sem_2, sem_3, sem_4, sem_5, kc_1, kl9_1, sr_1_0, sr_1_1, sr_1_10, sr_1_11, sr_1_13, sr_1_2, sr_1_3, sr_1_4, sr_1_5, sr_1_6, sr_1_7, sr_1_8, sr_1_9, kc_4, kl9_4, sr_4_0, sr_4_2, sr_4_4, kc_8, kl9_8, sr_8_10, sr_8_4, sr_8_5, sr_8_6, sr_8_7, sr_8_9, kc_9, kl9_9, kc_10, kl9_10, kc_11, kl9_11, kc_12, kl9_12, kc_15, kl9_15, sr_15_0, sr_15_1, sr_15_2, sr_15_4, sr_15_5, sr_15_6, sr_15_7, sr_15_8, sr_15_9, kc_16, kl9_16, kc_17, kl9_17, kc_18, kl9_18, kc_19, kl9_19, kc_20, kl9_20, kc_21, kl9_21, kc_22, kl9_22, kc_23, kl9_23, kc_24, kl9_24, kc_13, kl9_13, kc_14, kl9_14, kc_218, kl9_218, b_live, b_hdl, b_1, b_2, b_inb, b_w _ _ b_33, b_w _ _ b_157, b_w _ _ b_158, b_w _ _ b_159, swW_c, swW_n, List.mem_singleton, List.mem_cons, List.mem_nil_iff]
  repeat' (first
    | (with_reducible exact True.intro)
    | (with_reducible exact False.elim)
    | omega
    | (with_reducible rfl)
    | (with_reducible contradiction)
    | (with_reducible refine And.intro ?_ ?_)
    | intro _
    | (with_reducible refine s_157 (g := g) (tc := tc) ?_ (fun v9 m9 hJ9 => ?_); (next => refine JC_of hL ?_ (by decide); repeat (first | assumption | (refine JC_up ?_ (by first | decide | (unfold frC; omega)) (by first | (simp [BdC, hnd]; done) | (simp [BdC, hnd, upm, cpf] <;> first | omega | (unfold w32; omega)))) | (refine JC_cp ?_ (fun _ => by first | decide | (unfold frC; omega)) (fun _ _ => by simp [BdC, hnd])))); (try clear hs9); have hJ9 := JC_dn hL hJ9; have hs9 := JC_s hJ9; (try simp only [hdl_c, S9_1, S9_m, bud9, live9, inb9, wrn, wr9_14, wr9_15, wr9_16, wr9_17, tq9_14, tq9_15, tq9_16, tq9_17, tq_0, tq_1, tq_3, upr_rl, rl_0, rl_1, rl_2, rl_3, rl_4, rl_5, rl_6, rl_7, rl_8, rl_9, rl_10, rl_11, rl_12, rl_13, sp_0, sp_1, sp_2, sp_3, sp_4, sp_5, sp_6, sp_7, sp_8, sp_9, sp_10, sp_11, sp_12, sp_13, se_0, se_1, se_2, se_3, se_4, se_5, se_6, se_7, se_8, se_9, se_10, se_11, se_12, se_13, sem_0, sem_1, sem_2, sem_3, sem_4, sem_5, List.getD_cons_zero, List.getD_cons_succ, Bool.false_eq_true, wrn3, wrn1, cpmS, cpok9, if_true, if_false, ↓reduceIte, wc_33, wc_157, wc_158, wc_159, b_live, b_hdl, b_1, b_2, b_inb]))
    | (with_reducible refine s_158 (g := g) (tc := tc) ?_ (fun v9 m9 hJ9 => ?_); (next => refine JC_of hL ?_ (by decide); repeat (first | assumption | (refine JC_up ?_ (by first | decide | (unfold frC; omega)) (by first | (simp [BdC, hnd]; done) | (simp [BdC, hnd, upm, cpf] <;> first | omega | (unfold w32; omega)))) | (refine JC_cp ?_ (fun _ => by first | decide | (unfold frC; omega)) (fun _ _ => by simp [BdC, hnd])))); (try clear hs9); have hJ9 := JC_dn hL hJ9; have hs9 := JC_s hJ9; (try simp only [hdl_c, S9_1, S9_m, bud9, live9, inb9, wrn, wr9_14, wr9_15, wr9_16, wr9_17, tq9_14, tq9_15, tq9_16, tq9_17, tq_0, tq_1, tq_3, upr_rl, rl_0, rl_1, rl_2, rl_3, rl_4, rl_5, rl_6, rl_7, rl_8, rl_9, rl_10, rl_11, rl_12, rl_13, sp_0, sp_1, sp_2, sp_3, sp_4, sp_5, sp_6, sp_7, sp_8, sp_9, sp_10, sp_11, sp_12, sp_13, se_0, se_1, se_2, se_3, se_4, se_5, se_6, se_7, se_8, se_9, se_10, se_11, se_12, se_13, sem_0, sem_1, sem_2, sem_3, sem_4, sem_5, List.getD_cons_zero, List.getD_cons_succ, Bool.false_eq_true, wrn3, wrn1, cpmS, cpok9, if_true, if_false, ↓reduceIte, wc_33, wc_157, wc_158, wc_159, b_live, b_hdl, b_1, b_2, b_inb]))
    | (with_reducible refine s_159 (g := g) (tc := tc) ?_ (fun v9 m9 hJ9 => ?_); (next => refine JC_of hL ?_ (by decide); repeat (first | assumption | (refine JC_up ?_ (by first | decide | (unfold frC; omega)) (by first | (simp [BdC, hnd]; done) | (simp [BdC, hnd, upm, cpf] <;> first | omega | (unfold w32; omega)))) | (refine JC_cp ?_ (fun _ => by first | decide | (unfold frC; omega)) (fun _ _ => by simp [BdC, hnd])))); (try clear hs9); have hJ9 := JC_dn hL hJ9; have hs9 := JC_s hJ9; (try simp only [hdl_c, S9_1, S9_m, bud9, live9, inb9, wrn, wr9_14, wr9_15, wr9_16, wr9_17, tq9_14, tq9_15, tq9_16, tq9_17, tq_0, tq_1, tq_3, upr_rl, rl_0, rl_1, rl_2, rl_3, rl_4, rl_5, rl_6, rl_7, rl_8, rl_9, rl_10, rl_11, rl_12, rl_13, sp_0, sp_1, sp_2, sp_3, sp_4, sp_5, sp_6, sp_7, sp_8, sp_9, sp_10, sp_11, sp_12, sp_13, se_0, se_1, se_2, se_3, se_4, se_5, se_6, se_7, se_8, se_9, se_10, se_11, se_12, se_13, sem_0, sem_1, sem_2, sem_3, sem_4, sem_5, List.getD_cons_zero, List.getD_cons_succ, Bool.false_eq_true, wrn3, wrn1, cpmS, cpok9, if_true, if_false, ↓reduceIte, wc_33, wc_157, wc_158, wc_159, b_live, b_hdl, b_1, b_2, b_inb]))
    | (exact ⟨_, rfl, by assumption⟩)
    | (exact ⟨m, rfl, hJ⟩)
    | (unfold w32; omega)
    | (simp (disch := omega) only [w32_eq]; omega)
    | (with_reducible show (_ : Int) ≤ _; simp [upm] <;> (first | omega | (unfold w32; omega)))
    | (with_reducible show (_ : Int) < _; simp [upm] <;> (first | omega | (unfold w32; omega))))

theorem x_160 {d : Nat} {tc a b : Int} {g : Fg} {m : Mem} (hJ : JC 4 g tc m) : B160.1.2 (Cl (d + 20)) (fun _ _ => False) (fun _ _ => False) (fun _ u => ∃ m', u = bud (S9 0 m') 1 6 ∧ JC 4 g tc m') (rho0 (mArg 160) [1, a, b]) (bud (S9 0 m) 1 6) := by
  have hL := JC_l hJ
  have hs := JC_s hJ
  simp only [B160, ma_160, rho_200, wf_1_158, wf_1_161, wf_1_164, wf_1_170, wf_1_26, wf_1_33, cl_70, runB, B70, ma_70, rho_20, wf_4_34, cl_72, B72, ma_72, wf_4_43, w_cst, w_ldi, w_ldj, w_lda, w_ljk, w_ldk, w_ldw, w_ldk2, w_ldt, w_ldtw, w_neg, w_cvb, w_cvs, w_cvc, w_cvj, w_add, w_sub, w_mul, w_ban, w_bor, w_bxo, w_shl, w_shr, w_ush, w_dvi, w_rmi, w_aldi, w_aldj, w_aldz, w_aldc, w_alda, w_ite, w_cmp, w_cmj, w_cz, w_cnot, w_cand, w_cor, w_nil, w_cons, w_cvi, w_csta, w_cvt, w_cvv, w_csv, w_cpy, w_seq, w_sbr, w_sbn, w_brk, w_ifs, w_ifx, w_ife, w_wk, w_rets, w_rtv, w_thr, w_asi, w_asj, w_asa, w_inc, w_exs, w_asti, w_astj, w_astz, w_astc, w_aopadd, w_aopsub, w_sw, if_true, if_false, ↓reduceIte, hdl_c, S9_1, S9_m, bud9, live9, inb9, wrn, wr9_14, wr9_15, wr9_16, wr9_17, tq9_14, tq9_15, tq9_16, tq9_17, tq_0, tq_1, tq_3, upr_rl, rl_0, rl_1, rl_2, rl_3, rl_4, rl_5, rl_6, rl_7, rl_8, rl_9, rl_10, rl_11, rl_12, rl_13, sp_0, sp_1, sp_2, sp_3, sp_4, sp_5, sp_6, sp_7, sp_8, sp_9, sp_10, sp_11, sp_12, sp_13, se_0, se_1, se_2, se_3, se_4, se_5, se_6, se_7, se_8, se_9, se_10, se_11, se_12, se_13, sem_0, sem_1, sem_2, sem_3, sem_4, sem_5, kc_1, kl9_1, sr_1_0, sr_1_1, sr_1_10, sr_1_11, sr_1_13, sr_1_2, sr_1_3, sr_1_4, sr_1_5, sr_1_6, sr_1_7, sr_1_8, sr_1_9, kc_4, kl9_4, sr_4_0, sr_4_2, sr_4_4, kc_8, kl9_8, sr_8_10, sr_8_4, sr_8_5, sr_8_6, sr_8_7, sr_8_9, kc_9, kl9_9, kc_10, kl9_10, kc_11, kl9_11, kc_12, kl9_12, kc_15, kl9_15, sr_15_0, sr_15_1, sr_15_2, sr_15_4, sr_15_5, sr_15_6, sr_15_7, sr_15_8, sr_15_9, kc_16, kl9_16, kc_17, kl9_17, kc_18, kl9_18, kc_19, kl9_19, kc_20, kl9_20, kc_21, kl9_21, kc_22, kl9_22, kc_23, kl9_23, kc_24, kl9_24, kc_13, kl9_13, kc_14, kl9_14, kc_218, kl9_218, b_live, b_hdl, b_1, b_2, b_inb, b_w _ _ b_70, b_w _ _ b_72, swW_c, swW_n, List.mem_singleton, List.mem_cons, List.mem_nil_iff]
  repeat' (first
    | (with_reducible exact True.intro)
    | (with_reducible exact False.elim)
    | omega
    | (with_reducible rfl)
    | (with_reducible contradiction)
    | (with_reducible refine And.intro ?_ ?_)
    | intro _
    | (exact ⟨_, rfl, by assumption⟩)
    | (exact ⟨m, rfl, hJ⟩)
    | (unfold w32; omega)
    | (simp (disch := omega) only [w32_eq]; omega)
    | (with_reducible show (_ : Int) ≤ _; simp [upm] <;> (first | omega | (unfold w32; omega)))
    | (with_reducible show (_ : Int) < _; simp [upm] <;> (first | omega | (unfold w32; omega))))

theorem x_161 {d : Nat} {tc a b : Int} {g : Fg} {m : Mem} (hJ : JC 4 g tc m) : B161.1.2 (Cl (d + 20)) (fun _ _ => False) (fun _ _ => False) (fun _ u => ∃ m', u = bud (S9 0 m') 1 6 ∧ JC 4 g tc m') (rho0 (mArg 161) [1, a, b]) (bud (S9 0 m) 1 6) := by
  have hL := JC_l hJ
  have hs := JC_s hJ
  simp only [B161, ma_161, rho_200, wf_1_176, wf_1_179, wf_1_182, wf_1_185, wf_1_188, wf_1_26, wf_1_33, cl_52, runB, B52, ma_52, rho_20, wf_4_37, w_cst, w_ldi, w_ldj, w_lda, w_ljk, w_ldk, w_ldw, w_ldk2, w_ldt, w_ldtw, w_neg, w_cvb, w_cvs, w_cvc, w_cvj, w_add, w_sub, w_mul, w_ban, w_bor, w_bxo, w_shl, w_shr, w_ush, w_dvi, w_rmi, w_aldi, w_aldj, w_aldz, w_aldc, w_alda, w_ite, w_cmp, w_cmj, w_cz, w_cnot, w_cand, w_cor, w_nil, w_cons, w_cvi, w_csta, w_cvt, w_cvv, w_csv, w_cpy, w_seq, w_sbr, w_sbn, w_brk, w_ifs, w_ifx, w_ife, w_wk, w_rets, w_rtv, w_thr, w_asi, w_asj, w_asa, w_inc, w_exs, w_asti, w_astj, w_astz, w_astc, w_aopadd, w_aopsub, w_sw, if_true, if_false, ↓reduceIte, hdl_c, S9_1, S9_m, bud9, live9, inb9, wrn, wr9_14, wr9_15, wr9_16, wr9_17, tq9_14, tq9_15, tq9_16, tq9_17, tq_0, tq_1, tq_3, upr_rl, rl_0, rl_1, rl_2, rl_3, rl_4, rl_5, rl_6, rl_7, rl_8, rl_9, rl_10, rl_11, rl_12, rl_13, sp_0, sp_1, sp_2, sp_3, sp_4, sp_5, sp_6, sp_7, sp_8, sp_9, sp_10, sp_11, sp_12, sp_13, se_0, se_1, se_2, se_3, se_4, se_5, se_6, se_7, se_8, se_9, se_10, se_11, se_12, se_13, sem_0, sem_1, sem_2, sem_3, sem_4, sem_5, kc_1, kl9_1, sr_1_0, sr_1_1, sr_1_10, sr_1_11, sr_1_13, sr_1_2, sr_1_3, sr_1_4, sr_1_5, sr_1_6, sr_1_7, sr_1_8, sr_1_9, kc_4, kl9_4, sr_4_0, sr_4_2, sr_4_4, kc_8, kl9_8, sr_8_10, sr_8_4, sr_8_5, sr_8_6, sr_8_7, sr_8_9, kc_9, kl9_9, kc_10, kl9_10, kc_11, kl9_11, kc_12, kl9_12, kc_15, kl9_15, sr_15_0, sr_15_1, sr_15_2, sr_15_4, sr_15_5, sr_15_6, sr_15_7, sr_15_8, sr_15_9, kc_16, kl9_16, kc_17, kl9_17, kc_18, kl9_18, kc_19, kl9_19, kc_20, kl9_20, kc_21, kl9_21, kc_22, kl9_22, kc_23, kl9_23, kc_24, kl9_24, kc_13, kl9_13, kc_14, kl9_14, kc_218, kl9_218, b_live, b_hdl, b_1, b_2, b_inb, b_w _ _ b_52, swW_c, swW_n, List.mem_singleton, List.mem_cons, List.mem_nil_iff]
  repeat' (first
    | (with_reducible exact True.intro)
    | (with_reducible exact False.elim)
    | omega
    | (with_reducible rfl)
    | (with_reducible contradiction)
    | (with_reducible refine And.intro ?_ ?_)
    | intro _
    | (exact ⟨_, rfl, by assumption⟩)
    | (exact ⟨m, rfl, hJ⟩)
    | (unfold w32; omega)
    | (simp (disch := omega) only [w32_eq]; omega)
    | (with_reducible show (_ : Int) ≤ _; simp [upm] <;> (first | omega | (unfold w32; omega)))
    | (with_reducible show (_ : Int) < _; simp [upm] <;> (first | omega | (unfold w32; omega))))

theorem x_162 {d : Nat} {tc a b : Int} {g : Fg} {m : Mem} (hJ : JC 4 g tc m) : B162.1.2 (Cl (d + 20)) (fun _ _ => False) (fun _ _ => False) (fun _ u => ∃ m', u = bud (S9 0 m') 1 6 ∧ JC 4 g tc m') (rho0 (mArg 162) [1, a, b]) (bud (S9 0 m) 1 6) := by
  have hL := JC_l hJ
  have hs := JC_s hJ
  simp only [B162, ma_162, rho_200, wf_1_194, wf_1_197, wf_1_200, wf_1_203, wf_1_206, wf_1_209, wf_1_212, wf_1_26, wf_1_33, cl_63, runB, B63, ma_63, rho_20, wf_4_40, w_cst, w_ldi, w_ldj, w_lda, w_ljk, w_ldk, w_ldw, w_ldk2, w_ldt, w_ldtw, w_neg, w_cvb, w_cvs, w_cvc, w_cvj, w_add, w_sub, w_mul, w_ban, w_bor, w_bxo, w_shl, w_shr, w_ush, w_dvi, w_rmi, w_aldi, w_aldj, w_aldz, w_aldc, w_alda, w_ite, w_cmp, w_cmj, w_cz, w_cnot, w_cand, w_cor, w_nil, w_cons, w_cvi, w_csta, w_cvt, w_cvv, w_csv, w_cpy, w_seq, w_sbr, w_sbn, w_brk, w_ifs, w_ifx, w_ife, w_wk, w_rets, w_rtv, w_thr, w_asi, w_asj, w_asa, w_inc, w_exs, w_asti, w_astj, w_astz, w_astc, w_aopadd, w_aopsub, w_sw, if_true, if_false, ↓reduceIte, hdl_c, S9_1, S9_m, bud9, live9, inb9, wrn, wr9_14, wr9_15, wr9_16, wr9_17, tq9_14, tq9_15, tq9_16, tq9_17, tq_0, tq_1, tq_3, upr_rl, rl_0, rl_1, rl_2, rl_3, rl_4, rl_5, rl_6, rl_7, rl_8, rl_9, rl_10, rl_11, rl_12, rl_13, sp_0, sp_1, sp_2, sp_3, sp_4, sp_5, sp_6, sp_7, sp_8, sp_9, sp_10, sp_11, sp_12, sp_13, se_0, se_1, se_2, se_3, se_4, se_5, se_6, se_7, se_8, se_9, se_10, se_11, se_12, se_13, sem_0, sem_1, sem_2, sem_3, sem_4, sem_5, kc_1, kl9_1, sr_1_0, sr_1_1, sr_1_10, sr_1_11, sr_1_13, sr_1_2, sr_1_3, sr_1_4, sr_1_5, sr_1_6, sr_1_7, sr_1_8, sr_1_9, kc_4, kl9_4, sr_4_0, sr_4_2, sr_4_4, kc_8, kl9_8, sr_8_10, sr_8_4, sr_8_5, sr_8_6, sr_8_7, sr_8_9, kc_9, kl9_9, kc_10, kl9_10, kc_11, kl9_11, kc_12, kl9_12, kc_15, kl9_15, sr_15_0, sr_15_1, sr_15_2, sr_15_4, sr_15_5, sr_15_6, sr_15_7, sr_15_8, sr_15_9, kc_16, kl9_16, kc_17, kl9_17, kc_18, kl9_18, kc_19, kl9_19, kc_20, kl9_20, kc_21, kl9_21, kc_22, kl9_22, kc_23, kl9_23, kc_24, kl9_24, kc_13, kl9_13, kc_14, kl9_14, kc_218, kl9_218, b_live, b_hdl, b_1, b_2, b_inb, b_w _ _ b_63, b_w _ _ b_163, swW_c, swW_n, List.mem_singleton, List.mem_cons, List.mem_nil_iff]
  repeat' (first
    | (with_reducible exact True.intro)
    | (with_reducible exact False.elim)
    | omega
    | (with_reducible rfl)
    | (with_reducible contradiction)
    | (with_reducible refine And.intro ?_ ?_)
    | intro _
    | (with_reducible refine s_163 (g := g) (tc := tc) ?_ ?_ (fun v9 m9 hJ9 => ?_); (next => first | omega | (unfold w32; omega) | exact JC_10 hJ9 _ | exact JC_11 hJ9 _ | exact JC_12 hJ9 _ | exact JC_194 hJ9 _ | exact JC_195 hJ9 _ | exact JC_206 hJ9 _ | exact JC_207 hJ9 _ | exact JC_194 hJ _ | exact JC_195 hJ _ | exact JC_10 hJ _ | exact JC_11 hJ _ | (simp [upm] <;> (first | omega | (unfold w32; omega) | exact JC_207 hJ9 _ | exact JC_195 hJ9 _))); (next => refine JC_of hL ?_ (by decide); repeat (first | assumption | (refine JC_up ?_ (by first | decide | (unfold frC; omega)) (by first | (simp [BdC, hnd]; done) | (simp [BdC, hnd, upm, cpf] <;> first | omega | (unfold w32; omega)))) | (refine JC_cp ?_ (fun _ => by first | decide | (unfold frC; omega)) (fun _ _ => by simp [BdC, hnd])))); (try clear hs9); have hJ9 := JC_dn hL hJ9; have hs9 := JC_s hJ9; (try simp only [hdl_c, S9_1, S9_m, bud9, live9, inb9, wrn, wr9_14, wr9_15, wr9_16, wr9_17, tq9_14, tq9_15, tq9_16, tq9_17, tq_0, tq_1, tq_3, upr_rl, rl_0, rl_1, rl_2, rl_3, rl_4, rl_5, rl_6, rl_7, rl_8, rl_9, rl_10, rl_11, rl_12, rl_13, sp_0, sp_1, sp_2, sp_3, sp_4, sp_5, sp_6, sp_7, sp_8, sp_9, sp_10, sp_11, sp_12, sp_13, se_0, se_1, se_2, se_3, se_4, se_5, se_6, se_7, se_8, se_9, se_10, se_11, se_12, se_13, sem_0, sem_1, sem_2, sem_3, sem_4, sem_5, List.getD_cons_zero, List.getD_cons_succ, Bool.false_eq_true, wrn3, wrn1, cpmS, cpok9, if_true, if_false, ↓reduceIte, wc_63, wc_163, b_live, b_hdl, b_1, b_2, b_inb]))
    | (exact ⟨_, rfl, by assumption⟩)
    | (exact ⟨m, rfl, hJ⟩)
    | (unfold w32; omega)
    | (simp (disch := omega) only [w32_eq]; omega)
    | (with_reducible show (_ : Int) ≤ _; simp [upm] <;> (first | omega | (unfold w32; omega)))
    | (with_reducible show (_ : Int) < _; simp [upm] <;> (first | omega | (unfold w32; omega))))

theorem x_164 {d : Nat} {tc a : Int} {g : Fg} {m : Mem} (hJ : JC 4 g tc m) : B164.1.2 (Cl (d + 20)) (fun _ _ => False) (fun _ _ => False) (fun _ u => ∃ m', u = bud (S9 0 m') 1 6 ∧ JC 4 g tc m') (rho0 (mArg 164) [1, a]) (bud (S9 0 m) 1 6) := by
  have hL := JC_l hJ
  have hs := JC_s hJ
  simp only [B164, ma_164, rho_20, wf_1_100, wf_1_395, w_cst, w_ldi, w_ldj, w_lda, w_ljk, w_ldk, w_ldw, w_ldk2, w_ldt, w_ldtw, w_neg, w_cvb, w_cvs, w_cvc, w_cvj, w_add, w_sub, w_mul, w_ban, w_bor, w_bxo, w_shl, w_shr, w_ush, w_dvi, w_rmi, w_aldi, w_aldj, w_aldz, w_aldc, w_alda, w_ite, w_cmp, w_cmj, w_cz, w_cnot, w_cand, w_cor, w_nil, w_cons, w_cvi, w_csta, w_cvt, w_cvv, w_csv, w_cpy, w_seq, w_sbr, w_sbn, w_brk, w_ifs, w_ifx, w_ife, w_wk, w_rets, w_rtv, w_thr, w_asi, w_asj, w_asa, w_inc, w_exs, w_asti, w_astj, w_astz, w_astc, w_aopadd, w_aopsub, w_sw, if_true, if_false, ↓reduceIte, hdl_c, S9_1, S9_m, bud9, live9, inb9, wrn, wr9_14, wr9_15, wr9_16, wr9_17, tq9_14, tq9_15, tq9_16, tq9_17, tq_0, tq_1, tq_3, upr_rl, rl_0, rl_1, rl_2, rl_3, rl_4, rl_5, rl_6, rl_7, rl_8, rl_9, rl_10, rl_11, rl_12, rl_13, sp_0, sp_1, sp_2, sp_3, sp_4, sp_5, sp_6, sp_7, sp_8, sp_9, sp_10, sp_11, sp_12, sp_13, se_0, se_1, se_2, se_3, se_4, se_5, se_6, se_7, se_8, se_9, se_10, se_11, se_12, se_13, sem_0, sem_1, sem_2, sem_3, sem_4, sem_5, kc_1, kl9_1, sr_1_0, sr_1_1, sr_1_10, sr_1_11, sr_1_13, sr_1_2, sr_1_3, sr_1_4, sr_1_5, sr_1_6, sr_1_7, sr_1_8, sr_1_9, kc_4, kl9_4, sr_4_0, sr_4_2, sr_4_4, kc_8, kl9_8, sr_8_10, sr_8_4, sr_8_5, sr_8_6, sr_8_7, sr_8_9, kc_9, kl9_9, kc_10, kl9_10, kc_11, kl9_11, kc_12, kl9_12, kc_15, kl9_15, sr_15_0, sr_15_1, sr_15_2, sr_15_4, sr_15_5, sr_15_6, sr_15_7, sr_15_8, sr_15_9, kc_16, kl9_16, kc_17, kl9_17, kc_18, kl9_18, kc_19, kl9_19, kc_20, kl9_20, kc_21, kl9_21, kc_22, kl9_22, kc_23, kl9_23, kc_24, kl9_24, kc_13, kl9_13, kc_14, kl9_14, kc_218, kl9_218, b_live, b_hdl, b_1, b_2, b_inb, b_2, swW_c, swW_n, List.mem_singleton, List.mem_cons, List.mem_nil_iff]
  repeat' (first
    | (with_reducible exact True.intro)
    | (with_reducible exact False.elim)
    | omega
    | (with_reducible rfl)
    | (with_reducible contradiction)
    | (with_reducible refine And.intro ?_ ?_)
    | intro _
    | (exact ⟨_, rfl, by assumption⟩)
    | (exact ⟨m, rfl, hJ⟩)
    | (unfold w32; omega)
    | (simp (disch := omega) only [w32_eq]; omega)
    | (with_reducible show (_ : Int) ≤ _; simp [upm] <;> (first | omega | (unfold w32; omega)))
    | (with_reducible show (_ : Int) < _; simp [upm] <;> (first | omega | (unfold w32; omega))))
end
section
/-! the places of the law's pool (by program) -/
theorem kl_1 : KlsAt 1 := ⟨(List.forall_mem_cons.mpr ⟨ly_1_0, (List.forall_mem_cons.mpr ⟨ly_1_1, (List.forall_mem_cons.mpr ⟨ly_1_2, (List.forall_mem_cons.mpr ⟨ly_1_3, (List.forall_mem_cons.mpr ⟨ly_1_4, (List.forall_mem_cons.mpr ⟨ly_1_5, (List.forall_mem_cons.mpr ⟨ly_1_6, (List.forall_mem_cons.mpr ⟨ly_1_7, (List.forall_mem_cons.mpr ⟨ly_1_8, (List.forall_mem_cons.mpr ⟨ly_1_9, (List.forall_mem_cons.mpr ⟨ly_1_10, (List.forall_mem_cons.mpr ⟨ly_1_11, (List.forall_mem_cons.mpr ⟨ly_1_12, (List.forall_mem_cons.mpr ⟨ly_1_13, (List.forall_mem_cons.mpr ⟨ly_1_14, (fun _ h => nomatch h)⟩)⟩)⟩)⟩)⟩)⟩)⟩)⟩)⟩)⟩)⟩)⟩)⟩)⟩)⟩), pq9_1, by decide +kernel⟩
theorem kl_13 : KlsAt 13 := ⟨(List.forall_mem_cons.mpr ⟨ly_13_0, (List.forall_mem_cons.mpr ⟨ly_13_1, (List.forall_mem_cons.mpr ⟨ly_13_2, (List.forall_mem_cons.mpr ⟨ly_13_3, (List.forall_mem_cons.mpr ⟨ly_13_4, (List.forall_mem_cons.mpr ⟨ly_13_5, (List.forall_mem_cons.mpr ⟨ly_13_6, (List.forall_mem_cons.mpr ⟨ly_13_7, (List.forall_mem_cons.mpr ⟨ly_13_8, (List.forall_mem_cons.mpr ⟨ly_13_9, (List.forall_mem_cons.mpr ⟨ly_13_10, (List.forall_mem_cons.mpr ⟨ly_13_11, (List.forall_mem_cons.mpr ⟨ly_13_12, (List.forall_mem_cons.mpr ⟨ly_13_13, (List.forall_mem_cons.mpr ⟨ly_13_14, (List.forall_mem_cons.mpr ⟨ly_13_15, (List.forall_mem_cons.mpr ⟨ly_13_16, (List.forall_mem_cons.mpr ⟨ly_13_17, (List.forall_mem_cons.mpr ⟨ly_13_18, (List.forall_mem_cons.mpr ⟨ly_13_19, (List.forall_mem_cons.mpr ⟨ly_13_20, (List.forall_mem_cons.mpr ⟨ly_13_21, (List.forall_mem_cons.mpr ⟨ly_13_22, (List.forall_mem_cons.mpr ⟨ly_13_23, (List.forall_mem_cons.mpr ⟨ly_13_24, (List.forall_mem_cons.mpr ⟨ly_13_25, (List.forall_mem_cons.mpr ⟨ly_13_26, (List.forall_mem_cons.mpr ⟨ly_13_27, (List.forall_mem_cons.mpr ⟨ly_13_28, (List.forall_mem_cons.mpr ⟨ly_13_29, (List.forall_mem_cons.mpr ⟨ly_13_30, (List.forall_mem_cons.mpr ⟨ly_13_31, (List.forall_mem_cons.mpr ⟨ly_13_32, (List.forall_mem_cons.mpr ⟨ly_13_33, (List.forall_mem_cons.mpr ⟨ly_13_34, (List.forall_mem_cons.mpr ⟨ly_13_35, (List.forall_mem_cons.mpr ⟨ly_13_36, (List.forall_mem_cons.mpr ⟨ly_13_37, (List.forall_mem_cons.mpr ⟨ly_13_38, (List.forall_mem_cons.mpr ⟨ly_13_39, (List.forall_mem_cons.mpr ⟨ly_13_40, (List.forall_mem_cons.mpr ⟨ly_13_41, (List.forall_mem_cons.mpr ⟨ly_13_42, (List.forall_mem_cons.mpr ⟨ly_13_43, (List.forall_mem_cons.mpr ⟨ly_13_44, (List.forall_mem_cons.mpr ⟨ly_13_45, (List.forall_mem_cons.mpr ⟨ly_13_46, (List.forall_mem_cons.mpr ⟨ly_13_47, (List.forall_mem_cons.mpr ⟨ly_13_48, (List.forall_mem_cons.mpr ⟨ly_13_49, (List.forall_mem_cons.mpr ⟨ly_13_50, (List.forall_mem_cons.mpr ⟨ly_13_51, (List.forall_mem_cons.mpr ⟨ly_13_52, (List.forall_mem_cons.mpr ⟨ly_13_53, (List.forall_mem_cons.mpr ⟨ly_13_54, (List.forall_mem_cons.mpr ⟨ly_13_55, (List.forall_mem_cons.mpr ⟨ly_13_56, (List.forall_mem_cons.mpr ⟨ly_13_57, (List.forall_mem_cons.mpr ⟨ly_13_58, (List.forall_mem_cons.mpr ⟨ly_13_59, (List.forall_mem_cons.mpr ⟨ly_13_60, (List.forall_mem_cons.mpr ⟨ly_13_61, (List.forall_mem_cons.mpr ⟨ly_13_62, (List.forall_mem_cons.mpr ⟨ly_13_63, (List.forall_mem_cons.mpr ⟨ly_13_64, (List.forall_mem_cons.mpr ⟨ly_13_65, (List.forall_mem_cons.mpr ⟨ly_13_66, (List.forall_mem_cons.mpr ⟨ly_13_67, (List.forall_mem_cons.mpr ⟨ly_13_68, (List.forall_mem_cons.mpr ⟨ly_13_69, (List.forall_mem_cons.mpr ⟨ly_13_70, (List.forall_mem_cons.mpr ⟨ly_13_71, (fun _ h => nomatch h)⟩)⟩)⟩)⟩)⟩)⟩)⟩)⟩)⟩)⟩)⟩)⟩)⟩)⟩)⟩)⟩)⟩)⟩)⟩)⟩)⟩)⟩)⟩)⟩)⟩)⟩)⟩)⟩)⟩)⟩)⟩)⟩)⟩)⟩)⟩)⟩)⟩)⟩)⟩)⟩)⟩)⟩)⟩)⟩)⟩)⟩)⟩)⟩)⟩)⟩)⟩)⟩)⟩)⟩)⟩)⟩)⟩)⟩)⟩)⟩)⟩)⟩)⟩)⟩)⟩)⟩)⟩)⟩)⟩)⟩)⟩)⟩), pq9_13, by decide +kernel⟩
theorem n_19_8 : NewAt 19 8 1 := ⟨gw1 25 rfl rfl, gw1 26 rfl rfl, gw1 1 rfl rfl, by decide, by decide, kl_1⟩
theorem n_19_29 : NewAt 19 29 13 := ⟨gw6 165 rfl rfl, gw6 166 rfl rfl, gw1 13 rfl rfl, by decide, by decide, kl_13⟩
theorem i_19_28 : SpecAt 19 28 0 := ⟨mo_0, Or.inl (gw1 27 rfl rfl), gw1 28 rfl rfl, by decide +kernel, by decide +kernel, by decide +kernel, by decide +kernel, by decide +kernel⟩
theorem v_19_32 : VirtAt 19 32 12 1 := va9 mt_9_12 mo_12 (gw3 122 rfl rfl) (vk9 mt_9_12 (gw3 123 rfl rfl) (gw3 124 rfl rfl) rfl (by decide) pd9_0 rfl)
theorem v_19_37 : VirtAt 19 37 14 1 := va9 mt_9_14 mo_14 (gw3 130 rfl rfl) (vk9 mt_9_14 (gw3 131 rfl rfl) (gw3 132 rfl rfl) rfl (by decide) pd9_1 rfl)
theorem v_19_42 : VirtAt 19 42 16 1 := va9 mt_9_16 mo_16 (gw3 138 rfl rfl) (vk9 mt_9_16 (gw3 139 rfl rfl) (gw3 140 rfl rfl) rfl (by decide) pd9_5 rfl)
theorem v_19_47 : VirtAt 19 47 41 1 := va9 mt_9_41 mo_41 (gw4 0 rfl rfl) (vk9 mt_9_41 (gw4 1 rfl rfl) (gw4 2 rfl rfl) rfl (by decide) pd9_5 rfl)
theorem v_19_66 : VirtAt 19 66 51 1 := va9 mt_9_51 mo_51 (gw4 51 rfl rfl) (vk9 mt_9_51 (gw4 52 rfl rfl) (gw4 53 rfl rfl) rfl (by decide) pd9_7 rfl)
theorem v_19_70 : VirtAt 19 70 54 1 := va9 mt_9_54 mo_54 (gw4 63 rfl rfl) (vk9 mt_9_54 (gw4 64 rfl rfl) (gw4 65 rfl rfl) rfl (by decide) pd9_20 rfl)
theorem v_19_75 : VirtAt 19 75 57 1 := va9 mt_9_57 mo_57 (gw4 74 rfl rfl) (vk9 mt_9_57 (gw4 75 rfl rfl) (gw4 76 rfl rfl) rfl (by decide) pd9_7 rfl)
theorem v_19_79 : VirtAt 19 79 65 1 := va9 mt_9_65 mo_65 (gw4 107 rfl rfl) (vk9 mt_9_65 (gw4 108 rfl rfl) (gw4 109 rfl rfl) rfl (by decide) pd9_0 rfl)
theorem v_19_83 : VirtAt 19 83 67 1 := va9 mt_9_67 mo_67 (gw4 116 rfl rfl) (vk9 mt_9_67 (gw4 117 rfl rfl) (gw4 118 rfl rfl) rfl (by decide) pd9_7 rfl)
theorem v_19_87 : VirtAt 19 87 85 1 := va9 mt_9_85 mo_85 (gw4 194 rfl rfl) (vk9 mt_9_85 (gw4 195 rfl rfl) (gw4 196 rfl rfl) rfl (by decide) pd9_0 rfl)
theorem v_19_91 : VirtAt 19 91 87 1 := va9 mt_9_87 mo_87 (gw4 202 rfl rfl) (vk9 mt_9_87 (gw4 203 rfl rfl) (gw4 204 rfl rfl) rfl (by decide) pd9_0 rfl)
theorem v_19_95 : VirtAt 19 95 89 1 := va9 mt_9_89 mo_89 (gw4 210 rfl rfl) (vk9 mt_9_89 (gw4 211 rfl rfl) (gw4 212 rfl rfl) rfl (by decide) pd9_7 rfl)
theorem v_19_99 : VirtAt 19 99 91 1 := va9 mt_9_91 mo_91 (gw4 218 rfl rfl) (vk9 mt_9_91 (gw4 219 rfl rfl) (gw4 220 rfl rfl) rfl (by decide) pd9_7 rfl)
theorem v_19_103 : VirtAt 19 103 93 1 := va9 mt_9_93 mo_93 (gw4 226 rfl rfl) (vk9 mt_9_93 (gw4 227 rfl rfl) (gw4 228 rfl rfl) rfl (by decide) pd9_7 rfl)
theorem v_19_107 : VirtAt 19 107 96 1 := va9 mt_9_96 mo_96 (gw5 2 rfl rfl) (vk9 mt_9_96 (gw5 3 rfl rfl) (gw5 4 rfl rfl) rfl (by decide) pd9_5 rfl)
theorem v_19_111 : VirtAt 19 111 101 1 := va9 mt_9_101 mo_101 (gw5 37 rfl rfl) (vk9 mt_9_101 (gw5 38 rfl rfl) (gw5 39 rfl rfl) rfl (by decide) pd9_5 rfl)
theorem v_19_115 : VirtAt 19 115 103 1 := va9 mt_9_103 mo_103 (gw5 45 rfl rfl) (vk9 mt_9_103 (gw5 46 rfl rfl) (gw5 47 rfl rfl) rfl (by decide) pd9_0 rfl)
theorem v_19_119 : VirtAt 19 119 108 1 := va9 mt_9_108 mo_108 (gw5 68 rfl rfl) (vk9 mt_9_108 (gw5 69 rfl rfl) (gw5 70 rfl rfl) rfl (by decide) pd9_7 rfl)
theorem v_19_123 : VirtAt 19 123 109 1 := va9 mt_9_109 mo_109 (gw5 72 rfl rfl) (vk9 mt_9_109 (gw5 73 rfl rfl) (gw5 74 rfl rfl) rfl (by decide) pd9_0 rfl)
theorem v_19_127 : VirtAt 19 127 110 1 := va9 mt_9_110 mo_110 (gw5 76 rfl rfl) (vk9 mt_9_110 (gw5 77 rfl rfl) (gw5 78 rfl rfl) rfl (by decide) (by decide +kernel) rfl)
theorem v_19_132 : VirtAt 19 132 113 1 := va9 mt_9_113 mo_113 (gw5 88 rfl rfl) (vk9 mt_9_113 (gw5 89 rfl rfl) (gw5 90 rfl rfl) rfl (by decide) (by decide +kernel) rfl)
theorem v_19_136 : VirtAt 19 136 114 1 := va9 mt_9_114 mo_114 (gw5 92 rfl rfl) (vk9 mt_9_114 (gw5 93 rfl rfl) (gw5 94 rfl rfl) rfl (by decide) pd9_7 rfl)
theorem v_19_140 : VirtAt 19 140 120 1 := va9 mt_9_120 mo_120 (gw5 121 rfl rfl) (vk9 mt_9_120 (gw5 122 rfl rfl) (gw5 123 rfl rfl) rfl (by decide) pd9_7 rfl)
theorem v_19_144 : VirtAt 19 144 122 1 := va9 mt_9_122 mo_122 (gw5 131 rfl rfl) (vk9 mt_9_122 (gw5 132 rfl rfl) (gw5 133 rfl rfl) rfl (by decide) pd9_7 rfl)
theorem v_19_148 : VirtAt 19 148 123 1 := va9 mt_9_123 mo_123 (gw5 135 rfl rfl) (vk9 mt_9_123 (gw5 136 rfl rfl) (gw5 137 rfl rfl) rfl (by decide) (by decide +kernel) rfl)
theorem v_19_152 : VirtAt 19 152 130 1 := va9 mt_9_130 mo_130 (gw5 166 rfl rfl) (vk9 mt_9_130 (gw5 167 rfl rfl) (gw5 168 rfl rfl) rfl (by decide) pd9_7 rfl)
theorem v_19_156 : VirtAt 19 156 131 1 := va9 mt_9_131 mo_131 (gw5 170 rfl rfl) (vk9 mt_9_131 (gw5 171 rfl rfl) (gw5 172 rfl rfl) rfl (by decide) (by decide +kernel) rfl)
theorem v_19_160 : VirtAt 19 160 136 1 := va9 mt_9_136 mo_136 (gw5 193 rfl rfl) (vk9 mt_9_136 (gw5 194 rfl rfl) (gw5 195 rfl rfl) rfl (by decide) pd9_20 rfl)
theorem v_19_164 : VirtAt 19 164 143 1 := va9 mt_9_143 mo_143 (gw5 231 rfl rfl) (vk9 mt_9_143 (gw5 232 rfl rfl) (gw5 233 rfl rfl) rfl (by decide) pd9_7 rfl)
theorem v_19_168 : VirtAt 19 168 145 1 := va9 mt_9_145 mo_145 (gw5 239 rfl rfl) (vk9 mt_9_145 (gw6 0 rfl rfl) (gw6 1 rfl rfl) rfl (by decide) pd9_5 rfl)
theorem v_19_172 : VirtAt 19 172 146 1 := va9 mt_9_146 mo_146 (gw6 3 rfl rfl) (vk9 mt_9_146 (gw6 4 rfl rfl) (gw6 5 rfl rfl) rfl (by decide) pd9_7 rfl)
theorem v_19_176 : VirtAt 19 176 151 1 := va9 mt_9_151 mo_151 (gw6 27 rfl rfl) (vk9 mt_9_151 (gw6 28 rfl rfl) (gw6 29 rfl rfl) rfl (by decide) pd9_20 rfl)
theorem v_19_180 : VirtAt 19 180 152 1 := va9 mt_9_152 mo_152 (gw6 32 rfl rfl) (vk9 mt_9_152 (gw6 33 rfl rfl) (gw6 34 rfl rfl) rfl (by decide) pd9_1 rfl)
theorem v_19_184 : VirtAt 19 184 153 1 := va9 mt_9_153 mo_153 (gw6 37 rfl rfl) (vk9 mt_9_153 (gw6 38 rfl rfl) (gw6 39 rfl rfl) rfl (by decide) pd9_1 rfl)
theorem v_19_188 : VirtAt 19 188 154 1 := va9 mt_9_154 mo_154 (gw6 41 rfl rfl) (vk9 mt_9_154 (gw6 42 rfl rfl) (gw6 43 rfl rfl) rfl (by decide) pd9_0 rfl)
theorem v_19_7 : VirtAt 19 7 156 1 := va9 mt_9_156 mo_156 (gw6 53 rfl rfl) (vk9 mt_9_156 (gw6 54 rfl rfl) (gw6 55 rfl rfl) rfl (by decide) pd9_7 rfl)
theorem v_19_15 : VirtAt 19 15 160 1 := va9 mt_9_160 mo_160 (gw6 133 rfl rfl) (vk9 mt_9_160 (gw6 134 rfl rfl) (gw6 135 rfl rfl) rfl (by decide) pd9_7 rfl)
theorem v_19_18 : VirtAt 19 18 161 1 := va9 mt_9_161 mo_161 (gw6 142 rfl rfl) (vk9 mt_9_161 (gw6 143 rfl rfl) (gw6 144 rfl rfl) rfl (by decide) pd9_7 rfl)
theorem v_19_21 : VirtAt 19 21 162 1 := va9 mt_9_162 mo_162 (gw6 149 rfl rfl) (vk9 mt_9_162 (gw6 150 rfl rfl) (gw6 151 rfl rfl) rfl (by decide) pd9_7 rfl)
theorem v_19_24 : VirtAt 19 24 164 1 := va9 mt_9_164 mo_164 (gw6 161 rfl rfl) (vk9 mt_9_164 (gw6 162 rfl rfl) (gw6 163 rfl rfl) rfl (by decide) (by decide +kernel) rfl)
theorem i_19_31 : SpecAt 19 31 165 := ⟨mo_165, Or.inl (gw6 167 rfl rfl), gw6 168 rfl rfl, by decide +kernel, by decide +kernel, by decide +kernel, by decide +kernel, by decide +kernel⟩
theorem v_19_36 : VirtAt 19 36 167 13 := va9 mt_9_167 mo_167 (gw7 149 rfl rfl) (vk9 mt_9_167 (gw7 150 rfl rfl) (gw7 151 rfl rfl) rfl (by decide) pd9_0 rfl)
theorem v_19_41 : VirtAt 19 41 168 13 := va9 mt_9_168 mo_168 (gw7 153 rfl rfl) (vk9 mt_9_168 (gw7 154 rfl rfl) (gw7 155 rfl rfl) rfl (by decide) pd9_1 rfl)
theorem v_19_46 : VirtAt 19 46 170 13 := va9 mt_9_170 mo_170 (gw7 160 rfl rfl) (vk9 mt_9_170 (gw7 161 rfl rfl) (gw7 162 rfl rfl) rfl (by decide) pd9_5 rfl)
theorem v_19_50 : VirtAt 19 50 189 13 := va9 mt_9_189 mo_189 (gw8 41 rfl rfl) (vk9 mt_9_189 (gw8 42 rfl rfl) (gw8 43 rfl rfl) rfl (by decide) pd9_5 rfl)
theorem v_19_56 : VirtAt 19 56 193 13 := va9 mt_9_193 mo_193 (gw8 61 rfl rfl) (vk9 mt_9_193 (gw8 62 rfl rfl) (gw8 63 rfl rfl) rfl (by decide) pd9_7 rfl)
theorem v_19_59 : VirtAt 19 59 196 13 := va9 mt_9_196 mo_196 (gw8 74 rfl rfl) (vk9 mt_9_196 (gw8 75 rfl rfl) (gw8 76 rfl rfl) rfl (by decide) pd9_7 rfl)
theorem v_19_62 : VirtAt 19 62 200 13 := va9 mt_9_200 mo_200 (gw8 89 rfl rfl) (vk9 mt_9_200 (gw8 90 rfl rfl) (gw8 91 rfl rfl) rfl (by decide) pd9_7 rfl)
theorem v_19_65 : VirtAt 19 65 204 13 := va9 mt_9_204 mo_204 (gw8 106 rfl rfl) (vk9 mt_9_204 (gw8 107 rfl rfl) (gw8 108 rfl rfl) rfl (by decide) pd9_7 rfl)
theorem v_19_69 : VirtAt 19 69 210 13 := va9 mt_9_210 mo_210 (gw8 131 rfl rfl) (vk9 mt_9_210 (gw8 132 rfl rfl) (gw8 133 rfl rfl) rfl (by decide) pd9_7 rfl)
theorem v_19_74 : VirtAt 19 74 212 13 := va9 mt_9_212 mo_212 (gw8 140 rfl rfl) (vk9 mt_9_212 (gw8 141 rfl rfl) (gw8 142 rfl rfl) rfl (by decide) pd9_20 rfl)
theorem v_19_114 : VirtAt 19 114 213 13 := va9 mt_9_213 mo_213 (gw8 144 rfl rfl) (vk9 mt_9_213 (gw8 145 rfl rfl) (gw8 146 rfl rfl) rfl (by decide) pd9_5 rfl)
theorem v_19_78 : VirtAt 19 78 214 13 := va9 mt_9_214 mo_214 (gw8 148 rfl rfl) (vk9 mt_9_214 (gw8 149 rfl rfl) (gw8 150 rfl rfl) rfl (by decide) pd9_7 rfl)
theorem v_19_82 : VirtAt 19 82 219 13 := va9 mt_9_219 mo_219 (gw8 168 rfl rfl) (vk9 mt_9_219 (gw8 169 rfl rfl) (gw8 170 rfl rfl) rfl (by decide) pd9_0 rfl)
theorem v_19_86 : VirtAt 19 86 221 13 := va9 mt_9_221 mo_221 (gw8 176 rfl rfl) (vk9 mt_9_221 (gw8 177 rfl rfl) (gw8 178 rfl rfl) rfl (by decide) pd9_7 rfl)
theorem v_19_90 : VirtAt 19 90 226 13 := va9 mt_9_226 mo_226 (gw8 196 rfl rfl) (vk9 mt_9_226 (gw8 197 rfl rfl) (gw8 198 rfl rfl) rfl (by decide) pd9_0 rfl)
theorem v_19_94 : VirtAt 19 94 228 13 := va9 mt_9_228 mo_228 (gw8 205 rfl rfl) (vk9 mt_9_228 (gw8 206 rfl rfl) (gw8 207 rfl rfl) rfl (by decide) pd9_0 rfl)
theorem v_19_98 : VirtAt 19 98 230 13 := va9 mt_9_230 mo_230 (gw8 213 rfl rfl) (vk9 mt_9_230 (gw8 214 rfl rfl) (gw8 215 rfl rfl) rfl (by decide) pd9_7 rfl)
theorem v_19_102 : VirtAt 19 102 232 13 := va9 mt_9_232 mo_232 (gw8 221 rfl rfl) (vk9 mt_9_232 (gw8 222 rfl rfl) (gw8 223 rfl rfl) rfl (by decide) pd9_7 rfl)
theorem v_19_106 : VirtAt 19 106 233 13 := va9 mt_9_233 mo_233 (gw8 226 rfl rfl) (vk9 mt_9_233 (gw8 227 rfl rfl) (gw8 228 rfl rfl) rfl (by decide) pd9_7 rfl)
theorem v_19_110 : VirtAt 19 110 235 13 := va9 mt_9_235 mo_235 (gw8 235 rfl rfl) (vk9 mt_9_235 (gw8 236 rfl rfl) (gw8 237 rfl rfl) rfl (by decide) pd9_5 rfl)
theorem v_19_118 : VirtAt 19 118 238 13 := va9 mt_9_238 mo_238 (gw9 8 rfl rfl) (vk9 mt_9_238 (gw9 9 rfl rfl) (gw9 10 rfl rfl) rfl (by decide) pd9_0 rfl)
theorem v_19_122 : VirtAt 19 122 242 13 := va9 mt_9_242 mo_242 (gw9 23 rfl rfl) (vk9 mt_9_242 (gw9 24 rfl rfl) (gw9 25 rfl rfl) rfl (by decide) pd9_7 rfl)
theorem v_19_126 : VirtAt 19 126 243 13 := va9 mt_9_243 mo_243 (gw9 27 rfl rfl) (vk9 mt_9_243 (gw9 28 rfl rfl) (gw9 29 rfl rfl) rfl (by decide) pd9_0 rfl)
theorem v_19_131 : VirtAt 19 131 244 13 := va9 mt_9_244 mo_244 (gw9 32 rfl rfl) (vk9 mt_9_244 (gw9 33 rfl rfl) (gw9 34 rfl rfl) rfl (by decide) (by decide +kernel) rfl)
theorem v_19_135 : VirtAt 19 135 248 13 := va9 mt_9_248 mo_248 (gw9 48 rfl rfl) (vk9 mt_9_248 (gw9 49 rfl rfl) (gw9 50 rfl rfl) rfl (by decide) (by decide +kernel) rfl)
theorem v_19_139 : VirtAt 19 139 249 13 := va9 mt_9_249 mo_249 (gw9 52 rfl rfl) (vk9 mt_9_249 (gw9 53 rfl rfl) (gw9 54 rfl rfl) rfl (by decide) pd9_7 rfl)
theorem v_19_143 : VirtAt 19 143 253 13 := va9 mt_9_253 mo_253 (gw9 69 rfl rfl) (vk9 mt_9_253 (gw9 70 rfl rfl) (gw9 71 rfl rfl) rfl (by decide) pd9_7 rfl)
theorem v_19_147 : VirtAt 19 147 254 13 := va9 mt_9_254 mo_254 (gw9 73 rfl rfl) (vk9 mt_9_254 (gw9 74 rfl rfl) (gw9 75 rfl rfl) rfl (by decide) pd9_7 rfl)
theorem v_19_151 : VirtAt 19 151 256 13 := va9 mt_9_256 mo_256 (gw9 81 rfl rfl) (vk9 mt_9_256 (gw9 82 rfl rfl) (gw9 83 rfl rfl) rfl (by decide) (by decide +kernel) rfl)
theorem v_19_155 : VirtAt 19 155 263 13 := va9 mt_9_263 mo_263 (gw9 110 rfl rfl) (vk9 mt_9_263 (gw9 111 rfl rfl) (gw9 112 rfl rfl) rfl (by decide) pd9_7 rfl)
theorem v_19_159 : VirtAt 19 159 264 13 := va9 mt_9_264 mo_264 (gw9 114 rfl rfl) (vk9 mt_9_264 (gw9 115 rfl rfl) (gw9 116 rfl rfl) rfl (by decide) (by decide +kernel) rfl)
theorem v_19_163 : VirtAt 19 163 266 13 := va9 mt_9_266 mo_266 (gw9 122 rfl rfl) (vk9 mt_9_266 (gw9 123 rfl rfl) (gw9 124 rfl rfl) rfl (by decide) pd9_20 rfl)
theorem v_19_167 : VirtAt 19 167 269 13 := va9 mt_9_269 mo_269 (gw9 134 rfl rfl) (vk9 mt_9_269 (gw9 135 rfl rfl) (gw9 136 rfl rfl) rfl (by decide) pd9_7 rfl)
theorem v_19_171 : VirtAt 19 171 270 13 := va9 mt_9_270 mo_270 (gw9 139 rfl rfl) (vk9 mt_9_270 (gw9 140 rfl rfl) (gw9 141 rfl rfl) rfl (by decide) pd9_5 rfl)
theorem v_19_175 : VirtAt 19 175 271 13 := va9 mt_9_271 mo_271 (gw9 143 rfl rfl) (vk9 mt_9_271 (gw9 144 rfl rfl) (gw9 145 rfl rfl) rfl (by decide) pd9_7 rfl)
theorem v_19_179 : VirtAt 19 179 275 13 := va9 mt_9_275 mo_275 (gw9 159 rfl rfl) (vk9 mt_9_275 (gw9 160 rfl rfl) (gw9 161 rfl rfl) rfl (by decide) pd9_20 rfl)
theorem v_19_183 : VirtAt 19 183 276 13 := va9 mt_9_276 mo_276 (gw9 165 rfl rfl) (vk9 mt_9_276 (gw9 166 rfl rfl) (gw9 167 rfl rfl) rfl (by decide) pd9_1 rfl)
theorem v_19_187 : VirtAt 19 187 277 13 := va9 mt_9_277 mo_277 (gw9 170 rfl rfl) (vk9 mt_9_277 (gw9 171 rfl rfl) (gw9 172 rfl rfl) rfl (by decide) pd9_1 rfl)
theorem v_19_191 : VirtAt 19 191 278 13 := va9 mt_9_278 mo_278 (gw9 174 rfl rfl) (vk9 mt_9_278 (gw9 175 rfl rfl) (gw9 176 rfl rfl) rfl (by decide) pd9_0 rfl)
theorem v_19_195 : VirtAt 19 195 281 13 := va9 mt_9_281 mo_281 (gw9 186 rfl rfl) (vk9 mt_9_281 (gw9 187 rfl rfl) (gw9 188 rfl rfl) rfl (by decide) (by decide +kernel) rfl)
end
section
/-! the law's helpers: they catch -/
theorem lk13 : Cond.classLink "HotThroughLaw" 13 nseN ∈ gTbl := gw6 52 (by decide +kernel) rfl
theorem cst13 : Cond.castable nseN nseN ∈ nseX := by decide +kernel
def wsH (y : MethodName) (cc : ByteArray) (maxL : Nat) (hh : List (Nat × Nat × Nat × Nat)) : List Cond := Cond.codeWith y cc maxL (some .int) hh :: (gTbl ++ nseX)
def rmH (d : Nat) : Room := { frames := d + 2, cells := 1, slots := 6, locals := 90 * (d + 2) }
def PcH (G : Geo) (ts : List Nat) (vs : List Int) (u : Sto) : Array Value → State → Prop := fun a U => a = (encA G.1 ts vs).toArray ∧ okA ts vs ∧ Rel G u U.heap ∧ KOK G U ∧ G.2.2.2 ≤ U.heap.size ∧ SOK G U
def QcM (G : Geo) (P2 : Mem → Prop) : Array Value → State → Outcome → State → Prop := fun _ st o t => (∃ v : Int32, o = .returned (some (.int v))) ∧ (∃ m', P2 m' ∧ Rel G (S9 0 m') t.heap) ∧ FrH G st t
theorem hlp_a {l : Launch} {G : Geo} {d : Nat} {a b : Int} {m0 : Mem} {PM P2 : Mem → Prop} {y : MethodName} {cc : ByteArray} {cp K : Nat} (hy : y.cls = "HotThroughLaw") (hv : VirtAt 19 cp K 1) (hK : (mNam K).cls = "HotThrough") (hA : mArg K = [2, 0, 0]) (hm : mMax K ≤ 5) (d1 : Dec cc [(0, .aload_n 3, 1), (1, .iconst 0, 1), (2, .aload_n 0, 1), (3, .iload_n 1, 1), (4, .iload_n 2, 1), (5, .invokevirtual cp, 3)]) (d2 : Dec cc [(13, .astore 4, 2), (15, .iconst 1, 1), (16, .ireturn, 1)])
    (hP : ∀ m', PM m' → P2 m' ∧ ∀ v, P2 (upm m' 288 0 v))  (hty : mRty K = 0) (e8 : decode cc 8 = .ok (.i2l, 1)) (e9 : decode cc 9 = .ok (.lastore, 1)) (e10 : decode cc 10 = .ok (.goto 7, 3)) (e17 : decode cc 17 = .ok (.iconst 0, 1)) (e18 : decode cc 18 = .ok (.ireturn, 1))
    (hM : vx_Met l (mNam K) (wsT K) (rmT (d + 1)) (PcOf G K [1, a, b] (S9 0 m0)) (QcOf G K (fun _ u => ∃ m', u = bud (S9 0 m') 1 6 ∧ PM m')) (xcM G PM) 1 6 (fun q => G.2.2.2 ≤ q)) : Met l y (wsH y cc 5 [(0, 10, 13, 13)]) (rmH d) (PcH G [2, 0, 0, 2] [1, a, b, 288] (S9 0 m0)) (QcM G P2) 1 6 (fun q => G.2.2.2 ≤ q) := by
  refine va_MetW (cc := cc) (maxL := 5) (ret := some .int) (hh := [(0, 10, 13, 13)]) (by rw [hy]; decide) rfl ?_
  intro p e s m args below meth c s₁ B hml hv9
  obtain ⟨rfl, hok, hrel, hKK, hbase, hSO⟩ := hv9
  have hts := atoms_spec (ws := wsH y cc 5 [(0, 10, 13, 13)]) B.pre
  have hg : ∀ w ∈ gTbl, w.before (encA G.1 [2, 0, 0, 2] [1, a, b, 288]).toArray s = true := fun w hw => hts w (List.mem_cons_of_mem _ (List.mem_append_left _ hw))
  have hn : ∀ w ∈ nseX, w.before (encA G.1 [2, 0, 0, 2] [1, a, b, 288]).toArray s = true := fun w hw => hts w (List.mem_cons_of_mem _ (List.mem_append_right _ hw))
  have htab := vx_table (x := y) B (hts _ List.mem_cons_self)
  have hx := B.exec
  have hb := B.bytes
  have hr := B.returns
  have hown : s.vm.findClass "HotThroughLaw" = some m.cls := by rw [← hy]; exact findClass_of_methodNamed B.named
  obtain ⟨⟨g1, g2, g3⟩, g4, g5, g6, g7, g8, g9, g10, g11⟩ := id hv
  have eA : encA G.1 [2, 0, 0, 2] [1, a, b, 288] = [.ref (G.1 1), .int (Int32.ofInt a), .int (Int32.ofInt b), .ref (G.1 288)] := by simp [encA, enc]
  have eK : (encA G.1 (mArg K) [1, a, b]).toArray = (Value.ref (G.1 1) :: [.int (Int32.ofInt a), .int (Int32.ofInt b)]).toArray := by rw [hA]; simp [encA, enc]
  rw [lg_entry_eq]
  have hl := lv_entry (encA G.1 [2, 0, 0, 2] [1, a, b, 288]) (n := 5) (by rw [eA]; exact Nat.le_of_ble_eq_true rfl)
  generalize (lg_sl (encA G.1 [2, 0, 0, 2] [1, a, b, 288]) ++ List.replicate (5 - (lg_sl (encA G.1 [2, 0, 0, 2] [1, a, b, 288])).length) Slot.unset).toArray = ls at hl ⊢
  rw [eA] at hl
  have hl : lv_has ls 5 [(0, .ref (G.1 1)), (1, .int (Int32.ofInt a)), (2, .int (Int32.ofInt b)), (3, .ref (G.1 288))] := hl
  show W p l e (rmH d) s m _ below meth c s.heap [] 0 0 _ (F0 m 0 ls [])
  refine lv_aload_n hx hb d1.1 rfl (lv_at hl 3 rfl) ?_
  refine lv_iconst (v := 0) hx hb d1.2.2.1 (by decide) ?_
  refine lv_aload_n hx hb d1.2.2.2.2.1 rfl (lv_at hl 0 rfl) ?_
  refine lv_iload_n hx hb d1.2.2.2.2.2.2.1 rfl (lv_at hl 1 rfl) ?_
  refine lv_iload_n hx hb d1.2.2.2.2.2.2.2.2.1 rfl (lv_at hl 2 rfl) ?_
  intro T hT X
  obtain ⟨cell, q1, q2, q3, -⟩ := hrel.1 1 (by decide) (show (1 : Int) < 289 by decide) (by decide)
  have hkn := hKK.2.1 1 (by decide) (by decide)
  have run := vx_runV (l := l) (p := p) (e := e) (R := rmH d) (s := s) (m := m) (below := below) (meth := meth) (c := c) (H := s.heap) (locs := []) (cells := 0) (slots := 0) (As := [.int (Int32.ofInt a), .int (Int32.ofInt b)]) (rest := [.int 0, .ref (G.1 288)]) (b := G.1 1) (n := 2) (C := "HotThrough") (g := F0 m 5 ls (([.int (Int32.ofInt a), .int (Int32.ofInt b)] : List Value).reverse ++ .ref (G.1 1) :: [.int 0, .ref (G.1 288)])) ⟨hx, hb, hml, hown, hts⟩ hM
    ⟨⟨rfl, rfl, Nat.le_refl _, (by show 8 + (mMax K + 11) + 90 * (d + 1) ≤ 90 * (d + 2); omega), (fun w hw => ?_), List.mem_cons_self, hg _ g1, hg _ g2, g3, (fun sig h => ?_), hg _ g4⟩, hg _ g5, (by rw [hK] at g6; exact hg _ g6)⟩
    ⟨pc_blind G K _ _, ⟨cell, q1, by rw [q2]; rfl, by rw [q3]; exact hkn.2.1⟩, fun U hU hW => ⟨eK.symm, by rw [hA]; exact ⟨trivial, hok.2.1, hok.2.2.1, trivial⟩, by rw [hU]; exact hrel, KOK.moved hW.alike hKK, by rw [hU]; exact hbase, hSO.on hW (fun q _ => by rw [hU])⟩⟩ rfl rfl hl.1 rfl (lv_room (Nat.le_of_ble_eq_true rfl)) d1.2.2.2.2.2.2.2.2.2.2.1 ⟨Nat.le_refl _, Nat.le_refl _⟩
  rotate_left
  · rcases List.mem_cons.mp hw with rfl | hw
    · exact gt_pay hg _ g1
    · rcases List.mem_append.mp hw with hw | hw
      · exact gt_pay hg _ hw
      · exact fun a' U hW => face_pay (nse_f w hw) (hn w hw) a' U hW
  · rw [h, hA] at g10
    simp at g10
    omega
  rcases run T hT X with ⟨v, st0, t, T', L, h0, X', hL, e1, e2, hQ, go⟩ | ⟨q, st0, t, T', L, E, ce, h0, X', hL, e1, e2, ⟨rfl, ⟨m9, hPM9, hrel'⟩, hfr⟩, hce, hcv, hcl, st⟩
  · obtain ⟨⟨v', u9, hv9, hok9, ⟨m1, rfl, hPM⟩, hrel'⟩, hfr⟩ := hQ
    rw [hty] at hv9 hok9
    cases hv9
    have hfrs : FrS G s.heap T'.heap ([] ++ L) := ⟨by rw [e1, ← h0]; exact hfr.1, fun q hq => by rw [e1, ← h0]; exact hfr.2 q hq, fun z hz => hL z hz⟩
    have hA1 : At G (rmH d) s.heap (S9 0 m1) T'.heap ([] ++ L) 1 6 := ⟨by rw [e1]; exact hrel', hfrs, Nat.le_refl _, Nat.le_refl _⟩
    have hX : MX p (rmH d) s m (encA G.1 [2, 0, 0, 2] [1, a, b, 288]).toArray c cc 5 19 G := ⟨hx, hb, hml, hown, hg, hKK, hbase, Nat.succ_le_succ (Nat.zero_le _), (by show 40 ≤ 90 * (d + 2); omega), hSO, fun h => absurd h (by decide)⟩
    have hin : inb (S9 0 m1) 288 15 0 := ⟨⟨by decide, show (288 : Int) < 289 by decide, rfl⟩, by decide, by decide⟩
    have hz9 : Int32.ofInt 0 = 0 := by decide
    have hok1 : okv (ety 15 0) v' := by
      have : inI v' := hok9
      show inL v'
      unfold inI at this; unfold inL; omega
    have kk : W p l e (rmH d) s m (encA G.1 [2, 0, 0, 2] [1, a, b, 288]).toArray below meth c T'.heap ([] ++ L) (0 + 1) (0 + 6) (MQ below (QcM G P2) (encA G.1 [2, 0, 0, 2] [1, a, b, 288]).toArray s 1 6 (fun q => G.2.2.2 ≤ q)) (F0 m 8 ls (.int (Int32.ofInt v') :: [.int 0, .ref (G.1 288)])) := by
      have hv : inI v' := hok9
      refine lv_i2l (v := Int64.ofInt v') hx hb e8 (Int32.toInt64_ofInt (by show (-2147483648 : Int) ≤ v'; exact hv.1) (by show v' ≤ (2147483647 : Int); have := hv.2; omega)) ?_
      have hrow := ast_row (st := []) (ls := ls) (Q := MQ below (QcM G P2) (encA G.1 [2, 0, 0, 2] [1, a, b, 288]).toArray s 1 6 (fun q => G.2.2.2 ≤ q)) (l := l) (e := e) (below := below) (meth := meth) hX (K := 15) (i := 0) (v := v') (by decide) (by decide) astj_r e9 hA1 hin hok1 (fun H2 locs2 hA2 => ?_)
      · rw [hz9] at hrow
        exact hrow
      · obtain ⟨r1, ⟨f1, f2, f3⟩, b1, b2⟩ := hA2
        refine lv_goto (tgt := 17) hx hb e10 (by decide) ?_
        refine lv_iconst (v := 0) hx hb e17 (by decide) ?_
        exact W.iret hx hb hr (fun t9 ht9 _ => ⟨⟨_, rfl⟩, ⟨_, (hP m1 hPM).2 v', by rw [ht9]; exact r1⟩, by rw [ht9]; exact f1, fun q hq => by rw [ht9]; exact f2 q hq⟩) (fun z hz => f3 z hz) e18
    obtain ⟨t2, a1, b1⟩ := kk T' rfl X'
    exact ⟨t2, go t2 a1, b1⟩
  · have kk : W p l e (rmH d) s m (encA G.1 [2, 0, 0, 2] [1, a, b, 288]).toArray below meth c T'.heap ([] ++ L) (0 + 1) (0 + 6) (MQ below (QcM G P2) (encA G.1 [2, 0, 0, 2] [1, a, b, 288]).toArray s 1 6 (fun q => G.2.2.2 ≤ q)) (F0 m 13 ls [.ref q]) := by
      refine lv_astore (lv' := [(4, .ref q), (0, .ref (G.1 1)), (1, .int (Int32.ofInt a)), (2, .int (Int32.ofInt b)), (3, .ref (G.1 288))]) hx hb d2.1 hl (by decide) rfl (fun ls hl => ?_)
      refine lv_iconst (v := 1) hx hb d2.2.2.1 (by decide) ?_
      exact W.iret hx hb hr (fun t9 ht9 _ => ⟨⟨_, rfl⟩, ⟨m9, (hP m9 hPM9).1, by rw [ht9, e1]; exact hrel'⟩, by rw [ht9, e1, ← h0]; exact hfr.1, fun q hq => by rw [ht9, e1, ← h0]; exact hfr.2 q hq⟩) (fun z hz => hL z hz) d2.2.2.2.2.1
    obtain ⟨t2, a1, b1⟩ := vx_catch (pc := 5) (ls := ls) (rest := [.int 0, .ref (G.1 288)]) (own := "HotThroughLaw") (name := nseN) (E := nseN) (ce := ce) hown [] ⟨0, 10, 13, 13⟩ [] htab (by intro z hz; cases hz) (by decide) (by decide) (hg _ lk13) (hn _ cst13) (by rw [e1]; exact hce) hcv hcl kk T' rfl X'
    exact ⟨t2, st.trans a1, b1⟩
theorem hlp_b {l : Launch} {G : Geo} {d : Nat} {a : Int} {m0 : Mem} {PM P2 : Mem → Prop} {y : MethodName} {cc : ByteArray} {cp K : Nat} (hy : y.cls = "HotThroughLaw") (hv : VirtAt 19 cp K 1) (hK : (mNam K).cls = "HotThrough") (hA : mArg K = [2, 0]) (hm : mMax K ≤ 5) (d1 : Dec cc [(0, .aload_n 2, 1), (1, .iconst 0, 1), (2, .aload_n 0, 1), (3, .iload_n 1, 1), (4, .invokevirtual cp, 3)]) (d2 : Dec cc [(11, .astore_n 3, 1), (12, .iconst 1, 1), (13, .ireturn, 1)])
    (hP : ∀ m', PM m' → P2 m' ∧ ∀ v, P2 (upm m' 288 0 v))  (hty : mRty K = 1) (e9 : decode cc 7 = .ok (.lastore, 1)) (e10 : decode cc 8 = .ok (.goto 6, 3)) (e17 : decode cc 14 = .ok (.iconst 0, 1)) (e18 : decode cc 15 = .ok (.ireturn, 1))
    (hM : vx_Met l (mNam K) (wsT K) (rmT (d + 1)) (PcOf G K [1, a] (S9 0 m0)) (QcOf G K (fun _ u => ∃ m', u = bud (S9 0 m') 1 6 ∧ PM m')) (xcM G PM) 1 6 (fun q => G.2.2.2 ≤ q)) : Met l y (wsH y cc 4 [(0, 8, 11, 13)]) (rmH d) (PcH G [2, 0, 2] [1, a, 288] (S9 0 m0)) (QcM G P2) 1 6 (fun q => G.2.2.2 ≤ q) := by
  refine va_MetW (cc := cc) (maxL := 4) (ret := some .int) (hh := [(0, 8, 11, 13)]) (by rw [hy]; decide) rfl ?_
  intro p e s m args below meth c s₁ B hml hv9
  obtain ⟨rfl, hok, hrel, hKK, hbase, hSO⟩ := hv9
  have hts := atoms_spec (ws := wsH y cc 4 [(0, 8, 11, 13)]) B.pre
  have hg : ∀ w ∈ gTbl, w.before (encA G.1 [2, 0, 2] [1, a, 288]).toArray s = true := fun w hw => hts w (List.mem_cons_of_mem _ (List.mem_append_left _ hw))
  have hn : ∀ w ∈ nseX, w.before (encA G.1 [2, 0, 2] [1, a, 288]).toArray s = true := fun w hw => hts w (List.mem_cons_of_mem _ (List.mem_append_right _ hw))
  have htab := vx_table (x := y) B (hts _ List.mem_cons_self)
  have hx := B.exec
  have hb := B.bytes
  have hr := B.returns
  have hown : s.vm.findClass "HotThroughLaw" = some m.cls := by rw [← hy]; exact findClass_of_methodNamed B.named
  obtain ⟨⟨g1, g2, g3⟩, g4, g5, g6, g7, g8, g9, g10, g11⟩ := id hv
  have eA : encA G.1 [2, 0, 2] [1, a, 288] = [.ref (G.1 1), .int (Int32.ofInt a), .ref (G.1 288)] := by simp [encA, enc]
  have eK : (encA G.1 (mArg K) [1, a]).toArray = (Value.ref (G.1 1) :: [.int (Int32.ofInt a)]).toArray := by rw [hA]; simp [encA, enc]
  rw [lg_entry_eq]
  have hl := lv_entry (encA G.1 [2, 0, 2] [1, a, 288]) (n := 4) (by rw [eA]; exact Nat.le_of_ble_eq_true rfl)
  generalize (lg_sl (encA G.1 [2, 0, 2] [1, a, 288]) ++ List.replicate (4 - (lg_sl (encA G.1 [2, 0, 2] [1, a, 288])).length) Slot.unset).toArray = ls at hl ⊢
  rw [eA] at hl
  have hl : lv_has ls 4 [(0, .ref (G.1 1)), (1, .int (Int32.ofInt a)), (2, .ref (G.1 288))] := hl
  show W p l e (rmH d) s m _ below meth c s.heap [] 0 0 _ (F0 m 0 ls [])
  refine lv_aload_n hx hb d1.1 rfl (lv_at hl 2 rfl) ?_
  refine lv_iconst (v := 0) hx hb d1.2.2.1 (by decide) ?_
  refine lv_aload_n hx hb d1.2.2.2.2.1 rfl (lv_at hl 0 rfl) ?_
  refine lv_iload_n hx hb d1.2.2.2.2.2.2.1 rfl (lv_at hl 1 rfl) ?_
  intro T hT X
  obtain ⟨cell, q1, q2, q3, -⟩ := hrel.1 1 (by decide) (show (1 : Int) < 289 by decide) (by decide)
  have hkn := hKK.2.1 1 (by decide) (by decide)
  have run := vx_runV (l := l) (p := p) (e := e) (R := rmH d) (s := s) (m := m) (below := below) (meth := meth) (c := c) (H := s.heap) (locs := []) (cells := 0) (slots := 0) (As := [.int (Int32.ofInt a)]) (rest := [.int 0, .ref (G.1 288)]) (b := G.1 1) (n := 1) (C := "HotThrough") (g := F0 m 4 ls (([.int (Int32.ofInt a)] : List Value).reverse ++ .ref (G.1 1) :: [.int 0, .ref (G.1 288)])) ⟨hx, hb, hml, hown, hts⟩ hM
    ⟨⟨rfl, rfl, Nat.le_refl _, (by show 8 + (mMax K + 11) + 90 * (d + 1) ≤ 90 * (d + 2); omega), (fun w hw => ?_), List.mem_cons_self, hg _ g1, hg _ g2, g3, (fun sig h => ?_), hg _ g4⟩, hg _ g5, (by rw [hK] at g6; exact hg _ g6)⟩
    ⟨pc_blind G K _ _, ⟨cell, q1, by rw [q2]; rfl, by rw [q3]; exact hkn.2.1⟩, fun U hU hW => ⟨eK.symm, by rw [hA]; exact ⟨trivial, hok.2.1, trivial⟩, by rw [hU]; exact hrel, KOK.moved hW.alike hKK, by rw [hU]; exact hbase, hSO.on hW (fun q _ => by rw [hU])⟩⟩ rfl rfl hl.1 rfl (lv_room (Nat.le_of_ble_eq_true rfl)) d1.2.2.2.2.2.2.2.2.1 ⟨Nat.le_refl _, Nat.le_refl _⟩
  rotate_left
  · rcases List.mem_cons.mp hw with rfl | hw
    · exact gt_pay hg _ g1
    · rcases List.mem_append.mp hw with hw | hw
      · exact gt_pay hg _ hw
      · exact fun a' U hW => face_pay (nse_f w hw) (hn w hw) a' U hW
  · rw [h, hA] at g10
    simp at g10
    omega
  rcases run T hT X with ⟨v, st0, t, T', L, h0, X', hL, e1, e2, hQ, go⟩ | ⟨q, st0, t, T', L, E, ce, h0, X', hL, e1, e2, ⟨rfl, ⟨m9, hPM9, hrel'⟩, hfr⟩, hce, hcv, hcl, st⟩
  · obtain ⟨⟨v', u9, hv9, hok9, ⟨m1, rfl, hPM⟩, hrel'⟩, hfr⟩ := hQ
    rw [hty] at hv9 hok9
    cases hv9
    have hfrs : FrS G s.heap T'.heap ([] ++ L) := ⟨by rw [e1, ← h0]; exact hfr.1, fun q hq => by rw [e1, ← h0]; exact hfr.2 q hq, fun z hz => hL z hz⟩
    have hA1 : At G (rmH d) s.heap (S9 0 m1) T'.heap ([] ++ L) 1 6 := ⟨by rw [e1]; exact hrel', hfrs, Nat.le_refl _, Nat.le_refl _⟩
    have hX : MX p (rmH d) s m (encA G.1 [2, 0, 2] [1, a, 288]).toArray c cc 4 19 G := ⟨hx, hb, hml, hown, hg, hKK, hbase, Nat.succ_le_succ (Nat.zero_le _), (by show 40 ≤ 90 * (d + 2); omega), hSO, fun h => absurd h (by decide)⟩
    have hin : inb (S9 0 m1) 288 15 0 := ⟨⟨by decide, show (288 : Int) < 289 by decide, rfl⟩, by decide, by decide⟩
    have hz9 : Int32.ofInt 0 = 0 := by decide
    have hok1 : okv (ety 15 0) v' := hok9
    have kk : W p l e (rmH d) s m (encA G.1 [2, 0, 2] [1, a, 288]).toArray below meth c T'.heap ([] ++ L) (0 + 1) (0 + 6) (MQ below (QcM G P2) (encA G.1 [2, 0, 2] [1, a, 288]).toArray s 1 6 (fun q => G.2.2.2 ≤ q)) (F0 m 7 ls (.long (Int64.ofInt v') :: [.int 0, .ref (G.1 288)])) := by
      have hrow := ast_row (st := []) (ls := ls) (Q := MQ below (QcM G P2) (encA G.1 [2, 0, 2] [1, a, 288]).toArray s 1 6 (fun q => G.2.2.2 ≤ q)) (l := l) (e := e) (below := below) (meth := meth) hX (K := 15) (i := 0) (v := v') (by decide) (by decide) astj_r e9 hA1 hin hok1 (fun H2 locs2 hA2 => ?_)
      · rw [hz9] at hrow
        exact hrow
      · obtain ⟨r1, ⟨f1, f2, f3⟩, b1, b2⟩ := hA2
        refine lv_goto (tgt := 14) hx hb e10 (by decide) ?_
        refine lv_iconst (v := 0) hx hb e17 (by decide) ?_
        exact W.iret hx hb hr (fun t9 ht9 _ => ⟨⟨_, rfl⟩, ⟨_, (hP m1 hPM).2 v', by rw [ht9]; exact r1⟩, by rw [ht9]; exact f1, fun q hq => by rw [ht9]; exact f2 q hq⟩) (fun z hz => f3 z hz) e18
    obtain ⟨t2, a1, b1⟩ := kk T' rfl X'
    exact ⟨t2, go t2 a1, b1⟩
  · have kk : W p l e (rmH d) s m (encA G.1 [2, 0, 2] [1, a, 288]).toArray below meth c T'.heap ([] ++ L) (0 + 1) (0 + 6) (MQ below (QcM G P2) (encA G.1 [2, 0, 2] [1, a, 288]).toArray s 1 6 (fun q => G.2.2.2 ≤ q)) (F0 m 11 ls [.ref q]) := by
      refine lv_astore_n (lv' := [(3, .ref q), (0, .ref (G.1 1)), (1, .int (Int32.ofInt a)), (2, .ref (G.1 288))]) hx hb d2.1 rfl hl (by decide) rfl (fun ls hl => ?_)
      refine lv_iconst (v := 1) hx hb d2.2.2.1 (by decide) ?_
      exact W.iret hx hb hr (fun t9 ht9 _ => ⟨⟨_, rfl⟩, ⟨m9, (hP m9 hPM9).1, by rw [ht9, e1]; exact hrel'⟩, by rw [ht9, e1, ← h0]; exact hfr.1, fun q hq => by rw [ht9, e1, ← h0]; exact hfr.2 q hq⟩) (fun z hz => hL z hz) d2.2.2.2.2.1
    obtain ⟨t2, a1, b1⟩ := vx_catch (pc := 4) (ls := ls) (rest := [.int 0, .ref (G.1 288)]) (own := "HotThroughLaw") (name := nseN) (E := nseN) (ce := ce) hown [] ⟨0, 8, 11, 13⟩ [] htab (by intro z hz; cases hz) (by decide) (by decide) (hg _ lk13) (hn _ cst13) (by rw [e1]; exact hce) hcv hcl kk T' rfl X'
    exact ⟨t2, st.trans a1, b1⟩
end
section
/-! where things lie, at the law's entry -/
theorem kls_k : ∀ k : Nat, 1 ≤ k → k ≤ 13 → KlsAt k ∧ Cond.instantiable (kC k) (kN k) ∈ gTbl := by
  intro k h1 h2
  rcases (show k = 1 ∨ k = 2 ∨ k = 3 ∨ k = 4 ∨ k = 5 ∨ k = 6 ∨ k = 7 ∨ k = 8 ∨ k = 9 ∨ k = 10 ∨ k = 11 ∨ k = 12 ∨ k = 13 by omega) with rfl | rfl | rfl | rfl | rfl | rfl | rfl | rfl | rfl | rfl | rfl | rfl | rfl
  · exact ⟨kl_1, n_19_8.2.1⟩
  · exact ⟨kl_2, n_101_7.2.1⟩
  · exact ⟨kl_3, n_101_16.2.1⟩
  · exact ⟨kl_4, n_101_23.2.1⟩
  · exact ⟨kl_5, n_101_30.2.1⟩
  · exact ⟨kl_6, n_101_37.2.1⟩
  · exact ⟨kl_7, n_101_46.2.1⟩
  · exact ⟨kl_8, n_101_55.2.1⟩
  · exact ⟨kl_9, n_101_64.2.1⟩
  · exact ⟨kl_10, n_101_73.2.1⟩
  · exact ⟨kl_11, n_101_82.2.1⟩
  · exact ⟨kl_12, n_101_89.2.1⟩
  · exact ⟨kl_13, n_19_29.2.1⟩
theorem kf_ne : ∀ k, k < 14 → ∀ a, a < kN k → ∀ b, b < kN k → a ≠ b → (kF k a).2.1 ≠ (kF k b).2.1 := by decide +kernel
def txT (i : Nat) : Term := .string "HotThroughModel" (sCp.getD i 0)
def txV (i : Nat) : Term := .field (txT i) "java/lang/String" "value" "[B"
theorem tx_ex : ∀ i, i < 8 → Cond.exactly (txT i) "java/lang/String" ∈ flatC (Cond.and given_1 narrow_1) := by decide +kernel
theorem tx_co : ∀ i, i < 8 → Cond.eq (.field (txT i) "java/lang/String" "coder" "B") (.int 0) ∈ flatC (Cond.and given_1 narrow_1) := by decide +kernel
theorem tx_ar : ∀ i, i < 8 → Cond.arrayOf (txV i) .byte ∈ flatC (Cond.and given_1 narrow_1) := by decide +kernel
theorem tx_le : ∀ i, i < 8 → Cond.eq (.length (txV i)) (.int (Int32.ofNat (sLen.getD i 0))) ∈ flatC (Cond.and given_1 narrow_1) := by decide +kernel
theorem tx_el : ∀ i, i < 8 → ∀ j, j < sLen.getD i 0 → Cond.eq (.elem (txV i) (.int (Int32.ofNat j))) (.int ((sByt.getD i []).getD j 0)) ∈ flatC (Cond.and given_1 narrow_1) := by decide +kernel
theorem tx_ne : ∀ i, i < 8 → ∀ j, j < 8 → i ≠ j → Cond.not (Cond.eq (txT i) (txT j)) ∈ flatC (Cond.and given_1 narrow_1) ∨ Cond.not (Cond.eq (txT j) (txT i)) ∈ flatC (Cond.and given_1 narrow_1) := by decide +kernel
theorem tx_sr : ∀ i, i < 8 → Cond.stringRef "HotThroughModel" (sCp.getD i 0) (sTx.getD i "") ∈ lw_tbl := by decide +kernel
theorem st_cs : Cond.laysStatic "java/lang/String" "COMPACT_STRINGS" "Z" ∈ lw_tbl ∧ Cond.initialized "java/lang/String" ∈ lw_tbl ∧ Cond.eq (.static "java/lang/String" "COMPACT_STRINGS" "Z") (.int 1) ∈ flatC (Cond.and given_1 narrow_1) := by decide +kernel
theorem st_si : Cond.laysStatic "jdk/internal/util/Preconditions" "SIOOBE_FORMATTER" "Ljava/util/function/BiFunction;" ∈ lw_tbl ∧ Cond.initialized "jdk/internal/util/Preconditions" ∈ lw_tbl ∧ Cond.isRef (.static "jdk/internal/util/Preconditions" "SIOOBE_FORMATTER" "Ljava/util/function/BiFunction;") ∈ flatC (Cond.and given_1 narrow_1) := by decide +kernel
theorem st_us : Cond.laysStatic Bundle.tN "UNASSIGNED_STACK" Bundle.steD ∈ lw_tbl ∧ Cond.initialized Bundle.tN ∈ lw_tbl ∧ Cond.isRef (.static Bundle.tN "UNASSIGNED_STACK" Bundle.steD) ∈ flatC (Cond.and given_1 narrow_1) := by decide +kernel
theorem st_ss : Cond.laysStatic Bundle.tN "SUPPRESSED_SENTINEL" Bundle.listD ∈ lw_tbl ∧ Cond.isRef (.static Bundle.tN "SUPPRESSED_SENTINEL" Bundle.listD) ∈ flatC (Cond.and given_1 narrow_1) := by decide +kernel
theorem ar_k : Cond.arrayClass .int ∈ lw_tbl ∧ Cond.arrayClass .long ∈ lw_tbl ∧ Cond.arrayClass .boolean ∈ lw_tbl ∧ Cond.arrayClass .char ∈ lw_tbl ∧ Cond.arrayOver (.object "HotThrough$State") ∈ lw_tbl := by decide +kernel
theorem arr_of {args : Array Value} {s : State} {ty : FieldType} (h : (Cond.arrayClass ty).before args s = true) : ∃ c : ClassId, ArrOfT s c ty ∧ s.vm.findClass ("[" ++ ty.toString) = some c := by
  obtain ⟨c, k, comp, h1, h2, h3⟩ := Cond.arrayClass_spec (args := args) (first := s) (o := none) (s := s) (idx := []) h
  exact ⟨c, fun n z => ⟨fun k h => (by cases h), k, h2, comp, h3⟩, h1⟩
theorem geo_at {args : Array Value} {s : State} (hts : ∀ w ∈ lw_tbl, w.before args s = true) (hgv : (Jvm.Cond.and given_1 narrow_1).before args s = true) (b : Nat) : ∃ G : Geo, G.2.2.2 = s.heap.size ∧ G.1 (-9) = b ∧ KOK G s ∧ SOK G s := by
  have hs := flat_of_before _ hgv
  have hA : ∀ a : Nat, a < s.heap.size → ¬ (fun q => s.heap.size ≤ q) a := fun a h => Nat.not_le.mpr h
  have hg : ∀ w ∈ gTbl, w.before args s = true := fun w hw => hts w (List.mem_filter.mp hw).1
  have hk : ∀ k : Nat, ∃ q : ClassId × (Nat → Nat), 1 ≤ k → k ≤ 13 → u_Kn s (kC k) (kF k) (kN k) q.1 q.2 := by
    intro k
    by_cases h : 1 ≤ k ∧ k ≤ 13
    · obtain ⟨h1, h2⟩ := kls_k k h.1 h.2
      obtain ⟨cC, iS, hq⟩ := u_known (C := kC k) (T := kF k) (N := kN k) (n := kN k) hg h1.1 (hg _ h2)
      exact ⟨(cC, iS), fun _ _ => hq⟩
    · exact ⟨(0, fun _ => 0), fun a b => absurd ⟨a, b⟩ h⟩
  have ha : ∀ k : Nat, ∃ c : ClassId, 14 ≤ k → k ≤ 18 → ArrOfT s c (aT k) ∧ va_RA s c (aT k) := by
    intro k
    by_cases h : 14 ≤ k ∧ k ≤ 18
    · rcases (show k = 14 ∨ k = 15 ∨ k = 16 ∨ k = 17 ∨ k = 18 by omega) with rfl | rfl | rfl | rfl | rfl
      · obtain ⟨c, a1, a2⟩ := arr_of (hts _ ar_k.1); exact ⟨c, fun _ _ => ⟨a1, a2⟩⟩
      · obtain ⟨c, a1, a2⟩ := arr_of (hts _ ar_k.2.1); exact ⟨c, fun _ _ => ⟨a1, a2⟩⟩
      · obtain ⟨c, a1, a2⟩ := arr_of (hts _ ar_k.2.2.1); exact ⟨c, fun _ _ => ⟨a1, a2⟩⟩
      · obtain ⟨c, a1, a2⟩ := arr_of (hts _ ar_k.2.2.2.1); exact ⟨c, fun _ _ => ⟨a1, a2⟩⟩
      · obtain ⟨comp, c, k, h1, h2, h3, h4, h5⟩ := Cond.arrayOver_spec (args := args) (first := s) (o := none) (s := s) (idx := []) (hts _ ar_k.2.2.2.2)
        exact ⟨c, fun _ _ => ⟨fun n z => ⟨fun k h => (by cases h), k, h3, comp, h4⟩, k, comp, h3, h4, h1, h5⟩⟩
    · exact ⟨0, fun a b => absurd ⟨a, b⟩ h⟩
  obtain ⟨f, hf⟩ := Classical.axiomOfChoice hk
  obtain ⟨g, hg9⟩ := Classical.axiomOfChoice ha
  obtain ⟨ad0, adV, hS0, hT0⟩ := vk_Sof (args := args) (s := s) (N := 8) (tm := txT) (len := sLen) (byt := sByt) (A := fun q => s.heap.size ≤ q) (by decide) (fun i hi => hs _ (tx_ex i hi)) (fun i hi => hs _ (tx_co i hi)) (fun i hi => hs _ (tx_ar i hi)) (fun i hi => hs _ (tx_le i hi)) (fun i hi j hj => hs _ (tx_el i hi j hj)) (fun i j hi hj hne => (tx_ne i hi j hj hne).imp (fun h => hs _ h) (fun h => hs _ h)) hA
  obtain ⟨ad, had⟩ : ∃ ad : Nat → Nat, ad = fun i => if i = 8 then b else ad0 i := ⟨_, rfl⟩
  have ea : ∀ i, i < 8 → ad i = ad0 i := fun i hi => by rw [had]; exact if_neg (by omega)
  have eb : ad 8 = b := by rw [had]; exact if_pos rfl
  have hS : vk_S 8 sLen sByt ad adV (fun q => s.heap.size ≤ q) s s.heap := ⟨fun i hi => by rw [ea i hi]; exact hS0.1 i hi, fun i j hi hj h => hS0.2 i j hi hj (by rw [ea i hi, ea j hj] at h; exact h)⟩
  have hT : ∀ i : Nat, i < 8 → (txT i).eval args s none [] s = some (.ref (ad i)) := fun i hi => by rw [ea i hi]; exact hT0 i hi
  refine ⟨(fun a => if 0 < a then s.heap.size + (a.toNat - 1) else ad (-1 - a).toNat, fun k => if k ≤ 13 then (f k).1 else g k, fun k j => if k ≤ 13 then (f k).2 j else j, s.heap.size), rfl, (by show (if (0 : Int) < -9 then s.heap.size + ((-9 : Int).toNat - 1) else ad (-1 - (-9) : Int).toNat) = b; rw [if_neg (by decide)]; exact eb), ⟨fun a h => if_pos h, fun k h1 h2 => ?_, fun k i j h1 h2 hi hj hne => ?_, fun k h1 h2 => ?_, fun k j h => if_neg (by omega), fun k h1 h2 => ?_⟩, ⟨adV, ?_⟩, fun i hi => ?_, va_Zof (hts _ st_cs.1) (hts _ st_cs.2.1) (va_eqt (hs _ st_cs.2.2)) hA, va_Zqof (hts _ st_si.1) (hts _ st_si.2.1) (hs _ st_si.2.2) hA, vx_Zqof (hts _ st_us.1) (hts _ st_us.2.1) (hs _ st_us.2.2) hA, vx_Zqof (hts _ st_ss.1) (hts _ st_us.2.1) (hs _ st_ss.2) hA⟩
  · dsimp only
    simp only [if_pos h2]
    exact hf k h1 h2
  · dsimp only
    rw [if_pos h2, if_pos h2]
    obtain ⟨h3, -⟩ := hf k h1 h2
    obtain ⟨_, _, _, fa, hia, ea⟩ := h3 i hi
    obtain ⟨_, _, _, fb, hib, eb⟩ := h3 j hj
    rw [← ea, ← eb]
    obtain ⟨kk1, kk2, -⟩ := (kls_k k h1 h2).1
    refine u_apart (u_lays hg kk1 hi) (u_lays hg kk1 hj) hia hib ?_
    rw [(State.fieldFound?_type hia (kk2 i hi)).1, (State.fieldFound?_type hib (kk2 j hj)).1]
    exact kf_ne k (by omega) i hi j hj hne
  · dsimp only
    rw [if_neg (by omega)]
    exact (hg9 k h1 h2).1
  · dsimp only
    rw [if_neg (by omega)]
    exact (hg9 k h1 h2).2
  · have e : (fun i : Nat => if 0 < -1 - (i : Int) then s.heap.size + ((-1 - (i : Int)).toNat - 1) else ad (-1 - (-1 - (i : Int))).toNat) = ad := by
      funext i
      rw [if_neg (by omega)]
      congr 1
      omega
    show vk_S 8 sLen sByt (fun i : Nat => if 0 < -1 - (i : Int) then s.heap.size + ((-1 - (i : Int)).toNat - 1) else ad (-1 - (-1 - (i : Int))).toNat) adV (fun q => s.heap.size ≤ q) s s.heap
    rw [e]
    exact hS
  · have e : (if 0 < -1 - (i : Int) then s.heap.size + ((-1 - (i : Int)).toNat - 1) else ad (-1 - (-1 - (i : Int))).toNat) = ad i := by
      rw [if_neg (by omega)]
      congr 1
      omega
    show vk_R "HotThroughModel" (sCp.getD i 0) (sTx.getD i "") (if 0 < -1 - (i : Int) then s.heap.size + ((-1 - (i : Int)).toNat - 1) else ad (-1 - (-1 - (i : Int))).toNat) s
    rw [e]
    exact vk_R.of (hts _ (tx_sr i hi)) (hT i hi)
end
section
/-! THE CLAIM OUT OF ONE WALK OF THE LAW'S BODY. Your part is whole_start (and what it stands on); all else here is the same for every law, but numbers. -/
def R_law : String := "HotThroughLaw"
def lw_P (b : Addr) (xs : List Int32) (args : Array Value) (s : State) : Prop := args = #[.ref b] ∧ s.IntsAt b xs ∧ xs.length ≤ 2560 ∧ (Jvm.Cond.and given_1 narrow_1).before args s = true
def lw_Q (_ : Array Value) (s : State) (o : Outcome) (t : State) : Prop := o = .returned (some (.int 1)) ∧ Framed s o t [] 601024 7293034
def lw_Z (below : List Frame) (a : Array Value) (s : State) : State → Prop := fun t => ∃ o, t.status = .running ∧ Ended t below o ∧ lw_Q a s o t
/-- the law's own end, with 1 on the stack, nothing written that was there before, its room as the claim has it -/
theorem lw_ret {p : Program} {l : Launch} {e : Env} {s : State} {m : MethodId} {below : List Frame} {meth : Method} {c : Code} {b : Nat} (hx : p.tables.exec = Jvm.exec) (hb : c.code = code) (hr : meth.sig.returnType = ret) (hlocks : meth.locks = false) {pc : Nat} {H : Heap} {ls : Array Slot} (hdg : decode code pc = .ok (.ireturn, 1)) : W p l e room_1 s m #[Value.ref b] below meth c H [] 601024 7293034 (lw_Z below #[Value.ref b] s) (F0 m pc ls [.int 1]) := by
  intro T hT X
  obtain ⟨fs, hret, hrun, hended, hW, hframe⟩ := X.leave (v := some (.int 1)) (hlocks := hlocks) (fun h => by rw [hr] at h; cases h)
  have hmeth' : T.vm.method? m = some meth := X.method'
  refine ⟨T.setFrames fs, ?_, .returned (some (.int 1)), hrun, hended, rfl, ⟨_, rfl⟩, hW, hframe⟩
  jvm_step X.here [X.here.top, hx, hb, hdg, hmeth', hr, ret, narrow_b1]
  (try refine ⟨rfl, ?_⟩); (try refine ⟨rfl, ?_⟩)
  first | (intro acts; rw [hret _ acts rfl rfl rfl]) | rw [hret _ _ rfl rfl rfl]
  exact Steps.refl _
/-- what holds at the law's entry: the machine, the code, the tables' words (any of lw_tbl by 'hts w (by decide +kernel)'), the script of L ints xs at the cell b, what the Statement gives of the start (any of its parts by flat_of_before) -/
def lw_At (p : Program) (s : State) (m : MethodId) (meth : Method) (c : Code) (b L : Nat) (xs : Nat → Int32) : Prop :=
  p.tables.exec = Jvm.exec ∧ c.code = code ∧ meth.sig.returnType = ret ∧ c.maxLocals = 8 ∧ s.vm.findClass R_law = some m.cls ∧ (∀ w ∈ lw_tbl, w.before #[Value.ref b] s = true) ∧ va_X b L xs s s.heap ∧ b < s.heap.size ∧ meth.locks = false ∧ (Jvm.Cond.and given_1 narrow_1).before #[Value.ref b] s = true
end
section
/-! the law's body: rows over the memory of ids -/
def T9 (c w : Nat) (m : Mem) : Sto := bud (S9 0 m) c w
def LCx (p : Program) (l : Launch) (s : State) (m : MethodId) (meth : Method) (c : Code) (b L : Nat) (xs : Nat → Int32) (G : Geo) : Prop :=
  lw_At p s m meth c b L xs ∧ l.flags = flags0 ∧ MX p room_1 s m #[Value.ref b] c code 8 19 G ∧ G.2.2.2 = s.heap.size
def LW (p : Program) (l : Launch) (e : Env) (s : State) (m : MethodId) (b : Nat) (below : List Frame) (meth : Method) (c : Code) (G : Geo) (u : Sto) (lv : List (Nat × Value)) (pc : Nat) (st : List Value) : Prop :=
  ∀ (H : Heap) (locs : List Loc) (cells slots : Nat) (ls : Array Slot), At G room_1 s.heap u H locs cells slots → lv_has ls 8 lv → W p l e room_1 s m #[Value.ref b] below meth c H locs cells slots (lw_Z below #[Value.ref b] s) (F0 m pc ls st)
def lv0 (b : Nat) (G : Geo) (i : Nat) : List (Nat × Value) := [(0, .ref b), (1, .ref (G.1 1)), (2, .ref (G.1 249)), (3, .ref (G.1 288)), (4, .int (Int32.ofNat i))]
section LAW
variable {p : Program} {l : Launch} {e : Env} {s : State} {m : MethodId} {b L : Nat} {below : List Frame} {meth : Method} {c : Code} {xs : Nat → Int32} {G : Geo} {u : Sto} {lv : List (Nat × Value)} {pc : Nat} {st : List Value}
theorem r_al (C : LCx p l s m meth c b L xs G) (i : Nat) {j : Fin 4} {v : Addr} (hm : lv[i]? = some ((j : Nat), .ref v)) (hd : decode code pc = .ok (.aload_n j, 1)) (k : LW p l e s m b below meth c G u lv (pc + 1) (.ref v :: st)) : LW p l e s m b below meth c G u lv pc st := fun H locs cells slots ls hA hl =>
  lv_aload_n C.2.2.1.1 C.2.2.1.2.1 hd rfl (lv_at hl i hm) (k H locs cells slots ls hA hl)
theorem i32_ofNat_add (a b : Nat) : Int32.ofNat a + Int32.ofNat b = Int32.ofNat (a + b) := (Int32.ofNat_add a b).symm
theorem i32_cl (n : Nat) (h : n < 2147483648) : ¬ (Int32.ofNat n < 0) ∧ (Int32.ofNat n).toNatClampNeg = n := by
  have e : (Int32.ofNat n).toInt = n := Int32.toInt_ofNat_of_lt h
  refine ⟨fun h0 => ?_, ?_⟩
  · rw [Int32.lt_iff_toInt_lt, e] at h0
    have : (0 : Int32).toInt = 0 := rfl
    omega
  · show (Int32.ofNat n).toInt.toNat = n
    rw [e]; rfl
theorem idx_k {i k L : Nat} (h : i + k < L) (hL : L ≤ 2560) : vp_in (Int32.ofNat i + Int32.ofInt (k : Int)) L ∧ (Int32.ofNat i + Int32.ofInt (k : Int)).toNatClampNeg = i + k := by
  have e : Int32.ofInt (k : Int) = Int32.ofNat k := rfl
  rw [e, i32_ofNat_add]
  obtain ⟨h1, h2⟩ := i32_cl (i + k) (by omega)
  refine ⟨?_, h2⟩
  unfold vp_in
  rintro (h0 | h0)
  · exact h1 h0
  · rw [h2] at h0
    omega
theorem idx_0 {i L : Nat} (h : i < L) (hL : L ≤ 2560) : vp_in (Int32.ofNat i) L ∧ (Int32.ofNat i).toNatClampNeg = i := by
  obtain ⟨h1, h2⟩ := i32_cl i (by omega)
  refine ⟨?_, h2⟩
  unfold vp_in
  rintro (h0 | h0)
  · exact h1 h0
  · rw [h2] at h0
    omega
theorem at_S (C : LCx p l s m meth c b L xs G) {H : Heap} {locs : List Loc} {cells slots : Nat} (hA : At G room_1 s.heap u H locs cells slots) : va_S (fun q => s.heap.size ≤ q) s.heap H locs := by
  obtain ⟨-, ⟨f1, f2, f3⟩, -⟩ := hA
  have hb := C.2.2.2
  exact ⟨f1, fun q h _ => f2 q (by omega), fun x hx => by have := f3 x hx; omega⟩
theorem r_push (C : LCx p l s m meth c b L xs G) {i : Nat} (h5 : i + 5 ≤ L) (hL : L ≤ 2560) {k : Nat} (hk : k < 5) (i0 i4 : Nat) (h0 : lv[i0]? = some (0, .ref b)) (h4 : lv[i4]? = some (4, .int (Int32.ofNat i))) (d0 : decode code pc = .ok (.aload_n 0, 1)) (d1 : decode code (pc + 1) = .ok (.iload 4, 2)) (d2 : decode code (pc + 3) = .ok (.iconst (k : Int), 1)) (d3 : decode code (pc + 4) = .ok (.iadd, 1)) (d4 : decode code (pc + 5) = .ok (.iaload, 1))
    (kk : LW p l e s m b below meth c G u lv (pc + 6) (.int (xs (i + k)) :: st)) : LW p l e s m b below meth c G u lv pc st := fun H locs cells slots ls hA hl => by
  have hx := C.2.2.1.1
  have hb := C.2.2.1.2.1
  obtain ⟨-, -, -, -, -, -, hX, hbl, -, -⟩ := C.1
  refine lv_aload_n hx hb d0 rfl (lv_at hl i0 h0) ?_
  refine lv_iload hx hb d1 (lv_at hl i4 h4) ?_
  refine lv_iconst (v := Int32.ofInt (k : Int)) hx hb d2 rfl ?_
  refine lv_iadd hx hb d3 ?_
  obtain ⟨q1, q2⟩ := idx_k (i := i) (k := k) (L := L) (by omega) hL
  refine va_sld hx hb hX hbl (Nat.not_le.mpr hbl) (at_S C hA) q1 d4 ?_
  rw [q2]
  exact kk H locs cells slots ls hA hl
theorem enc_x (al : Int → Nat) (x : Int32) : enc al 0 x.toInt = .int x := by rw [enc_0, Int32.ofInt_toInt]
theorem encR_i {al : Int → Nat} {t : Nat} (h : t = 0 ∨ t = 3) (v : Int) : (encR al t v).toList = [.int (Int32.ofInt v)] := by
  rcases h with rfl | rfl <;> rfl
theorem es0 (a0 : Int) (h : a0 ≠ 0) : Value.ref (G.1 a0) :: st = (encA G.1 [2] [a0]).reverse ++ st := by simp [encA, enc_2 _ h]
theorem es1 (a0 : Int) (x : Int32) (h : a0 ≠ 0) : .int x :: Value.ref (G.1 a0) :: st = (encA G.1 [2, 0] [a0, x.toInt]).reverse ++ st := by simp [encA, enc_2 _ h, enc_x]
theorem es2 (a0 : Int) (x y : Int32) (h : a0 ≠ 0) : .int y :: .int x :: Value.ref (G.1 a0) :: st = (encA G.1 [2, 0, 0] [a0, x.toInt, y.toInt]).reverse ++ st := by simp [encA, enc_2 _ h, enc_x]
theorem es3 (a0 : Int) (x y z : Int32) (h : a0 ≠ 0) : .int z :: .int y :: .int x :: Value.ref (G.1 a0) :: st = (encA G.1 [2, 0, 0, 0] [a0, x.toInt, y.toInt, z.toInt]).reverse ++ st := by simp [encA, enc_2 _ h, enc_x]
theorem es4 (a0 : Int) (x y z w : Int32) (h : a0 ≠ 0) : .int w :: .int z :: .int y :: .int x :: Value.ref (G.1 a0) :: st = (encA G.1 [2, 0, 0, 0, 0] [a0, x.toInt, y.toInt, z.toInt, w.toInt]).reverse ++ st := by simp [encA, enc_2 _ h, enc_x]
theorem eh1 (x : Int32) : Value.ref (G.1 288) :: .int x :: Value.ref (G.1 1) :: st = (encA G.1 [2, 0, 2] [1, x.toInt, 288]).reverse ++ st := by simp [encA, enc_2 G.1 (show (1 : Int) ≠ 0 by decide), enc_2 G.1 (show (288 : Int) ≠ 0 by decide), enc_x]
theorem eh2 (x y : Int32) : Value.ref (G.1 288) :: .int y :: .int x :: Value.ref (G.1 1) :: st = (encA G.1 [2, 0, 0, 2] [1, x.toInt, y.toInt, 288]).reverse ++ st := by simp [encA, enc_2 G.1 (show (1 : Int) ≠ 0 by decide), enc_2 G.1 (show (288 : Int) ≠ 0 by decide), enc_x]
theorem r_go (C : LCx p l s m meth c b L xs G) {off : Int} {tgt : Nat} (hd : decode code pc = .ok (.goto off, 3)) (ht : (pc : Int) + off = (tgt : Int)) (k : LW p l e s m b below meth c G u lv tgt st) : LW p l e s m b below meth c G u lv pc st := fun H locs cells slots ls hA hl =>
  lv_goto C.2.2.1.1 C.2.2.1.2.1 hd ht (k H locs cells slots ls hA hl)
theorem lv_1 (m0 : Mem) : live (S9 0 m0) ((1 : Nat) : Int) 1 := ⟨by decide, show ((1 : Nat) : Int) < 289 by decide, rfl⟩
theorem lv_249 (m0 : Mem) : live (S9 0 m0) ((249 : Nat) : Int) 13 := ⟨by decide, show ((249 : Nat) : Int) < 289 by decide, rfl⟩
theorem ok0 (a0 : Int) : okA [2] [a0] := ⟨trivial, trivial⟩
theorem ok1 (a0 : Int) (x : Int32) : okA [2, 0] [a0, x.toInt] := ⟨trivial, toInt_in x, trivial⟩
theorem ok2 (a0 : Int) (x y : Int32) : okA [2, 0, 0] [a0, x.toInt, y.toInt] := ⟨trivial, toInt_in x, toInt_in y, trivial⟩
theorem ok3 (a0 : Int) (x y z : Int32) : okA [2, 0, 0, 0] [a0, x.toInt, y.toInt, z.toInt] := ⟨trivial, toInt_in x, toInt_in y, toInt_in z, trivial⟩
theorem ok4 (a0 : Int) (x y z w : Int32) : okA [2, 0, 0, 0, 0] [a0, x.toInt, y.toInt, z.toInt, w.toInt] := ⟨trivial, toInt_in x, toInt_in y, toInt_in z, toInt_in w, trivial⟩
theorem r_call (C : LCx p l s m meth c b L xs G) {cp K kk a0 : Nat} {as : List Int} {ts : List Nat} {stk : List Value} {cb wb : Nat} {m0 : Mem} {P : Int → Mem → Prop} (hv : VirtAt 19 cp K kk) (hz : mCel K = 0 ∧ mSlo K = 0) (ha : mArg K = ts) (hst : stk = (encA G.1 ts ((a0 : Int) :: as)).reverse ++ st) (hok : okA ts ((a0 : Int) :: as)) (hcat : cats st ≤ 20) (hlive : live (S9 0 m0) (a0 : Int) kk)
    (hcl : Cl 230 K ((a0 : Int) :: as) (fun v u => ∃ m1, u = S9 0 m1 ∧ P v m1) (S9 0 m0)) (hd : decode code pc = .ok (.invokevirtual cp, 3))
    (k : ∀ v m1, okv (mRty K) v → P v m1 → LW p l e s m b below meth c G (T9 cb wb m1) lv (pc + 3) ((encR G.1 (mRty K) v).toList ++ st)) : LW p l e s m b below meth c G (T9 cb wb m0) lv pc stk := fun H locs cells slots ls hA hl => by
  rw [hst, ← ha]
  refine call_virt (cl := Cl 230) C.2.2.1 (clD C.2.1 230 room_1 (Nat.le_of_ble_eq_true rfl) (Nat.le_of_ble_eq_true rfl)) hv hd hA (by rw [ha]; exact hok) hcat (fun v h => by cases h; exact hlive) hl.1 (by rw [hz.1, hz.2]; exact ⟨Nat.zero_le _, Nat.zero_le _⟩) (Q' := fun v u => ∃ m1, u = S9 0 m1 ∧ P v m1) (by rw [hz.1, hz.2]; exact hcl) ?_
  rintro v u' H' locs' hv' ⟨m1, rfl, hP⟩ hA'
  rw [hz.1, hz.2] at hA' ⊢
  exact k v m1 hv' hP H' locs' cells slots ls hA' hl
theorem r_eq (C : LCx p l s m meth c b L xs G) {x y : Int32} {off : Int} {tgt : Nat} (hd : decode code pc = .ok (.if_icmp .eq off, 3)) (ht : (pc : Int) + off = (tgt : Int)) (he : x = y) (k : LW p l e s m b below meth c G u lv tgt st) : LW p l e s m b below meth c G u lv pc (.int y :: .int x :: st) := fun H locs cells slots ls hA hl =>
  lv_icmp_eq C.2.2.1.1 C.2.2.1.2.1 hd ht (fun _ => k H locs cells slots ls hA hl) (fun h => absurd he h)
theorem r_ist (C : LCx p l s m meth c b L xs G) {i : Nat} {x : Int32} {lv' : List (Nat × Value)} (hi : i < 8) (hd : decode code pc = .ok (.istore i, 2)) (hl' : (i, Value.int x) :: lv.filter (fun q => !(q.1 == i) && !(q.1 + 1 == i && q.2.category == 2)) = lv') (k : LW p l e s m b below meth c G u lv' (pc + 2) st) : LW p l e s m b below meth c G u lv pc (.int x :: st) := fun H locs cells slots ls hA hl =>
  lv_istore C.2.2.1.1 C.2.2.1.2.1 hd hl hi hl' (fun ls' h' => k H locs cells slots ls' hA h')
theorem r_lst (C : LCx p l s m meth c b L xs G) {i : Nat} {x : Int64} {lv' : List (Nat × Value)} (hi : i + 1 < 8) (hd : decode code pc = .ok (.lstore i, 2)) (hl' : (i, Value.long x) :: lv.filter (fun q => !(q.1 == i) && (!(q.1 == i + 1) && !(q.1 + 1 == i && q.2.category == 2))) = lv') (k : LW p l e s m b below meth c G u lv' (pc + 2) st) : LW p l e s m b below meth c G u lv pc (.long x :: st) := fun H locs cells slots ls hA hl =>
  lv_lstore C.2.2.1.1 C.2.2.1.2.1 hd hl hi hl' (fun ls' h' => k H locs cells slots ls' hA h')
theorem r_sub (i : List Nat) {lv' : List (Nat × Value)} (h : lv_pick lv i = lv') (k : LW p l e s m b below meth c G u lv' pc st) : LW p l e s m b below meth c G u lv pc st := fun H locs cells slots ls hA hl => k H locs cells slots ls hA (lv_sub hl i h)
theorem r_help (C : LCx p l s m meth c b L xs G) {d cp maxL n : Nat} {y : MethodName} {cc : ByteArray} {hh : List (Nat × Nat × Nat × Nat)} {ts : List Nat} {vs : List Int} {stk : List Value} {m0 : Mem} {P2 : Mem → Prop} {cb wb : Nat} (hd18 : d ≤ 900) (hm : maxL ≤ 5) (hM : Met l y (wsH y cc maxL hh) (rmH d) (PcH G ts vs (S9 0 m0)) (QcM G P2) 1 6 (fun q => G.2.2.2 ≤ q))
    (w1 : Cond.codeWith y cc maxL (some .int) hh ∈ gTbl) (w2 : Cond.initialized y.cls ∈ gTbl) (w3 : y.cls ≠ "java/lang/invoke/MethodHandle" ∧ y.cls ≠ "java/lang/invoke/VarHandle") (w4 : (parseMethodDescriptor y.desc).map (fun d => d.parameters.length) = some n) (w5 : Cond.methodLink "HotThroughLaw" cp y ∈ gTbl) (w6 : Cond.static y ∈ gTbl)
    (hst : stk = (encA G.1 ts vs).reverse ++ st) (hok : okA ts vs) (hlen : ts.length = n) (hcat : cats st ≤ 8) (hd : decode code pc = .ok (.invokestatic cp, 3))
    (k : ∀ (v : Int32) (m1 : Mem), P2 m1 → LW p l e s m b below meth c G (T9 cb wb m1) lv (pc + 3) (.int v :: st)) : LW p l e s m b below meth c G (T9 (cb + 1) (wb + 6) m0) lv pc stk := fun H locs cells slots ls hA hl => by
  obtain ⟨hrel, ⟨f1, f2, f3⟩, b1, b2⟩ := id hA
  have hX := C.2.2.1
  have hts := hX.2.2.2.2.1
  have hK := hX.2.2.2.2.2.1
  have hbase := hX.2.2.2.2.2.2.1
  have hSO := hX.2.2.2.2.2.2.2.2.2.1
  obtain ⟨-, -, -, -, -, hlw, -⟩ := C.1
  have b1 : cells + (cb + 1) ≤ 601024 := b1
  have b2 : slots + (wb + 6) ≤ 7293034 := b2
  rw [hst]
  have hr := vx_runSW (l := l) (p := p) (e := e) (R := room_1) (s := s) (m := m) (below := below) (meth := meth) (c := c) (H := H) (locs := locs) (cells := cells) (slots := slots) (As := encA G.1 ts vs) (rest := st) (n := n) (Ts := gTbl) (own := "HotThroughLaw") (g := F0 m pc ls ((encA G.1 ts vs).reverse ++ st)) ⟨hX.1, hX.2.1, hX.2.2.1, hX.2.2.2.1, hts⟩ hM
    ⟨⟨rfl, rfl, (by show d + 2 + 1 ≤ 2048; omega), (by show 8 + (maxL + 11) + 90 * (d + 2) ≤ 84000; omega), (fun w hw => by
      rcases List.mem_cons.mp hw with rfl | hw
      · exact gt_pay hts _ w1
      · rcases List.mem_append.mp hw with hw | hw
        · exact gt_pay hts _ hw
        · exact fun a' U hW => face_pay (nse_f w hw) (hlw _ (nse_t w hw)) a' U hW), List.mem_cons_self⟩, hts _ w1, hts _ w2, w3, (fun sig h => by rw [h] at w4; simp at w4; exact w4.symm), hts _ w5, hts _ w6⟩
    ⟨fun a U g mk q => ⟨q.1, q.2.1, q.2.2.1, KOK.moved (u := U) (U := U.calling g mk a) (Vm.Alike.refl U.vm) q.2.2.2.1, q.2.2.2.2.1, SOK.same q.2.2.2.2.2⟩, fun U hU hW => ⟨rfl, hok, by rw [hU]; exact hrel, KOK.moved hW.alike hK, by rw [hU]; exact Nat.le_trans hbase f1, hSO.on hW (by rw [hU]; exact f2)⟩⟩ rfl (by rw [encA_len _ _ _ hok]; exact hlen) hl.1 rfl (lv_room hcat) hd ⟨(by show cells + 1 ≤ 601024; omega), (by show slots + 6 ≤ 7293034; omega)⟩
  intro T hT X
  obtain ⟨v, st₀, t, T', L9, h0, X', hL, e1, e2, ⟨⟨v9, hv⟩, ⟨m1, hm1, hq⟩, hz, hk⟩, go⟩ := hr T hT X
  cases hv
  rw [h0] at hz hk
  have hA2 : At G room_1 s.heap (T9 cb wb m1) T'.heap (locs ++ L9) (cells + 1) (slots + 6) := by
    refine ⟨by rw [e1]; exact hq, ⟨Nat.le_trans f1 (by rw [e1]; exact hz), fun q hq9 => by rw [e1]; exact (hk q hq9).trans (f2 q hq9), fun z hz9 => (List.mem_append.mp hz9).elim (f3 z) (hL z)⟩, (by show cells + 1 + cb ≤ 601024; omega), (by show slots + 6 + wb ≤ 7293034; omega)⟩
  obtain ⟨t2, a1, b3⟩ := k v9 m1 hm1 T'.heap (locs ++ L9) (cells + 1) (slots + 6) ls hA2 hl T' rfl X'
  exact ⟨t2, go t2 a1, b3⟩
theorem r_pop (C : LCx p l s m meth c b L xs G) {va : Value} (hd : decode code pc = .ok (.pop, 1)) (hva : va.category = 1) (k : LW p l e s m b below meth c G u lv (pc + 1) st) : LW p l e s m b below meth c G u lv pc (va :: st) := fun H locs cells slots ls hA hl =>
  lv_pop C.2.2.1.1 C.2.2.1.2.1 hd hva (k H locs cells slots ls hA hl)
theorem r_less {cb wb : Nat} {m0 : Mem} (k : LW p l e s m b below meth c G (T9 cb wb m0) lv pc st) : LW p l e s m b below meth c G (T9 (cb + 1) (wb + 6) m0) lv pc st := fun H locs cells slots ls hA hl =>
  k H locs cells slots ls ⟨hA.1, hA.2.1, (by have : cells + (cb + 1) ≤ room_1.cells := hA.2.2.1; show cells + cb ≤ room_1.cells; omega), (by have : slots + (wb + 6) ≤ room_1.slots := hA.2.2.2; show slots + wb ≤ room_1.slots; omega)⟩ hl
end LAW
end
