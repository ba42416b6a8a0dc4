/-! methods that throw: nothing is there -/
theorem u1_out {cc : ByteArray} {pc : Nat} (h : cc.size ≤ pc) : (Reader.u1 : Decoder Nat).runAt cc pc = .error (HasTruncated.truncated pc) := by
  show (ReaderT.run (if h : pc < cc.size then (do set (pc + 1); pure cc[pc].toNat : Reader DecodeError Nat) else throw (HasTruncated.truncated pc)) cc).run pc = _
  rw [dif_neg (by omega)]
  rfl
theorem dec_out {cc : ByteArray} {pc : Nat} (h : cc.size ≤ pc) (x : Instr × Nat) : decode cc pc ≠ .ok x := by
  intro hx
  have e := u1_out h
  unfold decode Decoder.instr at hx
  have e2 : ∀ f : Nat → Decoder Instr, (Reader.u1 >>= f).runAt cc pc = .error (HasTruncated.truncated pc) := fun f => by
    show ((Reader.u1 : Decoder Nat).runAt cc pc >>= fun q => (f q.1).runAt cc q.2) = _
    rw [e]; rfl
  rw [e2] at hx
  cases hx
def nwk (cc : ByteArray) : Bool := (List.range cc.size).all (fun pc => match decode cc pc with
  | .ok (.new ik, _) => (ik == 132) && (match decode cc (pc + 4) with
    | .ok (.invokespecial ic, _) => ic == 134
    | _ => true)
  | _ => true)
theorem nwk_ok {cc : ByteArray} (h : nwk cc = true) {pc ik ic a b : Nat} (h0 : decode cc pc = .ok (.new ik, a)) (h4 : decode cc (pc + 4) = .ok (.invokespecial ic, b)) : ik = 132 ∧ ic = 134 := by
  have hp : pc < cc.size := by
    rcases Nat.lt_or_ge pc cc.size with h | h
    · exact h
    · exact absurd h0 (dec_out h _)
  have h1 := List.all_eq_true.mp h pc (List.mem_range.mpr hp)
  rw [h0] at h1
  dsimp only at h1
  rw [h4] at h1
  simp at h1
  exact h1
def nseN : String := "java/util/NoSuchElementException"
def nseL : List String := ["java/lang/RuntimeException", "java/lang/Exception"]
def nseX : List Cond := Cond.classLink "HotThrough" 132 nseN :: Cond.initialized nseN :: vx_at0 "HotThrough" 134 nseN nseL
theorem nse_t : ∀ w ∈ nseX, w ∈ lw_tbl := by decide +kernel
theorem nse_f : ∀ w ∈ nseX, w.onTables = true ∧ w.keepsFace = true := by decide +kernel
theorem nse_o : ∀ w ∈ nseX, vx_ot w = true := by decide +kernel
theorem face_pay {args : Array Value} {s : State} {w : Cond} (h : w.onTables = true ∧ w.keepsFace = true) (hw : w.before args s = true) (a' : Array Value) (U : State) (hW : s.WarmedH U.vm) : w.before a' U = true :=
  va_tabs h.1 (rfl : (s.setVm U.vm).vm = U.vm) (Cond.before_shiftedFace (State.Shifted.of_warmed hW) w h.2 hw)
def wsT (K : Nat) : List Cond := mWor K :: (gTbl ++ nseX)
def rmT (n : Nat) : Room := { frames := n, cells := 1, slots := 6, locals := 90 * n }
def xcM (G : Geo) (PM : Mem → Prop) : String → State → State → Prop := fun E st t => E = nseN ∧ (∃ m', PM m' ∧ Rel G (S9 0 m') t.heap) ∧ FrH G st t
def chkT {ow : Nat} (K : Nat) (b : SX ow) (code : Cds) : Bool := match b.1.1 (gam0 0 (mArg K)) (mMax K) 0 0 [] (20 + mRty K) code with
  | some (_, []) => true
  | _ => false
theorem rel_up {G : Geo} {u : Sto} {H H' : Heap} (h : Rel G u H) (h0 : sex u ≠ 1) (hz : H.size ≤ H'.size) (hq : ∀ q, q < H.size → H'[q]? = H[q]?) (hK : ∀ a : Int, 0 < a → G.1 a = G.2.2.2 + (a.toNat - 1)) : Rel G u H' := by
  obtain ⟨r1, r2, r3, r4, r5⟩ := h
  refine ⟨fun a a1 a2 a3 => ?_, r2, r3, by omega, fun q => absurd q h0⟩
  obtain ⟨cell, q1, q2⟩ := r1 a a1 a2 a3
  refine ⟨cell, ?_, q2⟩
  rw [hq _ (by rw [hK a a1]; omega)]
  exact q1
theorem thr_met2 (K : Nat) (b : SX 1) (code : Cds) (hown : (mNam K).cls = "HotThrough") (hchk : chkT K b code = true) (hdec : Dec (mCod K) code) (hpc : pcOf code = 0) (hnw : nwk (mCod K) = true) (hr : mRty K = 0 ∧ mRet K = some .int ∨ mRty K = 1 ∧ mRet K = some .long) (hwid : wid (mArg K) ≤ mMax K)
    {l : Launch} {G : Geo} {d : Nat} {vs : List Int} {m0 : Mem} {PM : Mem → Prop} (hd5 : 5 ≤ d) (hfl : l.flags = flags0)
    (hf : b.1.2 (Cl d) (fun _ _ => False) (fun _ _ => False) (fun _ u => ∃ m', u = bud (S9 0 m') 1 6 ∧ PM m') (rho0 (mArg K) vs) (bud (S9 0 m0) 1 6)) :
    vx_Met l (mNam K) (wsT K) (rmT (d + 1)) (PcOf G K vs (S9 0 m0)) (QcOf G K (fun _ u => ∃ m', u = bud (S9 0 m') 1 6 ∧ PM m')) (xcM G PM) 1 6 (fun q => G.2.2.2 ≤ q) := by
  refine vx_ofW (cc := mCod K) (maxL := mMax K) (ret := mRet K) (by rw [hown]; decide) rfl ?_
  intro p e s m args below meth c s₁ B hml hno hv
  obtain ⟨rfl, hok, hrel, hK, hbase, hSO⟩ := hv
  have hts := atoms_spec (ws := wsT K) B.pre
  have hX : MX p (rmT (d + 1)) s m (encA G.1 (mArg K) vs).toArray c (mCod K) (mMax K) 1 G :=
    ⟨B.exec, B.bytes, hml, by show s.vm.findClass "HotThrough" = _; rw [← hown]; exact findClass_of_methodNamed B.named, fun w hw => hts w (List.mem_cons_of_mem _ (List.mem_append_left _ hw)), hK, hbase, Nat.succ_le_succ (Nat.zero_le d), by show 40 ≤ 90 * (d + 1); omega, hSO, fun h => absurd h (by decide)⟩
  rw [lg_entry_eq]
  have hl := lv_entry (encA G.1 (mArg K) vs) (n := mMax K) (by rw [sl_wid _ _ _ hok]; exact hwid)
  generalize (lg_sl (encA G.1 (mArg K) vs) ++ List.replicate (mMax K - (lg_sl (encA G.1 (mArg K) vs)).length) Slot.unset).toArray = ls at hl ⊢
  have hg := gam0_lv G.1 (mArg K) vs 0 (rho0 (mArg K) vs) hok (fun j => by rw [Nat.zero_add]; rfl)
  have hL : LR G (mMax K) (gam0 0 (mArg K)) (rho0 (mArg K) vs) ls := ⟨by rw [hg.1]; exact hl, hg.2⟩
  have hA : At G (rmT (d + 1)) s.heap (bud (S9 0 m0) 1 6) s.heap [] 0 0 := ⟨hrel, ⟨Nat.le_refl _, fun _ _ => rfl, fun _ h => by cases h⟩, Nat.le_refl _, Nat.le_refl _⟩
  unfold chkT at hchk
  split at hchk
  case h_2 => cases hchk
  rename_i ga9 h0
  have hlocks := B.notSynchronized
  suffices h9 : W p l e (rmT (d + 1)) s m (encA G.1 (mArg K) vs).toArray below meth c s.heap [] 0 0 (vx_MQ below (QcOf G K (fun _ u => ∃ m', u = bud (S9 0 m') 1 6 ∧ PM m')) (xcM G PM) (encA G.1 (mArg K) vs).toArray s 1 6 fun q => G.2.2.2 ≤ q) (F0 m (pcOf code) ls []) by
    rw [hpc] at h9
    exact h9
  refine b.2.1 p l e (rmT (d + 1)) s m _ below meth c (mCod K) (mMax K) G _ (Cl d) hX (clD hfl d _ (Nat.le_refl _) (Nat.le_refl _)) (gam0 0 (mArg K)) 0 0 [] (20 + mRty K) code ga9 [] h0 hdec (rho0 (mArg K) vs) (bud (S9 0 m0) 1 6) s.heap [] 0 0 ls _ _ _ hL hA hf ?_ ?_ ?_ ?_
  · intro _ _ _ _ _ _ _ _ _ h; exact h.elim
  · intro _ _ _ _ _ _ _ _ _ h; exact h.elim
  · intro v u' H' locs' cells' slots' ls' pc hv hA' hq hd
    have hrt9 : (20 + mRty K) % 20 = mRty K := by rcases hr with h | h <;> rw [h.1]
    rw [hrt9] at hv hd ⊢
    obtain ⟨hrel', ⟨f1, f2, f3⟩, b1, b2⟩ := hA'
    have fin : ∀ o, o = encR G.1 (mRty K) v → ∀ t : State, t.heap = H' → s.WarmedH t.vm → QcOf G K (fun _ u => ∃ m', u = bud (S9 0 m') 1 6 ∧ PM m') (encA G.1 (mArg K) vs).toArray s (.returned o) t := fun o ho t ht _ =>
      ⟨⟨v, u', by rw [ho], hv, hq, by rw [ht]; exact hrel'⟩, by rw [ht]; exact f1, fun q hq => by rw [ht]; exact f2 q hq⟩
    have c1 : cells' ≤ 1 := Nat.le_trans (Nat.le_add_right _ _) b1
    have c2 : slots' ≤ 6 := Nat.le_trans (Nat.le_add_right _ _) b2
    refine vx_ret ?_
    refine W.widen c1 c2 ?_
    have hrr := B.returns
    rcases hr with ⟨e1, e2⟩ | ⟨e1, e2⟩
    · rw [e1] at hd fin hv ⊢
      exact W.iret hX.1 hX.2.1 (hrr.trans e2) (fin _ rfl) f3 hd
    · rw [e1] at hd fin hv ⊢
      exact W.lret hX.1 hX.2.1 (hrr.trans e2) (fin _ rfl) f3 hd
  · intro _ u' H' locs' cells' slots' ls' pc ik ic hls hA' hq d0 d3 d4 d7
    obtain ⟨m9, rfl, hPM⟩ := hq
    obtain ⟨rfl, rfl⟩ := nwk_ok hnw d0 d4
    obtain ⟨hrel', ⟨f1, f2, f3⟩, b1, b2⟩ := hA'
    have hn : ∀ w ∈ nseX, w.before (encA G.1 (mArg K) vs).toArray s = true := fun w hw => hts w (List.mem_cons_of_mem _ (List.mem_append_right _ hw))
    have c1 : cells' + 1 ≤ 1 := b1
    have c2 : slots' + 6 ≤ 6 := b2
    obtain ⟨-, -, -, -, hU, hN⟩ := id hSO
    refine vx_throw0 (own := "HotThrough") (cls := nseN) (names := nseL) (ik := 132) (ic := 134) (A := fun q => G.2.2.2 ≤ q) B.exec B.bytes (by rw [Launch.stackTraces, hfl]; rfl) (by rw [← hown]; exact findClass_of_methodNamed B.named) (by decide +kernel) (by decide +kernel)
      (hn _ List.mem_cons_self) (hn _ (List.mem_cons_of_mem _ List.mem_cons_self)) (fun w hw => hn w (List.mem_cons_of_mem _ (List.mem_cons_of_mem _ hw))) nse_o hU hN ⟨f1, fun q _ hq => f2 q (by omega), f3⟩ (by rw [hls, hml]) d0 d3 d4 d7 (fun x hx => (hno x hx).elim)
      (by show 2 + 3 < d + 1; omega) (by show 0 + (13 * (2 + 1) + 42) ≤ 90 * (d + 1); omega) c1 c2 hlocks (fun t _ hz hq => ?_) f3 c1 c2
    exact ⟨rfl, ⟨m9, hPM, rel_up (u := S9 0 m9) hrel' (show (0 : Int) ≠ 1 by decide) hz hq hK.1⟩, Nat.le_trans f1 hz, fun q hq' => (hq q (Nat.lt_of_lt_of_le hq' (Nat.le_trans hbase f1))).trans (f2 q hq')⟩
/-! the five that throw -/
theorem b_live (u : Sto) (c w : Nat) (a : Int) (k : Nat) : live (bud u c w) a k = live u a k := rfl
theorem b_hdl (vs : List Int) (u : Sto) (c w k : Nat) : hdl vs (bud u c w) k = hdl vs u k := rfl
theorem b_1 (u : Sto) (c w : Nat) : (bud u c w).1 = u.1 := rfl
theorem b_2 (u : Sto) (c w : Nat) : (bud u c w).2.1 = u.2.1 := rfl
theorem b_wc (cl : ClT) (K : Nat) (h : mCel K = 0 ∧ mSlo K = 0) (Q : Int → Sto → Prop) (vs : List Int) (e : Int) (m : Mem) (c w : Nat) : wcl cl K Q vs (bud (S9 e m) c w) = cl K vs (fun v u' => Q v (bud u' c w)) (S9 e m) := by
  unfold wcl
  rw [h.1, h.2]
  show ((0 ≤ c ∧ 0 ≤ w) ∧ cl K vs (fun v u' => Q v (bud u' c w)) (S9 e m)) = _
  simp only [Nat.zero_le, and_self, true_and]
theorem b_33 : mCel 33 = 0 ∧ mSlo 33 = 0 := ⟨rfl, rfl⟩
theorem b_52 : mCel 52 = 0 ∧ mSlo 52 = 0 := ⟨rfl, rfl⟩
theorem b_63 : mCel 63 = 0 ∧ mSlo 63 = 0 := ⟨rfl, rfl⟩
theorem b_70 : mCel 70 = 0 ∧ mSlo 70 = 0 := ⟨rfl, rfl⟩
theorem b_w (cl : ClT) (K : Nat) (h : mCel K = 0 ∧ mSlo K = 0) (Q : Int → Sto → Prop) (vs : List Int) (e : Int) (m : Mem) (c w : Nat) : wcl cl K Q vs (bud (S9 e m) c w) = cl K vs (fun v u' => Q v (bud u' c w)) (S9 e m) := b_wc cl K h Q vs e m c w
theorem b_inb (u : Sto) (c w : Nat) (a : Int) (k : Nat) (j : Int) : inb (bud u c w) a k j = inb u a k j := rfl
theorem b_72 : mCel 72 = 0 ∧ mSlo 72 = 0 := ⟨rfl, rfl⟩
theorem b_157 : mCel 157 = 0 ∧ mSlo 157 = 0 := ⟨rfl, rfl⟩
theorem b_158 : mCel 158 = 0 ∧ mSlo 158 = 0 := ⟨rfl, rfl⟩
theorem b_159 : mCel 159 = 0 ∧ mSlo 159 = 0 := ⟨rfl, rfl⟩
theorem b_163 : mCel 163 = 0 ∧ mSlo 163 = 0 := ⟨rfl, rfl⟩
theorem x_156 {d : Nat} {tc a b : Int} {g : Fg} {m : Mem} (hJ : JC 4 g tc m) : B156.1.2 (Cl (d + 20)) (fun _ _ => False) (fun _ _ => False) (fun _ u => ∃ m', u = bud (S9 0 m') 1 6 ∧ JC 4 g tc m') (rho0 (mArg 156) [1, a, b]) (bud (S9 0 m) 1 6) := by
  have hL := JC_l hJ
  have hs := JC_s hJ
  simp only [B156, ma_156, rho_200, wf_1_135, wf_1_139, wf_1_146, wf_1_26, wf_1_33, cl_33, runB, B33, ma_33, rho_20, wf_4_30, w_cst, w_ldi, w_ldj, w_lda, w_ljk, w_ldk, w_ldw, w_ldk2, w_ldt, w_ldtw, w_neg, w_cvb, w_cvs, w_cvc, w_cvj, w_add, w_sub, w_mul, w_ban, w_bor, w_bxo, w_shl, w_shr, w_ush, w_dvi, w_rmi, w_aldi, w_aldj, w_aldz, w_aldc, w_alda, w_ite, w_cmp, w_cmj, w_cz, w_cnot, w_cand, w_cor, w_nil, w_cons, w_cvi, w_csta, w_cvt, w_cvv, w_csv, w_cpy, w_seq, w_sbr, w_sbn, w_brk, w_ifs, w_ifx, w_ife, w_wk, w_rets, w_rtv, w_thr, w_asi, w_asj, w_asa, w_inc, w_exs, w_asti, w_astj, w_astz, w_astc, w_aopadd, w_aopsub, w_sw, if_true, if_false, ↓reduceIte, hdl_c, S9_1, S9_m, bud9, live9, inb9, wrn, wr9_14, wr9_15, wr9_16, wr9_17, tq9_14, tq9_15, tq9_16, tq9_17, tq_0, tq_1, tq_3, upr_rl, rl_0, rl_1, rl_2, rl_3, rl_4, rl_5, rl_6, rl_7, rl_8, rl_9, rl_10, rl_11, rl_12, rl_13, sp_0, sp_1, sp_2, sp_3, sp_4, sp_5, sp_6, sp_7, sp_8, sp_9, sp_10, sp_11, sp_12, sp_13, se_0, se_1, se_2, se_3, se_4, se_5, se_6, se_7, se_8, se_9, se_10, se_11, se_12, se_13, sem_0, sem_1, sem_2, sem_3, sem_4, sem_5, kc_1, kl9_1, sr_1_0, sr_1_1, sr_1_10, sr_1_11, sr_1_13, sr_1_2, sr_1_3, sr_1_4, sr_1_5, sr_1_6, sr_1_7, sr_1_8, sr_1_9, kc_4, kl9_4, sr_4_0, sr_4_2, sr_4_4, kc_8, kl9_8, sr_8_10, sr_8_4, sr_8_5, sr_8_6, sr_8_7, sr_8_9, kc_9, kl9_9, kc_10, kl9_10, kc_11, kl9_11, kc_12, kl9_12, kc_15, kl9_15, sr_15_0, sr_15_1, sr_15_2, sr_15_4, sr_15_5, sr_15_6, sr_15_7, sr_15_8, sr_15_9, kc_16, kl9_16, kc_17, kl9_17, kc_18, kl9_18, kc_19, kl9_19, kc_20, kl9_20, kc_21, kl9_21, kc_22, kl9_22, kc_23, kl9_23, kc_24, kl9_24, kc_13, kl9_13, kc_14, kl9_14, kc_218, kl9_218, b_live, b_hdl, b_1, b_2, b_inb, b_w _ _ b_33, b_w _ _ b_157, b_w _ _ b_158, b_w _ _ b_159, swW_c, swW_n, List.mem_singleton, List.mem_cons, List.mem_nil_iff]
  repeat' (first
    | (with_reducible exact True.intro)
    | omega
    | (with_reducible rfl)
    | (with_reducible contradiction)
    | (with_reducible refine And.intro ?_ ?_)
    | intro _
    | (with_reducible refine s_157 (g := g) (tc := tc) ?_ (fun v9 m9 hJ9 => ?_); (next => refine JC_of hL ?_ (by decide); repeat (first | assumption | (refine JC_up ?_ (by first | decide | (unfold frC; omega)) (by first | (simp [BdC, hnd]; done) | (simp [BdC, hnd, upm, cpf] <;> first | omega | (unfold w32; omega)))) | (refine JC_cp ?_ (fun _ => by first | decide | (unfold frC; omega)) (fun _ _ => by simp [BdC, hnd])))); (try clear hs9); have hJ9 := JC_dn hL hJ9; have hs9 := JC_s hJ9; (try simp only [hdl_c, S9_1, S9_m, bud9, live9, inb9, wrn, wr9_14, wr9_15, wr9_16, wr9_17, tq9_14, tq9_15, tq9_16, tq9_17, tq_0, tq_1, tq_3, upr_rl, rl_0, rl_1, rl_2, rl_3, rl_4, rl_5, rl_6, rl_7, rl_8, rl_9, rl_10, rl_11, rl_12, rl_13, sp_0, sp_1, sp_2, sp_3, sp_4, sp_5, sp_6, sp_7, sp_8, sp_9, sp_10, sp_11, sp_12, sp_13, se_0, se_1, se_2, se_3, se_4, se_5, se_6, se_7, se_8, se_9, se_10, se_11, se_12, se_13, sem_0, sem_1, sem_2, sem_3, sem_4, sem_5, List.getD_cons_zero, List.getD_cons_succ, Bool.false_eq_true, wrn3, wrn1, cpmS, cpok9, if_true, if_false, ↓reduceIte, wc_33, wc_157, wc_158, wc_159, b_live, b_hdl, b_1, b_2, b_inb]))
    | (with_reducible refine s_158 (g := g) (tc := tc) ?_ (fun v9 m9 hJ9 => ?_); (next => refine JC_of hL ?_ (by decide); repeat (first | assumption | (refine JC_up ?_ (by first | decide | (unfold frC; omega)) (by first | (simp [BdC, hnd]; done) | (simp [BdC, hnd, upm, cpf] <;> first | omega | (unfold w32; omega)))) | (refine JC_cp ?_ (fun _ => by first | decide | (unfold frC; omega)) (fun _ _ => by simp [BdC, hnd])))); (try clear hs9); have hJ9 := JC_dn hL hJ9; have hs9 := JC_s hJ9; (try simp only [hdl_c, S9_1, S9_m, bud9, live9, inb9, wrn, wr9_14, wr9_15, wr9_16, wr9_17, tq9_14, tq9_15, tq9_16, tq9_17, tq_0, tq_1, tq_3, upr_rl, rl_0, rl_1, rl_2, rl_3, rl_4, rl_5, rl_6, rl_7, rl_8, rl_9, rl_10, rl_11, rl_12, rl_13, sp_0, sp_1, sp_2, sp_3, sp_4, sp_5, sp_6, sp_7, sp_8, sp_9, sp_10, sp_11, sp_12, sp_13, se_0, se_1, se_2, se_3, se_4, se_5, se_6, se_7, se_8, se_9, se_10, se_11, se_12, se_13, sem_0, sem_1, sem_2, sem_3, sem_4, sem_5, List.getD_cons_zero, List.getD_cons_succ, Bool.false_eq_true, wrn3, wrn1, cpmS, cpok9, if_true, if_false, ↓reduceIte, wc_33, wc_157, wc_158, wc_159, b_live, b_hdl, b_1, b_2, b_inb]))
    | (with_reducible refine s_159 (g := g) (tc := tc) ?_ (fun v9 m9 hJ9 => ?_); (next => refine JC_of hL ?_ (by decide); repeat (first | assumption | (refine JC_up ?_ (by first | decide | (unfold frC; omega)) (by first | (simp [BdC, hnd]; done) | (simp [BdC, hnd, upm, cpf] <;> first | omega | (unfold w32; omega)))) | (refine JC_cp ?_ (fun _ => by first | decide | (unfold frC; omega)) (fun _ _ => by simp [BdC, hnd])))); (try clear hs9); have hJ9 := JC_dn hL hJ9; have hs9 := JC_s hJ9; (try simp only [hdl_c, S9_1, S9_m, bud9, live9, inb9, wrn, wr9_14, wr9_15, wr9_16, wr9_17, tq9_14, tq9_15, tq9_16, tq9_17, tq_0, tq_1, tq_3, upr_rl, rl_0, rl_1, rl_2, rl_3, rl_4, rl_5, rl_6, rl_7, rl_8, rl_9, rl_10, rl_11, rl_12, rl_13, sp_0, sp_1, sp_2, sp_3, sp_4, sp_5, sp_6, sp_7, sp_8, sp_9, sp_10, sp_11, sp_12, sp_13, se_0, se_1, se_2, se_3, se_4, se_5, se_6, se_7, se_8, se_9, se_10, se_11, se_12, se_13, sem_0, sem_1, sem_2, sem_3, sem_4, sem_5, List.getD_cons_zero, List.getD_cons_succ, Bool.false_eq_true, wrn3, wrn1, cpmS, cpok9, if_true, if_false, ↓reduceIte, wc_33, wc_157, wc_158, wc_159, b_live, b_hdl, b_1, b_2, b_inb]))
    | (exact ⟨_, rfl, by assumption⟩)
    | (exact ⟨m, rfl, hJ⟩)
    | (unfold w32; omega)
    | (simp (disch := omega) only [w32_eq]; omega)
    | (with_reducible show (_ : Int) ≤ _; simp [upm] <;> (first | omega | (unfold w32; omega)))
    | (with_reducible show (_ : Int) < _; simp [upm] <;> (first | omega | (unfold w32; omega))))

theorem x_160 {d : Nat} {tc a b : Int} {g : Fg} {m : Mem} (hJ : JC 4 g tc m) : B160.1.2 (Cl (d + 20)) (fun _ _ => False) (fun _ _ => False) (fun _ u => ∃ m', u = bud (S9 0 m') 1 6 ∧ JC 4 g tc m') (rho0 (mArg 160) [1, a, b]) (bud (S9 0 m) 1 6) := by
  have hL := JC_l hJ
  have hs := JC_s hJ
  simp only [B160, ma_160, rho_200, wf_1_158, wf_1_161, wf_1_164, wf_1_170, wf_1_26, wf_1_33, cl_70, runB, B70, ma_70, rho_20, wf_4_34, cl_72, B72, ma_72, wf_4_43, w_cst, w_ldi, w_ldj, w_lda, w_ljk, w_ldk, w_ldw, w_ldk2, w_ldt, w_ldtw, w_neg, w_cvb, w_cvs, w_cvc, w_cvj, w_add, w_sub, w_mul, w_ban, w_bor, w_bxo, w_shl, w_shr, w_ush, w_dvi, w_rmi, w_aldi, w_aldj, w_aldz, w_aldc, w_alda, w_ite, w_cmp, w_cmj, w_cz, w_cnot, w_cand, w_cor, w_nil, w_cons, w_cvi, w_csta, w_cvt, w_cvv, w_csv, w_cpy, w_seq, w_sbr, w_sbn, w_brk, w_ifs, w_ifx, w_ife, w_wk, w_rets, w_rtv, w_thr, w_asi, w_asj, w_asa, w_inc, w_exs, w_asti, w_astj, w_astz, w_astc, w_aopadd, w_aopsub, w_sw, if_true, if_false, ↓reduceIte, hdl_c, S9_1, S9_m, bud9, live9, inb9, wrn, wr9_14, wr9_15, wr9_16, wr9_17, tq9_14, tq9_15, tq9_16, tq9_17, tq_0, tq_1, tq_3, upr_rl, rl_0, rl_1, rl_2, rl_3, rl_4, rl_5, rl_6, rl_7, rl_8, rl_9, rl_10, rl_11, rl_12, rl_13, sp_0, sp_1, sp_2, sp_3, sp_4, sp_5, sp_6, sp_7, sp_8, sp_9, sp_10, sp_11, sp_12, sp_13, se_0, se_1, se_2, se_3, se_4, se_5, se_6, se_7, se_8, se_9, se_10, se_11, se_12, se_13, sem_0, sem_1, sem_2, sem_3, sem_4, sem_5, kc_1, kl9_1, sr_1_0, sr_1_1, sr_1_10, sr_1_11, sr_1_13, sr_1_2, sr_1_3, sr_1_4, sr_1_5, sr_1_6, sr_1_7, sr_1_8, sr_1_9, kc_4, kl9_4, sr_4_0, sr_4_2, sr_4_4, kc_8, kl9_8, sr_8_10, sr_8_4, sr_8_5, sr_8_6, sr_8_7, sr_8_9, kc_9, kl9_9, kc_10, kl9_10, kc_11, kl9_11, kc_12, kl9_12, kc_15, kl9_15, sr_15_0, sr_15_1, sr_15_2, sr_15_4, sr_15_5, sr_15_6, sr_15_7, sr_15_8, sr_15_9, kc_16, kl9_16, kc_17, kl9_17, kc_18, kl9_18, kc_19, kl9_19, kc_20, kl9_20, kc_21, kl9_21, kc_22, kl9_22, kc_23, kl9_23, kc_24, kl9_24, kc_13, kl9_13, kc_14, kl9_14, kc_218, kl9_218, b_live, b_hdl, b_1, b_2, b_inb, b_w _ _ b_70, b_w _ _ b_72, swW_c, swW_n, List.mem_singleton, List.mem_cons, List.mem_nil_iff]
  repeat' (first
    | (with_reducible exact True.intro)
    | omega
    | (with_reducible rfl)
    | (with_reducible contradiction)
    | (with_reducible refine And.intro ?_ ?_)
    | intro _
    | (exact ⟨_, rfl, by assumption⟩)
    | (exact ⟨m, rfl, hJ⟩)
    | (unfold w32; omega)
    | (simp (disch := omega) only [w32_eq]; omega)
    | (with_reducible show (_ : Int) ≤ _; simp [upm] <;> (first | omega | (unfold w32; omega)))
    | (with_reducible show (_ : Int) < _; simp [upm] <;> (first | omega | (unfold w32; omega))))

theorem x_161 {d : Nat} {tc a b : Int} {g : Fg} {m : Mem} (hJ : JC 4 g tc m) : B161.1.2 (Cl (d + 20)) (fun _ _ => False) (fun _ _ => False) (fun _ u => ∃ m', u = bud (S9 0 m') 1 6 ∧ JC 4 g tc m') (rho0 (mArg 161) [1, a, b]) (bud (S9 0 m) 1 6) := by
  have hL := JC_l hJ
  have hs := JC_s hJ
  simp only [B161, ma_161, rho_200, wf_1_176, wf_1_179, wf_1_182, wf_1_185, wf_1_188, wf_1_26, wf_1_33, cl_52, runB, B52, ma_52, rho_20, wf_4_37, w_cst, w_ldi, w_ldj, w_lda, w_ljk, w_ldk, w_ldw, w_ldk2, w_ldt, w_ldtw, w_neg, w_cvb, w_cvs, w_cvc, w_cvj, w_add, w_sub, w_mul, w_ban, w_bor, w_bxo, w_shl, w_shr, w_ush, w_dvi, w_rmi, w_aldi, w_aldj, w_aldz, w_aldc, w_alda, w_ite, w_cmp, w_cmj, w_cz, w_cnot, w_cand, w_cor, w_nil, w_cons, w_cvi, w_csta, w_cvt, w_cvv, w_csv, w_cpy, w_seq, w_sbr, w_sbn, w_brk, w_ifs, w_ifx, w_ife, w_wk, w_rets, w_rtv, w_thr, w_asi, w_asj, w_asa, w_inc, w_exs, w_asti, w_astj, w_astz, w_astc, w_aopadd, w_aopsub, w_sw, if_true, if_false, ↓reduceIte, hdl_c, S9_1, S9_m, bud9, live9, inb9, wrn, wr9_14, wr9_15, wr9_16, wr9_17, tq9_14, tq9_15, tq9_16, tq9_17, tq_0, tq_1, tq_3, upr_rl, rl_0, rl_1, rl_2, rl_3, rl_4, rl_5, rl_6, rl_7, rl_8, rl_9, rl_10, rl_11, rl_12, rl_13, sp_0, sp_1, sp_2, sp_3, sp_4, sp_5, sp_6, sp_7, sp_8, sp_9, sp_10, sp_11, sp_12, sp_13, se_0, se_1, se_2, se_3, se_4, se_5, se_6, se_7, se_8, se_9, se_10, se_11, se_12, se_13, sem_0, sem_1, sem_2, sem_3, sem_4, sem_5, kc_1, kl9_1, sr_1_0, sr_1_1, sr_1_10, sr_1_11, sr_1_13, sr_1_2, sr_1_3, sr_1_4, sr_1_5, sr_1_6, sr_1_7, sr_1_8, sr_1_9, kc_4, kl9_4, sr_4_0, sr_4_2, sr_4_4, kc_8, kl9_8, sr_8_10, sr_8_4, sr_8_5, sr_8_6, sr_8_7, sr_8_9, kc_9, kl9_9, kc_10, kl9_10, kc_11, kl9_11, kc_12, kl9_12, kc_15, kl9_15, sr_15_0, sr_15_1, sr_15_2, sr_15_4, sr_15_5, sr_15_6, sr_15_7, sr_15_8, sr_15_9, kc_16, kl9_16, kc_17, kl9_17, kc_18, kl9_18, kc_19, kl9_19, kc_20, kl9_20, kc_21, kl9_21, kc_22, kl9_22, kc_23, kl9_23, kc_24, kl9_24, kc_13, kl9_13, kc_14, kl9_14, kc_218, kl9_218, b_live, b_hdl, b_1, b_2, b_inb, b_w _ _ b_52, swW_c, swW_n, List.mem_singleton, List.mem_cons, List.mem_nil_iff]
  repeat' (first
    | (with_reducible exact True.intro)
    | omega
    | (with_reducible rfl)
    | (with_reducible contradiction)
    | (with_reducible refine And.intro ?_ ?_)
    | intro _
    | (exact ⟨_, rfl, by assumption⟩)
    | (exact ⟨m, rfl, hJ⟩)
    | (unfold w32; omega)
    | (simp (disch := omega) only [w32_eq]; omega)
    | (with_reducible show (_ : Int) ≤ _; simp [upm] <;> (first | omega | (unfold w32; omega)))
    | (with_reducible show (_ : Int) < _; simp [upm] <;> (first | omega | (unfold w32; omega))))

theorem x_162 {d : Nat} {tc a b : Int} {g : Fg} {m : Mem} (hJ : JC 4 g tc m) : B162.1.2 (Cl (d + 20)) (fun _ _ => False) (fun _ _ => False) (fun _ u => ∃ m', u = bud (S9 0 m') 1 6 ∧ JC 4 g tc m') (rho0 (mArg 162) [1, a, b]) (bud (S9 0 m) 1 6) := by
  have hL := JC_l hJ
  have hs := JC_s hJ
  simp only [B162, ma_162, rho_200, wf_1_194, wf_1_197, wf_1_200, wf_1_203, wf_1_206, wf_1_209, wf_1_212, wf_1_26, wf_1_33, cl_63, runB, B63, ma_63, rho_20, wf_4_40, w_cst, w_ldi, w_ldj, w_lda, w_ljk, w_ldk, w_ldw, w_ldk2, w_ldt, w_ldtw, w_neg, w_cvb, w_cvs, w_cvc, w_cvj, w_add, w_sub, w_mul, w_ban, w_bor, w_bxo, w_shl, w_shr, w_ush, w_dvi, w_rmi, w_aldi, w_aldj, w_aldz, w_aldc, w_alda, w_ite, w_cmp, w_cmj, w_cz, w_cnot, w_cand, w_cor, w_nil, w_cons, w_cvi, w_csta, w_cvt, w_cvv, w_csv, w_cpy, w_seq, w_sbr, w_sbn, w_brk, w_ifs, w_ifx, w_ife, w_wk, w_rets, w_rtv, w_thr, w_asi, w_asj, w_asa, w_inc, w_exs, w_asti, w_astj, w_astz, w_astc, w_aopadd, w_aopsub, w_sw, if_true, if_false, ↓reduceIte, hdl_c, S9_1, S9_m, bud9, live9, inb9, wrn, wr9_14, wr9_15, wr9_16, wr9_17, tq9_14, tq9_15, tq9_16, tq9_17, tq_0, tq_1, tq_3, upr_rl, rl_0, rl_1, rl_2, rl_3, rl_4, rl_5, rl_6, rl_7, rl_8, rl_9, rl_10, rl_11, rl_12, rl_13, sp_0, sp_1, sp_2, sp_3, sp_4, sp_5, sp_6, sp_7, sp_8, sp_9, sp_10, sp_11, sp_12, sp_13, se_0, se_1, se_2, se_3, se_4, se_5, se_6, se_7, se_8, se_9, se_10, se_11, se_12, se_13, sem_0, sem_1, sem_2, sem_3, sem_4, sem_5, kc_1, kl9_1, sr_1_0, sr_1_1, sr_1_10, sr_1_11, sr_1_13, sr_1_2, sr_1_3, sr_1_4, sr_1_5, sr_1_6, sr_1_7, sr_1_8, sr_1_9, kc_4, kl9_4, sr_4_0, sr_4_2, sr_4_4, kc_8, kl9_8, sr_8_10, sr_8_4, sr_8_5, sr_8_6, sr_8_7, sr_8_9, kc_9, kl9_9, kc_10, kl9_10, kc_11, kl9_11, kc_12, kl9_12, kc_15, kl9_15, sr_15_0, sr_15_1, sr_15_2, sr_15_4, sr_15_5, sr_15_6, sr_15_7, sr_15_8, sr_15_9, kc_16, kl9_16, kc_17, kl9_17, kc_18, kl9_18, kc_19, kl9_19, kc_20, kl9_20, kc_21, kl9_21, kc_22, kl9_22, kc_23, kl9_23, kc_24, kl9_24, kc_13, kl9_13, kc_14, kl9_14, kc_218, kl9_218, b_live, b_hdl, b_1, b_2, b_inb, b_w _ _ b_63, b_w _ _ b_163, swW_c, swW_n, List.mem_singleton, List.mem_cons, List.mem_nil_iff]
  repeat' (first
    | (with_reducible exact True.intro)
    | omega
    | (with_reducible rfl)
    | (with_reducible contradiction)
    | (with_reducible refine And.intro ?_ ?_)
    | intro _
    | (with_reducible refine s_163 (g := g) (tc := tc) ?_ ?_ (fun v9 m9 hJ9 => ?_); (next => first | omega | (unfold w32; omega) | exact JC_10 hJ9 _ | exact JC_11 hJ9 _ | exact JC_12 hJ9 _ | exact JC_194 hJ9 _ | exact JC_195 hJ9 _ | exact JC_206 hJ9 _ | exact JC_207 hJ9 _ | exact JC_194 hJ _ | exact JC_195 hJ _ | exact JC_10 hJ _ | exact JC_11 hJ _ | (simp [upm] <;> (first | omega | (unfold w32; omega) | exact JC_207 hJ9 _ | exact JC_195 hJ9 _))); (next => refine JC_of hL ?_ (by decide); repeat (first | assumption | (refine JC_up ?_ (by first | decide | (unfold frC; omega)) (by first | (simp [BdC, hnd]; done) | (simp [BdC, hnd, upm, cpf] <;> first | omega | (unfold w32; omega)))) | (refine JC_cp ?_ (fun _ => by first | decide | (unfold frC; omega)) (fun _ _ => by simp [BdC, hnd])))); (try clear hs9); have hJ9 := JC_dn hL hJ9; have hs9 := JC_s hJ9; (try simp only [hdl_c, S9_1, S9_m, bud9, live9, inb9, wrn, wr9_14, wr9_15, wr9_16, wr9_17, tq9_14, tq9_15, tq9_16, tq9_17, tq_0, tq_1, tq_3, upr_rl, rl_0, rl_1, rl_2, rl_3, rl_4, rl_5, rl_6, rl_7, rl_8, rl_9, rl_10, rl_11, rl_12, rl_13, sp_0, sp_1, sp_2, sp_3, sp_4, sp_5, sp_6, sp_7, sp_8, sp_9, sp_10, sp_11, sp_12, sp_13, se_0, se_1, se_2, se_3, se_4, se_5, se_6, se_7, se_8, se_9, se_10, se_11, se_12, se_13, sem_0, sem_1, sem_2, sem_3, sem_4, sem_5, List.getD_cons_zero, List.getD_cons_succ, Bool.false_eq_true, wrn3, wrn1, cpmS, cpok9, if_true, if_false, ↓reduceIte, wc_63, wc_163, b_live, b_hdl, b_1, b_2, b_inb]))
    | (exact ⟨_, rfl, by assumption⟩)
    | (exact ⟨m, rfl, hJ⟩)
    | (unfold w32; omega)
    | (simp (disch := omega) only [w32_eq]; omega)
    | (with_reducible show (_ : Int) ≤ _; simp [upm] <;> (first | omega | (unfold w32; omega)))
    | (with_reducible show (_ : Int) < _; simp [upm] <;> (first | omega | (unfold w32; omega))))

theorem x_164 {d : Nat} {tc a : Int} {g : Fg} {m : Mem} (hJ : JC 4 g tc m) : B164.1.2 (Cl (d + 20)) (fun _ _ => False) (fun _ _ => False) (fun _ u => ∃ m', u = bud (S9 0 m') 1 6 ∧ JC 4 g tc m') (rho0 (mArg 164) [1, a]) (bud (S9 0 m) 1 6) := by
  have hL := JC_l hJ
  have hs := JC_s hJ
  simp only [B164, ma_164, rho_20, wf_1_100, wf_1_395, w_cst, w_ldi, w_ldj, w_lda, w_ljk, w_ldk, w_ldw, w_ldk2, w_ldt, w_ldtw, w_neg, w_cvb, w_cvs, w_cvc, w_cvj, w_add, w_sub, w_mul, w_ban, w_bor, w_bxo, w_shl, w_shr, w_ush, w_dvi, w_rmi, w_aldi, w_aldj, w_aldz, w_aldc, w_alda, w_ite, w_cmp, w_cmj, w_cz, w_cnot, w_cand, w_cor, w_nil, w_cons, w_cvi, w_csta, w_cvt, w_cvv, w_csv, w_cpy, w_seq, w_sbr, w_sbn, w_brk, w_ifs, w_ifx, w_ife, w_wk, w_rets, w_rtv, w_thr, w_asi, w_asj, w_asa, w_inc, w_exs, w_asti, w_astj, w_astz, w_astc, w_aopadd, w_aopsub, w_sw, if_true, if_false, ↓reduceIte, hdl_c, S9_1, S9_m, bud9, live9, inb9, wrn, wr9_14, wr9_15, wr9_16, wr9_17, tq9_14, tq9_15, tq9_16, tq9_17, tq_0, tq_1, tq_3, upr_rl, rl_0, rl_1, rl_2, rl_3, rl_4, rl_5, rl_6, rl_7, rl_8, rl_9, rl_10, rl_11, rl_12, rl_13, sp_0, sp_1, sp_2, sp_3, sp_4, sp_5, sp_6, sp_7, sp_8, sp_9, sp_10, sp_11, sp_12, sp_13, se_0, se_1, se_2, se_3, se_4, se_5, se_6, se_7, se_8, se_9, se_10, se_11, se_12, se_13, sem_0, sem_1, sem_2, sem_3, sem_4, sem_5, kc_1, kl9_1, sr_1_0, sr_1_1, sr_1_10, sr_1_11, sr_1_13, sr_1_2, sr_1_3, sr_1_4, sr_1_5, sr_1_6, sr_1_7, sr_1_8, sr_1_9, kc_4, kl9_4, sr_4_0, sr_4_2, sr_4_4, kc_8, kl9_8, sr_8_10, sr_8_4, sr_8_5, sr_8_6, sr_8_7, sr_8_9, kc_9, kl9_9, kc_10, kl9_10, kc_11, kl9_11, kc_12, kl9_12, kc_15, kl9_15, sr_15_0, sr_15_1, sr_15_2, sr_15_4, sr_15_5, sr_15_6, sr_15_7, sr_15_8, sr_15_9, kc_16, kl9_16, kc_17, kl9_17, kc_18, kl9_18, kc_19, kl9_19, kc_20, kl9_20, kc_21, kl9_21, kc_22, kl9_22, kc_23, kl9_23, kc_24, kl9_24, kc_13, kl9_13, kc_14, kl9_14, kc_218, kl9_218, b_live, b_hdl, b_1, b_2, b_inb, b_2, swW_c, swW_n, List.mem_singleton, List.mem_cons, List.mem_nil_iff]
  repeat' (first
    | (with_reducible exact True.intro)
    | omega
    | (with_reducible rfl)
    | (with_reducible contradiction)
    | (with_reducible refine And.intro ?_ ?_)
    | intro _
    | (exact ⟨_, rfl, by assumption⟩)
    | (exact ⟨m, rfl, hJ⟩)
    | (unfold w32; omega)
    | (simp (disch := omega) only [w32_eq]; omega)
    | (with_reducible show (_ : Int) ≤ _; simp [upm] <;> (first | omega | (unfold w32; omega)))
    | (with_reducible show (_ : Int) < _; simp [upm] <;> (first | omega | (unfold w32; omega))))

