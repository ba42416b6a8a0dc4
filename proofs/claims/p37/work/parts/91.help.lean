/-! the law's helpers: they catch -/
theorem lk13 : Cond.classLink "HotThroughLaw" 13 nseN ∈ gTbl := gw6 52 (by decide +kernel) rfl
theorem cst13 : Cond.castable nseN nseN ∈ nseX := by decide +kernel
def wsH (y : MethodName) (cc : ByteArray) (maxL : Nat) (hh : List (Nat × Nat × Nat × Nat)) : List Cond := Cond.codeWith y cc maxL (some .int) hh :: (gTbl ++ nseX)
def rmH (d : Nat) : Room := { frames := d + 2, cells := 1, slots := 6, locals := 90 * (d + 2) }
def PcH (G : Geo) (ts : List Nat) (vs : List Int) (u : Sto) : Array Value → State → Prop := fun a U => a = (encA G.1 ts vs).toArray ∧ okA ts vs ∧ Rel G u U.heap ∧ KOK G U ∧ G.2.2.2 ≤ U.heap.size ∧ SOK G U
def QcM (G : Geo) (P2 : Mem → Prop) : Array Value → State → Outcome → State → Prop := fun _ st o t => (∃ v : Int32, o = .returned (some (.int v))) ∧ (∃ m', P2 m' ∧ Rel G (S9 0 m') t.heap) ∧ FrH G st t
theorem hlp_a {l : Launch} {G : Geo} {d : Nat} {a b : Int} {m0 : Mem} {PM P2 : Mem → Prop} {y : MethodName} {cc : ByteArray} {cp K : Nat} (hy : y.cls = "HotThroughLaw") (hv : VirtAt 19 cp K 1) (hK : (mNam K).cls = "HotThrough") (hA : mArg K = [2, 0, 0]) (hm : mMax K ≤ 5) (d1 : Dec cc [(0, .aload_n 3, 1), (1, .iconst 0, 1), (2, .aload_n 0, 1), (3, .iload_n 1, 1), (4, .iload_n 2, 1), (5, .invokevirtual cp, 3)]) (d2 : Dec cc [(13, .astore 4, 2), (15, .iconst 1, 1), (16, .ireturn, 1)])
    (hP : ∀ m', PM m' → P2 m' ∧ ∀ v, P2 (upm m' 288 0 v))  (hty : mRty K = 0) (e8 : decode cc 8 = .ok (.i2l, 1)) (e9 : decode cc 9 = .ok (.lastore, 1)) (e10 : decode cc 10 = .ok (.goto 7, 3)) (e17 : decode cc 17 = .ok (.iconst 0, 1)) (e18 : decode cc 18 = .ok (.ireturn, 1))
    (hM : vx_Met l (mNam K) (wsT K) (rmT (d + 1)) (PcOf G K [1, a, b] (S9 0 m0)) (QcOf G K (fun _ u => ∃ m', u = bud (S9 0 m') 1 6 ∧ PM m')) (xcM G PM) 1 6 (fun q => G.2.2.2 ≤ q)) : Met l y (wsH y cc 5 [(0, 10, 13, 13)]) (rmH d) (PcH G [2, 0, 0, 2] [1, a, b, 288] (S9 0 m0)) (QcM G P2) 1 6 (fun q => G.2.2.2 ≤ q) := by
  refine va_MetW (cc := cc) (maxL := 5) (ret := some .int) (hh := [(0, 10, 13, 13)]) (by rw [hy]; decide) rfl ?_
  intro p e s m args below meth c s₁ B hml hv9
  obtain ⟨rfl, hok, hrel, hKK, hbase, hSO⟩ := hv9
  have hts := atoms_spec (ws := wsH y cc 5 [(0, 10, 13, 13)]) B.pre
  have hg : ∀ w ∈ gTbl, w.before (encA G.1 [2, 0, 0, 2] [1, a, b, 288]).toArray s = true := fun w hw => hts w (List.mem_cons_of_mem _ (List.mem_append_left _ hw))
  have hn : ∀ w ∈ nseX, w.before (encA G.1 [2, 0, 0, 2] [1, a, b, 288]).toArray s = true := fun w hw => hts w (List.mem_cons_of_mem _ (List.mem_append_right _ hw))
  have htab := vx_table (x := y) B (hts _ List.mem_cons_self)
  have hx := B.exec
  have hb := B.bytes
  have hr := B.returns
  have hown : s.vm.findClass "HotThroughLaw" = some m.cls := by rw [← hy]; exact findClass_of_methodNamed B.named
  obtain ⟨⟨g1, g2, g3⟩, g4, g5, g6, g7, g8, g9, g10, g11⟩ := id hv
  have eA : encA G.1 [2, 0, 0, 2] [1, a, b, 288] = [.ref (G.1 1), .int (Int32.ofInt a), .int (Int32.ofInt b), .ref (G.1 288)] := by simp [encA, enc]
  have eK : (encA G.1 (mArg K) [1, a, b]).toArray = (Value.ref (G.1 1) :: [.int (Int32.ofInt a), .int (Int32.ofInt b)]).toArray := by rw [hA]; simp [encA, enc]
  rw [lg_entry_eq]
  have hl := lv_entry (encA G.1 [2, 0, 0, 2] [1, a, b, 288]) (n := 5) (by rw [eA]; exact Nat.le_of_ble_eq_true rfl)
  generalize (lg_sl (encA G.1 [2, 0, 0, 2] [1, a, b, 288]) ++ List.replicate (5 - (lg_sl (encA G.1 [2, 0, 0, 2] [1, a, b, 288])).length) Slot.unset).toArray = ls at hl ⊢
  rw [eA] at hl
  have hl : lv_has ls 5 [(0, .ref (G.1 1)), (1, .int (Int32.ofInt a)), (2, .int (Int32.ofInt b)), (3, .ref (G.1 288))] := hl
  show W p l e (rmH d) s m _ below meth c s.heap [] 0 0 _ (F0 m 0 ls [])
  refine lv_aload_n hx hb d1.1 rfl (lv_at hl 3 rfl) ?_
  refine lv_iconst (v := 0) hx hb d1.2.2.1 (by decide) ?_
  refine lv_aload_n hx hb d1.2.2.2.2.1 rfl (lv_at hl 0 rfl) ?_
  refine lv_iload_n hx hb d1.2.2.2.2.2.2.1 rfl (lv_at hl 1 rfl) ?_
  refine lv_iload_n hx hb d1.2.2.2.2.2.2.2.2.1 rfl (lv_at hl 2 rfl) ?_
  intro T hT X
  obtain ⟨cell, q1, q2, q3, -⟩ := hrel.1 1 (by decide) (show (1 : Int) < 289 by decide) (by decide)
  have hkn := hKK.2.1 1 (by decide) (by decide)
  have run := vx_runV (l := l) (p := p) (e := e) (R := rmH d) (s := s) (m := m) (below := below) (meth := meth) (c := c) (H := s.heap) (locs := []) (cells := 0) (slots := 0) (As := [.int (Int32.ofInt a), .int (Int32.ofInt b)]) (rest := [.int 0, .ref (G.1 288)]) (b := G.1 1) (n := 2) (C := "HotThrough") (g := F0 m 5 ls (([.int (Int32.ofInt a), .int (Int32.ofInt b)] : List Value).reverse ++ .ref (G.1 1) :: [.int 0, .ref (G.1 288)])) ⟨hx, hb, hml, hown, hts⟩ hM
    ⟨⟨rfl, rfl, Nat.le_refl _, (by show 8 + (mMax K + 11) + 90 * (d + 1) ≤ 90 * (d + 2); omega), (fun w hw => ?_), List.mem_cons_self, hg _ g1, hg _ g2, g3, (fun sig h => ?_), hg _ g4⟩, hg _ g5, (by rw [hK] at g6; exact hg _ g6)⟩
    ⟨pc_blind G K _ _, ⟨cell, q1, by rw [q2]; rfl, by rw [q3]; exact hkn.2.1⟩, fun U hU hW => ⟨eK.symm, by rw [hA]; exact ⟨trivial, hok.2.1, hok.2.2.1, trivial⟩, by rw [hU]; exact hrel, KOK.moved hW.alike hKK, by rw [hU]; exact hbase, hSO.on hW (fun q _ => by rw [hU])⟩⟩ rfl rfl hl.1 rfl (lv_room (Nat.le_of_ble_eq_true rfl)) d1.2.2.2.2.2.2.2.2.2.2.1 ⟨Nat.le_refl _, Nat.le_refl _⟩
  rotate_left
  · rcases List.mem_cons.mp hw with rfl | hw
    · exact gt_pay hg _ g1
    · rcases List.mem_append.mp hw with hw | hw
      · exact gt_pay hg _ hw
      · exact fun a' U hW => face_pay (nse_f w hw) (hn w hw) a' U hW
  · rw [h, hA] at g10
    simp at g10
    omega
  rcases run T hT X with ⟨v, st0, t, T', L, h0, X', hL, e1, e2, hQ, go⟩ | ⟨q, st0, t, T', L, E, ce, h0, X', hL, e1, e2, ⟨rfl, ⟨m9, hPM9, hrel'⟩, hfr⟩, hce, hcv, hcl, st⟩
  · obtain ⟨⟨v', u9, hv9, hok9, ⟨m1, rfl, hPM⟩, hrel'⟩, hfr⟩ := hQ
    rw [hty] at hv9 hok9
    cases hv9
    have hfrs : FrS G s.heap T'.heap ([] ++ L) := ⟨by rw [e1, ← h0]; exact hfr.1, fun q hq => by rw [e1, ← h0]; exact hfr.2 q hq, fun z hz => hL z hz⟩
    have hA1 : At G (rmH d) s.heap (S9 0 m1) T'.heap ([] ++ L) 1 6 := ⟨by rw [e1]; exact hrel', hfrs, Nat.le_refl _, Nat.le_refl _⟩
    have hX : MX p (rmH d) s m (encA G.1 [2, 0, 0, 2] [1, a, b, 288]).toArray c cc 5 19 G := ⟨hx, hb, hml, hown, hg, hKK, hbase, Nat.succ_le_succ (Nat.zero_le _), (by show 40 ≤ 90 * (d + 2); omega), hSO, fun h => absurd h (by decide)⟩
    have hin : inb (S9 0 m1) 288 15 0 := ⟨⟨by decide, show (288 : Int) < 289 by decide, rfl⟩, by decide, by decide⟩
    have hz9 : Int32.ofInt 0 = 0 := by decide
    have hok1 : okv (ety 15 0) v' := by
      have : inI v' := hok9
      show inL v'
      unfold inI at this; unfold inL; omega
    have kk : W p l e (rmH d) s m (encA G.1 [2, 0, 0, 2] [1, a, b, 288]).toArray below meth c T'.heap ([] ++ L) (0 + 1) (0 + 6) (MQ below (QcM G P2) (encA G.1 [2, 0, 0, 2] [1, a, b, 288]).toArray s 1 6 (fun q => G.2.2.2 ≤ q)) (F0 m 8 ls (.int (Int32.ofInt v') :: [.int 0, .ref (G.1 288)])) := by
      have hv : inI v' := hok9
      refine lv_i2l (v := Int64.ofInt v') hx hb e8 (Int32.toInt64_ofInt (by show (-2147483648 : Int) ≤ v'; exact hv.1) (by show v' ≤ (2147483647 : Int); have := hv.2; omega)) ?_
      have hrow := ast_row (st := []) (ls := ls) (Q := MQ below (QcM G P2) (encA G.1 [2, 0, 0, 2] [1, a, b, 288]).toArray s 1 6 (fun q => G.2.2.2 ≤ q)) (l := l) (e := e) (below := below) (meth := meth) hX (K := 15) (i := 0) (v := v') (by decide) (by decide) astj_r e9 hA1 hin hok1 (fun H2 locs2 hA2 => ?_)
      · rw [hz9] at hrow
        exact hrow
      · obtain ⟨r1, ⟨f1, f2, f3⟩, b1, b2⟩ := hA2
        refine lv_goto (tgt := 17) hx hb e10 (by decide) ?_
        refine lv_iconst (v := 0) hx hb e17 (by decide) ?_
        exact W.iret hx hb hr (fun t9 ht9 _ => ⟨⟨_, rfl⟩, ⟨_, (hP m1 hPM).2 v', by rw [ht9]; exact r1⟩, by rw [ht9]; exact f1, fun q hq => by rw [ht9]; exact f2 q hq⟩) (fun z hz => f3 z hz) e18
    obtain ⟨t2, a1, b1⟩ := kk T' rfl X'
    exact ⟨t2, go t2 a1, b1⟩
  · have kk : W p l e (rmH d) s m (encA G.1 [2, 0, 0, 2] [1, a, b, 288]).toArray below meth c T'.heap ([] ++ L) (0 + 1) (0 + 6) (MQ below (QcM G P2) (encA G.1 [2, 0, 0, 2] [1, a, b, 288]).toArray s 1 6 (fun q => G.2.2.2 ≤ q)) (F0 m 13 ls [.ref q]) := by
      refine lv_astore (lv' := [(4, .ref q), (0, .ref (G.1 1)), (1, .int (Int32.ofInt a)), (2, .int (Int32.ofInt b)), (3, .ref (G.1 288))]) hx hb d2.1 hl (by decide) rfl (fun ls hl => ?_)
      refine lv_iconst (v := 1) hx hb d2.2.2.1 (by decide) ?_
      exact W.iret hx hb hr (fun t9 ht9 _ => ⟨⟨_, rfl⟩, ⟨m9, (hP m9 hPM9).1, by rw [ht9, e1]; exact hrel'⟩, by rw [ht9, e1, ← h0]; exact hfr.1, fun q hq => by rw [ht9, e1, ← h0]; exact hfr.2 q hq⟩) (fun z hz => hL z hz) d2.2.2.2.2.1
    obtain ⟨t2, a1, b1⟩ := vx_catch (pc := 5) (ls := ls) (rest := [.int 0, .ref (G.1 288)]) (own := "HotThroughLaw") (name := nseN) (E := nseN) (ce := ce) hown [] ⟨0, 10, 13, 13⟩ [] htab (by intro z hz; cases hz) (by decide) (by decide) (hg _ lk13) (hn _ cst13) (by rw [e1]; exact hce) hcv hcl kk T' rfl X'
    exact ⟨t2, st.trans a1, b1⟩
theorem hlp_b {l : Launch} {G : Geo} {d : Nat} {a : Int} {m0 : Mem} {PM P2 : Mem → Prop} {y : MethodName} {cc : ByteArray} {cp K : Nat} (hy : y.cls = "HotThroughLaw") (hv : VirtAt 19 cp K 1) (hK : (mNam K).cls = "HotThrough") (hA : mArg K = [2, 0]) (hm : mMax K ≤ 5) (d1 : Dec cc [(0, .aload_n 2, 1), (1, .iconst 0, 1), (2, .aload_n 0, 1), (3, .iload_n 1, 1), (4, .invokevirtual cp, 3)]) (d2 : Dec cc [(11, .astore_n 3, 1), (12, .iconst 1, 1), (13, .ireturn, 1)])
    (hP : ∀ m', PM m' → P2 m' ∧ ∀ v, P2 (upm m' 288 0 v))  (hty : mRty K = 1) (e9 : decode cc 7 = .ok (.lastore, 1)) (e10 : decode cc 8 = .ok (.goto 6, 3)) (e17 : decode cc 14 = .ok (.iconst 0, 1)) (e18 : decode cc 15 = .ok (.ireturn, 1))
    (hM : vx_Met l (mNam K) (wsT K) (rmT (d + 1)) (PcOf G K [1, a] (S9 0 m0)) (QcOf G K (fun _ u => ∃ m', u = bud (S9 0 m') 1 6 ∧ PM m')) (xcM G PM) 1 6 (fun q => G.2.2.2 ≤ q)) : Met l y (wsH y cc 4 [(0, 8, 11, 13)]) (rmH d) (PcH G [2, 0, 2] [1, a, 288] (S9 0 m0)) (QcM G P2) 1 6 (fun q => G.2.2.2 ≤ q) := by
  refine va_MetW (cc := cc) (maxL := 4) (ret := some .int) (hh := [(0, 8, 11, 13)]) (by rw [hy]; decide) rfl ?_
  intro p e s m args below meth c s₁ B hml hv9
  obtain ⟨rfl, hok, hrel, hKK, hbase, hSO⟩ := hv9
  have hts := atoms_spec (ws := wsH y cc 4 [(0, 8, 11, 13)]) B.pre
  have hg : ∀ w ∈ gTbl, w.before (encA G.1 [2, 0, 2] [1, a, 288]).toArray s = true := fun w hw => hts w (List.mem_cons_of_mem _ (List.mem_append_left _ hw))
  have hn : ∀ w ∈ nseX, w.before (encA G.1 [2, 0, 2] [1, a, 288]).toArray s = true := fun w hw => hts w (List.mem_cons_of_mem _ (List.mem_append_right _ hw))
  have htab := vx_table (x := y) B (hts _ List.mem_cons_self)
  have hx := B.exec
  have hb := B.bytes
  have hr := B.returns
  have hown : s.vm.findClass "HotThroughLaw" = some m.cls := by rw [← hy]; exact findClass_of_methodNamed B.named
  obtain ⟨⟨g1, g2, g3⟩, g4, g5, g6, g7, g8, g9, g10, g11⟩ := id hv
  have eA : encA G.1 [2, 0, 2] [1, a, 288] = [.ref (G.1 1), .int (Int32.ofInt a), .ref (G.1 288)] := by simp [encA, enc]
  have eK : (encA G.1 (mArg K) [1, a]).toArray = (Value.ref (G.1 1) :: [.int (Int32.ofInt a)]).toArray := by rw [hA]; simp [encA, enc]
  rw [lg_entry_eq]
  have hl := lv_entry (encA G.1 [2, 0, 2] [1, a, 288]) (n := 4) (by rw [eA]; exact Nat.le_of_ble_eq_true rfl)
  generalize (lg_sl (encA G.1 [2, 0, 2] [1, a, 288]) ++ List.replicate (4 - (lg_sl (encA G.1 [2, 0, 2] [1, a, 288])).length) Slot.unset).toArray = ls at hl ⊢
  rw [eA] at hl
  have hl : lv_has ls 4 [(0, .ref (G.1 1)), (1, .int (Int32.ofInt a)), (2, .ref (G.1 288))] := hl
  show W p l e (rmH d) s m _ below meth c s.heap [] 0 0 _ (F0 m 0 ls [])
  refine lv_aload_n hx hb d1.1 rfl (lv_at hl 2 rfl) ?_
  refine lv_iconst (v := 0) hx hb d1.2.2.1 (by decide) ?_
  refine lv_aload_n hx hb d1.2.2.2.2.1 rfl (lv_at hl 0 rfl) ?_
  refine lv_iload_n hx hb d1.2.2.2.2.2.2.1 rfl (lv_at hl 1 rfl) ?_
  intro T hT X
  obtain ⟨cell, q1, q2, q3, -⟩ := hrel.1 1 (by decide) (show (1 : Int) < 289 by decide) (by decide)
  have hkn := hKK.2.1 1 (by decide) (by decide)
  have run := vx_runV (l := l) (p := p) (e := e) (R := rmH d) (s := s) (m := m) (below := below) (meth := meth) (c := c) (H := s.heap) (locs := []) (cells := 0) (slots := 0) (As := [.int (Int32.ofInt a)]) (rest := [.int 0, .ref (G.1 288)]) (b := G.1 1) (n := 1) (C := "HotThrough") (g := F0 m 4 ls (([.int (Int32.ofInt a)] : List Value).reverse ++ .ref (G.1 1) :: [.int 0, .ref (G.1 288)])) ⟨hx, hb, hml, hown, hts⟩ hM
    ⟨⟨rfl, rfl, Nat.le_refl _, (by show 8 + (mMax K + 11) + 90 * (d + 1) ≤ 90 * (d + 2); omega), (fun w hw => ?_), List.mem_cons_self, hg _ g1, hg _ g2, g3, (fun sig h => ?_), hg _ g4⟩, hg _ g5, (by rw [hK] at g6; exact hg _ g6)⟩
    ⟨pc_blind G K _ _, ⟨cell, q1, by rw [q2]; rfl, by rw [q3]; exact hkn.2.1⟩, fun U hU hW => ⟨eK.symm, by rw [hA]; exact ⟨trivial, hok.2.1, trivial⟩, by rw [hU]; exact hrel, KOK.moved hW.alike hKK, by rw [hU]; exact hbase, hSO.on hW (fun q _ => by rw [hU])⟩⟩ rfl rfl hl.1 rfl (lv_room (Nat.le_of_ble_eq_true rfl)) d1.2.2.2.2.2.2.2.2.1 ⟨Nat.le_refl _, Nat.le_refl _⟩
  rotate_left
  · rcases List.mem_cons.mp hw with rfl | hw
    · exact gt_pay hg _ g1
    · rcases List.mem_append.mp hw with hw | hw
      · exact gt_pay hg _ hw
      · exact fun a' U hW => face_pay (nse_f w hw) (hn w hw) a' U hW
  · rw [h, hA] at g10
    simp at g10
    omega
  rcases run T hT X with ⟨v, st0, t, T', L, h0, X', hL, e1, e2, hQ, go⟩ | ⟨q, st0, t, T', L, E, ce, h0, X', hL, e1, e2, ⟨rfl, ⟨m9, hPM9, hrel'⟩, hfr⟩, hce, hcv, hcl, st⟩
  · obtain ⟨⟨v', u9, hv9, hok9, ⟨m1, rfl, hPM⟩, hrel'⟩, hfr⟩ := hQ
    rw [hty] at hv9 hok9
    cases hv9
    have hfrs : FrS G s.heap T'.heap ([] ++ L) := ⟨by rw [e1, ← h0]; exact hfr.1, fun q hq => by rw [e1, ← h0]; exact hfr.2 q hq, fun z hz => hL z hz⟩
    have hA1 : At G (rmH d) s.heap (S9 0 m1) T'.heap ([] ++ L) 1 6 := ⟨by rw [e1]; exact hrel', hfrs, Nat.le_refl _, Nat.le_refl _⟩
    have hX : MX p (rmH d) s m (encA G.1 [2, 0, 2] [1, a, 288]).toArray c cc 4 19 G := ⟨hx, hb, hml, hown, hg, hKK, hbase, Nat.succ_le_succ (Nat.zero_le _), (by show 40 ≤ 90 * (d + 2); omega), hSO, fun h => absurd h (by decide)⟩
    have hin : inb (S9 0 m1) 288 15 0 := ⟨⟨by decide, show (288 : Int) < 289 by decide, rfl⟩, by decide, by decide⟩
    have hz9 : Int32.ofInt 0 = 0 := by decide
    have hok1 : okv (ety 15 0) v' := hok9
    have kk : W p l e (rmH d) s m (encA G.1 [2, 0, 2] [1, a, 288]).toArray below meth c T'.heap ([] ++ L) (0 + 1) (0 + 6) (MQ below (QcM G P2) (encA G.1 [2, 0, 2] [1, a, 288]).toArray s 1 6 (fun q => G.2.2.2 ≤ q)) (F0 m 7 ls (.long (Int64.ofInt v') :: [.int 0, .ref (G.1 288)])) := by
      have hrow := ast_row (st := []) (ls := ls) (Q := MQ below (QcM G P2) (encA G.1 [2, 0, 2] [1, a, 288]).toArray s 1 6 (fun q => G.2.2.2 ≤ q)) (l := l) (e := e) (below := below) (meth := meth) hX (K := 15) (i := 0) (v := v') (by decide) (by decide) astj_r e9 hA1 hin hok1 (fun H2 locs2 hA2 => ?_)
      · rw [hz9] at hrow
        exact hrow
      · obtain ⟨r1, ⟨f1, f2, f3⟩, b1, b2⟩ := hA2
        refine lv_goto (tgt := 14) hx hb e10 (by decide) ?_
        refine lv_iconst (v := 0) hx hb e17 (by decide) ?_
        exact W.iret hx hb hr (fun t9 ht9 _ => ⟨⟨_, rfl⟩, ⟨_, (hP m1 hPM).2 v', by rw [ht9]; exact r1⟩, by rw [ht9]; exact f1, fun q hq => by rw [ht9]; exact f2 q hq⟩) (fun z hz => f3 z hz) e18
    obtain ⟨t2, a1, b1⟩ := kk T' rfl X'
    exact ⟨t2, go t2 a1, b1⟩
  · have kk : W p l e (rmH d) s m (encA G.1 [2, 0, 2] [1, a, 288]).toArray below meth c T'.heap ([] ++ L) (0 + 1) (0 + 6) (MQ below (QcM G P2) (encA G.1 [2, 0, 2] [1, a, 288]).toArray s 1 6 (fun q => G.2.2.2 ≤ q)) (F0 m 11 ls [.ref q]) := by
      refine lv_astore_n (lv' := [(3, .ref q), (0, .ref (G.1 1)), (1, .int (Int32.ofInt a)), (2, .ref (G.1 288))]) hx hb d2.1 rfl hl (by decide) rfl (fun ls hl => ?_)
      refine lv_iconst (v := 1) hx hb d2.2.2.1 (by decide) ?_
      exact W.iret hx hb hr (fun t9 ht9 _ => ⟨⟨_, rfl⟩, ⟨m9, (hP m9 hPM9).1, by rw [ht9, e1]; exact hrel'⟩, by rw [ht9, e1, ← h0]; exact hfr.1, fun q hq => by rw [ht9, e1, ← h0]; exact hfr.2 q hq⟩) (fun z hz => hL z hz) d2.2.2.2.2.1
    obtain ⟨t2, a1, b1⟩ := vx_catch (pc := 4) (ls := ls) (rest := [.int 0, .ref (G.1 288)]) (own := "HotThroughLaw") (name := nseN) (E := nseN) (ce := ce) hown [] ⟨0, 8, 11, 13⟩ [] htab (by intro z hz; cases hz) (by decide) (by decide) (hg _ lk13) (hn _ cst13) (by rw [e1]; exact hce) hcv hcl kk T' rfl X'
    exact ⟨t2, st.trans a1, b1⟩
