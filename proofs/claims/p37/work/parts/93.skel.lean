section
/-! THE CLAIM OUT OF ONE WALK OF THE LAW'S BODY. Your part is whole_start (and what it stands on); all else here is the same for every law, but numbers. -/
def R_law : String := "HotThroughLaw"
def lw_P (b : Addr) (xs : List Int32) (args : Array Value) (s : State) : Prop := args = #[.ref b] ∧ s.IntsAt b xs ∧ xs.length ≤ 2560 ∧ (Jvm.Cond.and given_1 narrow_1).before args s = true
def lw_Q (_ : Array Value) (s : State) (o : Outcome) (t : State) : Prop := o = .returned (some (.int 1)) ∧ Framed s o t [] 601024 7293034
def lw_Z (below : List Frame) (a : Array Value) (s : State) : State → Prop := fun t => ∃ o, t.status = .running ∧ Ended t below o ∧ lw_Q a s o t
/-- the law's own end, with 1 on the stack, nothing written that was there before, its room as the claim has it -/
theorem lw_ret {p : Program} {l : Launch} {e : Env} {s : State} {m : MethodId} {below : List Frame} {meth : Method} {c : Code} {b : Nat} (hx : p.tables.exec = Jvm.exec) (hb : c.code = code) (hr : meth.sig.returnType = ret) (hlocks : meth.locks = false) {pc : Nat} {H : Heap} {ls : Array Slot} (hdg : decode code pc = .ok (.ireturn, 1)) : W p l e room_1 s m #[Value.ref b] below meth c H [] 601024 7293034 (lw_Z below #[Value.ref b] s) (F0 m pc ls [.int 1]) := by
  intro T hT X
  obtain ⟨fs, hret, hrun, hended, hW, hframe⟩ := X.leave (v := some (.int 1)) (hlocks := hlocks) (fun h => by rw [hr] at h; cases h)
  have hmeth' : T.vm.method? m = some meth := X.method'
  refine ⟨T.setFrames fs, ?_, .returned (some (.int 1)), hrun, hended, rfl, ⟨_, rfl⟩, hW, hframe⟩
  jvm_step X.here [X.here.top, hx, hb, hdg, hmeth', hr, ret, narrow_b1]
  (try refine ⟨rfl, ?_⟩); (try refine ⟨rfl, ?_⟩)
  first | (intro acts; rw [hret _ acts rfl rfl rfl]) | rw [hret _ _ rfl rfl rfl]
  exact Steps.refl _
/-- what holds at the law's entry: the machine, the code, the tables' words (any of lw_tbl by 'hts w (by decide +kernel)'), the script of L ints xs at the cell b, what the Statement gives of the start (any of its parts by flat_of_before) -/
def lw_At (p : Program) (s : State) (m : MethodId) (meth : Method) (c : Code) (b L : Nat) (xs : Nat → Int32) : Prop :=
  p.tables.exec = Jvm.exec ∧ c.code = code ∧ meth.sig.returnType = ret ∧ c.maxLocals = 8 ∧ s.vm.findClass R_law = some m.cls ∧ (∀ w ∈ lw_tbl, w.before #[Value.ref b] s = true) ∧ va_X b L xs s s.heap ∧ b < s.heap.size ∧ meth.locks = false ∧ (Jvm.Cond.and given_1 narrow_1).before #[Value.ref b] s = true
end
section
/-! the law's body: rows over the memory of ids -/
def T9 (c w : Nat) (m : Mem) : Sto := bud (S9 0 m) c w
def LCx (p : Program) (l : Launch) (s : State) (m : MethodId) (meth : Method) (c : Code) (b L : Nat) (xs : Nat → Int32) (G : Geo) : Prop :=
  lw_At p s m meth c b L xs ∧ l.flags = flags0 ∧ MX p room_1 s m #[Value.ref b] c code 8 19 G ∧ G.2.2.2 = s.heap.size
def LW (p : Program) (l : Launch) (e : Env) (s : State) (m : MethodId) (b : Nat) (below : List Frame) (meth : Method) (c : Code) (G : Geo) (u : Sto) (lv : List (Nat × Value)) (pc : Nat) (st : List Value) : Prop :=
  ∀ (H : Heap) (locs : List Loc) (cells slots : Nat) (ls : Array Slot), At G room_1 s.heap u H locs cells slots → lv_has ls 8 lv → W p l e room_1 s m #[Value.ref b] below meth c H locs cells slots (lw_Z below #[Value.ref b] s) (F0 m pc ls st)
def lv0 (b : Nat) (G : Geo) (i : Nat) : List (Nat × Value) := [(0, .ref b), (1, .ref (G.1 1)), (2, .ref (G.1 249)), (3, .ref (G.1 288)), (4, .int (Int32.ofNat i))]
section LAW
variable {p : Program} {l : Launch} {e : Env} {s : State} {m : MethodId} {b L : Nat} {below : List Frame} {meth : Method} {c : Code} {xs : Nat → Int32} {G : Geo} {u : Sto} {lv : List (Nat × Value)} {pc : Nat} {st : List Value}
theorem r_al (C : LCx p l s m meth c b L xs G) (i : Nat) {j : Fin 4} {v : Addr} (hm : lv[i]? = some ((j : Nat), .ref v)) (hd : decode code pc = .ok (.aload_n j, 1)) (k : LW p l e s m b below meth c G u lv (pc + 1) (.ref v :: st)) : LW p l e s m b below meth c G u lv pc st := fun H locs cells slots ls hA hl =>
  lv_aload_n C.2.2.1.1 C.2.2.1.2.1 hd rfl (lv_at hl i hm) (k H locs cells slots ls hA hl)
theorem i32_ofNat_add (a b : Nat) : Int32.ofNat a + Int32.ofNat b = Int32.ofNat (a + b) := (Int32.ofNat_add a b).symm
theorem i32_cl (n : Nat) (h : n < 2147483648) : ¬ (Int32.ofNat n < 0) ∧ (Int32.ofNat n).toNatClampNeg = n := by
  have e : (Int32.ofNat n).toInt = n := Int32.toInt_ofNat_of_lt h
  refine ⟨fun h0 => ?_, ?_⟩
  · rw [Int32.lt_iff_toInt_lt, e] at h0
    have : (0 : Int32).toInt = 0 := rfl
    omega
  · show (Int32.ofNat n).toInt.toNat = n
    rw [e]; rfl
theorem idx_k {i k L : Nat} (h : i + k < L) (hL : L ≤ 2560) : vp_in (Int32.ofNat i + Int32.ofInt (k : Int)) L ∧ (Int32.ofNat i + Int32.ofInt (k : Int)).toNatClampNeg = i + k := by
  have e : Int32.ofInt (k : Int) = Int32.ofNat k := rfl
  rw [e, i32_ofNat_add]
  obtain ⟨h1, h2⟩ := i32_cl (i + k) (by omega)
  refine ⟨?_, h2⟩
  unfold vp_in
  rintro (h0 | h0)
  · exact h1 h0
  · rw [h2] at h0
    omega
theorem idx_0 {i L : Nat} (h : i < L) (hL : L ≤ 2560) : vp_in (Int32.ofNat i) L ∧ (Int32.ofNat i).toNatClampNeg = i := by
  obtain ⟨h1, h2⟩ := i32_cl i (by omega)
  refine ⟨?_, h2⟩
  unfold vp_in
  rintro (h0 | h0)
  · exact h1 h0
  · rw [h2] at h0
    omega
theorem at_S (C : LCx p l s m meth c b L xs G) {H : Heap} {locs : List Loc} {cells slots : Nat} (hA : At G room_1 s.heap u H locs cells slots) : va_S (fun q => s.heap.size ≤ q) s.heap H locs := by
  obtain ⟨-, ⟨f1, f2, f3⟩, -⟩ := hA
  have hb := C.2.2.2
  exact ⟨f1, fun q h _ => f2 q (by omega), fun x hx => by have := f3 x hx; omega⟩
theorem r_push (C : LCx p l s m meth c b L xs G) {i : Nat} (h5 : i + 5 ≤ L) (hL : L ≤ 2560) {k : Nat} (hk : k < 5) (i0 i4 : Nat) (h0 : lv[i0]? = some (0, .ref b)) (h4 : lv[i4]? = some (4, .int (Int32.ofNat i))) (d0 : decode code pc = .ok (.aload_n 0, 1)) (d1 : decode code (pc + 1) = .ok (.iload 4, 2)) (d2 : decode code (pc + 3) = .ok (.iconst (k : Int), 1)) (d3 : decode code (pc + 4) = .ok (.iadd, 1)) (d4 : decode code (pc + 5) = .ok (.iaload, 1))
    (kk : LW p l e s m b below meth c G u lv (pc + 6) (.int (xs (i + k)) :: st)) : LW p l e s m b below meth c G u lv pc st := fun H locs cells slots ls hA hl => by
  have hx := C.2.2.1.1
  have hb := C.2.2.1.2.1
  obtain ⟨-, -, -, -, -, -, hX, hbl, -, -⟩ := C.1
  refine lv_aload_n hx hb d0 rfl (lv_at hl i0 h0) ?_
  refine lv_iload hx hb d1 (lv_at hl i4 h4) ?_
  refine lv_iconst (v := Int32.ofInt (k : Int)) hx hb d2 rfl ?_
  refine lv_iadd hx hb d3 ?_
  obtain ⟨q1, q2⟩ := idx_k (i := i) (k := k) (L := L) (by omega) hL
  refine va_sld hx hb hX hbl (Nat.not_le.mpr hbl) (at_S C hA) q1 d4 ?_
  rw [q2]
  exact kk H locs cells slots ls hA hl
theorem enc_x (al : Int → Nat) (x : Int32) : enc al 0 x.toInt = .int x := by rw [enc_0, Int32.ofInt_toInt]
theorem encR_i {al : Int → Nat} {t : Nat} (h : t = 0 ∨ t = 3) (v : Int) : (encR al t v).toList = [.int (Int32.ofInt v)] := by
  rcases h with rfl | rfl <;> rfl
theorem es0 (a0 : Int) (h : a0 ≠ 0) : Value.ref (G.1 a0) :: st = (encA G.1 [2] [a0]).reverse ++ st := by simp [encA, enc_2 _ h]
theorem es1 (a0 : Int) (x : Int32) (h : a0 ≠ 0) : .int x :: Value.ref (G.1 a0) :: st = (encA G.1 [2, 0] [a0, x.toInt]).reverse ++ st := by simp [encA, enc_2 _ h, enc_x]
theorem es2 (a0 : Int) (x y : Int32) (h : a0 ≠ 0) : .int y :: .int x :: Value.ref (G.1 a0) :: st = (encA G.1 [2, 0, 0] [a0, x.toInt, y.toInt]).reverse ++ st := by simp [encA, enc_2 _ h, enc_x]
theorem es3 (a0 : Int) (x y z : Int32) (h : a0 ≠ 0) : .int z :: .int y :: .int x :: Value.ref (G.1 a0) :: st = (encA G.1 [2, 0, 0, 0] [a0, x.toInt, y.toInt, z.toInt]).reverse ++ st := by simp [encA, enc_2 _ h, enc_x]
theorem es4 (a0 : Int) (x y z w : Int32) (h : a0 ≠ 0) : .int w :: .int z :: .int y :: .int x :: Value.ref (G.1 a0) :: st = (encA G.1 [2, 0, 0, 0, 0] [a0, x.toInt, y.toInt, z.toInt, w.toInt]).reverse ++ st := by simp [encA, enc_2 _ h, enc_x]
theorem eh1 (x : Int32) : Value.ref (G.1 288) :: .int x :: Value.ref (G.1 1) :: st = (encA G.1 [2, 0, 2] [1, x.toInt, 288]).reverse ++ st := by simp [encA, enc_2 G.1 (show (1 : Int) ≠ 0 by decide), enc_2 G.1 (show (288 : Int) ≠ 0 by decide), enc_x]
theorem eh2 (x y : Int32) : Value.ref (G.1 288) :: .int y :: .int x :: Value.ref (G.1 1) :: st = (encA G.1 [2, 0, 0, 2] [1, x.toInt, y.toInt, 288]).reverse ++ st := by simp [encA, enc_2 G.1 (show (1 : Int) ≠ 0 by decide), enc_2 G.1 (show (288 : Int) ≠ 0 by decide), enc_x]
theorem r_go (C : LCx p l s m meth c b L xs G) {off : Int} {tgt : Nat} (hd : decode code pc = .ok (.goto off, 3)) (ht : (pc : Int) + off = (tgt : Int)) (k : LW p l e s m b below meth c G u lv tgt st) : LW p l e s m b below meth c G u lv pc st := fun H locs cells slots ls hA hl =>
  lv_goto C.2.2.1.1 C.2.2.1.2.1 hd ht (k H locs cells slots ls hA hl)
theorem lv_1 (m0 : Mem) : live (S9 0 m0) ((1 : Nat) : Int) 1 := ⟨by decide, show ((1 : Nat) : Int) < 289 by decide, rfl⟩
theorem lv_249 (m0 : Mem) : live (S9 0 m0) ((249 : Nat) : Int) 13 := ⟨by decide, show ((249 : Nat) : Int) < 289 by decide, rfl⟩
theorem ok0 (a0 : Int) : okA [2] [a0] := ⟨trivial, trivial⟩
theorem ok1 (a0 : Int) (x : Int32) : okA [2, 0] [a0, x.toInt] := ⟨trivial, toInt_in x, trivial⟩
theorem ok2 (a0 : Int) (x y : Int32) : okA [2, 0, 0] [a0, x.toInt, y.toInt] := ⟨trivial, toInt_in x, toInt_in y, trivial⟩
theorem ok3 (a0 : Int) (x y z : Int32) : okA [2, 0, 0, 0] [a0, x.toInt, y.toInt, z.toInt] := ⟨trivial, toInt_in x, toInt_in y, toInt_in z, trivial⟩
theorem ok4 (a0 : Int) (x y z w : Int32) : okA [2, 0, 0, 0, 0] [a0, x.toInt, y.toInt, z.toInt, w.toInt] := ⟨trivial, toInt_in x, toInt_in y, toInt_in z, toInt_in w, trivial⟩
theorem r_call (C : LCx p l s m meth c b L xs G) {cp K kk a0 : Nat} {as : List Int} {ts : List Nat} {stk : List Value} {cb wb : Nat} {m0 : Mem} {P : Int → Mem → Prop} (hv : VirtAt 19 cp K kk) (hz : mCel K = 0 ∧ mSlo K = 0) (ha : mArg K = ts) (hst : stk = (encA G.1 ts ((a0 : Int) :: as)).reverse ++ st) (hok : okA ts ((a0 : Int) :: as)) (hcat : cats st ≤ 20) (hlive : live (S9 0 m0) (a0 : Int) kk)
    (hcl : Cl 230 K ((a0 : Int) :: as) (fun v u => ∃ m1, u = S9 0 m1 ∧ P v m1) (S9 0 m0)) (hd : decode code pc = .ok (.invokevirtual cp, 3))
    (k : ∀ v m1, okv (mRty K) v → P v m1 → LW p l e s m b below meth c G (T9 cb wb m1) lv (pc + 3) ((encR G.1 (mRty K) v).toList ++ st)) : LW p l e s m b below meth c G (T9 cb wb m0) lv pc stk := fun H locs cells slots ls hA hl => by
  rw [hst, ← ha]
  refine call_virt (cl := Cl 230) C.2.2.1 (clD C.2.1 230 room_1 (Nat.le_of_ble_eq_true rfl) (Nat.le_of_ble_eq_true rfl)) hv hd hA (by rw [ha]; exact hok) hcat (fun v h => by cases h; exact hlive) hl.1 (by rw [hz.1, hz.2]; exact ⟨Nat.zero_le _, Nat.zero_le _⟩) (Q' := fun v u => ∃ m1, u = S9 0 m1 ∧ P v m1) (by rw [hz.1, hz.2]; exact hcl) ?_
  rintro v u' H' locs' hv' ⟨m1, rfl, hP⟩ hA'
  rw [hz.1, hz.2] at hA' ⊢
  exact k v m1 hv' hP H' locs' cells slots ls hA' hl
theorem r_eq (C : LCx p l s m meth c b L xs G) {x y : Int32} {off : Int} {tgt : Nat} (hd : decode code pc = .ok (.if_icmp .eq off, 3)) (ht : (pc : Int) + off = (tgt : Int)) (he : x = y) (k : LW p l e s m b below meth c G u lv tgt st) : LW p l e s m b below meth c G u lv pc (.int y :: .int x :: st) := fun H locs cells slots ls hA hl =>
  lv_icmp_eq C.2.2.1.1 C.2.2.1.2.1 hd ht (fun _ => k H locs cells slots ls hA hl) (fun h => absurd he h)
theorem r_ist (C : LCx p l s m meth c b L xs G) {i : Nat} {x : Int32} {lv' : List (Nat × Value)} (hi : i < 8) (hd : decode code pc = .ok (.istore i, 2)) (hl' : (i, Value.int x) :: lv.filter (fun q => !(q.1 == i) && !(q.1 + 1 == i && q.2.category == 2)) = lv') (k : LW p l e s m b below meth c G u lv' (pc + 2) st) : LW p l e s m b below meth c G u lv pc (.int x :: st) := fun H locs cells slots ls hA hl =>
  lv_istore C.2.2.1.1 C.2.2.1.2.1 hd hl hi hl' (fun ls' h' => k H locs cells slots ls' hA h')
theorem r_lst (C : LCx p l s m meth c b L xs G) {i : Nat} {x : Int64} {lv' : List (Nat × Value)} (hi : i + 1 < 8) (hd : decode code pc = .ok (.lstore i, 2)) (hl' : (i, Value.long x) :: lv.filter (fun q => !(q.1 == i) && (!(q.1 == i + 1) && !(q.1 + 1 == i && q.2.category == 2))) = lv') (k : LW p l e s m b below meth c G u lv' (pc + 2) st) : LW p l e s m b below meth c G u lv pc (.long x :: st) := fun H locs cells slots ls hA hl =>
  lv_lstore C.2.2.1.1 C.2.2.1.2.1 hd hl hi hl' (fun ls' h' => k H locs cells slots ls' hA h')
theorem r_sub (i : List Nat) {lv' : List (Nat × Value)} (h : lv_pick lv i = lv') (k : LW p l e s m b below meth c G u lv' pc st) : LW p l e s m b below meth c G u lv pc st := fun H locs cells slots ls hA hl => k H locs cells slots ls hA (lv_sub hl i h)
theorem r_help (C : LCx p l s m meth c b L xs G) {d cp maxL n : Nat} {y : MethodName} {cc : ByteArray} {hh : List (Nat × Nat × Nat × Nat)} {ts : List Nat} {vs : List Int} {stk : List Value} {m0 : Mem} {P2 : Mem → Prop} {cb wb : Nat} (hd18 : d ≤ 900) (hm : maxL ≤ 5) (hM : Met l y (wsH y cc maxL hh) (rmH d) (PcH G ts vs (S9 0 m0)) (QcM G P2) 1 6 (fun q => G.2.2.2 ≤ q))
    (w1 : Cond.codeWith y cc maxL (some .int) hh ∈ gTbl) (w2 : Cond.initialized y.cls ∈ gTbl) (w3 : y.cls ≠ "java/lang/invoke/MethodHandle" ∧ y.cls ≠ "java/lang/invoke/VarHandle") (w4 : (parseMethodDescriptor y.desc).map (fun d => d.parameters.length) = some n) (w5 : Cond.methodLink "HotThroughLaw" cp y ∈ gTbl) (w6 : Cond.static y ∈ gTbl)
    (hst : stk = (encA G.1 ts vs).reverse ++ st) (hok : okA ts vs) (hlen : ts.length = n) (hcat : cats st ≤ 8) (hd : decode code pc = .ok (.invokestatic cp, 3))
    (k : ∀ (v : Int32) (m1 : Mem), P2 m1 → LW p l e s m b below meth c G (T9 cb wb m1) lv (pc + 3) (.int v :: st)) : LW p l e s m b below meth c G (T9 (cb + 1) (wb + 6) m0) lv pc stk := fun H locs cells slots ls hA hl => by
  obtain ⟨hrel, ⟨f1, f2, f3⟩, b1, b2⟩ := id hA
  have hX := C.2.2.1
  have hts := hX.2.2.2.2.1
  have hK := hX.2.2.2.2.2.1
  have hbase := hX.2.2.2.2.2.2.1
  have hSO := hX.2.2.2.2.2.2.2.2.2.1
  obtain ⟨-, -, -, -, -, hlw, -⟩ := C.1
  have b1 : cells + (cb + 1) ≤ 601024 := b1
  have b2 : slots + (wb + 6) ≤ 7293034 := b2
  rw [hst]
  have hr := vx_runSW (l := l) (p := p) (e := e) (R := room_1) (s := s) (m := m) (below := below) (meth := meth) (c := c) (H := H) (locs := locs) (cells := cells) (slots := slots) (As := encA G.1 ts vs) (rest := st) (n := n) (Ts := gTbl) (own := "HotThroughLaw") (g := F0 m pc ls ((encA G.1 ts vs).reverse ++ st)) ⟨hX.1, hX.2.1, hX.2.2.1, hX.2.2.2.1, hts⟩ hM
    ⟨⟨rfl, rfl, (by show d + 2 + 1 ≤ 2048; omega), (by show 8 + (maxL + 11) + 90 * (d + 2) ≤ 84000; omega), (fun w hw => by
      rcases List.mem_cons.mp hw with rfl | hw
      · exact gt_pay hts _ w1
      · rcases List.mem_append.mp hw with hw | hw
        · exact gt_pay hts _ hw
        · exact fun a' U hW => face_pay (nse_f w hw) (hlw _ (nse_t w hw)) a' U hW), List.mem_cons_self⟩, hts _ w1, hts _ w2, w3, (fun sig h => by rw [h] at w4; simp at w4; exact w4.symm), hts _ w5, hts _ w6⟩
    ⟨fun a U g mk q => ⟨q.1, q.2.1, q.2.2.1, KOK.moved (u := U) (U := U.calling g mk a) (Vm.Alike.refl U.vm) q.2.2.2.1, q.2.2.2.2.1, SOK.same q.2.2.2.2.2⟩, fun U hU hW => ⟨rfl, hok, by rw [hU]; exact hrel, KOK.moved hW.alike hK, by rw [hU]; exact Nat.le_trans hbase f1, hSO.on hW (by rw [hU]; exact f2)⟩⟩ rfl (by rw [encA_len _ _ _ hok]; exact hlen) hl.1 rfl (lv_room hcat) hd ⟨(by show cells + 1 ≤ 601024; omega), (by show slots + 6 ≤ 7293034; omega)⟩
  intro T hT X
  obtain ⟨v, st₀, t, T', L9, h0, X', hL, e1, e2, ⟨⟨v9, hv⟩, ⟨m1, hm1, hq⟩, hz, hk⟩, go⟩ := hr T hT X
  cases hv
  rw [h0] at hz hk
  have hA2 : At G room_1 s.heap (T9 cb wb m1) T'.heap (locs ++ L9) (cells + 1) (slots + 6) := by
    refine ⟨by rw [e1]; exact hq, ⟨Nat.le_trans f1 (by rw [e1]; exact hz), fun q hq9 => by rw [e1]; exact (hk q hq9).trans (f2 q hq9), fun z hz9 => (List.mem_append.mp hz9).elim (f3 z) (hL z)⟩, (by show cells + 1 + cb ≤ 601024; omega), (by show slots + 6 + wb ≤ 7293034; omega)⟩
  obtain ⟨t2, a1, b3⟩ := k v9 m1 hm1 T'.heap (locs ++ L9) (cells + 1) (slots + 6) ls hA2 hl T' rfl X'
  exact ⟨t2, go t2 a1, b3⟩
theorem r_pop (C : LCx p l s m meth c b L xs G) {va : Value} (hd : decode code pc = .ok (.pop, 1)) (hva : va.category = 1) (k : LW p l e s m b below meth c G u lv (pc + 1) st) : LW p l e s m b below meth c G u lv pc (va :: st) := fun H locs cells slots ls hA hl =>
  lv_pop C.2.2.1.1 C.2.2.1.2.1 hd hva (k H locs cells slots ls hA hl)
theorem r_less {cb wb : Nat} {m0 : Mem} (k : LW p l e s m b below meth c G (T9 cb wb m0) lv pc st) : LW p l e s m b below meth c G (T9 (cb + 1) (wb + 6) m0) lv pc st := fun H locs cells slots ls hA hl =>
  k H locs cells slots ls ⟨hA.1, hA.2.1, (by have : cells + (cb + 1) ≤ room_1.cells := hA.2.2.1; show cells + cb ≤ room_1.cells; omega), (by have : slots + (wb + 6) ≤ room_1.slots := hA.2.2.2; show slots + wb ≤ room_1.slots; omega)⟩ hl
end LAW
end
