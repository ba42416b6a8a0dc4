/-! trees: choice, arguments, calls -/
def nxg (L : Nat) (cs : Cds) : Option Cds := nxe (.goto ((L : Int) - (pcOf cs : Int))) 3 cs
def iteP (A X : Nat) (c : XC) (a b : XE) : XE := (fun ga d cs => match c.1 ga d true A cs with
    | some cs1 => match a.1 ga d cs1 with
      | some (t, cs2) => match nxg X cs2 with
        | some cs3 => match b.1 ga d cs3 with
          | some (t2, cs4) => if pcOf cs3 = A ∧ pcOf cs4 = X ∧ t2 = t then some (t, cs4) else none
          | _ => none
        | _ => none
      | _ => none
    | _ => none, fun cl Q r u => c.2 cl (fun u' => a.2 cl Q r u') (fun u' => b.2 cl Q r u') r u)
theorem ite_d (A X : Nat) (c : XC) (a b : XE) (hc0 : DecC c) (ha : DecE a) (hb : DecE b) : DecE (iteP A X c a b) := by
  intro ga d cs t cs' cc hc hD
  simp only [iteP] at hc
  split at hc
  case h_2 => cases hc
  rename_i h0
  split at hc
  case h_2 => cases hc
  rename_i h1
  split at hc
  case h_2 => cases hc
  rename_i h2
  split at hc
  case h_2 => cases hc
  rename_i h3
  split at hc
  case isFalse => cases hc
  cases hc
  exact hb _ _ _ _ _ _ h3 (nxe_ok h2 (ha _ _ _ _ _ _ h1 (hc0 _ _ _ _ _ _ _ h0 hD))).2
theorem ite_ok (ow A X : Nat) (c0 : XC) (a b : XE) (hc0 : SndC ow c0) (ha : SndE ow a) (hb : SndE ow b) (dc : DecC c0) (da : DecE a) (db : DecE b) : SndE ow (iteP A X c0 a b) := by
  intro p l e R s m args below meth c cc nL G Qf cl hX hC ga d cs t cs' hc hD r u H locs cells slots ls st Q hL hA hs hw k
  have hD9 := ite_d A X c0 a b dc da db ga d cs t cs' cc hc hD
  simp only [iteP] at hc hw
  split at hc
  case h_2 => cases hc
  rename_i cs1 h0
  split at hc
  case h_2 => cases hc
  rename_i t1 cs2 h1
  split at hc
  case h_2 => cases hc
  rename_i cs3 h2
  split at hc
  case h_2 => cases hc
  rename_i t2 cs4 h3
  split at hc
  case isFalse => cases hc
  rename_i he
  obtain ⟨he1, he2, he3⟩ := he
  cases hc
  subst he3
  have D1 := dc _ _ _ _ _ _ _ h0 hD
  have D2 := da _ _ _ _ _ _ h1 D1
  obtain ⟨g1, D3⟩ := nxe_ok h2 D2
  refine hc0 p l e R s m args below meth c cc nL G Qf cl hX hC ga d true A cs cs1 h0 hD r u H locs cells slots ls st _ _ hL hA hs hw ?_ ?_
  · intro u' H' locs' cells' slots' hA' hq _
    refine ha p l e R s m args below meth c cc nL G Qf cl hX hC ga d cs1 _ cs2 h1 D1 r u' H' locs' cells' slots' ls st _ hL hA' hs hq ?_
    intro v u2 H2 locs2 cells2 slots2 hv hA2 hq2 _
    refine lv_goto (tgt := X) hX.1 hX.2.1 g1 (by omega) ?_
    have := k v u2 H2 locs2 cells2 slots2 hv hA2 hq2 hD9
    rw [he2] at this
    exact this
  · intro u' H' locs' cells' slots' hA' hq _
    simp only [if_true]
    rw [← he1]
    exact hb p l e R s m args below meth c cc nL G Qf cl hX hC ga d cs3 _ cs' h3 D3 r u' H' locs' cells' slots' ls st _ hL hA' hs hq k
def ite {ow : Nat} (A X : Nat) (c : CX ow) (a b : EX ow) : EX ow := ⟨iteP A X c.1 a.1 b.1, ite_ok ow A X c.1 a.1 b.1 c.2.1 a.2.1 b.2.1 c.2.2 a.2.2 b.2.2, ite_d A X c.1 a.1 b.1 c.2.2 a.2.2 b.2.2⟩
abbrev XL : Type := (Gam → Nat → Cds → Option (List Nat × Cds)) × (ClT → (List Int → Sto → Prop) → Rho → Sto → Prop)
def SndL (ow : Nat) (x : XL) : Prop :=
  ∀ (p : Program) (l : Launch) (e : Env) (R : Room) (s : State) (m : MethodId) (args : Array Value) (below : List Frame) (meth : Method) (c : Code) (cc : ByteArray) (nL : Nat) (G : Geo) (Qf : State → Prop) (cl : ClT),
  MX p R s m args c cc nL ow G → ClOK l R G cl → ∀ (ga : Gam) (d : Nat) (cs : Cds) (t : List Nat) (cs' : Cds), x.1 ga d cs = some (t, cs') → Dec cc cs →
  ∀ (r : Rho) (u : Sto) (H : Heap) (locs : List Loc) (cells slots : Nat) (ls : Array Slot) (st : List Value) (Q : List Int → Sto → Prop),
  LR G nL ga r ls → At G R s.heap u H locs cells slots → cats st ≤ d → x.2 cl Q r u →
  (∀ (v : List Int) (u' : Sto) (H' : Heap) (locs' : List Loc) (cells' slots' : Nat), okA t v → At G R s.heap u' H' locs' cells' slots' → Q v u' → Dec cc cs' → W p l e R s m args below meth c H' locs' cells' slots' Qf (F0 m (pcOf cs') ls ((encA G.1 t v).reverse ++ st))) →
  W p l e R s m args below meth c H locs cells slots Qf (F0 m (pcOf cs) ls st)
def DecL (x : XL) : Prop := ∀ (ga : Gam) (d : Nat) (cs : Cds) (t : List Nat) (cs' : Cds) (cc : ByteArray), x.1 ga d cs = some (t, cs') → Dec cc cs → Dec cc cs'
abbrev LX (ow : Nat) : Type := { x : XL // SndL ow x ∧ DecL x }
def nilP : XL := (fun _ _ cs => some ([], cs), fun _ Q _ u => Q [] u)
theorem nil_ok (ow : Nat) : SndL ow nilP := by
  intro p l e R s m args below meth c cc nL G Qf cl hX hC ga d cs t cs' hc hD r u H locs cells slots ls st Q hL hA hs hw k
  simp only [nilP] at hc hw
  cases hc
  exact k [] u H locs cells slots trivial hA hw hD
def anil {ow : Nat} : LX ow := ⟨nilP, nil_ok ow, fun ga d cs t cs' cc hc hD => by simp only [nilP] at hc; cases hc; exact hD⟩
def consP (a : XE) (b : XL) : XL := (fun ga d cs => match a.1 ga d cs with
    | some (t, cs1) => match b.1 ga (d + if t = 1 then 2 else 1) cs1 with
      | some (ts, cs2) => some (t :: ts, cs2)
      | _ => none
    | _ => none, fun cl Q r u => a.2 cl (fun v u' => b.2 cl (fun vs u2 => Q (v :: vs) u2) r u') r u)
theorem cons_d (a : XE) (b : XL) (ha : DecE a) (hb : DecL b) : DecL (consP a b) := by
  intro ga d cs t cs' cc hc hD
  simp only [consP] at hc
  split at hc
  case h_2 => cases hc
  rename_i h0
  split at hc
  case h_2 => cases hc
  rename_i h1
  cases hc
  exact hb _ _ _ _ _ _ h1 (ha _ _ _ _ _ _ h0 hD)
theorem cons_ok (ow : Nat) (a : XE) (b : XL) (ha : SndE ow a) (hb : SndL ow b) : SndL ow (consP a b) := by
  intro p l e R s m args below meth c cc nL G Qf cl hX hC ga d cs t cs' hc hD r u H locs cells slots ls st Q hL hA hs hw k
  simp only [consP] at hc hw
  split at hc
  case h_2 => cases hc
  rename_i t1 cs1 h0
  split at hc
  case h_2 => cases hc
  rename_i ts cs2 h1
  cases hc
  refine ha p l e R s m args below meth c cc nL G Qf cl hX hC ga d cs _ cs1 h0 hD r u H locs cells slots ls st _ hL hA hs hw ?_
  intro v u' H' locs' cells' slots' hv hA' hq hD1
  refine hb p l e R s m args below meth c cc nL G Qf cl hX hC ga _ cs1 ts cs' h1 hD1 r u' H' locs' cells' slots' ls _ _ hL hA' ?_ hq ?_
  · rw [cats_cons, cat_enc]; omega
  intro vs u2 H2 locs2 cells2 slots2 hv2 hA2 hq2 hD2
  have := k (v :: vs) u2 H2 locs2 cells2 slots2 ⟨hv, hv2⟩ hA2 hq2 hD2
  simpa [encA] using this
def acons {ow : Nat} (a : EX ow) (b : LX ow) : LX ow := ⟨consP a.1 b.1, cons_ok ow a.1 b.1 a.2.1 b.2.1, cons_d a.1 b.1 a.2.2 b.2.2⟩
def MthOK (K : Nat) : Prop := mWor K ∈ gTbl ∧ Cond.initialized (mNam K).cls ∈ gTbl ∧ ((mNam K).cls ≠ "java/lang/invoke/MethodHandle" ∧ (mNam K).cls ≠ "java/lang/invoke/VarHandle")
def VirtAt (ow cp K kk : Nat) : Prop := MthOK K ∧ Cond.methodLink (kC ow) cp (mNam K) ∈ gTbl ∧ Cond.instanceMethod (mNam K) ∈ gTbl ∧ Cond.selects (mNam K).cls (mNam K) (mNam K) ∈ gTbl ∧ kC kk = (mNam K).cls ∧ 1 ≤ kk ∧ kk ≤ 13 ∧
  (parseMethodDescriptor (mNam K).desc).map (fun d => d.parameters.length + 1) = some (mArg K).length ∧ (mArg K).head? = some 2
def StatAt (ow cp K : Nat) : Prop := MthOK K ∧ Cond.methodLink (kC ow) cp (mNam K) ∈ gTbl ∧ Cond.static (mNam K) ∈ gTbl ∧ (parseMethodDescriptor (mNam K).desc).map (fun d => d.parameters.length) = some (mArg K).length
theorem encA_len (al : Int → Nat) : ∀ (ts : List Nat) (vs : List Int), okA ts vs → (encA al ts vs).length = ts.length
  | [], [], _ => rfl
  | t :: ts, v :: vs, h => by
    simp only [encA, List.length_cons]
    rw [encA_len al ts vs h.2]
  | [], _ :: _, h => h.elim
  | _ :: _, [], h => h.elim
theorem SOK.same {G : Geo} {U : State} {g : JFrame} {mk : MethodId} {a : Array Value} (h : SOK G U) : SOK G (U.calling g mk a) := by
  obtain ⟨⟨adV, h1⟩, h2, h3, h4, h5, h6⟩ := h
  have hv : U.vm.Alike (U.calling g mk a).vm := Vm.Alike.refl U.vm
  exact ⟨⟨adV, h1.moved hv⟩, fun i hi => vk_R.same (u := U) rfl (h2 i hi), h3.moved hv, h4.moved hv, h5.moved hv, h6.moved hv⟩
theorem pc_blind (G : Geo) (K : Nat) (vs : List Int) (u : Sto) : FrameBlind (PcOf G K vs u) := fun a U g mk q =>
  ⟨q.1, q.2.1, q.2.2.1, KOK.moved (u := U) (U := U.calling g mk a) (Vm.Alike.refl U.vm) q.2.2.2.1, q.2.2.2.2.1, SOK.same q.2.2.2.2.2⟩
theorem after_call {G : Geo} {R : Room} {H0 H H' : Heap} {u u' : Sto} {locs L : List Loc} {cells slots mc ms : Nat} (hA : At G R H0 u H locs cells slots) (hr : Rel G u' H') (hz : H.size ≤ H'.size) (hk : ∀ q : Nat, q < G.2.2.2 → H'[q]? = H[q]?) (hL : ∀ q ∈ L, G.2.2.2 ≤ q.base) (h1 : mc ≤ sbc u) (h2 : ms ≤ sbw u) :
    At G R H0 (bud u' (sbc u - mc) (sbw u - ms)) H' (locs ++ L) (cells + mc) (slots + ms) := by
  obtain ⟨a1, ⟨a2, a3, a4⟩, a5, a6⟩ := hA
  refine ⟨hr, ⟨by omega, fun q hq => (hk q hq).trans (a3 q hq), fun q hq => ?_⟩, ?_, ?_⟩
  · rcases List.mem_append.mp hq with h | h
    · exact a4 q h
    · exact hL q h
  · show cells + mc + (sbc u - mc) ≤ R.cells
    omega
  · show slots + ms + (sbw u - ms) ≤ R.slots
    omega
theorem run_on {G : Geo} {p : Program} {l : Launch} {e : Env} {R : Room} {s : State} {m : MethodId} {args : Array Value} {below : List Frame} {meth : Method} {c : Code} {H : Heap} {locs : List Loc} {cells slots : Nat} {Q : State → Prop} {pc : Nat} {ls : Array Slot} {st st0 : List Value} {a : Array Value} {K : Nat} {Q' : Int → Sto → Prop} {u : Sto}
    (hr : va_Run p l e R s m args below meth c H locs cells slots (mCel K) (mSlo K) (F0 m pc ls st0) st (QcOf G K Q' a) (fun q => G.2.2.2 ≤ q)) (hA : At G R s.heap u H locs cells slots) (hb : mCel K ≤ sbc u ∧ mSlo K ≤ sbw u)
    (kk : ∀ (v : Int) (u' : Sto) (H' : Heap) (locs' : List Loc), okv (mRty K) v → Q' v u' → At G R s.heap (bud u' (sbc u - mCel K) (sbw u - mSlo K)) H' locs' (cells + mCel K) (slots + mSlo K) → W p l e R s m args below meth c H' locs' (cells + mCel K) (slots + mSlo K) Q (F0 m (pc + 3) ls ((encR G.1 (mRty K) v).toList ++ st))) :
    W p l e R s m args below meth c H locs cells slots Q (F0 m pc ls st0) := by
  intro T hT X
  obtain ⟨v, st₀, t, T', L, h0, X', hL, e1, e2, ⟨⟨w, u', hv, hok, hq, hrel⟩, hz, hk⟩, go⟩ := hr T hT X
  cases hv
  rw [h0] at hz hk
  obtain ⟨t2, a1, b1⟩ := kk w u' T'.heap (locs ++ L) hok hq (after_call hA (by rw [e1]; exact hrel) (by rw [e1]; exact hz) (by rw [e1]; exact hk) hL hb.1 hb.2) T' rfl X'
  exact ⟨t2, go t2 a1, b1⟩
theorem callB_at {p : Program} {l : Launch} {R : Room} {s : State} {m : MethodId} {args : Array Value} {c : Code} {cc : ByteArray} {nL ow cp K n : Nat} {G : Geo} {rm : Room} (hX : MX p R s m args c cc nL ow G) (hM : MthOK K) (hl : Cond.methodLink (kC ow) cp (mNam K) ∈ gTbl) (hn : ∀ sig, parseMethodDescriptor (mNam K).desc = some sig → n = sig.parameters.length)
    (h1 : rm.cells = mCel K) (h2 : rm.slots = mSlo K) (h3 : rm.frames + 1 ≤ R.frames) (h4 : 8 + (mMax K + 11) + rm.locals ≤ R.locals) : CallB R s args (kC ow) cp (mNam K) (mCod K) (mMax K) (mRet K) (wsOf K) rm (mCel K) (mSlo K) n := by
  have hts := hX.2.2.2.2.1
  obtain ⟨g1, g2, g3⟩ := hM
  refine ⟨h1, h2, h3, h4, fun w hw => ?_, List.mem_cons_self, hts _ g1, hts _ g2, g3, hn, hts _ hl⟩
  rcases List.mem_cons.mp hw with rfl | hw
  · exact gt_pay hts _ g1
  · exact gt_pay hts _ hw
theorem pc_pre {p : Program} {R : Room} {s : State} {m : MethodId} {args : Array Value} {c : Code} {cc : ByteArray} {nL ow : Nat} {G : Geo} {u : Sto} {H : Heap} {locs : List Loc} {cells slots : Nat} (hX : MX p R s m args c cc nL ow G) (hA : At G R s.heap u H locs cells slots) {K : Nat} {vs : List Int} (hok : okA (mArg K) vs) (x y : Nat) (U : State) (hU : U.heap = H) (hW : s.WarmedH U.vm) : PcOf G K vs (bud u x y) (encA G.1 (mArg K) vs).toArray U :=
  ⟨rfl, hok, by rw [hU]; exact hA.1, KOK.moved hW.alike hX.2.2.2.2.2.1, by rw [hU]; exact Nat.le_trans hX.2.2.2.2.2.2.1 hA.2.1.1, hX.2.2.2.2.2.2.2.2.2.1.on hW (by rw [hU]; exact hA.2.1.2.1)⟩
theorem back20 {p : Program} {l : Launch} {e : Env} {R : Room} {s : State} {args : Array Value} {below : List Frame} {own : String} {index : Nat} {y : MethodName} {bytes : ByteArray} {maxL mc ms n : Nat} {ret : Option FieldType} {ws : List Cond} {rm : Room} {Pc : Array Value → State → Prop} {Qc : Array Value → State → Outcome → State → Prop} {free : Addr → Prop}
    (cb : CallB R s args own index y bytes maxL ret ws rm mc ms n) (h20 : 20 + (maxL + 11) + rm.locals ≤ R.locals) (hM : Met l y ws rm Pc Qc mc ms free) (hbl : FrameBlind Pc) : Back l R p e below s args y 3 20 (PreOf R mc ms Pc) (PostOf Qc mc ms free) := by
  obtain ⟨hrc, hrs, hfr, -, hws, hcw, -, hini, -⟩ := cb
  exact back_of (bytes := bytes) (maxL := maxL) (ret := ret) hM hbl hrc hrs hfr h20 hws hcw (fun a' U hW => word_at hW (Or.inl rfl) hini)
theorem room20 {m : MethodId} {pc : Nat} {ls : Array Slot} {rest st : List Value} (h : cats st ≤ 20) : 2 * (F0 m pc ls rest).monitorRoom + (st.map fun v => v.category).sum ≤ 20 := by
  show 2 * 0 + cats st ≤ 20
  omega
section X20
variable {p : Program} {l : Launch} {e : Env} {R : Room} {s : State} {m : MethodId} {args : Array Value} {below : List Frame} {meth : Method} {c : Code} {H : Heap} {locs : List Loc} {cells slots : Nat}
theorem x20V {y : MethodName} {bytes cc : ByteArray} {maxL nL mc ms n index : Nat} {ret : Option FieldType} {ws : List Cond} {rm : Room} {Pc : Array Value → State → Prop} {Qc : Array Value → State → Outcome → State → Prop} {free : Addr → Prop} {Ts : List Cond} {own C : String} {b : Addr} {As rest : List Value} {g : JFrame}
    (h20 : 20 + (maxL + 11) + rm.locals ≤ R.locals) (S : CallFix p m c cc nL s args Ts own) (hM : Met l y ws rm Pc Qc mc ms free) (cw : CallW R s args own C index y bytes maxL ret ws rm mc ms n) (hp : PreV s H C b Pc As)
    (hg : g.method = m) (hn : As.length = n) (hsize : g.locals.size = nL) (hstack : g.stack = As.reverse ++ .ref b :: rest) (hW : 2 * g.monitorRoom + (rest.map fun v => v.category).sum ≤ 20) (hdg : decode cc g.pc = .ok (.invokevirtual index, 3)) (hf : cells + mc ≤ R.cells ∧ slots + ms ≤ R.slots) :
    va_Run p l e R s m args below meth c H locs cells slots mc ms g rest (Qc (Value.ref b :: As).toArray) (free) := by
  have hK : Back l R p e below s args y 3 20 (PreOf R mc ms Pc) (PostOf Qc mc ms free) := back20 cw.1 h20 hM hp.1
  obtain ⟨⟨-, -, -, -, -, -, hcode, -, hy, hlen, hl⟩, hin, hse⟩ := cw
  obtain ⟨hx, hb, hml, ho, -⟩ := S
  obtain ⟨-, ⟨cellB, hcB, hoB, hclB⟩, hPc⟩ := hp
  intro T hT X
  obtain ⟨v, vm₁, ⟨U', l2, c2, s2⟩, hW₁, X', ⟨g', mk, t, L, e1, e2, hq, h1, hL, h2, h3⟩, st⟩ := callV X hx (C := C) (bytes := bytes) (maxL := maxL) (ret := ret) ho hl hin hse hcode hy hK (by rw [hT]; exact hcB) hoB hclB hg (hsize.trans hml.symm) (argsL := As) (rest := rest) (fun sig h => hn.trans (hlen sig h)) hstack hW (by rw [hb]; exact hdg)
    (fun vm₁ hW₁ => ⟨hf.1, hf.2, hPc (T.setVm vm₁) hT hW₁⟩)
  dsimp only [Pt.U, Pt.locs, Pt.cells, Pt.slots] at X' e1 e2 h1 h2 h3 st
  subst h1; subst h2; subst h3
  exact ⟨v, (T.setVm vm₁).calling g' mk (Value.ref b :: As).toArray, t, U', L, hT, X', hL, e1, e2, hq, st⟩
theorem x20S {y : MethodName} {bytes cc : ByteArray} {maxL nL mc ms n index : Nat} {ret : Option FieldType} {ws : List Cond} {rm : Room} {Pc : Array Value → State → Prop} {Qc : Array Value → State → Outcome → State → Prop} {free : Addr → Prop} {Ts : List Cond} {own : String} {As rest : List Value} {g : JFrame}
    (h20 : 20 + (maxL + 11) + rm.locals ≤ R.locals) (S : CallFix p m c cc nL s args Ts own) (hM : Met l y ws rm Pc Qc mc ms free) (cw : CallB R s args own index y bytes maxL ret ws rm mc ms n ∧ (Cond.static y).before args s = true) (hp : PreS s H Pc As)
    (hg : g.method = m) (hn : As.length = n) (hsize : g.locals.size = nL) (hstack : g.stack = As.reverse ++ rest) (hW : 2 * g.monitorRoom + (rest.map fun v => v.category).sum ≤ 20) (hdg : decode cc g.pc = .ok (.invokestatic index, 3)) (hf : cells + mc ≤ R.cells ∧ slots + ms ≤ R.slots) :
    va_Run p l e R s m args below meth c H locs cells slots mc ms g rest (Qc As.toArray) (free) := by
  have hK : Back l R p e below s args y 3 20 (PreOf R mc ms Pc) (PostOf Qc mc ms free) := back20 cw.1 h20 hM hp.1
  obtain ⟨⟨-, -, -, -, -, -, hcode, hini, hy, hlen, hl⟩, hstt⟩ := cw
  obtain ⟨hx, hb, hml, ho, -⟩ := S
  intro T hT X
  obtain ⟨v, vm₁, ⟨U', l2, c2, s2⟩, hW₁, X', ⟨g', mk, t, L, e1, e2, hq, h1, hL, h2, h3⟩, st⟩ := callS X hx (bytes := bytes) (maxL := maxL) (ret := ret) ho hl hstt hini hcode hy hK hg (hsize.trans hml.symm) (argsL := As) (rest := rest) (fun sig h => hn.trans (hlen sig h)) hstack hW (by rw [hb]; exact hdg)
    (fun vm₁ hW₁ => ⟨hf.1, hf.2, hp.2 (T.setVm vm₁) hT hW₁⟩)
  dsimp only [Pt.U, Pt.locs, Pt.cells, Pt.slots] at X' e1 e2 h1 h2 h3 st
  subst h1; subst h2; subst h3
  exact ⟨v, (T.setVm vm₁).calling g' mk As.toArray, t, U', L, hT, X', hL, e1, e2, hq, st⟩
end X20
section CR
variable {p : Program} {l : Launch} {e : Env} {R : Room} {s : State} {m : MethodId} {args : Array Value} {below : List Frame} {meth : Method} {c : Code} {cc : ByteArray} {nL ow cp K : Nat} {G : Geo} {H : Heap} {locs : List Loc} {cells slots : Nat} {Q : State → Prop} {pc : Nat} {ls : Array Slot} {st : List Value} {cl : ClT} {u : Sto} {vs : List Int} {Q' : Int → Sto → Prop}
theorem call_virt {kk : Nat} (hX : MX p R s m args c cc nL ow G) (hC : ClOK l R G cl) (hv : VirtAt ow cp K kk) (hd : decode cc pc = .ok (.invokevirtual cp, 3)) (hA : At G R s.heap u H locs cells slots) (hok : okA (mArg K) vs) (hcat : cats st ≤ 20) (hlive : ∀ v, vs.head? = some v → live u v kk) (hls : ls.size = nL) (hb : mCel K ≤ sbc u ∧ mSlo K ≤ sbw u) (hcl : cl K vs Q' (bud u (mCel K) (mSlo K)))
    (k : ∀ (v : Int) (u' : Sto) (H' : Heap) (locs' : List Loc), okv (mRty K) v → Q' v u' → At G R s.heap (bud u' (sbc u - mCel K) (sbw u - mSlo K)) H' locs' (cells + mCel K) (slots + mSlo K) → W p l e R s m args below meth c H' locs' (cells + mCel K) (slots + mSlo K) Q (F0 m (pc + 3) ls ((encR G.1 (mRty K) v).toList ++ st))) :
    W p l e R s m args below meth c H locs cells slots Q (F0 m pc ls ((encA G.1 (mArg K) vs).reverse ++ st)) := by
  obtain ⟨g1, g2, g3, g4, g5, g6, g7, g8, g9⟩ := hv
  have hts := hX.2.2.2.2.1
  obtain ⟨rm, r1, r2, r3, r4, hM⟩ := hC K vs Q' _ hcl (Nat.le_refl _) (Nat.le_refl _)
  match hm : mArg K, vs, hok with
  | [], _, _ => rw [hm] at g9; cases g9
  | t :: ts, [], hok => exact hok.elim
  | t :: ts, v0 :: vt, hok' =>
    rw [hm] at g9 g8
    cases g9
    have lv := hlive v0 rfl
    have hv0 : v0 ≠ 0 := by have := lv.1; omega
    have e0 : encA G.1 (2 :: ts) (v0 :: vt) = .ref (G.1 v0) :: encA G.1 ts vt := by simp only [encA]; rw [enc_2 _ hv0]
    have hp := pc_pre (K := K) (vs := v0 :: vt) hX hA (by rw [hm]; exact hok') (mCel K) (mSlo K)
    rw [hm, e0] at hp
    obtain ⟨cell, q1, q2, q3, -⟩ := hA.1.1 v0 lv.1 lv.2.1 (by rw [lv.2.2]; omega)
    rw [lv.2.2] at q3
    have hn : ∀ sig, parseMethodDescriptor (mNam K).desc = some sig → ts.length = sig.parameters.length := fun sig h => by
      rw [h] at g8; simp at g8; omega
    rw [e0, List.reverse_cons, List.append_assoc]
    refine run_on (u := u) (x20V r4 (As := encA G.1 ts vt) (rest := st) (b := G.1 v0) (n := ts.length) (Ts := gTbl) (own := kC ow) (C := (mNam K).cls) ⟨hX.1, hX.2.1, hX.2.2.1, hX.2.2.2.1, hts⟩ hM ⟨callB_at (l := l) hX g1 g2 hn r1 r2 r3 (by omega), hts _ g3, hts _ g4⟩
      ⟨pc_blind G K _ _, ⟨cell, q1, by rw [q2]; rfl, ?_⟩, hp⟩ rfl (encA_len _ _ _ hok'.2) hls rfl (room20 hcat) hd ⟨by have := hA.2.2.1; omega, by have := hA.2.2.2; omega⟩) hA hb k
    rw [← g5, q3]
    exact (hX.2.2.2.2.2.1.2.1 kk g6 g7).2.1
theorem call_stat (hX : MX p R s m args c cc nL ow G) (hC : ClOK l R G cl) (hv : StatAt ow cp K) (hd : decode cc pc = .ok (.invokestatic cp, 3)) (hA : At G R s.heap u H locs cells slots) (hok : okA (mArg K) vs) (hcat : cats st ≤ 20) (hls : ls.size = nL) (hb : mCel K ≤ sbc u ∧ mSlo K ≤ sbw u) (hcl : cl K vs Q' (bud u (mCel K) (mSlo K)))
    (k : ∀ (v : Int) (u' : Sto) (H' : Heap) (locs' : List Loc), okv (mRty K) v → Q' v u' → At G R s.heap (bud u' (sbc u - mCel K) (sbw u - mSlo K)) H' locs' (cells + mCel K) (slots + mSlo K) → W p l e R s m args below meth c H' locs' (cells + mCel K) (slots + mSlo K) Q (F0 m (pc + 3) ls ((encR G.1 (mRty K) v).toList ++ st))) :
    W p l e R s m args below meth c H locs cells slots Q (F0 m pc ls ((encA G.1 (mArg K) vs).reverse ++ st)) := by
  obtain ⟨g1, g2, g3, g8⟩ := hv
  have hts := hX.2.2.2.2.1
  obtain ⟨rm, r1, r2, r3, r4, hM⟩ := hC K vs Q' _ hcl (Nat.le_refl _) (Nat.le_refl _)
  have hp := pc_pre (K := K) (vs := vs) hX hA hok (mCel K) (mSlo K)
  have hn : ∀ sig, parseMethodDescriptor (mNam K).desc = some sig → (mArg K).length = sig.parameters.length := fun sig h => by
    rw [h] at g8; simp at g8; omega
  exact run_on (u := u) (x20S r4 (As := encA G.1 (mArg K) vs) (rest := st) (n := (mArg K).length) (Ts := gTbl) (own := kC ow) ⟨hX.1, hX.2.1, hX.2.2.1, hX.2.2.2.1, hts⟩ hM ⟨callB_at (l := l) hX g1 g2 hn r1 r2 r3 (by omega), hts _ g3⟩
      ⟨pc_blind G K _ _, hp⟩ rfl (encA_len _ _ _ hok) hls rfl (room20 hcat) hd ⟨by have := hA.2.2.1; omega, by have := hA.2.2.2; omega⟩) hA hb k
end CR
/-- what a call asks and gives -/
def wcl (cl : ClT) (K : Nat) (Q : Int → Sto → Prop) (vs : List Int) (u : Sto) : Prop := (mCel K ≤ sbc u ∧ mSlo K ≤ sbw u) ∧ cl K vs (fun v u' => Q v (bud u' (sbc u - mCel K) (sbw u - mSlo K))) (bud u (mCel K) (mSlo K))
def hdl (vs : List Int) (u : Sto) (kk : Nat) : Prop := live u (vs.headD 0) kk
theorem hdl_v {vs : List Int} {u : Sto} {kk : Nat} (h : hdl vs u kk) : ∀ v, vs.head? = some v → live u v kk := by
  intro v hv
  cases vs with
  | nil => cases hv
  | cons a t => cases hv; exact h
theorem encR_g {t : Nat} (h : t ≠ 9) (al : Int → Nat) (v : Int) : encR al t v = some (enc al (gty t) v) := by unfold encR; rw [if_neg h, enc_g]
def cviP (cp K kk : Nat) (a : XL) : XE := (fun ga d cs => match a.1 ga d cs with
    | some (ts, cs1) => if ts = mArg K ∧ d ≤ 20 ∧ mRty K ≠ 9 then (nx (.invokevirtual cp) 3 cs1).map (fun x => (gty (mRty K), x)) else none
    | _ => none, fun cl Q r u => a.2 cl (fun vs u' => hdl vs u' kk ∧ wcl cl K Q vs u') r u)
def cstaP (cp K : Nat) (a : XL) : XE := (fun ga d cs => match a.1 ga d cs with
    | some (ts, cs1) => if ts = mArg K ∧ d ≤ 20 ∧ mRty K ≠ 9 then (nx (.invokestatic cp) 3 cs1).map (fun x => (gty (mRty K), x)) else none
    | _ => none, fun cl Q r u => a.2 cl (fun vs u' => wcl cl K Q vs u') r u)

theorem cvi_d (cp K kk : Nat) (a : XL) (ha : DecL a) : DecE (cviP cp K kk a) := by
  intro ga d cs t cs' cc hc hD
  simp only [cviP] at hc
  split at hc
  case h_2 => cases hc
  rename_i h0
  split at hc
  case isFalse => cases hc
  exact map_nx hc (ha _ _ _ _ _ _ h0 hD)
theorem cvi_ok (ow : Nat) (cp K kk : Nat) (hf : VirtAt ow cp K kk) (a : XL) (ha : SndL ow a) : SndE ow (cviP cp K kk a) := by
  intro p l e R s m args below meth c cc nL G Qf cl hX hC ga d cs t cs' hc hD r u H locs cells slots ls st Q hL hA hs hw k
  simp only [cviP] at hc hw
  split at hc
  case h_2 => cases hc
  rename_i ts cs1 h0
  split at hc
  case isFalse => cases hc
  rename_i hcond
  obtain ⟨rfl, hd8, h9⟩ := hcond
  obtain ⟨x, hx, e1⟩ := Option.map_eq_some_iff.mp hc
  cases e1
  refine ha p l e R s m args below meth c cc nL G Qf cl hX hC ga d cs _ cs1 h0 hD r u H locs cells slots ls st _ hL hA hs hw ?_
  intro vs u' H' locs' cells' slots' hv hA' hq hD1
  obtain ⟨h1, h2, h3⟩ := nx_ok hx hD1
  refine call_virt hX hC hf h1 hA' hv (by omega) (hdl_v hq.1) hL.1.1 hq.2.1 hq.2.2 ?_
  intro w u2 H2 locs2 hw2 hQ2 hA2
  have k' := k w _ H2 locs2 _ _ (okv_g hw2) hA2 hQ2 h3
  rw [h2] at k'
  rw [encR_g h9]
  exact k'
def cvi {ow : Nat} {cp K kk : Nat} (hf : VirtAt ow cp K kk) (a : LX ow) : EX ow := ⟨cviP cp K kk a.1, cvi_ok ow cp K kk hf a.1 a.2.1, cvi_d cp K kk a.1 a.2.2⟩

theorem csta_d (cp K : Nat) (a : XL) (ha : DecL a) : DecE (cstaP cp K a) := by
  intro ga d cs t cs' cc hc hD
  simp only [cstaP] at hc
  split at hc
  case h_2 => cases hc
  rename_i h0
  split at hc
  case isFalse => cases hc
  exact map_nx hc (ha _ _ _ _ _ _ h0 hD)
theorem csta_ok (ow : Nat) (cp K : Nat) (hf : StatAt ow cp K) (a : XL) (ha : SndL ow a) : SndE ow (cstaP cp K a) := by
  intro p l e R s m args below meth c cc nL G Qf cl hX hC ga d cs t cs' hc hD r u H locs cells slots ls st Q hL hA hs hw k
  simp only [cstaP] at hc hw
  split at hc
  case h_2 => cases hc
  rename_i ts cs1 h0
  split at hc
  case isFalse => cases hc
  rename_i hcond
  obtain ⟨rfl, hd8, h9⟩ := hcond
  obtain ⟨x, hx, e1⟩ := Option.map_eq_some_iff.mp hc
  cases e1
  refine ha p l e R s m args below meth c cc nL G Qf cl hX hC ga d cs _ cs1 h0 hD r u H locs cells slots ls st _ hL hA hs hw ?_
  intro vs u' H' locs' cells' slots' hv hA' hq hD1
  obtain ⟨h1, h2, h3⟩ := nx_ok hx hD1
  refine call_stat hX hC hf h1 hA' hv (by omega) hL.1.1 hq.1 hq.2 ?_
  intro w u2 H2 locs2 hw2 hQ2 hA2
  have k' := k w _ H2 locs2 _ _ (okv_g hw2) hA2 hQ2 h3
  rw [h2] at k'
  rw [encR_g h9]
  exact k'
def csta {ow : Nat} {cp K : Nat} (hf : StatAt ow cp K) (a : LX ow) : EX ow := ⟨cstaP cp K a.1, csta_ok ow cp K hf a.1 a.2.1, csta_d cp K a.1 a.2.2⟩

