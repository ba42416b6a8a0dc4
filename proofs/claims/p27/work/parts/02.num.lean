section
/-! numbers: ints of the machine as whole numbers -/
def inI (v : Int) : Prop := -2147483648 ≤ v ∧ v < 2147483648
def inL (v : Int) : Prop := -9223372036854775808 ≤ v ∧ v < 9223372036854775808
def w32 (v : Int) : Int := (v + 2147483648) % 4294967296 - 2147483648
theorem w32_in (v : Int) : inI (w32 v) := by unfold inI w32; omega
theorem w32_id {v : Int} (h : inI v) : w32 v = v := by unfold inI at h; unfold w32; omega
theorem w32_eq {v : Int} (h1 : -2147483648 ≤ v) (h2 : v < 2147483648) : w32 v = v := w32_id ⟨h1, h2⟩
theorem toInt_in (x : Int32) : inI x.toInt := ⟨by have := Int32.le_toInt x; omega, by have := Int32.toInt_lt x; omega⟩
theorem ofI_toInt {v : Int} (h : inI v) : (Int32.ofInt v).toInt = v := Int32.toInt_ofInt_of_le (by unfold inI at h; omega) (by unfold inI at h; omega)
theorem ofL_toInt {v : Int} (h : inL v) : (Int64.ofInt v).toInt = v := Int64.toInt_ofInt_of_le (by unfold inL at h; omega) (by unfold inL at h; omega)
theorem ofI_bmod (v : Int) : Int32.ofInt (w32 v) = Int32.ofInt v := by
  rw [← Int32.toInt_inj, Int32.toInt_ofInt, Int32.toInt_ofInt]
  unfold w32
  simp only [show Int32.size = 4294967296 from rfl]
  unfold Int.bmod
  dsimp only
  split <;> split <;> omega
theorem ofI_inj {a b : Int} (ha : inI a) (hb : inI b) : Int32.ofInt a = Int32.ofInt b ↔ a = b :=
  ⟨fun h => by rw [← ofI_toInt ha, ← ofI_toInt hb, h], fun h => by rw [h]⟩
theorem ofI_lt {a b : Int} (ha : inI a) (hb : inI b) : Int32.ofInt a < Int32.ofInt b ↔ a < b := by
  rw [Int32.lt_iff_toInt_lt, ofI_toInt ha, ofI_toInt hb]
theorem ofI_le {a b : Int} (ha : inI a) (hb : inI b) : Int32.ofInt a ≤ Int32.ofInt b ↔ a ≤ b := by
  rw [Int32.le_iff_toInt_le, ofI_toInt ha, ofI_toInt hb]
theorem inI_0 : inI 0 := by unfold inI; omega
theorem ofI_zero {a : Int} (ha : inI a) : Int32.ofInt a = 0 ↔ a = 0 := ofI_inj ha inI_0
theorem ofI_idx {i : Int} (h0 : 0 ≤ i) (h : i < 2147483648) : (Int32.ofInt i).toNatClampNeg = i.toNat := by
  show (Int32.ofInt i).toInt.toNat = i.toNat
  rw [ofI_toInt ⟨by omega, h⟩]
theorem ofI_not {i : Int} {n : Nat} (h0 : 0 ≤ i) (h : i < n) (hn : n < 2147483648) : ¬ (Int32.ofInt i < 0 ∨ n ≤ (Int32.ofInt i).toNatClampNeg) := by
  rw [ofI_idx h0 (by omega)]
  rintro (q | q)
  · rw [show (0 : Int32) = Int32.ofInt 0 from rfl, ofI_lt ⟨by omega, by omega⟩ inI_0] at q; omega
  · omega
def iand (a b : Int) : Int := (Int32.ofInt a &&& Int32.ofInt b).toInt
def ior (a b : Int) : Int := (Int32.ofInt a ||| Int32.ofInt b).toInt
def ixor (a b : Int) : Int := (Int32.ofInt a ^^^ Int32.ofInt b).toInt
def ishl (a b : Int) : Int := (Int32.ofInt a <<< (Int32.ofInt b &&& 31)).toInt
def ishr (a b : Int) : Int := (Int32.ofInt a >>> (Int32.ofInt b &&& 31)).toInt
def iushr (a b : Int) : Int := ((Int32.ofInt a).toUInt32 >>> ((Int32.ofInt b).toUInt32 &&& Int32.toUInt32 31)).toInt32.toInt
def idv (a b : Int) : Int := (Int32.ofInt a / Int32.ofInt b).toInt
def irm (a b : Int) : Int := (Int32.ofInt a - Int32.ofInt a / Int32.ofInt b * Int32.ofInt b).toInt
def i2b (a : Int) : Int := (Int32.ofInt a).toInt8.toInt32.toInt
def i2s (a : Int) : Int := (Int32.ofInt a).toInt16.toInt32.toInt
def i2c (a : Int) : Int := ((Int32.ofInt a).toUInt32 % 65536).toInt32.toInt
theorem idv_eq {a b : Int} (ha : inI a) (hb : inI b) (h : ¬ b = -1) : idv a b = a.tdiv b := by
  unfold idv
  rw [Int32.toInt_div_of_ne_right, ofI_toInt ha, ofI_toInt hb]
  rw [show (-1 : Int32) = Int32.ofInt (-1) from rfl, ne_eq, ofI_inj hb ⟨by omega, by omega⟩]
  exact h
theorem irm_eq {a b : Int} (ha : inI a) (hb : inI b) (h : ¬ b = -1) (h0 : ¬ b = 0) : irm a b = a.tmod b := by
  unfold irm
  have e := idv_eq ha hb h
  unfold idv at e
  have e2 : Int32.ofInt a / Int32.ofInt b = Int32.ofInt (a.tdiv b) := by rw [← e, Int32.ofInt_toInt]
  rw [e2, ← Int32.ofInt_mul, ← Int32.ofInt_sub]
  have e3 : a - a.tdiv b * b = a.tmod b := by rw [Int.tmod_def, Int.mul_comm]
  rw [e3, ofI_toInt]
  unfold inI at *
  have h1 := Int.natAbs_tmod a b
  have h2 : a.natAbs % b.natAbs < b.natAbs := Nat.mod_lt _ (by omega)
  omega
end
section

/-! ===== BEGIN exceptions that leave a method, and their catching by the caller (launches without stack traces) ===== -/
section VXA
/-! The laws vx_back, vx_callV, vx_callS, vx_callSW, vx_throw0, vx_throwS follow proofs of the library, with one case more: JvmDerived/Free/Laws.lean (Back.of_free), Shelf42/LK1.lean (callV, callS), Shelf/KitTraced.lean (throwNew0V, throwNewS). -/
/-- where a method has thrown q: the class by its name, the cell, what was written, the world -/
def vx_T (XC : String → State → State → Prop) (st : State) (q : Addr) (t : State) (mc ms : Nat) (free : Addr → Prop) : Prop :=
  ∃ (E : String) (ce : Cell) (L : List Loc), XC E st t ∧ t.heap[q]? = some ce ∧ ce.vm = .none ∧ st.vm.findClass E = some ce.cls ∧ st.WarmedH t.vm ∧ st.sameButNew ({ t with vm := st.vm } : State) L mc ms ∧ ∀ z ∈ L, free z.base
def vx_Q (Qc : Array Value → State → Outcome → State → Prop) (XC : String → State → State → Prop) (mc ms : Nat) (free : Addr → Prop) : Array Value → State → Outcome → State → Prop := fun a st o t =>
  (Qc a st o t ∧ ∃ L, FrameEnd st o t L mc ms ∧ ∀ q ∈ L, free q.base) ∨ ∃ q, o = .threw q ∧ vx_T XC st q t mc ms free
/-- a callee that returns or throws -/
def vx_Met (l : Launch) (y : MethodName) (ws : List Cond) (rm : Room) (Pc : Array Value → State → Prop) (Qc : Array Value → State → Outcome → State → Prop) (XC : String → State → State → Prop) (mc ms : Nat) (free : Addr → Prop) : Prop :=
  MetFree l y (headSpec ws rm) Pc (fun _ _ _ _ _ => True) (vx_Q Qc XC mc ms free)
def vx_Post (XC : String → State → State → Prop) (mc ms : Nat) (free : Addr → Prop) : Pt → Array Value → Addr → Pt → Prop := fun A a q B =>
  ∃ (g : JFrame) (mk : MethodId) (t : State) (L : List Loc) (E : String) (ce : Cell), B.U.heap = t.heap ∧ B.U.vm = t.vm ∧ XC E (A.U.calling g mk a) t ∧ t.heap[q]? = some ce ∧ ce.vm = .none ∧ A.U.vm.findClass E = some ce.cls ∧ B.locs = A.locs ++ L ∧ (∀ z ∈ L, free z.base) ∧ B.cells = A.cells + mc ∧ B.slots = A.slots + ms
def vx_Back (l : Launch) (R : Room) (p : Program) (e : Env) (below : List Frame) (s : State) (sargs : Array Value) (y : MethodName) (len W9 : Nat)
    (Pre : Pt → Array Value → Prop) (Post : Pt → Array Value → Option Value → Pt → Prop) (PostX : Pt → Array Value → Addr → Pt → Prop) : Prop :=
  ∀ (m : MethodId) (meth : Method) (c : Code) (A : Pt) (g : JFrame) (ig : Instr) (mk : MethodId) (a : Array Value),
    Stand p l e R s m sargs below meth c A.U A.locs A.cells A.slots → g.method = m → g.locals.size = c.maxLocals → decode c.code g.pc = .ok (ig, len) →
    2 * g.monitorRoom + (g.stack.map fun v => v.category).sum ≤ W9 → A.U.methodNamed? y = some mk → Pre A a →
    (∃ (v : Option Value) (B : Pt), Stand p l e R s m sargs below meth c B.U B.locs B.cells B.slots ∧ Post A a v B ∧
      Steps p.tables e below (doInvoke e (A.U.setTop g) [] mk a).1 (B.U.setTop { g with pc := g.pc + len, stack := v.toList ++ g.stack })) ∨
    (∃ (q : Addr) (B : Pt), Stand p l e R s m sargs below meth c B.U B.locs B.cells B.slots ∧ PostX A a q B ∧
      Steps p.tables e below (doInvoke e (A.U.setTop g) [] mk a).1 ((B.U.setTop g).pushFrame (.throwing q)))
section Payer
variable {l : Launch} {R : Room} {p : Program} {e : Env} {below : List Frame} {s : State} {sargs : Array Value} {y : MethodName} {len W9 : Nat}
theorem vx_back {ws : List Cond} {rm : Room} {Pc : Array Value → State → Prop} {Qc : Array Value → State → Outcome → State → Prop} {XC : String → State → State → Prop} {mc ms : Nat} {free : Addr → Prop} {bytes : ByteArray} {maxL : Nat} {ret : Option FieldType}
    (hM : vx_Met l y ws rm Pc Qc XC mc ms free) (hblind : FrameBlind Pc) (hrc : rm.cells = mc) (hrs : rm.slots = ms)
    (hframes : rm.frames + 1 ≤ R.frames) (hlocals : W9 + (maxL + 11) + rm.locals ≤ R.locals)
    (hws : ∀ w ∈ ws, ∀ a' U, s.WarmedH U.vm → w.before a' U = true) (hcode : Cond.code y bytes maxL ret ∈ ws) (hinit : ∀ a' U, s.WarmedH U.vm → (Cond.initialized y.cls).before a' U = true) :
    vx_Back l R p e below s sargs y len W9 (PreOf R mc ms Pc) (PostOf Qc mc ms free) (vx_Post XC mc ms free) := by
  intro m meth c A g ig mk a X hg hsize hdg hW hn hp
  have h1 : (headSpec ws rm).pre.before a A.U = true := atoms_intro fun w hw => hws w hw _ _ X.warmed
  have h2 : (Cond.code y bytes maxL ret).before a A.U = true := hws _ hcode _ _ X.warmed
  have h3 : (Cond.initialized y.cls).before a A.U = true := hinit _ _ X.warmed
  have h4 : A.cells + (headSpec ws rm).room.cells ≤ R.cells := by rw [show (headSpec ws rm).room.cells = mc from hrc]; exact hp.1
  have h5 : A.slots + (headSpec ws rm).room.slots ≤ R.slots := by rw [show (headSpec ws rm).room.slots = ms from hrs]; exact hp.2.1
  have hPc : Pc a (A.U.calling g mk a) := hblind _ _ _ _ hp.2.2
  obtain ⟨U, Ls, c0, s0⟩ := A
  dsimp only [Pt.U, Pt.locs, Pt.cells, Pt.slots] at h1 h2 h3 h4 h5 X hn hPc ⊢
  obtain ⟨methY, cY, hmY, hcY, -, hlY, -, -, -, -⟩ := Cond.code_spec hn h2
  obtain ⟨kY, hkY, -⟩ := className_of_methodNamed hn
  have hinitY : kY.init = .initialized := Cond.initialized_spec (findClass_of_methodNamed hn) hkY h3
  have h : At U g.method c below := by rw [hg]; exact X.here
  have hlocals9 : W9 + (maxL + 11) + (headSpec ws rm).room.locals ≤ R.locals := hlocals
  have happ : (headSpec ws rm).appliesLoose y e.platform (U.calling g mk a) = true :=
    Spec.appliesLoose_calling (g := g) h hdg hn hkY hinitY
      (X.room_calling (g := g) (R' := (headSpec ws rm).room) hsize hmY hcY hframes (by rw [hlY]; omega) h4 h5) h1
  obtain ⟨mid, hmid⟩ := h.above
  have hfr : (U.setTop g).frames = (.java g :: mid) ++ below := by rw [State.frames_setTop' g h.top, hmid]; rfl
  obtain ⟨o, s₂, hsteps, -, hend, hq⟩ := Steps.callFree hM p X.admits X.cas X.clock (acts := []) hfr happ hPc trivial
  have hq' : vx_Q Qc XC mc ms free a (U.calling g mk a) o s₂ := hq
  rw [State.frames_setTop' g h.top] at hend
  obtain ⟨g₀, hg0⟩ := Option.isSome_iff_exists.mp h.top
  obtain ⟨r, hr⟩ := State.topJava?_eq_some.mp hg0
  have hr' : (({ U with heap := s₂.heap, slotsUsed := s₂.slotsUsed } : State).setVm s₂.vm).frames = .java g₀ :: r := hr
  rcases hq' with ⟨hqc, L, hfe, hL⟩ | ⟨q, rfl, E, ce, L, hx, hce, hcv, hcl, hW₂, hsm, hL⟩
  · obtain ⟨⟨v, rfl⟩, hW₂, e2, q2, q3, q4, q5, q6⟩ := id hfe
    have e3 : s₂ = ({ (U.calling g mk a).setFrames s₂.frames with heap := s₂.heap, slotsUsed := s₂.slotsUsed } : State).setVm s₂.vm := by
      have : s₂ = ({ s₂ with vm := (U.calling g mk a).vm } : State).setVm s₂.vm := rfl
      rw [e2] at this
      exact this
    obtain ⟨c₂, i₂, len₂, hc₂, hd₂, hf₂⟩ := hend
    have hW' : U.WarmedH s₂.vm := hW₂
    have hcc : c₂ = c := by
      have h1 : s₂.code? g.method = U.code? g.method := by
        rw [State.code?_eq, State.code?_eq, hW'.alike.method?]
      exact Option.some.inj (hc₂.symm.trans (h1.trans h.code))
    subst hcc
    have hlen : len₂ = len := by rw [hdg] at hd₂; cases hd₂; rfl
    subst hlen
    have hs₂ : s₂ = (({ U with heap := s₂.heap, slotsUsed := s₂.slotsUsed } : State).setVm s₂.vm).setTop { g with pc := g.pc + len₂, stack := v.toList ++ g.stack } := by
      refine e3.trans ?_
      rw [hf₂, State.calling_eq h.top, State.setFrames_setFrames, State.setTop_of_frames _ hr', hr]
      rfl
    have hsame : U.sameButNew ({ U with heap := s₂.heap, slotsUsed := s₂.slotsUsed } : State) L mc ms := by
      refine ⟨?_, q2, q3, q4, q5, q6⟩
      obtain ⟨t, ht, -⟩ := State.frames_cons hr
      show ({ U with heap := s₂.heap, slotsUsed := s₂.slotsUsed } : State) = { U.setFrames U.frames with heap := s₂.heap, slotsUsed := s₂.slotsUsed }
      rw [State.setFrames_self ht]
    subst hg
    refine Or.inl ⟨v, ⟨(({ U with heap := s₂.heap, slotsUsed := s₂.slotsUsed } : State).setVm s₂.vm), Ls ++ L, c0 + mc, s0 + ms⟩,
      ⟨X.admits, X.cas, X.clock, X.frames, X.room, X.hears, X.method, X.code, (X.here.setHeapUsed s₂.heap s₂.slotsUsed).setVm hW'.alike, X.tail, State.WarmedH.trans X.warmed hW', X.limits, X.bytes, X.same.trans (hsame.setVm s.vm)⟩,
      ⟨g, mk, s₂, L, rfl, rfl, hqc, rfl, hL, rfl, rfl⟩, ?_⟩
    show Steps p.tables e below _ ((({ U with heap := s₂.heap, slotsUsed := s₂.slotsUsed } : State).setVm s₂.vm).setTop { g with pc := g.pc + len₂, stack := v.toList ++ g.stack })
    rw [← hs₂]
    exact hsteps
  · obtain ⟨e2, q2, q3, q4, q5, q6⟩ := id hsm
    have e3 : s₂ = ({ (U.calling g mk a).setFrames s₂.frames with heap := s₂.heap, slotsUsed := s₂.slotsUsed } : State).setVm s₂.vm := by
      have : s₂ = ({ s₂ with vm := (U.calling g mk a).vm } : State).setVm s₂.vm := rfl
      rw [e2] at this
      exact this
    have hf₂ : s₂.frames = .throwing q :: .java g :: U.frames.tail := hend
    have hW' : U.WarmedH s₂.vm := hW₂
    have hs₂ : s₂ = ((({ U with heap := s₂.heap, slotsUsed := s₂.slotsUsed } : State).setVm s₂.vm).setTop g).pushFrame (.throwing q) := by
      refine e3.trans ?_
      rw [hf₂, State.calling_eq h.top, State.setFrames_setFrames, State.pushFrame, State.frames_setTop _ hr', State.setTop_of_frames _ hr', State.setFrames_setFrames, hr]
      rfl
    have hsame : U.sameButNew ({ U with heap := s₂.heap, slotsUsed := s₂.slotsUsed } : State) L mc ms := by
      refine ⟨?_, q2, q3, q4, q5, q6⟩
      obtain ⟨t, ht, -⟩ := State.frames_cons hr
      show ({ U with heap := s₂.heap, slotsUsed := s₂.slotsUsed } : State) = { U.setFrames U.frames with heap := s₂.heap, slotsUsed := s₂.slotsUsed }
      rw [State.setFrames_self ht]
    subst hg
    refine Or.inr ⟨q, ⟨(({ U with heap := s₂.heap, slotsUsed := s₂.slotsUsed } : State).setVm s₂.vm), Ls ++ L, c0 + mc, s0 + ms⟩,
      ⟨X.admits, X.cas, X.clock, X.frames, X.room, X.hears, X.method, X.code, (X.here.setHeapUsed s₂.heap s₂.slotsUsed).setVm hW'.alike, X.tail, State.WarmedH.trans X.warmed hW', X.limits, X.bytes, X.same.trans (hsame.setVm s.vm)⟩,
      ⟨g, mk, s₂, L, E, ce, rfl, rfl, hx, hce, hcv, hcl, rfl, hL, rfl, rfl⟩, ?_⟩
    show Steps p.tables e below _ (((({ U with heap := s₂.heap, slotsUsed := s₂.slotsUsed } : State).setVm s₂.vm).setTop g).pushFrame (.throwing q))
    rw [← hs₂]
    exact hsteps
end Payer
section Calls
variable {p : Program} {l : Launch} {e : Env} {R : Room} {s : State} {m : MethodId} {args : Array Value} {below : List Frame} {meth : Method} {c : Code} {T : State} {locs : List Loc} {cells slots : Nat}
theorem vx_callV (X : Stand p l e R s m args below meth c T locs cells slots) (hexec : p.tables.exec = Jvm.exec) {own C : String} {index : Nat} {y : MethodName} {bytes : ByteArray} {maxL : Nat} {ret : Option FieldType}
    (hown : s.vm.findClass own = some m.cls) (hlink : (Cond.methodLink own index y).before args s = true) (hinst : (Cond.instanceMethod y).before args s = true) (hsel : (Cond.selects C y y).before args s = true)
    (hcode : (Cond.code y bytes maxL ret).before args s = true) (hy : y.cls ≠ "java/lang/invoke/MethodHandle" ∧ y.cls ≠ "java/lang/invoke/VarHandle")
    {W9 : Nat} {Pre : Pt → Array Value → Prop} {Post : Pt → Array Value → Option Value → Pt → Prop} {PostX : Pt → Array Value → Addr → Pt → Prop} (hK : vx_Back l R p e below s args y 3 W9 Pre Post PostX)
    {b : Addr} {cellB : Cell} (hcell : T.heap[b]? = some cellB) (hobj : cellB.vm.isStatics = false) (hcls : s.vm.findClass C = some cellB.cls)
    {g : JFrame} (hg : g.method = m) (hsize : g.locals.size = c.maxLocals) {argsL rest : List Value} (hlen : ∀ sig, parseMethodDescriptor y.desc = some sig → argsL.length = sig.parameters.length)
    (hstack : g.stack = argsL.reverse ++ .ref b :: rest) (hW : 2 * g.monitorRoom + (rest.map fun v => v.category).sum ≤ W9) (hdg : decode c.code g.pc = .ok (.invokevirtual index, 3))
    (hpre : ∀ vm₁, s.WarmedH vm₁ → Pre ⟨T.setVm vm₁, locs, cells, slots⟩ (Value.ref b :: argsL).toArray) :
    (∃ (v : Option Value) (vm₁ : Vm) (B : Pt), s.WarmedH vm₁ ∧ Stand p l e R s m args below meth c B.U B.locs B.cells B.slots ∧ Post ⟨T.setVm vm₁, locs, cells, slots⟩ (Value.ref b :: argsL).toArray v B ∧
      ∀ target, Steps p.tables e below (B.U.setTop { g with pc := g.pc + 3, stack := v.toList ++ rest }) target → Steps p.tables e below (T.setTop g) target) ∨
    (∃ (q : Addr) (vm₁ : Vm) (B : Pt), s.WarmedH vm₁ ∧ Stand p l e R s m args below meth c B.U B.locs B.cells B.slots ∧ PostX ⟨T.setVm vm₁, locs, cells, slots⟩ (Value.ref b :: argsL).toArray q B ∧
      Steps p.tables e below (T.setTop g) ((B.U.setTop { g with stack := rest }).pushFrame (.throwing q))) := by
  obtain ⟨mk, methM, hnamed, hmethM, hstM, habM⟩ := Cond.instanceMethod_spec hinst
  obtain ⟨methM', cM, hmethM', -, -, -, -, -, -, hsigM⟩ := Cond.code_spec hnamed hcode
  cases hmethM.symm.trans hmethM'
  obtain ⟨c2, r2, m2, q1, q2, q3, q4, kP, hkP, hkPi⟩ := Cond.selects_spec hsel
  cases hcls.symm.trans q1
  cases (State.methodFound?_of_named hnamed hy).symm.trans q2
  cases hnamed.symm.trans q3
  have hselP : selectMethod e.platform s.vm cellB.cls mk = .method mk := by rw [Launch.admits_selectMethod X.admits]; exact q4
  obtain ⟨vm₁, X₁, hstep₁⟩ := X.invokevirtual hexec hown hlink hnamed hmethM hstM hkP hkPi hy (a := b) (cell := cellB) hcell
    (fun z h => by rw [h] at hobj; cases hobj) hselP hmethM habM hkP hkPi (g := g) hg (argsL := argsL) (rest := rest) (hlen _ hsigM) hstack hdg
  rcases hK m meth c ⟨T.setVm vm₁, locs, cells, slots⟩ { g with stack := rest } (.invokevirtual index) mk (Value.ref b :: argsL).toArray X₁ hg hsize hdg hW (X₁.named hnamed) (hpre vm₁ X₁.warmed) with ⟨v, B, X', hpost, hsteps⟩ | ⟨q, B, X', hpost, hsteps⟩
  · exact Or.inl ⟨v, vm₁, B, X₁.warmed, X', hpost, fun target h => hstep₁ _ fun acts => by rw [doInvoke_state]; exact hsteps.trans h⟩
  · exact Or.inr ⟨q, vm₁, B, X₁.warmed, X', hpost, hstep₁ _ fun acts => by rw [doInvoke_state]; exact hsteps⟩
theorem vx_callS (X : Stand p l e R s m args below meth c T locs cells slots) (hexec : p.tables.exec = Jvm.exec) {own : String} {index : Nat} {y : MethodName} {bytes : ByteArray} {maxL : Nat} {ret : Option FieldType}
    (hown : s.vm.findClass own = some m.cls) (hlink : (Cond.methodLink own index y).before args s = true) (hstat : (Cond.static y).before args s = true) (hinit : (Cond.initialized y.cls).before args s = true)
    (hcode : (Cond.code y bytes maxL ret).before args s = true) (hy : y.cls ≠ "java/lang/invoke/MethodHandle" ∧ y.cls ≠ "java/lang/invoke/VarHandle")
    {W9 : Nat} {Pre : Pt → Array Value → Prop} {Post : Pt → Array Value → Option Value → Pt → Prop} {PostX : Pt → Array Value → Addr → Pt → Prop} (hK : vx_Back l R p e below s args y 3 W9 Pre Post PostX)
    {g : JFrame} (hg : g.method = m) (hsize : g.locals.size = c.maxLocals) {argsL rest : List Value} (hlen : ∀ sig, parseMethodDescriptor y.desc = some sig → argsL.length = sig.parameters.length)
    (hstack : g.stack = argsL.reverse ++ rest) (hW : 2 * g.monitorRoom + (rest.map fun v => v.category).sum ≤ W9) (hdg : decode c.code g.pc = .ok (.invokestatic index, 3))
    (hpre : ∀ vm₁, s.WarmedH vm₁ → Pre ⟨T.setVm vm₁, locs, cells, slots⟩ argsL.toArray) :
    (∃ (v : Option Value) (vm₁ : Vm) (B : Pt), s.WarmedH vm₁ ∧ Stand p l e R s m args below meth c B.U B.locs B.cells B.slots ∧ Post ⟨T.setVm vm₁, locs, cells, slots⟩ argsL.toArray v B ∧
      ∀ target, Steps p.tables e below (B.U.setTop { g with pc := g.pc + 3, stack := v.toList ++ rest }) target → Steps p.tables e below (T.setTop g) target) ∨
    (∃ (q : Addr) (vm₁ : Vm) (B : Pt), s.WarmedH vm₁ ∧ Stand p l e R s m args below meth c B.U B.locs B.cells B.slots ∧ PostX ⟨T.setVm vm₁, locs, cells, slots⟩ argsL.toArray q B ∧
      Steps p.tables e below (T.setTop g) ((B.U.setTop { g with stack := rest }).pushFrame (.throwing q))) := by
  obtain ⟨mk, hnamed⟩ := Cond.code_named hcode
  obtain ⟨methM, cM, hmethM, -, -, -, -, -, -, hsigM⟩ := Cond.code_spec hnamed hcode
  have hstatic : methM.isStatic = true := Cond.static_spec hnamed hmethM hstat
  obtain ⟨kP, hkP, -⟩ := className_of_methodNamed hnamed
  have hinitP : kP.init = .initialized := Cond.initialized_spec (findClass_of_methodNamed hnamed) hkP hinit
  obtain ⟨vm₁, X₁, hstep₁⟩ := X.invokestatic hexec hown hlink hnamed hmethM hstatic hkP hinitP hy (g := g) hg (argsL := argsL) (rest := rest) (hlen _ hsigM) hstack hdg
  rcases hK m meth c ⟨T.setVm vm₁, locs, cells, slots⟩ { g with stack := rest } (.invokestatic index) mk argsL.toArray X₁ hg hsize hdg hW (X₁.named hnamed) (hpre vm₁ X₁.warmed) with ⟨v, B, X', hpost, hsteps⟩ | ⟨q, B, X', hpost, hsteps⟩
  · exact Or.inl ⟨v, vm₁, B, X₁.warmed, X', hpost, fun target h => hstep₁ _ fun acts => by rw [doInvoke_state]; exact hsteps.trans h⟩
  · exact Or.inr ⟨q, vm₁, B, X₁.warmed, X', hpost, hstep₁ _ fun acts => by rw [doInvoke_state]; exact hsteps⟩
end Calls
theorem vx_cls {s : State} {T : State} {vm₁ : Vm} {E : String} {k : ClassId} (hW : s.WarmedH vm₁) (h : (T.setVm vm₁).vm.findClass E = some k) : s.vm.findClass E = some k := by
  have h1 : vm₁.findClass E = some k := h
  rw [hW.alike.findClass] at h1
  exact h1
/-- the method's frame g, with q thrown over it -/
def vx_W (p : Program) (l : Launch) (e : Env) (R : Room) (s : State) (m : MethodId) (args : Array Value) (below : List Frame) (meth : Method) (c : Code) (H : Heap) (locs : List Loc) (cells slots : Nat) (Q : State → Prop) (g : JFrame) (q : Addr) : Prop :=
  ∀ T : State, T.heap = H → Stand p l e R s m args below meth c T locs cells slots → ∃ t, Steps p.tables e below ((T.setTop g).pushFrame (.throwing q)) t ∧ Q t
def vx_Run (p : Program) (l : Launch) (e : Env) (R : Room) (s : State) (m : MethodId) (args : Array Value) (below : List Frame) (meth : Method) (c : Code) (H : Heap) (locs : List Loc) (cells slots mc ms : Nat) (g : JFrame) (rest : List Value) (Qa : State → Outcome → State → Prop) (XC : String → State → State → Prop) (free : Addr → Prop) : Prop :=
  ∀ T : State, T.heap = H → Stand p l e R s m args below meth c T locs cells slots →
    (∃ (v : Option Value) (st₀ t T' : State) (L : List Loc), st₀.heap = H ∧ Stand p l e R s m args below meth c T' (locs ++ L) (cells + mc) (slots + ms) ∧ (∀ q ∈ L, free q.base) ∧ T'.heap = t.heap ∧ T'.vm = t.vm ∧ Qa st₀ (.returned v) t ∧
      Goes p e below T g T' { g with pc := g.pc + 3, stack := v.toList ++ rest }) ∨
    (∃ (q : Addr) (st₀ t T' : State) (L : List Loc) (E : String) (ce : Cell), st₀.heap = H ∧ Stand p l e R s m args below meth c T' (locs ++ L) (cells + mc) (slots + ms) ∧ (∀ z ∈ L, free z.base) ∧ T'.heap = t.heap ∧ T'.vm = t.vm ∧ XC E st₀ t ∧ t.heap[q]? = some ce ∧ ce.vm = .none ∧ s.vm.findClass E = some ce.cls ∧
      Steps p.tables e below (T.setTop g) ((T'.setTop { g with stack := rest }).pushFrame (.throwing q)))
def vx_X {S : Type} (px : S → Prop) (B : String → S → State → Prop) (A : Nat → Prop) : String → State → State → Prop := fun E st t => ∃ u : S, px u ∧ B E u t ∧ va_F A st t
section Runs
variable {p : Program} {l : Launch} {e : Env} {R : Room} {s : State} {m : MethodId} {args : Array Value} {below : List Frame} {meth : Method} {c : Code} {H : Heap} {locs : List Loc} {cells slots : Nat}
variable {y : MethodName} {bytes cc : ByteArray} {maxL nL mc ms n index : Nat} {ret : Option FieldType} {ws : List Cond} {rm : Room} {Pc : Array Value → State → Prop} {Qc : Array Value → State → Outcome → State → Prop} {XC : String → State → State → Prop} {free : Addr → Prop} {Ts : List Cond} {own C : String} {b : Addr} {As rest : List Value} {g : JFrame}
theorem vx_callBack (cb : CallB R s args own index y bytes maxL ret ws rm mc ms n) (hM : vx_Met l y ws rm Pc Qc XC mc ms free) (hbl : FrameBlind Pc) : vx_Back l R p e below s args y 3 8 (PreOf R mc ms Pc) (PostOf Qc mc ms free) (vx_Post XC mc ms free) := by
  obtain ⟨hrc, hrs, hfr, hlo, hws, hcw, -, hini, -⟩ := cb
  exact vx_back (bytes := bytes) (maxL := maxL) (ret := ret) hM hbl hrc hrs hfr hlo hws hcw (fun a' U hW => word_at hW (Or.inl (by first | rfl | simp [Cond.onTables, Cond.keeps, Cond.steady])) hini)
theorem vx_runV (S : CallFix p m c cc nL s args Ts own) (hM : vx_Met l y ws rm Pc Qc XC mc ms free) (cw : CallW R s args own C index y bytes maxL ret ws rm mc ms n) (hp : PreV s H C b Pc As)
    (hg : g.method = m) (hn : As.length = n) (hsize : g.locals.size = nL) (hstack : g.stack = As.reverse ++ .ref b :: rest) (hW : 2 * g.monitorRoom + (rest.map fun v => v.category).sum ≤ 8) (hdg : decode cc g.pc = .ok (.invokevirtual index, 3)) (hf : cells + mc ≤ R.cells ∧ slots + ms ≤ R.slots) :
    vx_Run p l e R s m args below meth c H locs cells slots mc ms g rest (Qc (Value.ref b :: As).toArray) XC free := by
  have hK : vx_Back l R p e below s args y 3 8 (PreOf R mc ms Pc) (PostOf Qc mc ms free) (vx_Post XC mc ms free) := vx_callBack cw.1 hM hp.1
  obtain ⟨⟨-, -, -, -, -, -, hcode, -, hy, hlen, hl⟩, hin, hse⟩ := cw
  obtain ⟨hx, hb, hml, ho, -⟩ := S
  obtain ⟨-, ⟨cellB, hcB, hoB, hclB⟩, hPc⟩ := hp
  intro T hT X
  rcases vx_callV X hx (C := C) (bytes := bytes) (maxL := maxL) (ret := ret) ho hl hin hse hcode hy hK (by rw [hT]; exact hcB) hoB hclB hg (hsize.trans hml.symm) (argsL := As) (rest := rest) (fun sig h => hn.trans (hlen sig h)) hstack hW (by rw [hb]; exact hdg)
    (fun vm₁ hW₁ => ⟨hf.1, hf.2, hPc (T.setVm vm₁) hT hW₁⟩) with ⟨v, vm₁, ⟨U', l2, c2, s2⟩, hW₁, X', ⟨g', mk, t, L, e1, e2, hq, h1, hL, h2, h3⟩, st⟩ | ⟨q, vm₁, ⟨U', l2, c2, s2⟩, hW₁, X', ⟨g', mk, t, L, E, ce, e1, e2, hq, hce, hcv, hcl, h1, hL, h2, h3⟩, st⟩
  · dsimp only [Pt.U, Pt.locs, Pt.cells, Pt.slots] at X' e1 e2 h1 h2 h3 st
    subst h1; subst h2; subst h3
    exact Or.inl ⟨v, (T.setVm vm₁).calling g' mk (Value.ref b :: As).toArray, t, U', L, hT, X', hL, e1, e2, hq, st⟩
  · dsimp only [Pt.U, Pt.locs, Pt.cells, Pt.slots] at X' e1 e2 h1 h2 h3 st hcl
    subst h1; subst h2; subst h3
    exact Or.inr ⟨q, (T.setVm vm₁).calling g' mk (Value.ref b :: As).toArray, t, U', L, E, ce, hT, X', hL, e1, e2, hq, hce, hcv, vx_cls hW₁ hcl, st⟩
theorem vx_runS (S : CallFix p m c cc nL s args Ts own) (hM : vx_Met l y ws rm Pc Qc XC mc ms free) (cw : CallB R s args own index y bytes maxL ret ws rm mc ms n ∧ (Cond.static y).before args s = true) (hp : PreS s H Pc As)
    (hg : g.method = m) (hn : As.length = n) (hsize : g.locals.size = nL) (hstack : g.stack = As.reverse ++ rest) (hW : 2 * g.monitorRoom + (rest.map fun v => v.category).sum ≤ 8) (hdg : decode cc g.pc = .ok (.invokestatic index, 3)) (hf : cells + mc ≤ R.cells ∧ slots + ms ≤ R.slots) :
    vx_Run p l e R s m args below meth c H locs cells slots mc ms g rest (Qc As.toArray) XC free := by
  have hK : vx_Back l R p e below s args y 3 8 (PreOf R mc ms Pc) (PostOf Qc mc ms free) (vx_Post XC mc ms free) := vx_callBack cw.1 hM hp.1
  obtain ⟨⟨-, -, -, -, -, -, hcode, hini, hy, hlen, hl⟩, hstt⟩ := cw
  obtain ⟨hx, hb, hml, ho, -⟩ := S
  intro T hT X
  rcases vx_callS X hx (bytes := bytes) (maxL := maxL) (ret := ret) ho hl hstt hini hcode hy hK hg (hsize.trans hml.symm) (argsL := As) (rest := rest) (fun sig h => hn.trans (hlen sig h)) hstack hW (by rw [hb]; exact hdg)
    (fun vm₁ hW₁ => ⟨hf.1, hf.2, hp.2 (T.setVm vm₁) hT hW₁⟩) with ⟨v, vm₁, ⟨U', l2, c2, s2⟩, hW₁, X', ⟨g', mk, t, L, e1, e2, hq, h1, hL, h2, h3⟩, st⟩ | ⟨q, vm₁, ⟨U', l2, c2, s2⟩, hW₁, X', ⟨g', mk, t, L, E, ce, e1, e2, hq, hce, hcv, hcl, h1, hL, h2, h3⟩, st⟩
  · dsimp only [Pt.U, Pt.locs, Pt.cells, Pt.slots] at X' e1 e2 h1 h2 h3 st
    subst h1; subst h2; subst h3
    exact Or.inl ⟨v, (T.setVm vm₁).calling g' mk As.toArray, t, U', L, hT, X', hL, e1, e2, hq, st⟩
  · dsimp only [Pt.U, Pt.locs, Pt.cells, Pt.slots] at X' e1 e2 h1 h2 h3 st hcl
    subst h1; subst h2; subst h3
    exact Or.inr ⟨q, (T.setVm vm₁).calling g' mk As.toArray, t, U', L, E, ce, hT, X', hL, e1, e2, hq, hce, hcv, vx_cls hW₁ hcl, st⟩
end Runs
section Rows
variable {p : Program} {l : Launch} {e : Env} {R : Room} {s : State} {m : MethodId} {args : Array Value} {below : List Frame} {meth : Method} {c : Code} {H : Heap} {locs : List Loc} {cells slots : Nat} {Q : State → Prop}
variable {mc ms : Nat} {free : Addr → Prop} {A0 A1 : Nat → Prop} {H0 : Heap} {a : Array Value} {pc : Nat} {ls : Array Slot} {st0 rest : List Value}
theorem vx_keep {st₀ t T' : State} {L : List Loc} (h0 : st₀.heap = H) (e1 : T'.heap = t.heap) (hS : va_S A0 H0 H locs) (hA : ∀ q, q < H.size → A1 q → A0 q) (hf : ∀ q, free q → A0 q) (hL : ∀ q ∈ L, free q.base) (hF : va_F A1 st₀ t) :
    H.size ≤ T'.heap.size ∧ (∀ q : Nat, q < H.size → ¬ A1 q → T'.heap[q]? = H[q]?) ∧ va_S A0 H0 T'.heap (locs ++ L) := by
  obtain ⟨hz, hk⟩ := hF
  rw [h0] at hz hk
  exact ⟨by rw [e1]; exact hz, fun q h1 h2 => by rw [e1]; exact hk q h1 h2,
    ⟨Nat.le_trans hS.1 (by rw [e1]; exact hz), fun q h1 h2 => by rw [e1, hk q (Nat.lt_of_lt_of_le h1 hS.1) (fun z => h2 (hA q (Nat.lt_of_lt_of_le h1 hS.1) z))]; exact hS.2.1 q h1 h2, fun q hq => by
      rcases List.mem_append.mp hq with h | h
      · exact hS.2.2 q h
      · exact hf _ (hL q h)⟩⟩
theorem vx_calli {S SX : Type} {post : Int32 → S → Prop} {px : SX → Prop} {B : S → State → Prop} {BX : String → SX → State → Prop} {AX : Nat → Prop} (hr : vx_Run p l e R s m args below meth c H locs cells slots mc ms (F0 m pc ls st0) rest (va_Qi post B A1 a) (vx_X px BX AX) free) (hS : va_S A0 H0 H locs) (hA : ∀ q, q < H.size → A1 q → A0 q) (hf : ∀ q, free q → A0 q) (hAX : ∀ q, q < H.size → AX q → A0 q)
    (kx : ∀ (E : String) (ce : Cell) (q9 : Addr) (u : SX) (t : State) (H1 : Heap) (locs1 : List Loc), t.heap = H1 → s.vm.Alike t.vm → px u → BX E u t → H.size ≤ H1.size → (∀ q : Nat, q < H.size → ¬ AX q → H1[q]? = H[q]?) → va_S A0 H0 H1 locs1 → H1[q9]? = some ce → ce.vm = .none → s.vm.findClass E = some ce.cls → vx_W p l e R s m args below meth c H1 locs1 (cells + mc) (slots + ms) Q (F0 m pc ls rest) q9)
    (kk : ∀ (r : Int32) (u : S) (t : State) (H1 : Heap) (locs1 : List Loc), t.heap = H1 → s.vm.Alike t.vm → post r u → B u t → H.size ≤ H1.size → (∀ q : Nat, q < H.size → ¬ A1 q → H1[q]? = H[q]?) → va_S A0 H0 H1 locs1 → W p l e R s m args below meth c H1 locs1 (cells + mc) (slots + ms) Q (F0 m (pc + 3) ls (.int r :: rest))) : W p l e R s m args below meth c H locs cells slots Q (F0 m pc ls st0) := by
  intro T hT X
  rcases hr T hT X with ⟨v, st₀, t, T', L, h0, X', hL, e1, e2, ⟨⟨r, u, hv, hp, hb⟩, hF⟩, st⟩ | ⟨q, st₀, t, T', L, E, ce, h0, X', hL, e1, e2, ⟨u, hp, hb, hF⟩, hce, hcv, hcl, st⟩
  · cases hv
    obtain ⟨k1, k2, k3⟩ := vx_keep h0 e1 hS hA hf hL hF
    obtain ⟨t2, a1, b1⟩ := kk r u t T'.heap (locs ++ L) e1.symm (by rw [← e2]; exact X'.warmed.alike) hp hb k1 k2 k3 T' rfl X'
    exact ⟨t2, st t2 a1, b1⟩
  · obtain ⟨k1, k2, k3⟩ := vx_keep h0 e1 hS hAX hf hL hF
    obtain ⟨t2, a1, b1⟩ := kx E ce q u t T'.heap (locs ++ L) e1.symm (by rw [← e2]; exact X'.warmed.alike) hp hb k1 k2 k3 (by rw [e1]; exact hce) hcv hcl T' rfl X'
    exact ⟨t2, st.trans a1, b1⟩
theorem vx_calll {S SX : Type} {post : Int64 → S → Prop} {px : SX → Prop} {B : S → State → Prop} {BX : String → SX → State → Prop} {AX : Nat → Prop} (hr : vx_Run p l e R s m args below meth c H locs cells slots mc ms (F0 m pc ls st0) rest (va_Ql post B A1 a) (vx_X px BX AX) free) (hS : va_S A0 H0 H locs) (hA : ∀ q, q < H.size → A1 q → A0 q) (hf : ∀ q, free q → A0 q) (hAX : ∀ q, q < H.size → AX q → A0 q)
    (kx : ∀ (E : String) (ce : Cell) (q9 : Addr) (u : SX) (t : State) (H1 : Heap) (locs1 : List Loc), t.heap = H1 → s.vm.Alike t.vm → px u → BX E u t → H.size ≤ H1.size → (∀ q : Nat, q < H.size → ¬ AX q → H1[q]? = H[q]?) → va_S A0 H0 H1 locs1 → H1[q9]? = some ce → ce.vm = .none → s.vm.findClass E = some ce.cls → vx_W p l e R s m args below meth c H1 locs1 (cells + mc) (slots + ms) Q (F0 m pc ls rest) q9)
    (kk : ∀ (r : Int64) (u : S) (t : State) (H1 : Heap) (locs1 : List Loc), t.heap = H1 → s.vm.Alike t.vm → post r u → B u t → H.size ≤ H1.size → (∀ q : Nat, q < H.size → ¬ A1 q → H1[q]? = H[q]?) → va_S A0 H0 H1 locs1 → W p l e R s m args below meth c H1 locs1 (cells + mc) (slots + ms) Q (F0 m (pc + 3) ls (.long r :: rest))) : W p l e R s m args below meth c H locs cells slots Q (F0 m pc ls st0) := by
  intro T hT X
  rcases hr T hT X with ⟨v, st₀, t, T', L, h0, X', hL, e1, e2, ⟨⟨r, u, hv, hp, hb⟩, hF⟩, st⟩ | ⟨q, st₀, t, T', L, E, ce, h0, X', hL, e1, e2, ⟨u, hp, hb, hF⟩, hce, hcv, hcl, st⟩
  · cases hv
    obtain ⟨k1, k2, k3⟩ := vx_keep h0 e1 hS hA hf hL hF
    obtain ⟨t2, a1, b1⟩ := kk r u t T'.heap (locs ++ L) e1.symm (by rw [← e2]; exact X'.warmed.alike) hp hb k1 k2 k3 T' rfl X'
    exact ⟨t2, st t2 a1, b1⟩
  · obtain ⟨k1, k2, k3⟩ := vx_keep h0 e1 hS hAX hf hL hF
    obtain ⟨t2, a1, b1⟩ := kx E ce q u t T'.heap (locs ++ L) e1.symm (by rw [← e2]; exact X'.warmed.alike) hp hb k1 k2 k3 (by rw [e1]; exact hce) hcv hcl T' rfl X'
    exact ⟨t2, st.trans a1, b1⟩
theorem vx_callf {S SX : Type} {post : UInt32 → S → Prop} {px : SX → Prop} {B : S → State → Prop} {BX : String → SX → State → Prop} {AX : Nat → Prop} (hr : vx_Run p l e R s m args below meth c H locs cells slots mc ms (F0 m pc ls st0) rest (va_Qf post B A1 a) (vx_X px BX AX) free) (hS : va_S A0 H0 H locs) (hA : ∀ q, q < H.size → A1 q → A0 q) (hf : ∀ q, free q → A0 q) (hAX : ∀ q, q < H.size → AX q → A0 q)
    (kx : ∀ (E : String) (ce : Cell) (q9 : Addr) (u : SX) (t : State) (H1 : Heap) (locs1 : List Loc), t.heap = H1 → s.vm.Alike t.vm → px u → BX E u t → H.size ≤ H1.size → (∀ q : Nat, q < H.size → ¬ AX q → H1[q]? = H[q]?) → va_S A0 H0 H1 locs1 → H1[q9]? = some ce → ce.vm = .none → s.vm.findClass E = some ce.cls → vx_W p l e R s m args below meth c H1 locs1 (cells + mc) (slots + ms) Q (F0 m pc ls rest) q9)
    (kk : ∀ (r : UInt32) (u : S) (t : State) (H1 : Heap) (locs1 : List Loc), t.heap = H1 → s.vm.Alike t.vm → post r u → B u t → H.size ≤ H1.size → (∀ q : Nat, q < H.size → ¬ A1 q → H1[q]? = H[q]?) → va_S A0 H0 H1 locs1 → W p l e R s m args below meth c H1 locs1 (cells + mc) (slots + ms) Q (F0 m (pc + 3) ls (.float r :: rest))) : W p l e R s m args below meth c H locs cells slots Q (F0 m pc ls st0) := by
  intro T hT X
  rcases hr T hT X with ⟨v, st₀, t, T', L, h0, X', hL, e1, e2, ⟨⟨r, u, hv, hp, hb⟩, hF⟩, st⟩ | ⟨q, st₀, t, T', L, E, ce, h0, X', hL, e1, e2, ⟨u, hp, hb, hF⟩, hce, hcv, hcl, st⟩
  · cases hv
    obtain ⟨k1, k2, k3⟩ := vx_keep h0 e1 hS hA hf hL hF
    obtain ⟨t2, a1, b1⟩ := kk r u t T'.heap (locs ++ L) e1.symm (by rw [← e2]; exact X'.warmed.alike) hp hb k1 k2 k3 T' rfl X'
    exact ⟨t2, st t2 a1, b1⟩
  · obtain ⟨k1, k2, k3⟩ := vx_keep h0 e1 hS hAX hf hL hF
    obtain ⟨t2, a1, b1⟩ := kx E ce q u t T'.heap (locs ++ L) e1.symm (by rw [← e2]; exact X'.warmed.alike) hp hb k1 k2 k3 (by rw [e1]; exact hce) hcv hcl T' rfl X'
    exact ⟨t2, st.trans a1, b1⟩
theorem vx_calld {S SX : Type} {post : UInt64 → S → Prop} {px : SX → Prop} {B : S → State → Prop} {BX : String → SX → State → Prop} {AX : Nat → Prop} (hr : vx_Run p l e R s m args below meth c H locs cells slots mc ms (F0 m pc ls st0) rest (va_Qd post B A1 a) (vx_X px BX AX) free) (hS : va_S A0 H0 H locs) (hA : ∀ q, q < H.size → A1 q → A0 q) (hf : ∀ q, free q → A0 q) (hAX : ∀ q, q < H.size → AX q → A0 q)
    (kx : ∀ (E : String) (ce : Cell) (q9 : Addr) (u : SX) (t : State) (H1 : Heap) (locs1 : List Loc), t.heap = H1 → s.vm.Alike t.vm → px u → BX E u t → H.size ≤ H1.size → (∀ q : Nat, q < H.size → ¬ AX q → H1[q]? = H[q]?) → va_S A0 H0 H1 locs1 → H1[q9]? = some ce → ce.vm = .none → s.vm.findClass E = some ce.cls → vx_W p l e R s m args below meth c H1 locs1 (cells + mc) (slots + ms) Q (F0 m pc ls rest) q9)
    (kk : ∀ (r : UInt64) (u : S) (t : State) (H1 : Heap) (locs1 : List Loc), t.heap = H1 → s.vm.Alike t.vm → post r u → B u t → H.size ≤ H1.size → (∀ q : Nat, q < H.size → ¬ A1 q → H1[q]? = H[q]?) → va_S A0 H0 H1 locs1 → W p l e R s m args below meth c H1 locs1 (cells + mc) (slots + ms) Q (F0 m (pc + 3) ls (.double r :: rest))) : W p l e R s m args below meth c H locs cells slots Q (F0 m pc ls st0) := by
  intro T hT X
  rcases hr T hT X with ⟨v, st₀, t, T', L, h0, X', hL, e1, e2, ⟨⟨r, u, hv, hp, hb⟩, hF⟩, st⟩ | ⟨q, st₀, t, T', L, E, ce, h0, X', hL, e1, e2, ⟨u, hp, hb, hF⟩, hce, hcv, hcl, st⟩
  · cases hv
    obtain ⟨k1, k2, k3⟩ := vx_keep h0 e1 hS hA hf hL hF
    obtain ⟨t2, a1, b1⟩ := kk r u t T'.heap (locs ++ L) e1.symm (by rw [← e2]; exact X'.warmed.alike) hp hb k1 k2 k3 T' rfl X'
    exact ⟨t2, st t2 a1, b1⟩
  · obtain ⟨k1, k2, k3⟩ := vx_keep h0 e1 hS hAX hf hL hF
    obtain ⟨t2, a1, b1⟩ := kx E ce q u t T'.heap (locs ++ L) e1.symm (by rw [← e2]; exact X'.warmed.alike) hp hb k1 k2 k3 (by rw [e1]; exact hce) hcv hcl T' rfl X'
    exact ⟨t2, st.trans a1, b1⟩
theorem vx_callv {S SX : Type} {post : S → Prop} {px : SX → Prop} {B : S → State → Prop} {BX : String → SX → State → Prop} {AX : Nat → Prop} (hr : vx_Run p l e R s m args below meth c H locs cells slots mc ms (F0 m pc ls st0) rest (va_Qv post B A1 a) (vx_X px BX AX) free) (hS : va_S A0 H0 H locs) (hA : ∀ q, q < H.size → A1 q → A0 q) (hf : ∀ q, free q → A0 q) (hAX : ∀ q, q < H.size → AX q → A0 q)
    (kx : ∀ (E : String) (ce : Cell) (q9 : Addr) (u : SX) (t : State) (H1 : Heap) (locs1 : List Loc), t.heap = H1 → s.vm.Alike t.vm → px u → BX E u t → H.size ≤ H1.size → (∀ q : Nat, q < H.size → ¬ AX q → H1[q]? = H[q]?) → va_S A0 H0 H1 locs1 → H1[q9]? = some ce → ce.vm = .none → s.vm.findClass E = some ce.cls → vx_W p l e R s m args below meth c H1 locs1 (cells + mc) (slots + ms) Q (F0 m pc ls rest) q9)
    (kk : ∀ (u : S) (t : State) (H1 : Heap) (locs1 : List Loc), t.heap = H1 → s.vm.Alike t.vm → post u → B u t → H.size ≤ H1.size → (∀ q : Nat, q < H.size → ¬ A1 q → H1[q]? = H[q]?) → va_S A0 H0 H1 locs1 → W p l e R s m args below meth c H1 locs1 (cells + mc) (slots + ms) Q (F0 m (pc + 3) ls (rest))) : W p l e R s m args below meth c H locs cells slots Q (F0 m pc ls st0) := by
  intro T hT X
  rcases hr T hT X with ⟨v, st₀, t, T', L, h0, X', hL, e1, e2, ⟨⟨u, hv, hp, hb⟩, hF⟩, st⟩ | ⟨q, st₀, t, T', L, E, ce, h0, X', hL, e1, e2, ⟨u, hp, hb, hF⟩, hce, hcv, hcl, st⟩
  · cases hv
    obtain ⟨k1, k2, k3⟩ := vx_keep h0 e1 hS hA hf hL hF
    obtain ⟨t2, a1, b1⟩ := kk u t T'.heap (locs ++ L) e1.symm (by rw [← e2]; exact X'.warmed.alike) hp hb k1 k2 k3 T' rfl X'
    exact ⟨t2, st t2 a1, b1⟩
  · obtain ⟨k1, k2, k3⟩ := vx_keep h0 e1 hS hAX hf hL hF
    obtain ⟨t2, a1, b1⟩ := kx E ce q u t T'.heap (locs ++ L) e1.symm (by rw [← e2]; exact X'.warmed.alike) hp hb k1 k2 k3 (by rw [e1]; exact hce) hcv hcl T' rfl X'
    exact ⟨t2, st.trans a1, b1⟩
/-- caught by the row x of this method's table; the rows ahead don't take it -/
theorem vx_catch {own name : String} {E : String} {ce : Cell} {q : Addr} (hown : s.vm.findClass own = some m.cls) (pre : List ExceptionTableEntry) (x : ExceptionTableEntry) (suf : List ExceptionTableEntry) (hsplit : c.exceptionTable.toList = pre ++ x :: suf)
    (hpass : ∀ z ∈ pre, covers z pc = false ∨ (z.catchType ≠ 0 ∧ ∃ nm : String, (Cond.classLink own z.catchType nm).before args s = true ∧ va_Nc E nm s)) (hx : covers x pc = true) (h0 : x.catchType ≠ 0)
    (hlink : (Cond.classLink own x.catchType name).before args s = true) (hcast : (Cond.castable E name).before args s = true) (hcell : H[q]? = some ce) (hv : ce.vm = .none) (hcl : s.vm.findClass E = some ce.cls)
    (kk : W p l e R s m args below meth c H locs cells slots Q (F0 m x.handlerPc ls [.ref q])) : vx_W p l e R s m args below meth c H locs cells slots Q (F0 m pc ls rest) q := by
  intro T hT X
  have hpl : e.platform.magicAccessors = ({} : Platform).magicAccessors := by rw [X.admits.platform]
  obtain ⟨c3, c4, hc3, hc4, hasg⟩ := Cond.castable_spec hcast
  cases Option.some.inj (hc3.symm.trans hcl)
  obtain ⟨c5, hc5, hcl5⟩ := Cond.classLink_spec hown hlink e.platform hpl
  cases Option.some.inj (hc4.symm.trans hc5)
  obtain ⟨vm', X', st⟩ := X.thenCaughtThrough q (g := F0 m pc ls rest) rfl (Steps.refl _) (by rw [hT]; exact hcell) (by rw [hv]; rfl) (by obtain ⟨k9, h9, -⟩ := Vm.findClass_spec hcl; exact ⟨k9, h9⟩) pre x suf hsplit
    (fun z hz => by
      rcases hpass z hz with h | ⟨hz0, nm, hl1, hn1⟩
      · exact Or.inl h
      · obtain ⟨c6, hc6, hcl6⟩ := Cond.classLink_spec hown hl1 e.platform hpl
        obtain ⟨a8, b8, h1, h2, h3⟩ := hn1
        cases Option.some.inj (h1.symm.trans hcl)
        cases Option.some.inj (h2.symm.trans hc6)
        exact Or.inr ⟨hz0, _, hcl6, h3⟩) hx (Or.inr ⟨h0, c4, hcl5, hasg⟩)
  obtain ⟨t, a1, b1⟩ := kk (T.setVm vm') hT X'
  exact ⟨t, st.trans a1, b1⟩
end Rows
section Ends
variable {p : Program} {l : Launch} {e : Env} {R : Room} {s : State} {m : MethodId} {args : Array Value} {below : List Frame} {meth : Method} {c : Code} {H : Heap} {locs : List Loc} {cells slots : Nat} {Q : State → Prop}
variable {mc ms : Nat} {free : Addr → Prop} {A0 A1 : Nat → Prop} {H0 : Heap} {a : Array Value} {ls : Array Slot} {st0 rest : List Value}
variable {Qc : Array Value → State → Outcome → State → Prop} {XC : String → State → State → Prop}
/-- what a body that may throw owes at its end -/
def vx_MQ (below : List Frame) (Qc : Array Value → State → Outcome → State → Prop) (XC : String → State → State → Prop) (a : Array Value) (s : State) (mc ms : Nat) (free : Addr → Prop) : State → Prop := fun t =>
  ∃ o, t.status = .running ∧ Ended t below o ∧ vx_Q Qc XC mc ms free a s o t
theorem vx_ret {g : JFrame} {mc ms : Nat} (k : W p l e R s m args below meth c H locs cells slots (MQ below Qc args s mc ms free) g) : W p l e R s m args below meth c H locs cells slots (vx_MQ below Qc XC args s mc ms free) g := by
  intro T hT X
  obtain ⟨t, a1, o, b1, b2, b3, b4⟩ := k T hT X
  exact ⟨t, a1, o, b1, b2, Or.inl ⟨b3, b4⟩⟩
/-- not caught here: it goes on to the caller -/
theorem vx_widen {g : JFrame} {q : Addr} {k n : Nat} (h1 : cells ≤ k) (h2 : slots ≤ n) (kk : vx_W p l e R s m args below meth c H locs k n Q g q) : vx_W p l e R s m args below meth c H locs cells slots Q g q := fun T hT X => kk T hT (stand_widen X h1 h2)
theorem vx_out {pc : Nat} {E : String} {ce : Cell} {q : Addr} {mc ms : Nat} (hout : ∀ x ∈ c.exceptionTable.toList, covers x pc = false) (hlocks : meth.locks = false) (hcell : H[q]? = some ce) (hv : ce.vm = .none) (hcl : s.vm.findClass E = some ce.cls)
    (hx : ∀ t : State, t.heap = H → s.vm.Alike t.vm → XC E s t) (hf : ∀ z ∈ locs, free z.base) (hc : cells ≤ mc) (hs : slots ≤ ms) :
    vx_W p l e R s m args below meth c H locs cells slots (vx_MQ below Qc XC args s mc ms free) (F0 m pc ls rest) q := by
  intro T hT X
  obtain ⟨st1, hrun, hend, hW, hsm⟩ := X.leaveThrown q (g := F0 m pc ls rest) rfl rfl rfl hout hlocks
  have hcell9 : (T.setFrames (.throwing q :: below)).heap[q]? = some ce := by
    show T.heap[q]? = some ce
    rw [hT]; exact hcell
  exact ⟨_, st1, .threw q, hrun, hend, Or.inr ⟨q, rfl, E, ce, locs, hx _ hT hW.alike, hcell9, hv, hcl, hW, hsm.mono hc hs, hf⟩⟩
theorem vx_frame {U : State} {k n : Nat} (h : s.sameButNew ({ U with vm := s.vm } : State) locs k n) : s.heap.size ≤ U.heap.size ∧ ∀ q : Nat, q < s.heap.size → (∀ z ∈ locs, z.base ≠ q) → U.heap[q]? = s.heap[q]? := by
  obtain ⟨-, h2, -, -, -, h6⟩ := h
  refine ⟨h2, fun q hq hz => ?_⟩
  obtain ⟨c9, e1, e2, e3, e4⟩ := h6 q _ (Array.getElem?_eq_getElem hq)
  have hs : c9.slots = (s.heap[q]).slots := Array.ext_getElem? fun i => e4 i fun hm => hz _ hm rfl
  have h9 : c9 = s.heap[q] := by
    rw [hs] at e2
    exact e2
  have e5 : U.heap[q]? = some c9 := e1
  rw [e5, h9, Array.getElem?_eq_getElem hq]
/-- the words of a throw but the four that speak of the heap -/
def vx_no (w : Cond) : Bool := decide (w ≠ .isRef (.static Bundle.tN "UNASSIGNED_STACK" Bundle.steD)) && decide (w ≠ .isRef (.static Bundle.tN "SUPPRESSED_SENTINEL" Bundle.listD)) && decide (w ≠ .laysStatic Bundle.tN "UNASSIGNED_STACK" Bundle.steD) && decide (w ≠ .laysStatic Bundle.tN "SUPPRESSED_SENTINEL" Bundle.listD)
def vx_at0 (own : String) (ic : Nat) (X : String) (names : List String) : List Cond := (Bundle.ownAtoms0 own ic X names).filter vx_no
def vx_atS (own : String) (ic : Nat) (X : String) (names : List String) : List Cond := (Bundle.ownAtoms own ic X names).filter vx_no
/-- a word that the tables alone decide, or a good one -/
def vx_ot (w : Cond) : Bool := w.onTables || goodWord w
theorem vx_ot_at {args a' : Array Value} {s U : State} {w : Cond} (hW : s.WarmedH U.vm) (hvm : s.vm = U.vm) (hg : vx_ot w = true) (h : w.before args s = true) : w.before a' U = true := by
  simp only [vx_ot, Bool.or_eq_true] at hg
  rcases hg with hg | hg
  · exact va_tabs hg hvm h
  · exact word_at hW (good_of_word hg) h
/-- a list's words: the good ones out of the method's own list, the others by premises of their own -/
theorem vx_hat {args : Array Value} {s : State} {L B : List Cond} (h1 : ∀ w ∈ L.filter goodWord, w.before args s = true) (h2 : ∀ w ∈ L.filter (fun w => !goodWord w), w ∈ B) (h3 : ∀ w ∈ B, w.before args s = true) : ∀ w ∈ L, w.before args s = true := by
  intro w hw
  by_cases g : goodWord w = true
  · exact h1 w (List.mem_filter.mpr ⟨hw, g⟩)
  · refine h3 w (h2 w (List.mem_filter.mpr ⟨hw, ?_⟩))
    show (!goodWord w) = true
    cases hgw : goodWord w
    · rfl
    · exact absurd hgw g
theorem vx_c {args : Array Value} {s : State} {w : Cond} {B : List Cond} (h : w.before args s = true) (t : ∀ w ∈ B, w.before args s = true) : ∀ w' ∈ w :: B, w'.before args s = true := fun w' h' => (List.mem_cons.mp h').elim (fun e => by rw [e]; exact h) (t w')
theorem vx_n {args : Array Value} {s : State} : ∀ w ∈ ([] : List Cond), w.before args s = true := fun _ h => nomatch h
theorem vx_own {args : Array Value} {s : State} {L : List Cond} (h1 : ∀ w ∈ L.filter vx_no, w.before args s = true)
    (hU : (Cond.isRef (.static Bundle.tN "UNASSIGNED_STACK" Bundle.steD)).before args s = true) (hN : (Cond.isRef (.static Bundle.tN "SUPPRESSED_SENTINEL" Bundle.listD)).before args s = true)
    (lU : (Cond.laysStatic Bundle.tN "UNASSIGNED_STACK" Bundle.steD).before args s = true) (lN : (Cond.laysStatic Bundle.tN "SUPPRESSED_SENTINEL" Bundle.listD).before args s = true) : ∀ w ∈ L, w.before args s = true := by
  intro w hw
  by_cases e1 : w = .isRef (.static Bundle.tN "UNASSIGNED_STACK" Bundle.steD)
  · rw [e1]; exact hU
  · by_cases e2 : w = .isRef (.static Bundle.tN "SUPPRESSED_SENTINEL" Bundle.listD)
    · rw [e2]; exact hN
    · by_cases e3 : w = .laysStatic Bundle.tN "UNASSIGNED_STACK" Bundle.steD
      · rw [e3]; exact lU
      · by_cases e4 : w = .laysStatic Bundle.tN "SUPPRESSED_SENTINEL" Bundle.listD
        · rw [e4]; exact lN
        · exact h1 w (List.mem_filter.mpr ⟨hw, by unfold vx_no; rw [decide_eq_true e1, decide_eq_true e2, decide_eq_true e3, decide_eq_true e4]; rfl⟩)
/-- where a static field lies, its class's statics cell in H -/
def vx_L (C n d : String) (A : Nat → Prop) (U : State) (H : Heap) : Prop := ∃ (c : ClassId) (k : Class) (i : Nat) (f : Field) (a : Nat) (cell : Cell), U.vm.findClass C = some c ∧ U.fieldFound? C n d = some (c, k, i, f) ∧ f.isStatic = true ∧ k.statics = some a ∧ H[a]? = some cell ∧ cell.vm.isStatics = true ∧ cell.cls = c ∧ f.slot < cell.slots.size ∧ k.staticTypes[f.slot]? = some f.type ∧ ¬ A a
theorem vx_L.moved {C n d : String} {A : Nat → Prop} {u U : State} {H : Heap} (hvm : u.vm.Alike U.vm) (h : vx_L C n d A u H) : vx_L C n d A U H := by
  obtain ⟨c, k, i, f, a, cell, h1, h2, h3, h4, h5, h6, h7, h8, h9, h10⟩ := h
  obtain ⟨k', hi', he⟩ := State.fieldFound?_setVm hvm h2
  exact ⟨c, k', i, f, a, cell, by rw [hvm.findClass]; exact h1, hi', h3, by rw [he]; exact h4, h5, h6, h7, h8, by rw [he]; exact h9, h10⟩
theorem vx_L.kept {C n d : String} {A : Nat → Prop} {U : State} {H H1 : Heap} (h : vx_L C n d A U H) (hq : ∀ a : Nat, a < H.size → ¬ A a → H1[a]? = H[a]?) : vx_L C n d A U H1 := by
  obtain ⟨c, k, i, f, a, cell, h1, h2, h3, h4, h5, h6, h7, h8, h9, h10⟩ := h
  exact ⟨c, k, i, f, a, cell, h1, h2, h3, h4, by rw [hq a (Array.getElem?_eq_some_iff.mp h5).1 h10]; exact h5, h6, h7, h8, h9, h10⟩
theorem vx_L.narrow {C n d : String} {A B : Nat → Prop} {U : State} {H : Heap} (h : vx_L C n d A U H) (hAB : ∀ q, B q → A q) : vx_L C n d B U H := by
  obtain ⟨c, k, i, f, a, cell, h1, h2, h3, h4, h5, h6, h7, h8, h9, h10⟩ := h
  exact ⟨c, k, i, f, a, cell, h1, h2, h3, h4, h5, h6, h7, h8, h9, fun z => h10 (hAB _ z)⟩
theorem vx_L.word {C n d : String} {A : Nat → Prop} {s : State} {args : Array Value} (h : vx_L C n d A s s.heap) : (Cond.laysStatic C n d).before args s = true := by
  obtain ⟨c, k, i, f, a, cell, h1, h2, h3, h4, h5, h6, h7, h8, h9, -⟩ := h
  show (Cond.laysStatic C n d).holds args s none s [] = true
  exact Cond.laysStatic_of h1 h2 h3 h4 h5 h6 h7 h8 h9
/-- .. and what it holds: null or some reference -/
def vx_Zq (C n d : String) (A : Nat → Prop) (U : State) (H : Heap) : Prop := va_Zq C n d A U H ∧ vx_L C n d A U H
theorem vx_Zq.moved {C n d : String} {A : Nat → Prop} {u U : State} {H : Heap} (hvm : u.vm.Alike U.vm) (h : vx_Zq C n d A u H) : vx_Zq C n d A U H := ⟨va_Zq.moved hvm h.1, vx_L.moved hvm h.2⟩
theorem vx_Zq.kept {C n d : String} {A : Nat → Prop} {U : State} {H H1 : Heap} (h : vx_Zq C n d A U H) (hq : ∀ a : Nat, a < H.size → ¬ A a → H1[a]? = H[a]?) : vx_Zq C n d A U H1 := ⟨va_Zq.kept h.1 hq, vx_L.kept h.2 hq⟩
theorem vx_Zq.narrow {C n d : String} {A B : Nat → Prop} {U : State} {H : Heap} (h : vx_Zq C n d A U H) (hAB : ∀ q, B q → A q) : vx_Zq C n d B U H := ⟨va_Zq.narrow h.1 hAB, vx_L.narrow h.2 hAB⟩
theorem vx_Zqof {args : Array Value} {s : State} {C n d : String} {A : Nat → Prop} (hl : (Cond.laysStatic C n d).before args s = true) (hini : (Cond.initialized C).before args s = true) (h : (Cond.isRef (.static C n d)).before args s = true) (hA : ∀ a : Nat, a < s.heap.size → ¬ A a) : vx_Zq C n d A s s.heap := by
  refine ⟨va_Zqof hl hini h hA, ?_⟩
  obtain ⟨c, k, i, f, a, cell, h1, h2, h3, h4, h5, h6, h7, h8, h9⟩ := Cond.laysStatic_spec hl
  exact ⟨c, k, i, f, a, cell, h1, h2, h3, h4, h5, h6, h7, h8, h9, hA a (Array.getElem?_eq_some_iff.mp h5).1⟩
theorem vx_isRef {C n d : String} {v : Value} {A : Nat → Prop} {s : State} {args : Array Value} (h : va_Z C n d v A s s.heap) (hv : v.isRef = true) : (Cond.isRef (.static C n d)).before args s = true := by
  obtain ⟨cf, kf, fi, f, a, cell, h1, h2, h3, h4, h5, h6, h7, -⟩ := h
  have he : (Term.static C n d).eval args s none [] s = some v := by
    simp [Term.eval, State.fieldNamed?, h1, h2, h4, h5, h6, h7]
  simp only [Cond.before, Cond.holds, Cond.value, he]
  cases v <;> simp_all [Value.isRef]
theorem vx_isRefq {C n d : String} {A : Nat → Prop} {s : State} {args : Array Value} (h : va_Zq C n d A s s.heap) : (Cond.isRef (.static C n d)).before args s = true := by
  rcases h with h | ⟨t, h⟩
  · exact vx_isRef h rfl
  · exact vx_isRef h rfl
/-- the same frame, seen from here: as if the method were called anew in this heap -/
theorem vx_rebase {T : State} (X : Stand p l e R s m args below meth c T locs cells slots) {R' : Room} (hf : R'.frames ≤ R.frames) (hl : R'.locals ≤ R.locals) (hc : cells + R'.cells ≤ R.cells) (hs : slots + R'.slots ≤ R.slots) :
    Stand p l e R' ((T.setVm s.vm).setFrames (.invoking m args :: below)) m args below meth c T [] 0 0 := by
  have htop : (T.setVm s.vm).topJava?.isSome := X.here.top
  have hF : ((T.setVm s.vm).setFrames (.invoking m args :: below)).frames = .invoking m args :: below := State.frames_setFrames _ (State.cur_lt_of_top htop)
  obtain ⟨g₀, hg0⟩ := Option.isSome_iff_exists.mp htop
  obtain ⟨r, hr⟩ := State.topJava?_eq_some.mp hg0
  have hl9 : e.platform.stackLimits (T.setVm s.vm).me = e.platform.stackLimits s.me := X.limits
  have hb9 : (T.setVm s.vm).me.stackBytes = s.me.stackBytes := X.bytes
  refine ⟨X.admits, X.cas, X.clock, hF, ?_, X.hears, X.method, X.code, X.here, X.tail, X.warmed, ?_, ?_, ?_⟩
  · have h := X.room
    have hU : ((T.setVm s.vm).setFrames (.invoking m args :: below)).localsInUse = s.localsInUse := by
      rw [State.localsInUse_invoking hF (meth := meth) (c := c) X.method X.code, State.localsInUse_invoking X.frames X.method X.code]
    simp only [State.hasRoom, Bool.and_eq_true, decide_eq_true_eq] at h ⊢
    obtain ⟨⟨⟨⟨h1, h2, h3, h4, h5, h6⟩, h7⟩, h8⟩, h9⟩ := h
    rw [X.frames, List.length_cons] at h2 h3
    have q1 := X.heapSize
    have q2 := X.used
    simp only [hF, hU, List.length_cons, State.stackLimits_setFrames, State.stackBytes_setFrames, hl9, hb9]
    refine ⟨⟨⟨⟨by omega, by omega, by omega, by omega, by omega, h6⟩, ?_⟩, ?_⟩, X.book⟩
    · show T.heap.size + R'.cells ≤ e.platform.maxCells
      omega
    · show T.slotsUsed + R'.slots ≤ e.platform.maxSlots
      omega
  · rw [State.stackLimits_setFrames]; rfl
  · rw [State.stackBytes_setFrames]; rfl
  · refine ⟨?_, Nat.le_refl _, Nat.le_refl _, ?_, ?_, fun a c9 h9 => ⟨c9, h9, rfl, rfl, fun _ _ => rfl⟩⟩
    · obtain ⟨t, ht, -⟩ := State.frames_cons hr
      show T.setVm s.vm = { ((T.setVm s.vm).setFrames (.invoking m args :: below)).setFrames (T.setVm s.vm).frames with heap := T.heap, slotsUsed := T.slotsUsed }
      rw [State.setFrames_setFrames, State.setFrames_self ht]
      rfl
    · show T.slotsUsed = T.slotsUsed + ((T.heap.toList.drop T.heap.size).map (·.slots.size)).sum
      rw [List.drop_eq_nil_of_le (Nat.le_of_eq Array.length_toList)]
      rfl
    · show ((T.heap.toList.drop T.heap.size).map (·.slots.size)).sum ≤ 0
      rw [List.drop_eq_nil_of_le (Nat.le_of_eq Array.length_toList)]
      exact Nat.le_refl _
/-- 'throw new E()': new; dup; invokespecial; athrow -/
theorem vx_throw0 {cc : ByteArray} {pc : Nat} (hexec : p.tables.exec = Jvm.exec) (hb : c.code = cc) (hl : l.stackTraces = false) {own cls : String} {names : List String} {ik ic mc ms : Nat} {A : Nat → Prop}
    (hown : s.vm.findClass own = some m.cls) (hcls : Bundle.fit cls = true) (hnames : ∀ n ∈ names, Bundle.fit n = true)
    (hk : (Cond.classLink own ik cls).before args s = true) (hini : (Cond.initialized cls).before args s = true) (hat : ∀ w ∈ vx_at0 own ic cls names, w.before args s = true)
    (hgood : ∀ w ∈ Cond.classLink own ik cls :: Cond.initialized cls :: vx_at0 own ic cls names, vx_ot w = true)
    (hU : vx_Zq Bundle.tN "UNASSIGNED_STACK" Bundle.steD A s s.heap) (hN : vx_Zq Bundle.tN "SUPPRESSED_SENTINEL" Bundle.listD A s s.heap) (hS : va_S A s.heap H locs) (hsize : ls.size = c.maxLocals)
    (d0 : decode cc pc = .ok (.new ik, 3)) (d3 : decode cc (pc + 3) = .ok (.dup, 1)) (d4 : decode cc (pc + 4) = .ok (.invokespecial ic, 3)) (d7 : decode cc (pc + 7) = .ok (.athrow, 1))
    (hout : ∀ x ∈ c.exceptionTable.toList, covers x (pc + 7) = false)
    (hRframes : names.length + 3 < R.frames) (hRlocals : (rest.map fun v => v.category).sum + (13 * (names.length + 1) + 42) ≤ R.locals) (hRcells : cells + 1 ≤ R.cells) (hRslots : slots + 6 ≤ R.slots) (hlocks : meth.locks = false)
    (hx : ∀ t : State, s.vm.Alike t.vm → H.size ≤ t.heap.size → (∀ q : Nat, q < H.size → t.heap[q]? = H[q]?) → XC cls s t)
    (hf : ∀ z ∈ locs, free z.base) (hc : cells + 1 ≤ mc) (hs : slots + 6 ≤ ms) :
    W p l e R s m args below meth c H locs cells slots (vx_MQ below Qc XC args s mc ms free) (F0 m pc ls rest) := by
  intro T hT X
  have htr : e.platform.stackTraces = false := (show e.platform.stackTraces = l.stackTraces by rw [X.admits.platform]).trans hl
  have Y := vx_rebase X (R' := { frames := R.frames, locals := R.locals, cells := 1, slots := 6 }) (Nat.le_refl _) (Nat.le_refl _) hRcells hRslots
  obtain ⟨s', hA⟩ : ∃ z, z = (T.setVm s.vm).setFrames (.invoking m args :: below) := ⟨_, rfl⟩
  rw [← hA] at Y
  have hvm : s'.vm = s.vm := by rw [hA]; rfl
  have hhp : s'.heap = H := by rw [hA]; exact hT
  have hW0 : s.WarmedH s'.vm := by rw [hvm]; exact State.WarmedH.refl s
  have hat' : ∀ w ∈ vx_at0 own ic cls names, w.before args s' = true := fun w hw => vx_ot_at hW0 hvm.symm (hgood w (List.mem_cons_of_mem _ (List.mem_cons_of_mem _ hw))) (hat w hw)
  have hk' : (Cond.classLink own ik cls).before args s' = true := vx_ot_at hW0 hvm.symm (hgood _ List.mem_cons_self) hk
  have hini' : (Cond.initialized cls).before args s' = true := vx_ot_at hW0 hvm.symm (hgood _ (List.mem_cons_of_mem _ List.mem_cons_self)) hini
  have hU' : vx_Zq Bundle.tN "UNASSIGNED_STACK" Bundle.steD A s' s'.heap := by rw [hhp]; exact vx_Zq.moved hW0.alike (hU.kept hS.2.1)
  have hN' : vx_Zq Bundle.tN "SUPPRESSED_SENTINEL" Bundle.listD A s' s'.heap := by rw [hhp]; exact vx_Zq.moved hW0.alike (hN.kept hS.2.1)
  have h : ∀ w ∈ Bundle.ownAtoms0 own ic cls names, w.before args s' = true := vx_own hat' (vx_isRefq hU'.1) (vx_isRefq hN'.1) hU'.2.word hN'.2.word
  have hown' : s'.vm.findClass own = some m.cls := by rw [hvm]; exact hown
  have hins : (Cond.instantiable cls 6).before args s' = true := h _ (by simp [Bundle.ownAtoms0])
  obtain ⟨vm₁, cX, kX, hfX, hkX, -, -, X₁, st1⟩ := Y.newCold hexec (own := own) (C := cls) (index := ik) (n := 6) hown' hk' hins hini'
    (g := F0 m pc ls rest) rfl (by rw [hb]; exact d0) (Nat.le_refl _) (Nat.le_refl _)
  generalize hT1 : (T.setVm vm₁).pushCell { cls := cX, slots := kX.instanceTypes.map defaultValue, vm := .none } = T1 at X₁ st1
  have hcat : (Value.ref T.heap.size).category = 1 := rfl
  have hcellA : T1.heap[T.heap.size]? = some (freshCell cX kX) := by rw [← hT1]; exact State.heap_pushCell_size _ _
  have d3' : decode c.code (pc + 3) = .ok (.dup, 1) := by rw [hb]; exact d3
  obtain ⟨U, hsteps, hrun, hend, hW, hsame, ce, hce, hO⟩ := X₁.ctorThrow0 hexec htr (own := own) (cls := cls) (names := names) (ic := ic) hown' hcls hnames h (fun x hx => nomatch hx) hfX hkX hcellA (by rw [hhp, hT]; exact Nat.le_refl _)
    (g := { method := m, pc := pc + 4, locals := ls, stack := .ref T.heap.size :: .ref T.heap.size :: rest, locked := none }) rfl hsize rfl rfl (rest := rest) rfl
    (by rw [hb]; exact d4) (by rw [hb]; exact d7) hout hRframes (by simp only [List.map_cons, List.sum_cons, hcat]; omega) hlocks
  obtain ⟨f1, f2⟩ := vx_frame hsame
  rw [hhp] at f1 f2
  have hWs : s.WarmedH U.vm := State.WarmedH.trans hW0 hW
  have hcl : s.vm.findClass cls = some ce.cls := by
    have h9 := hO.cls
    rw [hvm] at h9
    exact h9
  have hall : s.sameButNew ({ U with vm := s.vm } : State) locs mc ms := by
    subst hA
    obtain ⟨e1, e2⟩ := hsame
    rw [State.setFrames_setFrames] at e1
    have h2 : (T.setVm s.vm).sameButNew ({ U with vm := s.vm } : State) [] (0 + 1) (0 + 6) := ⟨e1, e2⟩
    have h3 := X.same.trans h2
    rw [List.append_nil] at h3
    exact h3.mono hc hs
  refine ⟨U, ?_, .threw T.heap.size, hrun, hend, Or.inr ⟨T.heap.size, rfl, cls, ce, locs, hx U hWs.alike f1 (fun q hq => f2 q hq (fun z hz => nomatch hz)), hce, hO.vm, hcl, hWs, hall, hf⟩⟩
  refine st1 _ ?_
  show Steps p.tables e below (T1.setTop { method := m, pc := pc + 3, locals := ls, stack := .ref T.heap.size :: rest, locked := none }) _
  jvm_step X₁.here [X₁.here.top, hexec, d3', Value.category]
  exact hsteps
/-- 'throw new E("text")': new; dup; ldc; invokespecial; athrow -/
theorem vx_throwS {cc : ByteArray} {pc : Nat} (hexec : p.tables.exec = Jvm.exec) (hb : c.code = cc) (hl : l.stackTraces = false) {own cls text : String} {names : List String} {ik is ic mc ms sa : Nat} {A : Nat → Prop}
    (hown : s.vm.findClass own = some m.cls) (hcls : Bundle.fit cls = true) (hnames : ∀ n ∈ names, Bundle.fit n = true)
    (hk : (Cond.classLink own ik cls).before args s = true) (hini : (Cond.initialized cls).before args s = true) (hstr : vk_R own is text sa s) (hat : ∀ w ∈ vx_atS own ic cls names, w.before args s = true)
    (hgood : ∀ w ∈ Cond.classLink own ik cls :: Cond.initialized cls :: vx_atS own ic cls names, vx_ot w = true)
    (hU : vx_Zq Bundle.tN "UNASSIGNED_STACK" Bundle.steD A s s.heap) (hN : vx_Zq Bundle.tN "SUPPRESSED_SENTINEL" Bundle.listD A s s.heap) (hS : va_S A s.heap H locs) (hsize : ls.size = c.maxLocals)
    (d0 : decode cc pc = .ok (.new ik, 3)) (d3 : decode cc (pc + 3) = .ok (.dup, 1)) (d4 : decode cc (pc + 4) = .ok (.ldc is, 2)) (d6 : decode cc (pc + 6) = .ok (.invokespecial ic, 3)) (d9 : decode cc (pc + 9) = .ok (.athrow, 1))
    (hout : ∀ x ∈ c.exceptionTable.toList, covers x (pc + 9) = false)
    (hRframes : names.length + 3 < R.frames) (hRlocals : (rest.map fun v => v.category).sum + (13 * (names.length + 1) + 43) ≤ R.locals) (hRcells : cells + 1 ≤ R.cells) (hRslots : slots + 6 ≤ R.slots) (hlocks : meth.locks = false)
    (hx : ∀ t : State, s.vm.Alike t.vm → H.size ≤ t.heap.size → (∀ q : Nat, q < H.size → t.heap[q]? = H[q]?) → XC cls s t)
    (hf : ∀ z ∈ locs, free z.base) (hc : cells + 1 ≤ mc) (hs : slots + 6 ≤ ms) :
    W p l e R s m args below meth c H locs cells slots (vx_MQ below Qc XC args s mc ms free) (F0 m pc ls rest) := by
  intro T hT X
  have htr : e.platform.stackTraces = false := (show e.platform.stackTraces = l.stackTraces by rw [X.admits.platform]).trans hl
  have Y := vx_rebase X (R' := { frames := R.frames, locals := R.locals, cells := 1, slots := 6 }) (Nat.le_refl _) (Nat.le_refl _) hRcells hRslots
  obtain ⟨s', hA⟩ : ∃ z, z = (T.setVm s.vm).setFrames (.invoking m args :: below) := ⟨_, rfl⟩
  rw [← hA] at Y
  have hvm : s'.vm = s.vm := by rw [hA]; rfl
  have hhp : s'.heap = H := by rw [hA]; exact hT
  have hW0 : s.WarmedH s'.vm := by rw [hvm]; exact State.WarmedH.refl s
  have hat' : ∀ w ∈ vx_atS own ic cls names, w.before args s' = true := fun w hw => vx_ot_at hW0 hvm.symm (hgood w (List.mem_cons_of_mem _ (List.mem_cons_of_mem _ hw))) (hat w hw)
  have hk' : (Cond.classLink own ik cls).before args s' = true := vx_ot_at hW0 hvm.symm (hgood _ List.mem_cons_self) hk
  have hini' : (Cond.initialized cls).before args s' = true := vx_ot_at hW0 hvm.symm (hgood _ (List.mem_cons_of_mem _ List.mem_cons_self)) hini
  have hU' : vx_Zq Bundle.tN "UNASSIGNED_STACK" Bundle.steD A s' s'.heap := by rw [hhp]; exact vx_Zq.moved hW0.alike (hU.kept hS.2.1)
  have hN' : vx_Zq Bundle.tN "SUPPRESSED_SENTINEL" Bundle.listD A s' s'.heap := by rw [hhp]; exact vx_Zq.moved hW0.alike (hN.kept hS.2.1)
  have h : ∀ w ∈ Bundle.ownAtoms own ic cls names, w.before args s' = true := vx_own hat' (vx_isRefq hU'.1) (vx_isRefq hN'.1) hU'.2.word hN'.2.word
  have hown' : s'.vm.findClass own = some m.cls := by rw [hvm]; exact hown
  have hins : (Cond.instantiable cls 6).before args s' = true := h _ (by simp [Bundle.ownAtoms])
  obtain ⟨vm₁, cX, kX, hfX, hkX, -, -, X₁, st1⟩ := Y.newCold hexec (own := own) (C := cls) (index := ik) (n := 6) hown' hk' hins hini'
    (g := F0 m pc ls rest) rfl (by rw [hb]; exact d0) (Nat.le_refl _) (Nat.le_refl _)
  generalize hT1 : (T.setVm vm₁).pushCell { cls := cX, slots := kX.instanceTypes.map defaultValue, vm := .none } = T1 at X₁ st1
  have hcat : (Value.ref T.heap.size).category = 1 := rfl
  have hcellA : T1.heap[T.heap.size]? = some (freshCell cX kX) := by rw [← hT1]; exact State.heap_pushCell_size _ _
  have d3' : decode c.code (pc + 3) = .ok (.dup, 1) := by rw [hb]; exact d3
  have d4' : decode c.code (pc + 4) = .ok (.ldc is, 2) := by rw [hb]; exact d4
  have hstr' : vk_R own is text sa s' := vk_R.warm hW0 hstr
  obtain ⟨U, hsteps, hrun, hend, hW, hsame, ce, hce, hO⟩ := X₁.ctorThrowS hexec htr (own := own) (cls := cls) (names := names) (ic := ic) hown' hcls hnames h (fun x hx => nomatch hx) hfX hkX hcellA (by rw [hhp, hT]; exact Nat.le_refl _) (msg := .ref sa) rfl
    (g := { method := m, pc := pc + 6, locals := ls, stack := .ref sa :: .ref T.heap.size :: .ref T.heap.size :: rest, locked := none }) rfl hsize rfl rfl (rest := rest) rfl
    (by rw [hb]; exact d6) (by rw [hb]; exact d9) hout hRframes (by simp only [List.map_cons, List.sum_cons, hcat]; omega) hlocks
  obtain ⟨f1, f2⟩ := vx_frame hsame
  rw [hhp] at f1 f2
  have hWs : s.WarmedH U.vm := State.WarmedH.trans hW0 hW
  have hcl : s.vm.findClass cls = some ce.cls := by
    have h9 := hO.cls
    rw [hvm] at h9
    exact h9
  have hall : s.sameButNew ({ U with vm := s.vm } : State) locs mc ms := by
    subst hA
    obtain ⟨e1, e2⟩ := hsame
    rw [State.setFrames_setFrames] at e1
    have h2 : (T.setVm s.vm).sameButNew ({ U with vm := s.vm } : State) [] (0 + 1) (0 + 6) := ⟨e1, e2⟩
    have h3 := X.same.trans h2
    rw [List.append_nil] at h3
    exact h3.mono hc hs
  refine ⟨U, ?_, .threw T.heap.size, hrun, hend, Or.inr ⟨T.heap.size, rfl, cls, ce, locs, hx U hWs.alike f1 (fun q hq => f2 q hq (fun z hz => nomatch hz)), hce, hO.vm, hcl, hWs, hall, hf⟩⟩
  refine st1 _ ?_
  show Steps p.tables e below (T1.setTop { method := m, pc := pc + 3, locals := ls, stack := .ref T.heap.size :: rest, locked := none }) _
  jvm_step X₁.here [X₁.here.top, hexec, d3', Value.category]
  exact X₁.ldcString hexec (own := own) (text := text) (index := is) (a := sa) hown' hstr'.1 hstr'.2
    (g := { method := m, pc := pc + 4, locals := ls, stack := .ref T.heap.size :: .ref T.heap.size :: rest, locked := none }) rfl d4' _ hsteps
/-- 'throw new E("text")', the text by a wide index -/
theorem vx_throwSW {cc : ByteArray} {pc : Nat} (hexec : p.tables.exec = Jvm.exec) (hb : c.code = cc) (hl : l.stackTraces = false) {own cls text : String} {names : List String} {ik is ic mc ms sa : Nat} {A : Nat → Prop}
    (hown : s.vm.findClass own = some m.cls) (hcls : Bundle.fit cls = true) (hnames : ∀ n ∈ names, Bundle.fit n = true)
    (hk : (Cond.classLink own ik cls).before args s = true) (hini : (Cond.initialized cls).before args s = true) (hstr : vk_R own is text sa s) (hat : ∀ w ∈ vx_atS own ic cls names, w.before args s = true)
    (hgood : ∀ w ∈ Cond.classLink own ik cls :: Cond.initialized cls :: vx_atS own ic cls names, vx_ot w = true)
    (hU : vx_Zq Bundle.tN "UNASSIGNED_STACK" Bundle.steD A s s.heap) (hN : vx_Zq Bundle.tN "SUPPRESSED_SENTINEL" Bundle.listD A s s.heap) (hS : va_S A s.heap H locs) (hsize : ls.size = c.maxLocals)
    (d0 : decode cc pc = .ok (.new ik, 3)) (d3 : decode cc (pc + 3) = .ok (.dup, 1)) (d4 : decode cc (pc + 4) = .ok (.ldc_w is, 3)) (d7 : decode cc (pc + 7) = .ok (.invokespecial ic, 3)) (d10 : decode cc (pc + 10) = .ok (.athrow, 1))
    (hout : ∀ x ∈ c.exceptionTable.toList, covers x (pc + 10) = false)
    (hRframes : names.length + 3 < R.frames) (hRlocals : (rest.map fun v => v.category).sum + (13 * (names.length + 1) + 43) ≤ R.locals) (hRcells : cells + 1 ≤ R.cells) (hRslots : slots + 6 ≤ R.slots) (hlocks : meth.locks = false)
    (hx : ∀ t : State, s.vm.Alike t.vm → H.size ≤ t.heap.size → (∀ q : Nat, q < H.size → t.heap[q]? = H[q]?) → XC cls s t)
    (hf : ∀ z ∈ locs, free z.base) (hc : cells + 1 ≤ mc) (hs : slots + 6 ≤ ms) :
    W p l e R s m args below meth c H locs cells slots (vx_MQ below Qc XC args s mc ms free) (F0 m pc ls rest) := by
  intro T hT X
  have htr : e.platform.stackTraces = false := (show e.platform.stackTraces = l.stackTraces by rw [X.admits.platform]).trans hl
  have Y := vx_rebase X (R' := { frames := R.frames, locals := R.locals, cells := 1, slots := 6 }) (Nat.le_refl _) (Nat.le_refl _) hRcells hRslots
  obtain ⟨s', hA⟩ : ∃ z, z = (T.setVm s.vm).setFrames (.invoking m args :: below) := ⟨_, rfl⟩
  rw [← hA] at Y
  have hvm : s'.vm = s.vm := by rw [hA]; rfl
  have hhp : s'.heap = H := by rw [hA]; exact hT
  have hW0 : s.WarmedH s'.vm := by rw [hvm]; exact State.WarmedH.refl s
  have hat' : ∀ w ∈ vx_atS own ic cls names, w.before args s' = true := fun w hw => vx_ot_at hW0 hvm.symm (hgood w (List.mem_cons_of_mem _ (List.mem_cons_of_mem _ hw))) (hat w hw)
  have hk' : (Cond.classLink own ik cls).before args s' = true := vx_ot_at hW0 hvm.symm (hgood _ List.mem_cons_self) hk
  have hini' : (Cond.initialized cls).before args s' = true := vx_ot_at hW0 hvm.symm (hgood _ (List.mem_cons_of_mem _ List.mem_cons_self)) hini
  have hU' : vx_Zq Bundle.tN "UNASSIGNED_STACK" Bundle.steD A s' s'.heap := by rw [hhp]; exact vx_Zq.moved hW0.alike (hU.kept hS.2.1)
  have hN' : vx_Zq Bundle.tN "SUPPRESSED_SENTINEL" Bundle.listD A s' s'.heap := by rw [hhp]; exact vx_Zq.moved hW0.alike (hN.kept hS.2.1)
  have h : ∀ w ∈ Bundle.ownAtoms own ic cls names, w.before args s' = true := vx_own hat' (vx_isRefq hU'.1) (vx_isRefq hN'.1) hU'.2.word hN'.2.word
  have hown' : s'.vm.findClass own = some m.cls := by rw [hvm]; exact hown
  have hins : (Cond.instantiable cls 6).before args s' = true := h _ (by simp [Bundle.ownAtoms])
  obtain ⟨vm₁, cX, kX, hfX, hkX, -, -, X₁, st1⟩ := Y.newCold hexec (own := own) (C := cls) (index := ik) (n := 6) hown' hk' hins hini'
    (g := F0 m pc ls rest) rfl (by rw [hb]; exact d0) (Nat.le_refl _) (Nat.le_refl _)
  generalize hT1 : (T.setVm vm₁).pushCell { cls := cX, slots := kX.instanceTypes.map defaultValue, vm := .none } = T1 at X₁ st1
  have hcat : (Value.ref T.heap.size).category = 1 := rfl
  have hcellA : T1.heap[T.heap.size]? = some (freshCell cX kX) := by rw [← hT1]; exact State.heap_pushCell_size _ _
  have d3' : decode c.code (pc + 3) = .ok (.dup, 1) := by rw [hb]; exact d3
  have d4' : decode c.code (pc + 4) = .ok (.ldc_w is, 3) := by rw [hb]; exact d4
  have hstr' : vk_R own is text sa s' := vk_R.warm hW0 hstr
  obtain ⟨U, hsteps, hrun, hend, hW, hsame, ce, hce, hO⟩ := X₁.ctorThrowS hexec htr (own := own) (cls := cls) (names := names) (ic := ic) hown' hcls hnames h (fun x hx => nomatch hx) hfX hkX hcellA (by rw [hhp, hT]; exact Nat.le_refl _) (msg := .ref sa) rfl
    (g := { method := m, pc := pc + 7, locals := ls, stack := .ref sa :: .ref T.heap.size :: .ref T.heap.size :: rest, locked := none }) rfl hsize rfl rfl (rest := rest) rfl
    (by rw [hb]; exact d7) (by rw [hb]; exact d10) hout hRframes (by simp only [List.map_cons, List.sum_cons, hcat]; omega) hlocks
  obtain ⟨f1, f2⟩ := vx_frame hsame
  rw [hhp] at f1 f2
  have hWs : s.WarmedH U.vm := State.WarmedH.trans hW0 hW
  have hcl : s.vm.findClass cls = some ce.cls := by
    have h9 := hO.cls
    rw [hvm] at h9
    exact h9
  have hall : s.sameButNew ({ U with vm := s.vm } : State) locs mc ms := by
    subst hA
    obtain ⟨e1, e2⟩ := hsame
    rw [State.setFrames_setFrames] at e1
    have h2 : (T.setVm s.vm).sameButNew ({ U with vm := s.vm } : State) [] (0 + 1) (0 + 6) := ⟨e1, e2⟩
    have h3 := X.same.trans h2
    rw [List.append_nil] at h3
    exact h3.mono hc hs
  refine ⟨U, ?_, .threw T.heap.size, hrun, hend, Or.inr ⟨T.heap.size, rfl, cls, ce, locs, hx U hWs.alike f1 (fun q hq => f2 q hq (fun z hz => nomatch hz)), hce, hO.vm, hcl, hWs, hall, hf⟩⟩
  refine st1 _ ?_
  show Steps p.tables e below (T1.setTop { method := m, pc := pc + 3, locals := ls, stack := .ref T.heap.size :: rest, locked := none }) _
  jvm_step X₁.here [X₁.here.top, hexec, d3', Value.category]
  exact X₁.ldcStringW hexec (own := own) (text := text) (index := is) (a := sa) hown' hstr'.1 hstr'.2
    (g := { method := m, pc := pc + 4, locals := ls, stack := .ref T.heap.size :: .ref T.heap.size :: rest, locked := none }) rfl d4' _ hsteps
end Ends
section Bodies
variable {l : Launch}
theorem vx_ofW {y : MethodName} {ws ws' : List Cond} {rm : Room} {Pc : Array Value → State → Prop} {Qc : Array Value → State → Outcome → State → Prop} {XC : String → State → State → Prop} {mc ms : Nat} {free : Addr → Prop} {cc : ByteArray} {maxL : Nat} {ret : Option FieldType}
    (hy : plainName y.cls = true) (hw : ws = Cond.code y cc maxL ret :: ws')
    (body : ∀ p e s m args below meth c s₁, BodyLoose p l y (headSpec ws rm) cc maxL ret e s m args below meth c s₁ → c.maxLocals = maxL → (∀ x ∈ c.exceptionTable.toList, False) → Pc args s →
      W p l e (headSpec ws rm).room s m args below meth c s.heap [] 0 0 (vx_MQ below Qc XC args s mc ms free) (entryFrame m args maxL)) : vx_Met l y ws rm Pc Qc XC mc ms free := by
  refine MetFree.of_bodyS (code := cc) (maxLocals := maxL) (ret := ret) hy ?_ ?_
  · intro args s m h hn
    obtain ⟨meth, c, h1, h2, h3, h4, h5, h6, -, -⟩ := Cond.code_spec hn (atoms_spec (ws := ws) h _ (by rw [hw]; exact List.mem_cons_self))
    exact ⟨meth, c, h1, h2, h3, h4, h5, h6⟩
  · intro p e s m args below meth c s₁ B hml hP _
    have hh0 : s₁.heap = s.heap := by rw [B.state]; rfl
    have ht : ∀ x ∈ c.exceptionTable.toList, False := by
      obtain ⟨meth9, c9, h1, h2, -, -, -, -, h7, -⟩ := Cond.code_spec B.named (atoms_spec (ws := ws) B.pre _ (by rw [hw]; exact List.mem_cons_self))
      cases Option.some.inj (h1.symm.trans B.method)
      cases Option.some.inj (h2.symm.trans (Stand.of_body B).code)
      intro x hx
      rw [Array.isEmpty_iff.mp h7] at hx
      cases hx
    obtain ⟨t, a1, o, b1, b2, b3⟩ := body p e s m args below meth c s₁ B hml ht hP s₁ hh0 (Stand.of_body B)
    exact ⟨t, o, a1, b1, b2, b3⟩
/-- the table of a body with handlers -/
theorem vx_table {p : Program} {x y : MethodName} {S : Spec} {cc bytes : ByteArray} {maxL maxL' : Nat} {ret ret' : Option FieldType} {e : Env} {s s₁ : State} {m : MethodId} {args : Array Value} {below : List Frame} {meth : Method} {c : Code} {hh : List (Nat × Nat × Nat × Nat)}
    (B : BodyLoose p l y S cc maxL ret e s m args below meth c s₁) (h : (Cond.codeWith y bytes maxL' ret' hh).before args s = true) : c.exceptionTable.toList = tableOf hh := by
  obtain ⟨m9, meth9, c9, hn9, h1, h2, -, -, h6, -⟩ := Cond.codeWith_spec h
  cases Option.some.inj (hn9.symm.trans B.named)
  cases Option.some.inj (h1.symm.trans B.method)
  cases Option.some.inj (h2.symm.trans (Stand.of_body B).code)
  rw [← h6, table_eq]
end Bodies
end VXA
/-! ===== END ===== -/
end
section
/-! numbers for what the system has: kinds, fields, methods (by program) -/
abbrev Rho : Type := Nat → Int
abbrev Mem : Type := Int → Int → Int
/-- references, numbers, (next, exact, cells, slots) -/
abbrev Sto : Type := Mem × Mem × Int × Int × Nat × Nat
/-- addresses, kinds, slots, base -/
abbrev Geo : Type := (Int → Nat) × (Nat → ClassId) × (Nat → Nat → Nat) × Nat
def enc (al : Int → Nat) (t : Nat) (v : Int) : Value := if t = 1 then .long (Int64.ofInt v) else if t = 2 then (if v = 0 then .null else .ref (al v)) else .int (Int32.ofInt v)
def okv (t : Nat) (v : Int) : Prop := if t = 1 then inL v else if t = 2 then True else if t = 3 then 0 ≤ v ∧ v ≤ 1 else if t = 4 then 0 ≤ v ∧ v < 65536 else inI v
def tyOK (t : Nat) (ft : FieldType) : Prop := ∀ (al : Int → Nat) (v : Int), okv t v → narrow ft (enc al t v) = enc al t v ∧ fits ft (enc al t v) = true
theorem okv_I {t : Nat} {v : Int} (h1 : t ≠ 1) (h2 : t ≠ 2) (h : okv t v) : inI v := by
  unfold okv at h
  rw [if_neg h1, if_neg h2] at h
  unfold inI at *
  split at h
  · omega
  · split at h
    · omega
    · exact h
theorem enc_I {t : Nat} (al : Int → Nat) (v : Int) (h1 : t ≠ 1) (h2 : t ≠ 2) : enc al t v = .int (Int32.ofInt v) := by
  unfold enc; rw [if_neg h1, if_neg h2]
theorem enc_0 (al : Int → Nat) (v : Int) : enc al 0 v = .int (Int32.ofInt v) := rfl
theorem enc_1 (al : Int → Nat) (v : Int) : enc al 1 v = .long (Int64.ofInt v) := rfl
theorem enc_2 (al : Int → Nat) {v : Int} (h : v ≠ 0) : enc al 2 v = .ref (al v) := by unfold enc; simp [h]
theorem tyOK_0 : tyOK 0 .int := fun al v h => ⟨rfl, rfl⟩
theorem tyOK_1 : tyOK 1 .long := fun al v h => ⟨rfl, rfl⟩
theorem tyOK_2o (C : String) : tyOK 2 (.object C) := fun al v h => by
  by_cases hv : v = 0 <;> simp [enc, hv, narrow, fits]
theorem tyOK_2a (C : FieldType) : tyOK 2 (.array C) := fun al v h => by
  by_cases hv : v = 0 <;> simp [enc, hv, narrow, fits]
theorem tyOK_3 : tyOK 3 .boolean := fun al v h => by
  have h : 0 ≤ v ∧ v ≤ 1 := h
  have h2 : v = 0 ∨ v = 1 := by omega
  rcases h2 with rfl | rfl <;> exact ⟨rfl, rfl⟩
def isNest : Cond → Bool
  | .methodLinkNest _ _ _ _ => true
  | .arrayOver (.object _) => true
  | _ => false
def gTbl : List Cond := lw_tbl.filter (fun w => goodWord w || isNest w)
theorem lwt {w : Cond} (i : Nat) (h : tables_1[i]? = some w) : w ∈ lw_tbl := List.mem_append_right _ (List.mem_of_getElem? h)
theorem gwt {w : Cond} (i : Nat) (h : tables_1[i]? = some w) (hg : goodWord w = true) : w ∈ gTbl := List.mem_filter.mpr ⟨lwt i h, by rw [hg]; rfl⟩
theorem gw1 {w : Cond} (i : Nat) (h : tables_1_1[i]? = some w) (hg : goodWord w = true) : w ∈ gTbl := List.mem_filter.mpr ⟨List.mem_append_right _ (List.mem_append_left _ (List.mem_of_getElem? h)), by rw [hg]; rfl⟩
theorem gw2 {w : Cond} (i : Nat) (h : tables_1_2[i]? = some w) (hg : goodWord w = true) : w ∈ gTbl := List.mem_filter.mpr ⟨List.mem_append_right _ (List.mem_append_right _ (List.mem_append_left _ (List.mem_of_getElem? h))), by rw [hg]; rfl⟩
theorem gw3 {w : Cond} (i : Nat) (h : tables_1_3[i]? = some w) (hg : goodWord w = true) : w ∈ gTbl := List.mem_filter.mpr ⟨List.mem_append_right _ (List.mem_append_right _ (List.mem_append_right _ (List.mem_append_left _ (List.mem_of_getElem? h)))), by rw [hg]; rfl⟩
theorem gw4 {w : Cond} (i : Nat) (h : tables_1_4[i]? = some w) (hg : goodWord w = true) : w ∈ gTbl := List.mem_filter.mpr ⟨List.mem_append_right _ (List.mem_append_right _ (List.mem_append_right _ (List.mem_append_right _ (List.mem_append_left _ (List.mem_of_getElem? h))))), by rw [hg]; rfl⟩
theorem gw5 {w : Cond} (i : Nat) (h : tables_1_5[i]? = some w) (hg : goodWord w = true) : w ∈ gTbl := List.mem_filter.mpr ⟨List.mem_append_right _ (List.mem_append_right _ (List.mem_append_right _ (List.mem_append_right _ (List.mem_append_right _ (List.mem_append_left _ (List.mem_of_getElem? h)))))), by rw [hg]; rfl⟩
theorem gw6 {w : Cond} (i : Nat) (h : tables_1_6[i]? = some w) (hg : goodWord w = true) : w ∈ gTbl := List.mem_filter.mpr ⟨List.mem_append_right _ (List.mem_append_right _ (List.mem_append_right _ (List.mem_append_right _ (List.mem_append_right _ (List.mem_append_right _ (List.mem_append_left _ (List.mem_of_getElem? h))))))), by rw [hg]; rfl⟩
theorem gw7 {w : Cond} (i : Nat) (h : tables_1_7[i]? = some w) (hg : goodWord w = true) : w ∈ gTbl := List.mem_filter.mpr ⟨List.mem_append_right _ (List.mem_append_right _ (List.mem_append_right _ (List.mem_append_right _ (List.mem_append_right _ (List.mem_append_right _ (List.mem_append_right _ (List.mem_append_left _ (List.mem_of_getElem? h)))))))), by rw [hg]; rfl⟩
theorem gw8 {w : Cond} (i : Nat) (h : tables_1_8[i]? = some w) (hg : goodWord w = true) : w ∈ gTbl := List.mem_filter.mpr ⟨List.mem_append_right _ (List.mem_append_right _ (List.mem_append_right _ (List.mem_append_right _ (List.mem_append_right _ (List.mem_append_right _ (List.mem_append_right _ (List.mem_append_right _ (List.mem_append_left _ (List.mem_of_getElem? h))))))))), by rw [hg]; rfl⟩
theorem gw9 {w : Cond} (i : Nat) (h : tables_1_9[i]? = some w) (hg : goodWord w = true) : w ∈ gTbl := List.mem_filter.mpr ⟨List.mem_append_right _ (List.mem_append_right _ (List.mem_append_right _ (List.mem_append_right _ (List.mem_append_right _ (List.mem_append_right _ (List.mem_append_right _ (List.mem_append_right _ (List.mem_append_right _ (List.mem_of_getElem? h))))))))), by rw [hg]; rfl⟩
theorem gwn {w : Cond} (i : Nat) (h : tables_1[i]? = some w) (hg : isNest w = true) : w ∈ gTbl := List.mem_filter.mpr ⟨lwt i h, by rw [hg]; simp⟩
theorem gwp {q : MethodName × Nat} (i : Nat) (h : lw_privs[i]? = some q) : Cond.selects q.1.cls q.1 q.1 ∈ gTbl :=
  List.mem_filter.mpr ⟨List.mem_append_left _ (List.mem_map.mpr ⟨q, List.mem_of_getElem? h, rfl⟩), rfl⟩
theorem gt_of {args : Array Value} {s : State} (h : ∀ w ∈ lw_tbl, w.before args s = true) : ∀ w ∈ gTbl, w.before args s = true := fun w hw => h w (List.mem_filter.mp hw).1
theorem gt_pay {args : Array Value} {s : State} (h : ∀ w ∈ gTbl, w.before args s = true) : ∀ w ∈ gTbl, ∀ (a' : Array Value) (U : State), s.WarmedH U.vm → w.before a' U = true := by
  intro w hw a' U hW
  have h1 := (List.mem_filter.mp hw).2
  have h2 := h w hw
  rcases Bool.or_eq_true_iff.mp h1 with hg | hg
  · exact word_at hW (good_of_word hg) h2
  · cases w
    case methodLinkNest => exact va_tabs rfl (rfl : (s.setVm U.vm).vm = U.vm) (Cond.methodLinkNest_warmed (args := a') hW (va_tabs rfl rfl h2))
    case arrayOver t =>
      cases t
      case object C => exact (va_AO.moved hW.alike h2 : (Cond.arrayOver (.object C)).before #[] U = true)
      all_goals exact absurd hg Bool.false_ne_true
    all_goals exact absurd hg Bool.false_ne_true
def kCl : List String := ["", "HotThrough", "HotThrough$Text", "HotThrough$Rule", "HotThrough$Kitchen", "HotThrough$State", "HotThrough$Carrier", "HotThrough$Acts", "HotThrough$Paths", "HotThrough$Rester", "HotThrough$Line", "HotThrough$Dishes", "HotThrough$Marks", "HotThroughModel", "", "", "", "", "", "HotThroughLaw", "java/lang/Math", "java/lang/Integer", "java/lang/String"]
def kC (k : Nat) : String := kCl.getD (k % 100) ""
def kF1 : List (String × String × String × Bool) := [("HotThrough", "text", "LHotThrough$Text;", true), ("HotThrough", "rule", "LHotThrough$Rule;", true), ("HotThrough", "kitchen", "LHotThrough$Kitchen;", true), ("HotThrough", "state", "LHotThrough$State;", true), ("HotThrough", "carrier", "LHotThrough$Carrier;", true), ("HotThrough", "acts", "LHotThrough$Acts;", true), ("HotThrough", "paths", "LHotThrough$Paths;", true), ("HotThrough", "rester", "LHotThrough$Rester;", true), ("HotThrough", "line", "LHotThrough$Line;", true), ("HotThrough", "dishes", "LHotThrough$Dishes;", true), ("HotThrough", "marks", "LHotThrough$Marks;", true), ("HotThrough", "kept", "[LHotThrough$State;", true), ("HotThrough", "keptBits", "I", false), ("HotThrough", "numbers", "[J", true), ("HotThrough", "told", "I", false)]
def kE1 : List Nat := [2, 2, 2, 2, 2, 2, 2, 2, 2, 2, 2, 2, 0, 2, 0]
def kT1 : List FieldType := [(.object "HotThrough$Text"), (.object "HotThrough$Rule"), (.object "HotThrough$Kitchen"), (.object "HotThrough$State"), (.object "HotThrough$Carrier"), (.object "HotThrough$Acts"), (.object "HotThrough$Paths"), (.object "HotThrough$Rester"), (.object "HotThrough$Line"), (.object "HotThrough$Dishes"), (.object "HotThrough$Marks"), (.array (.object "HotThrough$State")), .int, (.array .long), .int]
def kF2 : List (String × String × String × Bool) := [("HotThrough$Text", "signs", "[C", true), ("HotThrough$Text", "length", "I", false), ("HotThrough$Text", "limit", "I", false), ("HotThrough$Text", "over", "Z", false), ("HotThrough$Text", "at", "I", false), ("HotThrough$Text", "failed", "Z", false)]
def kE2 : List Nat := [2, 0, 0, 3, 0, 3]
def kT2 : List FieldType := [(.array .char), .int, .int, .boolean, .int, .boolean]
def kF3 : List (String × String × String × Bool) := [("HotThrough$Rule", "code", "[I", true), ("HotThrough$Rule", "size", "I", false), ("HotThrough$Rule", "draft", "[I", true), ("HotThrough$Rule", "drafted", "I", false), ("HotThrough$Rule", "stack", "[I", true)]
def kE3 : List Nat := [2, 0, 2, 0, 2]
def kT3 : List FieldType := [(.array .int), .int, (.array .int), .int, (.array .int)]
def kF4 : List (String × String × String × Bool) := [("HotThrough$Kitchen", "places", "I", false), ("HotThrough$Kitchen", "ways", "I", false), ("HotThrough$Kitchen", "pots", "I", false), ("HotThrough$Kitchen", "people", "I", false), ("HotThrough$Kitchen", "kinds", "[I", true), ("HotThrough$Kitchen", "ones", "[I", true), ("HotThrough$Kitchen", "others", "[I", true), ("HotThrough$Kitchen", "steps", "[I", true), ("HotThrough$Kitchen", "doored", "I", false), ("HotThrough$Kitchen", "cools", "[I", true), ("HotThrough$Kitchen", "bears", "[I", true)]
def kE4 : List Nat := [0, 0, 0, 0, 2, 2, 2, 2, 0, 2, 2]
def kT4 : List FieldType := [.int, .int, .int, .int, (.array .int), (.array .int), (.array .int), (.array .int), .int, (.array .int), (.array .int)]
def kF5 : List (String × String × String × Bool) := [("HotThrough$State", "heat", "[I", true), ("HotThrough$State", "lies", "[I", true), ("HotThrough$State", "holder", "[I", true), ("HotThrough$State", "dropped", "I", false), ("HotThrough$State", "at", "[I", true), ("HotThrough$State", "warm", "[I", true), ("HotThrough$State", "hand", "[I", true), ("HotThrough$State", "fold", "[I", true), ("HotThrough$State", "load", "[I", true), ("HotThrough$State", "burnt", "[I", true), ("HotThrough$State", "open", "I", false), ("HotThrough$State", "now", "I", false)]
def kE5 : List Nat := [2, 2, 2, 0, 2, 2, 2, 2, 2, 2, 0, 0]
def kT5 : List FieldType := [(.array .int), (.array .int), (.array .int), .int, (.array .int), (.array .int), (.array .int), (.array .int), (.array .int), (.array .int), .int, .int]
def kF6 : List (String × String × String × Bool) := [("HotThrough$Carrier", "kitchen", "LHotThrough$Kitchen;", true), ("HotThrough$Carrier", "state", "LHotThrough$State;", true), ("HotThrough$Carrier", "rule", "LHotThrough$Rule;", true), ("HotThrough$Carrier", "person", "I", false), ("HotThrough$Carrier", "pot", "I", false), ("HotThrough$Carrier", "bears", "I", false), ("HotThrough$Carrier", "fold", "I", false), ("HotThrough$Carrier", "hand", "I", false), ("HotThrough$Carrier", "warm", "I", false), ("HotThrough$Carrier", "other", "I", false), ("HotThrough$Carrier", "heat", "I", false), ("HotThrough$Carrier", "cools", "I", false), ("HotThrough$Carrier", "now", "I", false)]
def kE6 : List Nat := [2, 2, 2, 0, 0, 0, 0, 0, 0, 0, 0, 0, 0]
def kT6 : List FieldType := [(.object "HotThrough$Kitchen"), (.object "HotThrough$State"), (.object "HotThrough$Rule"), .int, .int, .int, .int, .int, .int, .int, .int, .int, .int]
def kF7 : List (String × String × String × Bool) := [("HotThrough$Acts", "kitchen", "LHotThrough$Kitchen;", true), ("HotThrough$Acts", "state", "LHotThrough$State;", true), ("HotThrough$Acts", "rule", "LHotThrough$Rule;", true), ("HotThrough$Acts", "carrier", "LHotThrough$Carrier;", true), ("HotThrough$Acts", "burnings", "I", false), ("HotThrough$Acts", "who", "I", false), ("HotThrough$Acts", "fallen", "I", false), ("HotThrough$Acts", "before", "[LHotThrough$State;", true), ("HotThrough$Acts", "oldest", "I", false), ("HotThrough$Acts", "undoable", "I", false), ("HotThrough$Acts", "letters", "[I", true), ("HotThrough$Acts", "firsts", "[I", true), ("HotThrough$Acts", "others", "[I", true)]
def kE7 : List Nat := [2, 2, 2, 2, 0, 0, 0, 2, 0, 0, 2, 2, 2]
def kT7 : List FieldType := [(.object "HotThrough$Kitchen"), (.object "HotThrough$State"), (.object "HotThrough$Rule"), (.object "HotThrough$Carrier"), .int, .int, .int, (.array (.object "HotThrough$State")), .int, .int, (.array .int), (.array .int), (.array .int)]
def kF8 : List (String × String × String × Bool) := [("HotThrough$Paths", "kitchen", "LHotThrough$Kitchen;", true), ("HotThrough$Paths", "state", "LHotThrough$State;", true), ("HotThrough$Paths", "price", "[I", true), ("HotThrough$Paths", "left", "[I", true), ("HotThrough$Paths", "places", "[I", true), ("HotThrough$Paths", "legs", "[I", true), ("HotThrough$Paths", "size", "I", false), ("HotThrough$Paths", "steps", "I", false), ("HotThrough$Paths", "doors", "I", false)]
def kE8 : List Nat := [2, 2, 2, 2, 2, 2, 0, 0, 0]
def kT8 : List FieldType := [(.object "HotThrough$Kitchen"), (.object "HotThrough$State"), (.array .int), (.array .int), (.array .int), (.array .int), .int, .int, .int]
def kF9 : List (String × String × String × Bool) := [("HotThrough$Rester", "kitchen", "LHotThrough$Kitchen;", true), ("HotThrough$Rester", "paths", "LHotThrough$Paths;", true), ("HotThrough$Rester", "carrier", "LHotThrough$Carrier;", true), ("HotThrough$Rester", "warm", "[I", true), ("HotThrough$Rester", "heat", "[I", true), ("HotThrough$Rester", "now", "[I", true), ("HotThrough$Rester", "chosen", "[I", true), ("HotThrough$Rester", "best", "[I", true), ("HotThrough$Rester", "bestSize", "I", false), ("HotThrough$Rester", "most", "I", false), ("HotThrough$Rester", "seconds", "I", false)]
def kE9 : List Nat := [2, 2, 2, 2, 2, 2, 2, 2, 0, 0, 0]
def kT9 : List FieldType := [(.object "HotThrough$Kitchen"), (.object "HotThrough$Paths"), (.object "HotThrough$Carrier"), (.array .int), (.array .int), (.array .int), (.array .int), (.array .int), .int, .int, .int]
def kF10 : List (String × String × String × Bool) := [("HotThrough$Line", "kitchen", "LHotThrough$Kitchen;", true), ("HotThrough$Line", "state", "LHotThrough$State;", true), ("HotThrough$Line", "paths", "LHotThrough$Paths;", true), ("HotThrough$Line", "carrier", "LHotThrough$Carrier;", true), ("HotThrough$Line", "reach", "[I", true), ("HotThrough$Line", "carries", "[I", true), ("HotThrough$Line", "those", "I", false)]
def kE10 : List Nat := [2, 2, 2, 2, 2, 2, 0]
def kT10 : List FieldType := [(.object "HotThrough$Kitchen"), (.object "HotThrough$State"), (.object "HotThrough$Paths"), (.object "HotThrough$Carrier"), (.array .int), (.array .int), .int]
def kF11 : List (String × String × String × Bool) := [("HotThrough$Dishes", "kitchen", "LHotThrough$Kitchen;", true), ("HotThrough$Dishes", "state", "LHotThrough$State;", true), ("HotThrough$Dishes", "paths", "LHotThrough$Paths;", true), ("HotThrough$Dishes", "carrier", "LHotThrough$Carrier;", true), ("HotThrough$Dishes", "first", "[I", true), ("HotThrough$Dishes", "haul", "[I", true), ("HotThrough$Dishes", "warm", "[I", true), ("HotThrough$Dishes", "order", "[I", true), ("HotThrough$Dishes", "best", "[I", true), ("HotThrough$Dishes", "size", "I", false), ("HotThrough$Dishes", "bestSeconds", "I", false), ("HotThrough$Dishes", "those", "I", false), ("HotThrough$Dishes", "hotEnough", "I", false)]
def kE11 : List Nat := [2, 2, 2, 2, 2, 2, 2, 2, 2, 0, 0, 0, 0]
def kT11 : List FieldType := [(.object "HotThrough$Kitchen"), (.object "HotThrough$State"), (.object "HotThrough$Paths"), (.object "HotThrough$Carrier"), (.array .int), (.array .int), (.array .int), (.array .int), (.array .int), .int, .int, .int, .int]
def kF12 : List (String × String × String × Bool) := [("HotThrough$Marks", "kitchen", "LHotThrough$Kitchen;", true), ("HotThrough$Marks", "state", "LHotThrough$State;", true), ("HotThrough$Marks", "places", "[I", true), ("HotThrough$Marks", "times", "[I", true), ("HotThrough$Marks", "size", "I", false), ("HotThrough$Marks", "came", "[I", true), ("HotThrough$Marks", "trail", "[I", true), ("HotThrough$Marks", "least", "[I", true), ("HotThrough$Marks", "leastSize", "I", false), ("HotThrough$Marks", "goal", "I", false), ("HotThrough$Marks", "found", "I", false)]
def kE12 : List Nat := [2, 2, 2, 2, 0, 2, 2, 2, 0, 0, 0]
def kT12 : List FieldType := [(.object "HotThrough$Kitchen"), (.object "HotThrough$State"), (.array .int), (.array .int), .int, (.array .int), (.array .int), (.array .int), .int, .int, .int]
def kF13 : List (String × String × String × Bool) := [("HotThroughModel", "thrown", "I", false), ("HotThroughModel", "rows", "I", false), ("HotThroughModel", "row", "[J", true), ("HotThroughModel", "places", "I", false), ("HotThroughModel", "ways", "I", false), ("HotThroughModel", "pots", "I", false), ("HotThroughModel", "people", "I", false), ("HotThroughModel", "changes", "I", false), ("HotThroughModel", "kind", "[I", true), ("HotThroughModel", "wayFrom", "[I", true), ("HotThroughModel", "wayTo", "[I", true), ("HotThroughModel", "steps", "[I", true), ("HotThroughModel", "hasDoor", "[Z", true), ("HotThroughModel", "cools", "[I", true), ("HotThroughModel", "bears", "[I", true), ("HotThroughModel", "now", "[I", true), ("HotThroughModel", "then", "[I", true), ("HotThroughModel", "tape", "[I", true), ("HotThroughModel", "taped", "I", false), ("HotThroughModel", "at", "I", false), ("HotThroughModel", "to", "I", false), ("HotThroughModel", "nest", "I", false), ("HotThroughModel", "readKind", "[I", true), ("HotThroughModel", "readWay", "[I", true), ("HotThroughModel", "readPot", "[I", true), ("HotThroughModel", "readOne", "[I", true), ("HotThroughModel", "readPlaces", "I", false), ("HotThroughModel", "readWays", "I", false), ("HotThroughModel", "readPots", "I", false), ("HotThroughModel", "readPeople", "I", false), ("HotThroughModel", "code", "[I", true), ("HotThroughModel", "readCode", "[I", true), ("HotThroughModel", "codeLong", "I", false), ("HotThroughModel", "readLong", "I", false), ("HotThroughModel", "stack", "[I", true), ("HotThroughModel", "asked", "[I", true), ("HotThroughModel", "burntMany", "I", false), ("HotThroughModel", "burntBits", "I", false), ("HotThroughModel", "droppedBits", "I", false), ("HotThroughModel", "undos", "I", false), ("HotThroughModel", "undone", "[I", true), ("HotThroughModel", "actSign", "[I", true), ("HotThroughModel", "actOne", "[I", true), ("HotThroughModel", "actTwo", "[I", true), ("HotThroughModel", "acts", "I", false), ("HotThroughModel", "changed", "I", false), ("HotThroughModel", "heatAhead", "I", false), ("HotThroughModel", "soloHeat", "I", false), ("HotThroughModel", "soloWarm", "I", false), ("HotThroughModel", "soloSecond", "I", false), ("HotThroughModel", "apart", "[I", true), ("HotThroughModel", "step", "[I", true), ("HotThroughModel", "way", "[I", true), ("HotThroughModel", "wayLong", "I", false), ("HotThroughModel", "carrier", "[I", true), ("HotThroughModel", "bestCarrier", "[I", true), ("HotThroughModel", "bestMany", "I", false), ("HotThroughModel", "order", "[I", true), ("HotThroughModel", "bestOrder", "[I", true), ("HotThroughModel", "bestTime", "I", false), ("HotThroughModel", "bestHeat", "I", false), ("HotThroughModel", "heats", "[I", true), ("HotThroughModel", "marks", "I", false), ("HotThroughModel", "markAt", "[I", true), ("HotThroughModel", "markWhen", "[I", true), ("HotThroughModel", "fitMany", "I", false), ("HotThroughModel", "fitLong", "I", false), ("HotThroughModel", "fitRow", "[I", true), ("HotThroughModel", "walked", "[I", true), ("HotThroughModel", "isKept", "[Z", true), ("HotThroughModel", "keptChanges", "[I", true), ("HotThroughModel", "kept", "[I", true)]
def kE13 : List Nat := [0, 0, 2, 0, 0, 0, 0, 0, 2, 2, 2, 2, 2, 2, 2, 2, 2, 2, 0, 0, 0, 0, 2, 2, 2, 2, 0, 0, 0, 0, 2, 2, 0, 0, 2, 2, 0, 0, 0, 0, 2, 2, 2, 2, 0, 0, 0, 0, 0, 0, 2, 2, 2, 0, 2, 2, 0, 2, 2, 0, 0, 2, 0, 2, 2, 0, 0, 2, 2, 2, 2, 2]
def kT13 : List FieldType := [.int, .int, (.array .long), .int, .int, .int, .int, .int, (.array .int), (.array .int), (.array .int), (.array .int), (.array .boolean), (.array .int), (.array .int), (.array .int), (.array .int), (.array .int), .int, .int, .int, .int, (.array .int), (.array .int), (.array .int), (.array .int), .int, .int, .int, .int, (.array .int), (.array .int), .int, .int, (.array .int), (.array .int), .int, .int, .int, .int, (.array .int), (.array .int), (.array .int), (.array .int), .int, .int, .int, .int, .int, .int, (.array .int), (.array .int), (.array .int), .int, (.array .int), (.array .int), .int, (.array .int), (.array .int), .int, .int, (.array .int), .int, (.array .int), (.array .int), .int, .int, (.array .int), (.array .int), (.array .boolean), (.array .int), (.array .int)]
def kFl : List (List (String × String × String × Bool)) := [[], kF1, kF2, kF3, kF4, kF5, kF6, kF7, kF8, kF9, kF10, kF11, kF12, kF13]
def kF (k : Nat) : u_T := fun j => (kFl.getD k []).getD j ("", "", "", false)
def kN (k : Nat) : Nat := (kFl.getD k []).length
def kEl : List (List Nat) := [[], kE1, kE2, kE3, kE4, kE5, kE6, kE7, kE8, kE9, kE10, kE11, kE12, kE13]
/-- the type of place j of a thing of kind k; 14 .. 18: arrays -/
def ety (k j : Nat) : Nat := if k = 14 then 0 else if k = 15 then 1 else if k = 16 then 3 else if k = 17 then 4 else if k = 18 then 2 else (kEl.getD k []).getD j 0
def kTl : List (List FieldType) := [[], kT1, kT2, kT3, kT4, kT5, kT6, kT7, kT8, kT9, kT10, kT11, kT12, kT13]
def kT (k j : Nat) : FieldType := (kTl.getD k []).getD j .int
def aT (k : Nat) : FieldType := if k = 14 then .int else if k = 15 then .long else if k = 16 then .boolean else if k = 17 then .char else .object "HotThrough$State"
def idl : List (Nat × Int) := [(0, 0), (1, 15), (2, 6), (17, 80), (3, 5), (14, 40), (14, 40), (14, 40), (4, 11), (14, 10), (14, 14), (14, 14), (14, 14), (14, 5), (14, 5), (5, 12), (14, 5), (14, 5), (14, 5), (14, 5), (14, 10), (14, 5), (14, 5), (14, 5), (14, 5), (6, 13), (7, 13), (18, 16), (14, 30), (14, 30), (14, 30), (5, 12), (14, 5), (14, 5), (14, 5), (14, 5), (14, 10), (14, 5), (14, 5), (14, 5), (14, 5), (5, 12), (14, 5), (14, 5), (14, 5), (14, 5), (14, 10), (14, 5), (14, 5), (14, 5), (14, 5), (5, 12), (14, 5), (14, 5), (14, 5), (14, 5), (14, 10), (14, 5), (14, 5), (14, 5), (14, 5), (5, 12), (14, 5), (14, 5), (14, 5), (14, 5), (14, 10), (14, 5), (14, 5), (14, 5), (14, 5), (5, 12), (14, 5), (14, 5), (14, 5), (14, 5), (14, 10), (14, 5), (14, 5), (14, 5), (14, 5), (5, 12), (14, 5), (14, 5), (14, 5), (14, 5), (14, 10), (14, 5), (14, 5), (14, 5), (14, 5), (5, 12), (14, 5), (14, 5), (14, 5), (14, 5), (14, 10), (14, 5), (14, 5), (14, 5), (14, 5), (5, 12), (14, 5), (14, 5), (14, 5), (14, 5), (14, 10), (14, 5), (14, 5), (14, 5), (14, 5), (5, 12), (14, 5), (14, 5), (14, 5), (14, 5), (14, 10), (14, 5), (14, 5), (14, 5), (14, 5), (5, 12), (14, 5), (14, 5), (14, 5), (14, 5), (14, 10), (14, 5), (14, 5), (14, 5), (14, 5), (5, 12), (14, 5), (14, 5), (14, 5), (14, 5), (14, 10), (14, 5), (14, 5), (14, 5), (14, 5), (5, 12), (14, 5), (14, 5), (14, 5), (14, 5), (14, 10), (14, 5), (14, 5), (14, 5), (14, 5), (5, 12), (14, 5), (14, 5), (14, 5), (14, 5), (14, 10), (14, 5), (14, 5), (14, 5), (14, 5), (5, 12), (14, 5), (14, 5), (14, 5), (14, 5), (14, 10), (14, 5), (14, 5), (14, 5), (14, 5), (5, 12), (14, 5), (14, 5), (14, 5), (14, 5), (14, 10), (14, 5), (14, 5), (14, 5), (14, 5), (5, 12), (14, 5), (14, 5), (14, 5), (14, 5), (14, 10), (14, 5), (14, 5), (14, 5), (14, 5), (8, 9), (14, 14), (14, 10), (14, 10), (14, 10), (9, 11), (14, 10), (14, 10), (14, 10), (14, 10), (14, 10), (10, 7), (14, 50), (14, 10), (11, 13), (14, 5), (14, 5), (14, 5), (14, 5), (14, 5), (12, 11), (14, 8), (14, 8), (14, 10), (14, 10), (14, 10), (18, 3), (15, 16), (5, 12), (14, 5), (14, 5), (14, 5), (14, 5), (14, 10), (14, 5), (14, 5), (14, 5), (14, 5), (5, 12), (14, 5), (14, 5), (14, 5), (14, 5), (14, 10), (14, 5), (14, 5), (14, 5), (14, 5), (5, 12), (14, 5), (14, 5), (14, 5), (14, 5), (14, 10), (14, 5), (14, 5), (14, 5), (14, 5), (13, 72), (15, 24), (14, 10), (14, 14), (14, 14), (14, 14), (16, 14), (14, 5), (14, 5), (14, 52), (14, 52), (14, 80), (14, 10), (14, 56), (14, 15), (14, 10), (14, 80), (14, 80), (14, 80), (14, 8), (14, 832), (14, 60), (14, 60), (14, 60), (14, 100), (14, 100), (14, 10), (14, 10), (14, 10), (14, 5), (14, 5), (14, 30), (14, 8), (14, 8), (14, 10), (14, 10), (16, 3), (14, 3), (14, 156), (15, 1)]
def kcls (id : Int) : Nat := if id < 0 then 0 else (idl.getD id.toNat (0, 0)).1
def klen (id : Int) : Int := if id < 0 then 0 else (idl.getD id.toNat (0, 0)).2
abbrev MT : Type := MethodName × ByteArray × Nat × Option FieldType × List Nat × Nat × Nat × Nat
def mT0 : List MT := [(⟨"HotThrough", "<init>", "()V"⟩, prog_1_method_1_code, 2, none, [2], 9, 247, 1951), (⟨"HotThrough$Text", "<init>", "()V"⟩, prog_12_method_1_code, 1, none, [2], 9, 1, 80), (⟨"HotThrough$Rule", "<init>", "()V"⟩, prog_10_method_1_code, 1, none, [2], 9, 3, 120), (⟨"HotThrough$Kitchen", "<init>", "()V"⟩, prog_5_method_1_code, 1, none, [2], 9, 6, 62), (⟨"HotThrough$State", "<init>", "()V"⟩, prog_11_method_1_code, 1, none, [2], 9, 9, 50), (⟨"HotThrough$Carrier", "<init>", "(LHotThrough$Kitchen;LHotThrough$State;LHotThrough$Rule;)V"⟩, prog_3_method_1_code, 4, none, [2, 2, 2, 2], 9, 0, 0), (⟨"HotThrough$Acts", "<init>", "(LHotThrough$Kitchen;LHotThrough$State;LHotThrough$Rule;LHotThrough$Carrier;)V"⟩, prog_2_method_1_code, 6, none, [2, 2, 2, 2, 2], 9, 164, 1098), (⟨"HotThrough$Paths", "<init>", "(LHotThrough$Kitchen;LHotThrough$State;)V"⟩, prog_8_method_1_code, 3, none, [2, 2, 2], 9, 4, 44), (⟨"HotThrough$Rester", "<init>", "(LHotThrough$Kitchen;LHotThrough$Paths;LHotThrough$Carrier;)V"⟩, prog_9_method_1_code, 4, none, [2, 2, 2, 2], 9, 5, 50), (⟨"HotThrough$Line", "<init>", "(LHotThrough$Kitchen;LHotThrough$State;LHotThrough$Paths;LHotThrough$Carrier;)V"⟩, prog_6_method_1_code, 5, none, [2, 2, 2, 2, 2], 9, 2, 60), (⟨"HotThrough$Dishes", "<init>", "(LHotThrough$Kitchen;LHotThrough$State;LHotThrough$Paths;LHotThrough$Carrier;)V"⟩, prog_4_method_1_code, 5, none, [2, 2, 2, 2, 2], 9, 5, 25), (⟨"HotThrough$Marks", "<init>", "(LHotThrough$Kitchen;LHotThrough$State;)V"⟩, prog_7_method_1_code, 3, none, [2, 2, 2], 9, 5, 46), (⟨"HotThrough", "sign", "(I)I"⟩, prog_1_method_2_code, 2, (some .int), [2, 0], 0, 0, 0), (⟨"HotThrough$Text", "append", "(I)I"⟩, prog_12_method_2_code, 3, (some .int), [2, 0], 0, 0, 0), (⟨"HotThrough", "end", "(I)Z"⟩, prog_1_method_3_code, 2, (some .boolean), [2, 0], 3, 0, 0), (⟨"HotThrough$Text", "shorten", "(I)Z"⟩, prog_12_method_3_code, 2, (some .boolean), [2, 0], 3, 0, 0), (⟨"HotThrough", "kitchen", "()I"⟩, prog_1_method_4_code, 2, (some .int), [2], 0, 0, 0), (⟨"HotThrough$Kitchen", "read", "(LHotThrough$Text;LHotThrough$State;)I"⟩, prog_5_method_10_code, 10, (some .int), [2, 2, 2], 0, 0, 0), (⟨"HotThrough$Text", "open", "(I)V"⟩, prog_12_method_4_code, 2, none, [2, 0], 9, 0, 0), (⟨"java/lang/Math", "min", "(II)I"⟩, prog_20_method_69_code, 2, (some .int), [0, 0], 0, 0, 0), (⟨"HotThrough$Kitchen", "readLine", "(LHotThrough$Text;LHotThrough$State;)V"⟩, prog_5_method_11_code, 4, none, [2, 2, 2], 9, 0, 0), (⟨"HotThrough$Text", "peek", "()I"⟩, prog_12_method_7_code, 1, (some .int), [2], 0, 0, 0), (⟨"HotThrough$Kitchen", "hasRoom", "(I)Z"⟩, prog_5_method_12_code, 2, (some .boolean), [2, 0], 3, 0, 0), (⟨"HotThrough$Text", "fail", "()V"⟩, prog_12_method_8_code, 1, none, [2], 9, 0, 0), (⟨"HotThrough$Text", "next", "()V"⟩, prog_12_method_10_code, 1, none, [2], 9, 0, 0), (⟨"HotThrough$Kitchen", "readWay", "(LHotThrough$Text;LHotThrough$State;)V"⟩, prog_5_method_14_code, 7, none, [2, 2, 2], 9, 0, 0), (⟨"HotThrough$Text", "letter", "(II)I"⟩, prog_12_method_16_code, 4, (some .int), [2, 0, 0], 0, 0, 0), (⟨"HotThrough$Text", "digit", "(I)I"⟩, prog_12_method_14_code, 3, (some .int), [2, 0], 0, 0, 0), (⟨"HotThrough$Text", "skip", "(C)Z"⟩, prog_12_method_11_code, 2, (some .boolean), [2, 0], 3, 0, 0), (⟨"HotThrough$Kitchen", "readPot", "(LHotThrough$Text;LHotThrough$State;)V"⟩, prog_5_method_15_code, 7, none, [2, 2, 2], 9, 0, 0), (⟨"HotThrough$Text", "number", "(I)I"⟩, prog_12_method_15_code, 4, (some .int), [2, 0], 0, 0, 0), (⟨"HotThrough$Text", "isDigit", "()Z"⟩, prog_12_method_13_code, 1, (some .boolean), [2], 3, 0, 0), (⟨"HotThrough$Text", "expect", "(C)V"⟩, prog_12_method_12_code, 2, none, [2, 0], 9, 0, 0), (⟨"HotThrough$Kitchen", "isPlace", "(I)Z"⟩, prog_5_method_2_code, 2, (some .boolean), [2, 0], 3, 0, 0), (⟨"HotThrough$Text", "failAt", "(I)V"⟩, prog_12_method_9_code, 2, none, [2, 0], 9, 0, 0), (⟨"HotThrough$State", "addPot", "(III)V"⟩, prog_11_method_3_code, 4, none, [2, 0, 0, 0], 9, 0, 0), (⟨"HotThrough$Kitchen", "readPerson", "(LHotThrough$Text;LHotThrough$State;)V"⟩, prog_5_method_16_code, 7, none, [2, 2, 2], 9, 0, 0), (⟨"HotThrough$State", "addPerson", "(II)V"⟩, prog_11_method_4_code, 3, none, [2, 0, 0], 9, 0, 0), (⟨"HotThrough$Kitchen", "addPlace", "(I)V"⟩, prog_5_method_13_code, 2, none, [2, 0], 9, 0, 0), (⟨"HotThrough$Text", "close", "()I"⟩, prog_12_method_5_code, 1, (some .int), [2], 0, 0, 0)]
def mT1 : List MT := [(⟨"HotThrough$Acts", "forget", "()V"⟩, prog_2_method_6_code, 1, none, [2], 9, 0, 0), (⟨"HotThrough", "rule", "()I"⟩, prog_1_method_5_code, 1, (some .int), [2], 0, 0, 0), (⟨"HotThrough$Rule", "read", "(LHotThrough$Text;)I"⟩, prog_10_method_2_code, 3, (some .int), [2, 2], 0, 0, 0), (⟨"HotThrough$Text", "atEnd", "()Z"⟩, prog_12_method_6_code, 1, (some .boolean), [2], 3, 0, 0), (⟨"HotThrough$Rule", "expression", "(LHotThrough$Text;I)V"⟩, prog_10_method_3_code, 4, none, [2, 2, 0], 9, 0, 0), (⟨"HotThrough$Rule", "sum", "(LHotThrough$Text;I)V"⟩, prog_10_method_4_code, 5, none, [2, 2, 0], 9, 0, 0), (⟨"HotThrough$Rule", "product", "(LHotThrough$Text;I)V"⟩, prog_10_method_5_code, 5, none, [2, 2, 0], 9, 0, 0), (⟨"HotThrough$Rule", "factor", "(LHotThrough$Text;I)V"⟩, prog_10_method_6_code, 5, none, [2, 2, 0], 9, 0, 0), (⟨"HotThrough$Rule", "thing", "(LHotThrough$Text;I)V"⟩, prog_10_method_7_code, 4, none, [2, 2, 0], 9, 0, 0), (⟨"HotThrough$Rule", "emit", "(I)V"⟩, prog_10_method_8_code, 2, none, [2, 0], 9, 0, 0), (⟨"HotThrough$Rule", "isName", "(I)Z"⟩, prog_10_method_9_code, 1, (some .boolean), [0], 3, 0, 0), (⟨"HotThrough", "heat", "(II)I"⟩, prog_1_method_11_code, 4, (some .int), [2, 0, 0], 0, 0, 0), (⟨"HotThrough$Kitchen", "isPot", "(I)Z"⟩, prog_5_method_4_code, 2, (some .boolean), [2, 0], 3, 0, 0), (⟨"HotThrough$State", "isDropped", "(I)Z"⟩, prog_11_method_5_code, 2, (some .boolean), [2, 0], 3, 0, 0), (⟨"HotThrough", "sheet", "(IIII)I"⟩, prog_1_method_12_code, 8, (some .int), [2, 0, 0, 0, 0], 0, 0, 0), (⟨"HotThrough", "entry", "(II)I"⟩, prog_1_method_13_code, 3, (some .int), [0, 0], 0, 0, 0), (⟨"java/lang/Math", "max", "(II)I"⟩, prog_20_method_65_code, 2, (some .int), [0, 0], 0, 0, 0), (⟨"HotThrough", "take", "(II)I"⟩, prog_1_method_14_code, 3, (some .int), [2, 0, 0], 0, 0, 0), (⟨"HotThrough$Acts", "note", "()V"⟩, prog_2_method_3_code, 1, none, [2], 9, 0, 0), (⟨"HotThrough$Acts", "slot", "(I)I"⟩, prog_2_method_2_code, 2, (some .int), [2, 0], 0, 0, 0), (⟨"java/lang/Math", "floorMod", "(II)I"⟩, prog_20_method_50_code, 3, (some .int), [0, 0], 0, 0, 0), (⟨"HotThrough$State", "copyFrom", "(LHotThrough$State;)V"⟩, prog_11_method_2_code, 2, none, [2, 2], 9, 0, 0), (⟨"HotThrough$Acts", "taken", "(II)I"⟩, prog_2_method_7_code, 3, (some .int), [2, 0, 0], 0, 0, 0), (⟨"HotThrough$Kitchen", "isPerson", "(I)Z"⟩, prog_5_method_5_code, 2, (some .boolean), [2, 0], 3, 0, 0), (⟨"HotThrough$Acts", "settled", "(I)I"⟩, prog_2_method_4_code, 2, (some .int), [2, 0], 0, 0, 0), (⟨"HotThrough", "down", "(I)I"⟩, prog_1_method_15_code, 2, (some .int), [2, 0], 0, 0, 0), (⟨"HotThrough$Acts", "setDown", "(I)I"⟩, prog_2_method_8_code, 4, (some .int), [2, 0], 0, 0, 0), (⟨"HotThrough", "walk", "(II)I"⟩, prog_1_method_16_code, 4, (some .int), [2, 0, 0], 0, 0, 0), (⟨"HotThrough$Acts", "walked", "(II)I"⟩, prog_2_method_9_code, 5, (some .int), [2, 0, 0], 0, 0, 0), (⟨"HotThrough$Kitchen", "otherEnd", "(II)I"⟩, prog_5_method_8_code, 3, (some .int), [2, 0, 0], 0, 0, 0), (⟨"HotThrough$Kitchen", "isWay", "(I)Z"⟩, prog_5_method_3_code, 2, (some .boolean), [2, 0], 3, 0, 0), (⟨"HotThrough$Kitchen", "isPassable", "(II)Z"⟩, prog_5_method_7_code, 3, (some .boolean), [2, 0, 0], 3, 0, 0), (⟨"HotThrough$Kitchen", "hasDoor", "(I)Z"⟩, prog_5_method_6_code, 2, (some .boolean), [2, 0], 3, 0, 0), (⟨"HotThrough$Acts", "second", "()V"⟩, prog_2_method_11_code, 2, none, [2], 9, 0, 0), (⟨"HotThrough$Acts", "hold", "(I)V"⟩, prog_2_method_13_code, 4, none, [2, 0], 9, 0, 0), (⟨"HotThrough$Carrier", "begin", "(II)Z"⟩, prog_3_method_4_code, 3, (some .boolean), [2, 0, 0], 3, 0, 0), (⟨"HotThrough$Carrier", "stand", "(I)Z"⟩, prog_3_method_2_code, 2, (some .boolean), [2, 0], 3, 0, 0), (⟨"HotThrough$Carrier", "lift", "(I)Z"⟩, prog_3_method_3_code, 2, (some .boolean), [2, 0], 3, 0, 0), (⟨"HotThrough$Rule", "through", "(LHotThrough$Carrier;)I"⟩, prog_10_method_10_code, 5, (some .int), [2, 2], 0, 0, 0), (⟨"HotThrough$Rule", "combine", "(III)I"⟩, prog_10_method_12_code, 3, (some .int), [0, 0, 0], 0, 0, 0)]
def mT2 : List MT := [(⟨"HotThrough$Rule", "within", "(I)I"⟩, prog_10_method_11_code, 1, (some .int), [0], 0, 0, 0), (⟨"HotThrough$Carrier", "valueOf", "(I)I"⟩, prog_3_method_10_code, 2, (some .int), [2, 0], 0, 0, 0), (⟨"HotThrough$Acts", "coolHand", "(I)V"⟩, prog_2_method_12_code, 2, none, [2, 0], 9, 0, 0), (⟨"HotThrough", "startRow", "()V"⟩, prog_1_method_48_code, 1, none, [2], 9, 0, 0), (⟨"HotThrough", "tell", "(J)V"⟩, prog_1_method_49_code, 3, none, [2, 1], 9, 0, 0), (⟨"HotThrough", "pass", "(I)I"⟩, prog_1_method_17_code, 3, (some .int), [2, 0], 0, 0, 0), (⟨"HotThrough$Acts", "elapsed", "(I)I"⟩, prog_2_method_10_code, 3, (some .int), [2, 0], 0, 0, 0), (⟨"HotThrough", "change", "(I)I"⟩, prog_1_method_18_code, 2, (some .int), [2, 0], 0, 0, 0), (⟨"HotThrough$Acts", "changed", "(I)I"⟩, prog_2_method_14_code, 2, (some .int), [2, 0], 0, 0, 0), (⟨"HotThrough", "give", "(II)I"⟩, prog_1_method_19_code, 3, (some .int), [2, 0, 0], 0, 0, 0), (⟨"HotThrough$Acts", "given", "(II)I"⟩, prog_2_method_15_code, 4, (some .int), [2, 0, 0], 0, 0, 0), (⟨"HotThrough", "fold", "(II)I"⟩, prog_1_method_20_code, 3, (some .int), [2, 0, 0], 0, 0, 0), (⟨"HotThrough$Acts", "folded", "(II)I"⟩, prog_2_method_16_code, 4, (some .int), [2, 0, 0], 0, 0, 0), (⟨"HotThrough", "door", "(II)I"⟩, prog_1_method_21_code, 3, (some .int), [2, 0, 0], 0, 0, 0), (⟨"HotThrough$Acts", "opened", "(II)I"⟩, prog_2_method_17_code, 3, (some .int), [2, 0, 0], 0, 0, 0), (⟨"java/lang/Integer", "bitCount", "(I)I"⟩, prog_19_method_49_code, 1, (some .int), [0], 0, 0, 0), (⟨"HotThrough", "dinner", "()I"⟩, prog_1_method_22_code, 3, (some .int), [2], 0, 0, 0), (⟨"HotThrough$Acts", "read", "(LHotThrough$Text;)I"⟩, prog_2_method_18_code, 5, (some .int), [2, 2], 0, 0, 0), (⟨"HotThrough$Acts", "readAct", "(LHotThrough$Text;I)V"⟩, prog_2_method_19_code, 4, none, [2, 2, 0], 9, 0, 0), (⟨"HotThrough$Acts", "isAct", "(I)Z"⟩, prog_2_method_20_code, 1, (some .boolean), [0], 3, 0, 0), (⟨"HotThrough$Acts", "act", "(I)I"⟩, prog_2_method_21_code, 2, (some .int), [2, 0], 0, 0, 0), (⟨"HotThrough", "undo", "()I"⟩, prog_1_method_23_code, 1, (some .int), [2], 0, 0, 0), (⟨"HotThrough$Acts", "back", "()I"⟩, prog_2_method_5_code, 1, (some .int), [2], 0, 0, 0), (⟨"HotThrough", "lasts", "(I)I"⟩, prog_1_method_24_code, 3, (some .int), [2, 0], 0, 0, 0), (⟨"HotThrough", "holds", "(I)Z"⟩, prog_1_method_29_code, 2, (some .boolean), [2, 0], 3, 0, 0), (⟨"HotThrough$Carrier", "burntAfter", "(II)I"⟩, prog_3_method_7_code, 4, (some .int), [2, 0, 0], 0, 0, 0), (⟨"HotThrough$Carrier", "changeHands", "()V"⟩, prog_3_method_8_code, 2, none, [2], 9, 0, 0), (⟨"HotThrough$Carrier", "holdOn", "()Z"⟩, prog_3_method_5_code, 2, (some .boolean), [2], 3, 0, 0), (⟨"HotThrough", "swaps", "(II)I"⟩, prog_1_method_25_code, 4, (some .int), [2, 0, 0], 0, 0, 0), (⟨"HotThrough", "often", "(I)I"⟩, prog_1_method_26_code, 6, (some .int), [2, 0], 0, 0, 0), (⟨"HotThrough", "layers", "(III)I"⟩, prog_1_method_27_code, 5, (some .int), [2, 0, 0, 0], 0, 0, 0), (⟨"HotThrough", "mayHold", "(III)Z"⟩, prog_1_method_30_code, 4, (some .boolean), [2, 0, 0, 0], 3, 0, 0), (⟨"HotThrough$Carrier", "carried", "(I)I"⟩, prog_3_method_6_code, 3, (some .int), [2, 0], 0, 0, 0), (⟨"HotThrough", "hottest", "(III)I"⟩, prog_1_method_28_code, 5, (some .int), [2, 0, 0, 0], 0, 0, 0), (⟨"HotThrough", "path", "(II)I"⟩, prog_1_method_31_code, 4, (some .int), [2, 0, 0], 0, 0, 0), (⟨"HotThrough$Paths", "find", "(II)Z"⟩, prog_8_method_2_code, 4, (some .boolean), [2, 0, 0], 3, 0, 0), (⟨"HotThrough$Paths", "spread", "(II)Z"⟩, prog_8_method_4_code, 5, (some .boolean), [2, 0, 0], 3, 0, 0), (⟨"HotThrough$Paths", "relax", "(III)V"⟩, prog_8_method_5_code, 4, none, [2, 0, 0, 0], 9, 0, 0), (⟨"HotThrough$Paths", "trace", "(II)V"⟩, prog_8_method_6_code, 5, none, [2, 0, 0], 9, 0, 0), (⟨"HotThrough$Paths", "nextFrom", "(I)I"⟩, prog_8_method_7_code, 6, (some .int), [2, 0], 0, 0, 0)]
def mT3 : List MT := [(⟨"HotThrough", "clear", "(II)I"⟩, prog_1_method_32_code, 3, (some .int), [2, 0, 0], 0, 0, 0), (⟨"HotThrough$Paths", "findByDoors", "(II)Z"⟩, prog_8_method_3_code, 5, (some .boolean), [2, 0, 0], 3, 0, 0), (⟨"HotThrough", "far", "(II)I"⟩, prog_1_method_33_code, 7, (some .int), [2, 0, 0], 0, 0, 0), (⟨"HotThrough", "rests", "(III)I"⟩, prog_1_method_34_code, 6, (some .int), [2, 0, 0, 0], 0, 0, 0), (⟨"HotThrough$Rester", "fewest", "(IIII)I"⟩, prog_9_method_2_code, 5, (some .int), [2, 0, 0, 0, 0], 0, 0, 0), (⟨"HotThrough$Rester", "stop", "(II)V"⟩, prog_9_method_3_code, 3, none, [2, 0, 0], 9, 0, 0), (⟨"HotThrough$Rester", "arrived", "(I)V"⟩, prog_9_method_5_code, 2, none, [2, 0], 9, 0, 0), (⟨"HotThrough$Rester", "isLess", "(I)Z"⟩, prog_9_method_6_code, 3, (some .boolean), [2, 0], 3, 0, 0), (⟨"HotThrough$Rester", "goOn", "(II)V"⟩, prog_9_method_4_code, 3, none, [2, 0, 0], 9, 0, 0), (⟨"HotThrough$Carrier", "rest", "(I)V"⟩, prog_3_method_9_code, 3, none, [2, 0], 9, 0, 0), (⟨"HotThrough", "soonest", "(II)I"⟩, prog_1_method_35_code, 8, (some .int), [2, 0, 0], 0, 0, 0), (⟨"HotThrough", "chain", "(III)I"⟩, prog_1_method_36_code, 6, (some .int), [2, 0, 0, 0], 0, 0, 0), (⟨"HotThrough", "areFree", "(I)Z"⟩, prog_1_method_37_code, 3, (some .boolean), [2, 0], 3, 0, 0), (⟨"HotThrough$Line", "fewest", "(II)I"⟩, prog_6_method_2_code, 4, (some .int), [2, 0, 0], 0, 0, 0), (⟨"HotThrough$Line", "measure", "(II)V"⟩, prog_6_method_3_code, 6, none, [2, 0, 0], 9, 0, 0), (⟨"HotThrough$Line", "covers", "(IIIII)Z"⟩, prog_6_method_4_code, 7, (some .boolean), [2, 0, 0, 0, 0, 0], 3, 0, 0), (⟨"HotThrough", "serve", "(IIII)I"⟩, prog_1_method_38_code, 7, (some .int), [2, 0, 0, 0, 0], 0, 0, 0), (⟨"HotThrough", "areOnPlaces", "(I)Z"⟩, prog_1_method_39_code, 3, (some .boolean), [2, 0], 3, 0, 0), (⟨"HotThrough$Dishes", "soonestOrder", "(IIII)I"⟩, prog_4_method_2_code, 5, (some .int), [2, 0, 0, 0, 0], 0, 0, 0), (⟨"HotThrough$Dishes", "measure", "(II)Z"⟩, prog_4_method_3_code, 4, (some .boolean), [2, 0, 0], 3, 0, 0), (⟨"HotThrough$Dishes", "bring", "(III)V"⟩, prog_4_method_4_code, 7, none, [2, 0, 0, 0], 9, 0, 0), (⟨"HotThrough$Dishes", "arrived", "(I)V"⟩, prog_4_method_5_code, 3, none, [2, 0], 9, 0, 0), (⟨"HotThrough$Dishes", "leastHeat", "(II)I"⟩, prog_4_method_6_code, 5, (some .int), [2, 0, 0], 0, 0, 0), (⟨"HotThrough", "mark", "(II)I"⟩, prog_1_method_40_code, 3, (some .int), [2, 0, 0], 0, 0, 0), (⟨"HotThrough$Marks", "add", "(II)I"⟩, prog_7_method_2_code, 3, (some .int), [2, 0, 0], 0, 0, 0), (⟨"HotThrough", "wipe", "()I"⟩, prog_1_method_41_code, 2, (some .int), [2], 0, 0, 0), (⟨"HotThrough", "fits", "(II)I"⟩, prog_1_method_42_code, 5, (some .int), [2, 0, 0], 0, 0, 0), (⟨"HotThrough$Marks", "fitting", "(II)I"⟩, prog_7_method_3_code, 4, (some .int), [2, 0, 0], 0, 0, 0), (⟨"HotThrough$Marks", "visit", "(III)V"⟩, prog_7_method_4_code, 5, none, [2, 0, 0, 0], 9, 0, 0), (⟨"HotThrough$Marks", "arrived", "(I)V"⟩, prog_7_method_6_code, 3, none, [2, 0], 9, 0, 0), (⟨"HotThrough$Marks", "visitBy", "(III)V"⟩, prog_7_method_5_code, 5, none, [2, 0, 0, 0], 9, 0, 0), (⟨"HotThrough", "dinners", "(IIII)I"⟩, prog_1_method_43_code, 11, (some .int), [2, 0, 0, 0, 0], 0, 0, 0), (⟨"HotThrough", "keep", "(I)Z"⟩, prog_1_method_44_code, 2, (some .boolean), [2, 0], 3, 0, 0), (⟨"HotThrough", "again", "(I)Z"⟩, prog_1_method_45_code, 2, (some .boolean), [2, 0], 3, 0, 0), (⟨"HotThrough", "count", "(I)I"⟩, prog_1_method_46_code, 2, (some .int), [2, 0], 0, 0, 0), (⟨"HotThrough$State", "burnings", "(I)I"⟩, prog_11_method_8_code, 4, (some .int), [2, 0], 0, 0, 0), (⟨"HotThrough", "place", "(II)I"⟩, prog_1_method_6_code, 3, (some .int), [2, 0, 0], 0, 0, 0), (⟨"HotThrough$State", "potsOn", "(II)I"⟩, prog_11_method_6_code, 5, (some .int), [2, 0, 0], 0, 0, 0), (⟨"HotThrough$State", "peopleAt", "(II)I"⟩, prog_11_method_7_code, 5, (some .int), [2, 0, 0], 0, 0, 0), (⟨"HotThrough$Kitchen", "waysAt", "(I)I"⟩, prog_5_method_9_code, 4, (some .int), [2, 0], 0, 0, 0)]
def mT4 : List MT := [(⟨"HotThrough", "way", "(II)I"⟩, prog_1_method_7_code, 3, (some .int), [2, 0, 0], 0, 0, 0), (⟨"HotThrough", "pot", "(II)I"⟩, prog_1_method_8_code, 3, (some .int), [2, 0, 0], 0, 0, 0), (⟨"HotThrough", "person", "(II)I"⟩, prog_1_method_9_code, 3, (some .int), [2, 0, 0], 0, 0, 0), (⟨"HotThrough", "throughNext", "(I)I"⟩, prog_1_method_10_code, 2, (some .int), [2, 0], 0, 0, 0), (⟨"HotThrough", "row", "(I)J"⟩, prog_1_method_47_code, 2, (some .long), [2, 0], 1, 0, 0), (⟨"HotThroughModel", "<init>", "()V"⟩, prog_14_method_1_code, 1, none, [2], 9, 38, 2103), (⟨"", "", ""⟩, ⟨#[]⟩, 0, none, [], 0, 0, 0), (⟨"HotThroughModel", "sign", "(I)I"⟩, prog_14_method_16_code, 3, (some .int), [2, 0], 0, 0, 0), (⟨"HotThroughModel", "end", "(I)Z"⟩, prog_14_method_17_code, 2, (some .boolean), [2, 0], 3, 0, 0), (⟨"HotThroughModel", "in", "(JJJ)Z"⟩, prog_14_method_4_code, 6, (some .boolean), [1, 1, 1], 3, 0, 0), (⟨"HotThroughModel", "kitchen", "()I"⟩, prog_14_method_32_code, 7, (some .int), [2], 0, 0, 0), (⟨"HotThroughModel", "begins", "(I)I"⟩, prog_14_method_18_code, 3, (some .int), [2, 0], 0, 0, 0), (⟨"HotThroughModel", "readsLine", "()Z"⟩, prog_14_method_31_code, 1, (some .boolean), [2], 3, 0, 0), (⟨"HotThroughModel", "among", "(Ljava/lang/String;)I"⟩, prog_14_method_21_code, 3, (some .int), [2, 2], 0, 0, 0), (⟨"java/lang/String", "length", "()I"⟩, prog_22_method_54_code, 1, (some .int), [2], 0, 0, 0), (⟨"java/lang/String", "charAt", "(I)C"⟩, prog_22_method_56_code, 2, (some .char), [2, 0], 4, 0, 0), (⟨"HotThroughModel", "readsPlace", "()Z"⟩, prog_14_method_27_code, 1, (some .boolean), [2], 3, 0, 0), (⟨"HotThroughModel", "takesOf", "(Ljava/lang/String;)I"⟩, prog_14_method_22_code, 3, (some .int), [2, 2], 0, 0, 0), (⟨"HotThroughModel", "flag", "(Z)I"⟩, prog_14_method_6_code, 1, (some .int), [0], 0, 0, 0), (⟨"HotThroughModel", "readsWay", "()Z"⟩, prog_14_method_28_code, 2, (some .boolean), [2], 3, 0, 0), (⟨"HotThroughModel", "letter", "()I"⟩, prog_14_method_25_code, 2, (some .int), [2], 0, 0, 0), (⟨"HotThroughModel", "takes", "(I)Z"⟩, prog_14_method_19_code, 3, (some .boolean), [2, 0], 3, 0, 0), (⟨"HotThroughModel", "readsPot", "()Z"⟩, prog_14_method_29_code, 2, (some .boolean), [2], 3, 0, 0), (⟨"HotThroughModel", "number", "(I)I"⟩, prog_14_method_23_code, 4, (some .int), [2, 0], 0, 0, 0), (⟨"HotThroughModel", "isDigit", "()Z"⟩, prog_14_method_20_code, 1, (some .boolean), [2], 3, 0, 0), (⟨"HotThroughModel", "kindOf", "(I)I"⟩, prog_14_method_26_code, 2, (some .int), [2, 0], 0, 0, 0), (⟨"HotThroughModel", "readsOne", "()Z"⟩, prog_14_method_30_code, 2, (some .boolean), [2], 3, 0, 0), (⟨"HotThroughModel", "faultOf", "(IIZ)I"⟩, prog_14_method_24_code, 5, (some .int), [2, 0, 0, 0], 0, 0, 0), (⟨"HotThroughModel", "one", "(I)I"⟩, prog_14_method_12_code, 1, (some .int), [0], 0, 0, 0), (⟨"HotThroughModel", "rule", "()I"⟩, prog_14_method_36_code, 5, (some .int), [2], 0, 0, 0), (⟨"HotThroughModel", "readsRank", "(I)Z"⟩, prog_14_method_35_code, 4, (some .boolean), [2, 0], 3, 0, 0), (⟨"HotThroughModel", "readsThing", "()Z"⟩, prog_14_method_34_code, 2, (some .boolean), [2], 3, 0, 0), (⟨"HotThroughModel", "codes", "(I)V"⟩, prog_14_method_33_code, 2, none, [2, 0], 9, 0, 0), (⟨"HotThroughModel", "place", "(II)I"⟩, prog_14_method_43_code, 5, (some .int), [2, 0, 0], 0, 0, 0), (⟨"HotThroughModel", "isPlace", "(I)Z"⟩, prog_14_method_8_code, 2, (some .boolean), [2, 0], 3, 0, 0), (⟨"HotThroughModel", "refuse", "()I"⟩, prog_14_method_3_code, 1, (some .int), [2], 0, 0, 0), (⟨"HotThroughModel", "way", "(II)I"⟩, prog_14_method_44_code, 3, (some .int), [2, 0, 0], 0, 0, 0), (⟨"HotThroughModel", "isWay", "(I)Z"⟩, prog_14_method_11_code, 2, (some .boolean), [2, 0], 3, 0, 0), (⟨"HotThroughModel", "isOpen", "(I)Z"⟩, prog_14_method_15_code, 2, (some .boolean), [2, 0], 3, 0, 0), (⟨"HotThroughModel", "has", "(II)Z"⟩, prog_14_method_5_code, 2, (some .boolean), [0, 0], 3, 0, 0)]
def mT5 : List MT := [(⟨"HotThroughModel", "pot", "(II)I"⟩, prog_14_method_45_code, 3, (some .int), [2, 0, 0], 0, 0, 0), (⟨"HotThroughModel", "isPot", "(I)Z"⟩, prog_14_method_9_code, 2, (some .boolean), [2, 0], 3, 0, 0), (⟨"HotThroughModel", "holder", "(I)I"⟩, prog_14_method_14_code, 4, (some .int), [2, 0], 0, 0, 0), (⟨"HotThroughModel", "holds", "(I)I"⟩, prog_14_method_13_code, 2, (some .int), [2, 0], 0, 0, 0), (⟨"HotThroughModel", "person", "(II)I"⟩, prog_14_method_46_code, 3, (some .int), [2, 0, 0], 0, 0, 0), (⟨"HotThroughModel", "isPerson", "(I)Z"⟩, prog_14_method_10_code, 2, (some .boolean), [2, 0], 3, 0, 0), (⟨"HotThroughModel", "throughOf", "([II)I"⟩, prog_14_method_40_code, 5, (some .int), [2, 2, 0], 0, 0, 0), (⟨"HotThroughModel", "throughBy", "(IIIIIII)I"⟩, prog_14_method_39_code, 8, (some .int), [2, 0, 0, 0, 0, 0, 0, 0], 0, 0, 0), (⟨"HotThroughModel", "through", "()I"⟩, prog_14_method_38_code, 4, (some .int), [2], 0, 0, 0), (⟨"HotThroughModel", "worked", "(III)I"⟩, prog_14_method_37_code, 3, (some .int), [0, 0, 0], 0, 0, 0), (⟨"HotThroughModel", "heat", "(II)I"⟩, prog_14_method_48_code, 4, (some .int), [2, 0, 0], 0, 0, 0), (⟨"HotThroughModel", "isThere", "(I)Z"⟩, prog_14_method_47_code, 2, (some .boolean), [2, 0], 3, 0, 0), (⟨"HotThroughModel", "sheet", "(IIII)I"⟩, prog_14_method_49_code, 9, (some .int), [2, 0, 0, 0, 0], 0, 0, 0), (⟨"HotThroughModel", "undo", "()I"⟩, prog_14_method_54_code, 2, (some .int), [2], 0, 0, 0), (⟨"HotThroughModel", "take", "(II)I"⟩, prog_14_method_62_code, 3, (some .int), [2, 0, 0], 0, 0, 0), (⟨"HotThroughModel", "putsBy", "()V"⟩, prog_14_method_51_code, 2, none, [2], 9, 0, 0), (⟨"HotThroughModel", "takesPot", "(II)I"⟩, prog_14_method_55_code, 3, (some .int), [2, 0, 0], 0, 0, 0), (⟨"HotThroughModel", "counts", "(I)I"⟩, prog_14_method_53_code, 2, (some .int), [2, 0], 0, 0, 0), (⟨"HotThroughModel", "adds", "(I)I"⟩, prog_14_method_52_code, 3, (some .int), [2, 0], 0, 0, 0), (⟨"HotThroughModel", "down", "(I)I"⟩, prog_14_method_63_code, 2, (some .int), [2, 0], 0, 0, 0), (⟨"HotThroughModel", "setsDown", "(I)I"⟩, prog_14_method_56_code, 3, (some .int), [2, 0], 0, 0, 0), (⟨"HotThroughModel", "walk", "(II)I"⟩, prog_14_method_64_code, 4, (some .int), [2, 0, 0], 0, 0, 0), (⟨"HotThroughModel", "startsCounting", "()V"⟩, prog_14_method_41_code, 1, none, [2], 9, 0, 0), (⟨"HotThroughModel", "walks", "(II)I"⟩, prog_14_method_57_code, 5, (some .int), [2, 0, 0], 0, 0, 0), (⟨"HotThroughModel", "secondGoes", "([I)V"⟩, prog_14_method_42_code, 6, none, [2, 2], 9, 0, 0), (⟨"HotThroughModel", "enters", "(J)V"⟩, prog_14_method_7_code, 3, none, [2, 1], 9, 0, 0), (⟨"HotThroughModel", "pass", "(I)I"⟩, prog_14_method_65_code, 3, (some .int), [2, 0], 0, 0, 0), (⟨"HotThroughModel", "passes", "(I)I"⟩, prog_14_method_58_code, 4, (some .int), [2, 0], 0, 0, 0), (⟨"HotThroughModel", "change", "(I)I"⟩, prog_14_method_66_code, 2, (some .int), [2, 0], 0, 0, 0), (⟨"HotThroughModel", "changesHand", "(I)I"⟩, prog_14_method_59_code, 2, (some .int), [2, 0], 0, 0, 0), (⟨"HotThroughModel", "give", "(II)I"⟩, prog_14_method_67_code, 3, (some .int), [2, 0, 0], 0, 0, 0), (⟨"HotThroughModel", "gives", "(II)I"⟩, prog_14_method_60_code, 4, (some .int), [2, 0, 0], 0, 0, 0), (⟨"HotThroughModel", "fold", "(II)I"⟩, prog_14_method_68_code, 4, (some .int), [2, 0, 0], 0, 0, 0), (⟨"HotThroughModel", "door", "(II)I"⟩, prog_14_method_69_code, 3, (some .int), [2, 0, 0], 0, 0, 0), (⟨"HotThroughModel", "opens", "(II)I"⟩, prog_14_method_61_code, 3, (some .int), [2, 0, 0], 0, 0, 0), (⟨"HotThroughModel", "dinner", "()I"⟩, prog_14_method_72_code, 6, (some .int), [2], 0, 0, 0), (⟨"HotThroughModel", "readsAct", "()Z"⟩, prog_14_method_70_code, 2, (some .boolean), [2], 3, 0, 0), (⟨"HotThroughModel", "does", "(I)Z"⟩, prog_14_method_71_code, 3, (some .boolean), [2, 0], 3, 0, 0), (⟨"HotThroughModel", "lasts", "(I)I"⟩, prog_14_method_75_code, 3, (some .int), [2, 0], 0, 0, 0), (⟨"HotThroughModel", "canHold", "(I)Z"⟩, prog_14_method_74_code, 2, (some .boolean), [2, 0], 3, 0, 0)]
def mT6 : List MT := [(⟨"HotThroughModel", "holdsOut", "(II)I"⟩, prog_14_method_73_code, 5, (some .int), [2, 0, 0], 0, 0, 0), (⟨"HotThroughModel", "puts", "([I[I)V"⟩, prog_14_method_50_code, 3, none, [2, 2], 9, 0, 0), (⟨"HotThroughModel", "swaps", "(II)I"⟩, prog_14_method_76_code, 4, (some .int), [2, 0, 0], 0, 0, 0), (⟨"HotThroughModel", "often", "(I)I"⟩, prog_14_method_77_code, 7, (some .int), [2, 0], 0, 0, 0), (⟨"HotThroughModel", "layers", "(III)I"⟩, prog_14_method_82_code, 5, (some .int), [2, 0, 0, 0], 0, 0, 0), (⟨"HotThroughModel", "canThink", "(III)Z"⟩, prog_14_method_81_code, 4, (some .boolean), [2, 0, 0, 0], 3, 0, 0), (⟨"HotThroughModel", "soloBegins", "(II)V"⟩, prog_14_method_80_code, 3, none, [2, 0, 0], 9, 0, 0), (⟨"HotThroughModel", "soloHolds", "(IIII)I"⟩, prog_14_method_78_code, 6, (some .int), [2, 0, 0, 0, 0], 0, 0, 0), (⟨"HotThroughModel", "hottest", "(III)I"⟩, prog_14_method_83_code, 7, (some .int), [2, 0, 0, 0], 0, 0, 0), (⟨"HotThroughModel", "path", "(II)I"⟩, prog_14_method_88_code, 4, (some .int), [2, 0, 0], 0, 0, 0), (⟨"HotThroughModel", "laysWay", "(II)Z"⟩, prog_14_method_85_code, 5, (some .boolean), [2, 0, 0], 3, 0, 0), (⟨"HotThroughModel", "laysApart", "(I)V"⟩, prog_14_method_84_code, 6, none, [2, 0], 9, 0, 0), (⟨"HotThroughModel", "stepsOfWay", "()I"⟩, prog_14_method_87_code, 1, (some .int), [2], 0, 0, 0), (⟨"HotThroughModel", "clear", "(II)I"⟩, prog_14_method_89_code, 8, (some .int), [2, 0, 0], 0, 0, 0), (⟨"HotThroughModel", "far", "(II)I"⟩, prog_14_method_90_code, 7, (some .int), [2, 0, 0], 0, 0, 0), (⟨"HotThroughModel", "legOf", "(I)I"⟩, prog_14_method_86_code, 2, (some .int), [2, 0], 0, 0, 0), (⟨"HotThroughModel", "rests", "(III)I"⟩, prog_14_method_95_code, 6, (some .int), [2, 0, 0, 0], 0, 0, 0), (⟨"HotThroughModel", "fewestRests", "(II)I"⟩, prog_14_method_94_code, 6, (some .int), [2, 0, 0], 0, 0, 0), (⟨"HotThroughModel", "isAhead", "(II)Z"⟩, prog_14_method_93_code, 7, (some .boolean), [2, 0, 0], 3, 0, 0), (⟨"java/lang/Integer", "numberOfTrailingZeros", "(I)I"⟩, prog_19_method_48_code, 2, (some .int), [0], 0, 0, 0), (⟨"HotThroughModel", "canRest", "(I)Z"⟩, prog_14_method_92_code, 4, (some .boolean), [2, 0], 3, 0, 0), (⟨"HotThroughModel", "carries", "(III)Z"⟩, prog_14_method_91_code, 6, (some .boolean), [2, 0, 0, 0], 3, 0, 0), (⟨"HotThroughModel", "soloRests", "(II)V"⟩, prog_14_method_79_code, 4, none, [2, 0, 0], 9, 0, 0), (⟨"HotThroughModel", "soonest", "(II)I"⟩, prog_14_method_96_code, 9, (some .int), [2, 0, 0], 0, 0, 0), (⟨"HotThroughModel", "chain", "(III)I"⟩, prog_14_method_98_code, 5, (some .int), [2, 0, 0, 0], 0, 0, 0), (⟨"HotThroughModel", "carriesOn", "(IIIIIII)V"⟩, prog_14_method_97_code, 10, none, [2, 0, 0, 0, 0, 0, 0, 0], 9, 0, 0), (⟨"HotThroughModel", "serve", "(IIII)I"⟩, prog_14_method_101_code, 6, (some .int), [2, 0, 0, 0, 0], 0, 0, 0), (⟨"HotThroughModel", "brings", "(IIIIIIII)V"⟩, prog_14_method_100_code, 15, none, [2, 0, 0, 0, 0, 0, 0, 0, 0], 9, 0, 0), (⟨"HotThroughModel", "coolsAll", "(II)V"⟩, prog_14_method_99_code, 5, none, [2, 0, 0], 9, 0, 0), (⟨"HotThroughModel", "mark", "(II)I"⟩, prog_14_method_102_code, 3, (some .int), [2, 0, 0], 0, 0, 0), (⟨"HotThroughModel", "wipe", "()I"⟩, prog_14_method_103_code, 2, (some .int), [2], 0, 0, 0), (⟨"HotThroughModel", "fits", "(II)I"⟩, prog_14_method_107_code, 4, (some .int), [2, 0, 0], 0, 0, 0), (⟨"HotThroughModel", "walksOn", "(IIIII)V"⟩, prog_14_method_106_code, 11, none, [2, 0, 0, 0, 0, 0], 9, 0, 0), (⟨"HotThroughModel", "marksAt", "(II)I"⟩, prog_14_method_104_code, 5, (some .int), [2, 0, 0], 0, 0, 0), (⟨"HotThroughModel", "isLess", "(I)Z"⟩, prog_14_method_105_code, 3, (some .boolean), [2, 0], 3, 0, 0), (⟨"HotThroughModel", "dinners", "(IIII)I"⟩, prog_14_method_108_code, 13, (some .int), [2, 0, 0, 0, 0], 0, 0, 0), (⟨"HotThroughModel", "keep", "(I)Z"⟩, prog_14_method_109_code, 3, (some .boolean), [2, 0], 3, 0, 0), (⟨"HotThroughModel", "again", "(I)Z"⟩, prog_14_method_110_code, 3, (some .boolean), [2, 0], 3, 0, 0), (⟨"HotThroughModel", "count", "(I)I"⟩, prog_14_method_113_code, 2, (some .int), [2, 0], 0, 0, 0), (⟨"HotThroughModel", "dropped", "()I"⟩, prog_14_method_111_code, 3, (some .int), [2], 0, 0, 0)]
def mT7 : List MT := [(⟨"HotThroughModel", "burntAll", "()I"⟩, prog_14_method_112_code, 3, (some .int), [2], 0, 0, 0), (⟨"HotThroughModel", "row", "(I)J"⟩, prog_14_method_114_code, 2, (some .long), [2, 0], 1, 0, 0)]
def mTl : List MT := mT0 ++ mT1 ++ mT2 ++ mT3 ++ mT4 ++ mT5 ++ mT6 ++ mT7
def mTd : MT := (⟨"", "", ""⟩, ⟨#[]⟩, 0, none, [], 0, 0, 0)
def mT (k : Nat) : MT := mTl.getD k mTd
def mNam (k : Nat) : MethodName := (mT k).1
def mCod (k : Nat) : ByteArray := (mT k).2.1
def mMax (k : Nat) : Nat := (mT k).2.2.1
def mRet (k : Nat) : Option FieldType := (mT k).2.2.2.1
def mArg (k : Nat) : List Nat := (mT k).2.2.2.2.1
def mRty (k : Nat) : Nat := (mT k).2.2.2.2.2.1
def mCel (k : Nat) : Nat := (mT k).2.2.2.2.2.2.1
def mSlo (k : Nat) : Nat := (mT k).2.2.2.2.2.2.2
def mWor (k : Nat) : Cond := .code (mNam k) (mCod k) (mMax k) (mRet k)
end
section
/-! programs as trees: what a tree of expressions does to the machine, said once -/
def rd (u : Sto) (t : Nat) (a j : Int) : Int := if t = 2 then u.1 a j else u.2.1 a j
def upm (f : Mem) (a j v : Int) : Mem := fun x y => if x = a ∧ y = j then v else f x y
def wr (u : Sto) (t : Nat) (a j v : Int) : Sto := if t = 2 then (upm u.1 a j v, u.2) else (u.1, upm u.2.1 a j v, u.2.2)
def upr (r : Rho) (i : Nat) (v : Int) : Rho := fun j => if j = i then v else r j
def stn (u : Sto) : Int := u.2.2.1
def sex (u : Sto) : Int := u.2.2.2.1
def sbc (u : Sto) : Nat := u.2.2.2.2.1
def sbw (u : Sto) : Nat := u.2.2.2.2.2
def bud (u : Sto) (c w : Nat) : Sto := (u.1, u.2.1, u.2.2.1, u.2.2.2.1, c, w)
def live (u : Sto) (a : Int) (k : Nat) : Prop := 0 < a ∧ a < stn u ∧ kcls a = k
def cellAt (G : Geo) (u : Sto) (H : Heap) (a : Int) : Prop :=
  ∃ cell : Cell, H[G.1 a]? = some cell ∧ cell.vm = .none ∧ cell.cls = G.2.1 (kcls a) ∧ (14 ≤ kcls a → cell.slots.size = (klen a).toNat) ∧ ∀ j : Nat, (j : Int) < klen a → cell.slots[G.2.2.1 (kcls a) j]? = some (enc G.1 (ety (kcls a) j) (rd u (ety (kcls a) j) a j))
def Rel (G : Geo) (u : Sto) (H : Heap) : Prop :=
  (∀ a : Int, 0 < a → a < stn u → kcls a ≠ 0 → cellAt G u H a) ∧
  (∀ a : Int, 0 < a → a < stn u → ∀ j : Nat, (j : Int) < klen a → ety (kcls a) j ≠ 2 → okv (ety (kcls a) j) (u.2.1 a j)) ∧
  1 ≤ stn u ∧ G.2.2.2 + (stn u).toNat ≤ H.size + 1 ∧ (sex u = 1 → H.size + 1 = G.2.2.2 + (stn u).toNat)
def KOK (G : Geo) (U : State) : Prop :=
  (∀ a : Int, 0 < a → G.1 a = G.2.2.2 + (a.toNat - 1)) ∧
  (∀ k, 1 ≤ k → k ≤ 13 → u_Kn U (kC k) (kF k) (kN k) (G.2.1 k) (G.2.2.1 k)) ∧
  (∀ k i j, 1 ≤ k → k ≤ 13 → i < kN k → j < kN k → i ≠ j → G.2.2.1 k i ≠ G.2.2.1 k j) ∧
  (∀ k, 14 ≤ k → k ≤ 18 → ArrOfT U (G.2.1 k) (aT k)) ∧ (∀ k j, 14 ≤ k → G.2.2.1 k j = j) ∧ ∀ k, 14 ≤ k → k ≤ 18 → va_RA U (G.2.1 k) (aT k)
theorem KOK.moved {G : Geo} {u U : State} (hvm : u.vm.Alike U.vm) (h : KOK G u) : KOK G U :=
  ⟨h.1, fun k h1 h2 => u_Kn_moved hvm (h.2.1 k h1 h2), h.2.2.1, fun k h1 h2 => arrOfT_moved hvm (h.2.2.2.1 k h1 h2), h.2.2.2.2.1, fun k h1 h2 => (h.2.2.2.2.2 k h1 h2).moved hvm⟩
def sTx : List String := ["fbtwph", "fbt", "123456789", "hfnbsipr", "<>=", "+-", "*/", "tdwscgo"]
def sCp : List Nat := [236, 207, 218, 276, 281, 283, 285, 402]
def sLen : List Nat := [6, 3, 9, 8, 3, 2, 2, 7]
def sByt : List (List Int32) := [[102, 98, 116, 119, 112, 104], [102, 98, 116], [49, 50, 51, 52, 53, 54, 55, 56, 57], [104, 102, 110, 98, 115, 105, 112, 114], [60, 62, 61], [43, 45], [42, 47], [116, 100, 119, 115, 99, 103, 111]]
/-- what lies below the base and is never written: texts, statics -/
def SOH (G : Geo) (U : State) (H : Heap) : Prop :=
  (∃ adV : Nat → Nat, vk_S 8 sLen sByt (fun i => G.1 (-1 - (i : Int))) adV (fun q => G.2.2.2 ≤ q) U H) ∧ (∀ i : Nat, i < 8 → vk_R "HotThroughModel" (sCp.getD i 0) (sTx.getD i "") (G.1 (-1 - (i : Int))) U) ∧
  va_Z "java/lang/String" "COMPACT_STRINGS" "Z" (.int 1) (fun q => G.2.2.2 ≤ q) U H ∧ va_Zq "jdk/internal/util/Preconditions" "SIOOBE_FORMATTER" "Ljava/util/function/BiFunction;" (fun q => G.2.2.2 ≤ q) U H ∧
  vx_Zq Bundle.tN "UNASSIGNED_STACK" Bundle.steD (fun q => G.2.2.2 ≤ q) U H ∧ vx_Zq Bundle.tN "SUPPRESSED_SENTINEL" Bundle.listD (fun q => G.2.2.2 ≤ q) U H
def SOK (G : Geo) (U : State) : Prop := SOH G U U.heap
theorem SOK.on {G : Geo} {s U : State} (h : SOK G s) (hW : s.WarmedH U.vm) (hq : ∀ a : Nat, a < G.2.2.2 → U.heap[a]? = s.heap[a]?) : SOK G U := by
  have hk : ∀ a : Nat, a < s.heap.size → ¬ G.2.2.2 ≤ a → U.heap[a]? = s.heap[a]? := fun a _ h2 => hq a (by omega)
  obtain ⟨⟨adV, h1⟩, h2, h3, h4, h5, h6⟩ := h
  exact ⟨⟨adV, (h1.moved hW.alike).kept hk⟩, fun i hi => (h2 i hi).warm hW, (h3.moved hW.alike).kept hk, (h4.moved hW.alike).kept hk, (h5.moved hW.alike).kept hk, (h6.moved hW.alike).kept hk⟩
def FrS (G : Geo) (H0 H : Heap) (locs : List Loc) : Prop := H0.size ≤ H.size ∧ (∀ q : Nat, q < G.2.2.2 → H[q]? = H0[q]?) ∧ ∀ x ∈ locs, G.2.2.2 ≤ x.base
def At (G : Geo) (R : Room) (H0 : Heap) (u : Sto) (H : Heap) (locs : List Loc) (cells slots : Nat) : Prop :=
  Rel G u H ∧ FrS G H0 H locs ∧ cells + sbc u ≤ R.cells ∧ slots + sbw u ≤ R.slots
abbrev Cds : Type := List (Nat × Instr × Nat)
def pcOf : Cds → Nat
  | [] => 0
  | q :: _ => q.1
def Dec (cc : ByteArray) : Cds → Prop
  | [] => True
  | q :: t => decode cc q.1 = .ok (q.2.1, q.2.2) ∧ (t = [] ∨ pcOf t = q.1 + q.2.2) ∧ Dec cc t
/-- a quick view of an instruction -/
def dq_w : Jvm.ClassFile.Cond → Nat
  | .eq => 0
  | .ne => 1
  | .lt => 2
  | .ge => 3
  | .gt => 4
  | .le => 5
def dq_v : Instr → Nat × Nat × Int
  | .iload_n k => (1, k.val, 0)
  | .aload_n k => (2, k.val, 0)
  | .istore_n k => (3, k.val, 0)
  | .iconst v => (4, 0, v)
  | .bipush v => (5, 0, v)
  | .goto v => (6, 0, v)
  | .iload k => (7, k, 0)
  | .istore k => (8, k, 0)
  | .getfield k => (9, k, 0)
  | .putfield k => (10, k, 0)
  | .invokevirtual k => (11, k, 0)
  | .invokestatic k => (12, k, 0)
  | .invokespecial k => (13, k, 0)
  | .iinc k v => (14, k, v)
  | .ireturn => (15, 0, 0)
  | .iaload => (16, 0, 0)
  | .iastore => (17, 0, 0)
  | .iadd => (18, 0, 0)
  | .imul => (19, 0, 0)
  | .isub => (20, 0, 0)
  | .dup => (21, 0, 0)
  | .i2l => (22, 0, 0)
  | .return_ => (23, 0, 0)
  | .ifCond q v => (30 + dq_w q, 0, v)
  | .if_icmp q v => (40 + dq_w q, 0, v)
  | _ => (0, 0, 0)
def dq_n : Nat → Nat → Int → Instr
  | 1, n, _ => .iload_n (Fin.ofNat 4 n)
  | 2, n, _ => .aload_n (Fin.ofNat 4 n)
  | 3, n, _ => .istore_n (Fin.ofNat 4 n)
  | 4, _, v => .iconst v
  | 5, _, v => .bipush v
  | 6, _, v => .goto v
  | 7, n, _ => .iload n
  | 8, n, _ => .istore n
  | 9, n, _ => .getfield n
  | 10, n, _ => .putfield n
  | 11, n, _ => .invokevirtual n
  | 12, n, _ => .invokestatic n
  | 13, n, _ => .invokespecial n
  | 14, n, v => .iinc n v
  | 15, _, _ => .ireturn
  | 16, _, _ => .iaload
  | 17, _, _ => .iastore
  | 18, _, _ => .iadd
  | 19, _, _ => .imul
  | 20, _, _ => .isub
  | 21, _, _ => .dup
  | 22, _, _ => .i2l
  | 23, _, _ => .return_
  | 30, _, v => .ifCond .eq v
  | 31, _, v => .ifCond .ne v
  | 32, _, v => .ifCond .lt v
  | 33, _, v => .ifCond .ge v
  | 34, _, v => .ifCond .gt v
  | 35, _, v => .ifCond .le v
  | 40, _, v => .if_icmp .eq v
  | 41, _, v => .if_icmp .ne v
  | 42, _, v => .if_icmp .lt v
  | 43, _, v => .if_icmp .ge v
  | 44, _, v => .if_icmp .gt v
  | 45, _, v => .if_icmp .le v
  | _, _, _ => .nop
theorem dq_vn (i : Instr) : (dq_v i).1 = 0 ∨ dq_n (dq_v i).1 (dq_v i).2.1 (dq_v i).2.2 = i := by
  cases i with
  | iload_n k => exact Or.inr (congrArg Instr.iload_n (Fin.ext (Nat.mod_eq_of_lt k.2)))
  | aload_n k => exact Or.inr (congrArg Instr.aload_n (Fin.ext (Nat.mod_eq_of_lt k.2)))
  | istore_n k => exact Or.inr (congrArg Instr.istore_n (Fin.ext (Nat.mod_eq_of_lt k.2)))
  | iconst _ => exact Or.inr rfl
  | bipush _ => exact Or.inr rfl
  | goto _ => exact Or.inr rfl
  | iload _ => exact Or.inr rfl
  | istore _ => exact Or.inr rfl
  | getfield _ => exact Or.inr rfl
  | putfield _ => exact Or.inr rfl
  | invokevirtual _ => exact Or.inr rfl
  | invokestatic _ => exact Or.inr rfl
  | invokespecial _ => exact Or.inr rfl
  | iinc _ _ => exact Or.inr rfl
  | ireturn => exact Or.inr rfl
  | iaload => exact Or.inr rfl
  | iastore => exact Or.inr rfl
  | iadd => exact Or.inr rfl
  | imul => exact Or.inr rfl
  | isub => exact Or.inr rfl
  | dup => exact Or.inr rfl
  | i2l => exact Or.inr rfl
  | return_ => exact Or.inr rfl
  | ifCond q v => exact Or.inr (by cases q <;> rfl)
  | if_icmp q v => exact Or.inr (by cases q <;> rfl)
  | _ => exact Or.inl rfl
def dq_q (a b : Instr) : Bool := (dq_v a).1 != 0 && ((dq_v a).1 == (dq_v b).1 && ((dq_v a).2.1 == (dq_v b).2.1 && decide ((dq_v a).2.2 = (dq_v b).2.2)))
theorem dq_q_ok {a b : Instr} (h : dq_q a b = true) : a = b := by
  simp only [dq_q, Bool.and_eq_true, beq_iff_eq, decide_eq_true_eq, bne_iff_ne] at h
  obtain ⟨h0, h1, h2, h3⟩ := h
  have ha := (dq_vn a).resolve_left h0
  have hb := (dq_vn b).resolve_left (h1 ▸ h0)
  rw [← ha, ← hb, h1, h2, h3]
def dq_d (a b : Instr) (m n : Nat) : Decidable (a = b ∧ m = n) :=
  if h : (dq_q a b && m == n) = true then .isTrue ⟨dq_q_ok ((Bool.and_eq_true _ _).mp h).1, beq_iff_eq.mp ((Bool.and_eq_true _ _).mp h).2⟩ else inferInstance
/-- past one instruction, more to come -/
def nx (i : Instr) (n : Nat) : Cds → Option Cds
  | q :: r :: t => @ite _ (q.2.1 = i ∧ q.2.2 = n) (dq_d q.2.1 i q.2.2 n) (some (r :: t)) none
  | _ => none
theorem nx_ok {i : Instr} {n : Nat} {cs t : Cds} {cc : ByteArray} (h : nx i n cs = some t) (hD : Dec cc cs) : decode cc (pcOf cs) = .ok (i, n) ∧ pcOf t = pcOf cs + n ∧ Dec cc t := by
  match cs, h, hD with
  | [], h, _ => simp [nx] at h
  | [_], h, _ => simp [nx] at h
  | q :: r :: t', h, hD =>
    simp only [nx] at h
    split at h
    · rename_i hq
      cases h
      obtain ⟨h1, h2, h3⟩ := hD
      rw [hq.1, hq.2] at h1
      refine ⟨h1, ?_, h3⟩
      rcases h2 with h2 | h2
      · cases h2
      · rw [h2, hq.2]; rfl
    · cases h
/-- the last one of a stretch: what comes behind it, if anything does -/
def nxe (i : Instr) (n : Nat) : Cds → Option Cds
  | q :: t => @ite _ (q.2.1 = i ∧ q.2.2 = n) (dq_d q.2.1 i q.2.2 n) (some t) none
  | _ => none
theorem nxe_ok {i : Instr} {n : Nat} {cs t : Cds} {cc : ByteArray} (h : nxe i n cs = some t) (hD : Dec cc cs) : decode cc (pcOf cs) = .ok (i, n) ∧ Dec cc t := by
  match cs, h, hD with
  | [], h, _ => simp [nxe] at h
  | q :: t', h, hD =>
    simp only [nxe] at h
    split at h
    · rename_i hq
      cases h
      obtain ⟨h1, h2, h3⟩ := hD
      rw [hq.1, hq.2] at h1
      exact ⟨h1, h3⟩
    · cases h
abbrev Gam : Type := List (Nat × Nat)
def LR (G : Geo) (nL : Nat) (ga : Gam) (r : Rho) (ls : Array Slot) : Prop := lv_has ls nL (ga.map fun q => (q.1, enc G.1 q.2 (r q.1))) ∧ ∀ q ∈ ga, okv q.2 (r q.1)
theorem LR.at {G : Geo} {nL : Nat} {ga : Gam} {r : Rho} {ls : Array Slot} (h : LR G nL ga r ls) {i t : Nat} (hm : (i, t) ∈ ga) : ls[i]? = some (.val (enc G.1 t (r i))) ∧ okv t (r i) :=
  ⟨h.1.2.2 (i, enc G.1 t (r i)) (List.mem_map.mpr ⟨(i, t), hm, rfl⟩), h.2 (i, t) hm⟩
theorem LR.sub {G : Geo} {nL : Nat} {ga gb : Gam} {r : Rho} {ls : Array Slot} (h : LR G nL ga r ls) (hs : ∀ q ∈ gb, q ∈ ga) : LR G nL gb r ls :=
  ⟨⟨h.1.1, h.1.2.1, fun q hq => by
    obtain ⟨z, hz, rfl⟩ := List.mem_map.mp hq
    exact h.1.2.2 _ (List.mem_map.mpr ⟨z, hs z hz, rfl⟩)⟩, fun q hq => h.2 q (hs q hq)⟩
abbrev ClT : Type := Nat → List Int → (Int → Sto → Prop) → Sto → Prop
def encA (al : Int → Nat) : List Nat → List Int → List Value
  | t :: ts, v :: vs => enc al t v :: encA al ts vs
  | _, _ => []
def okA : List Nat → List Int → Prop
  | [], [] => True
  | t :: ts, v :: vs => okv t v ∧ okA ts vs
  | _, _ => False
def encR (al : Int → Nat) (t : Nat) (v : Int) : Option Value := if t = 9 then none else some (enc al t v)
def FrH (G : Geo) (st t : State) : Prop := st.heap.size ≤ t.heap.size ∧ ∀ q : Nat, q < G.2.2.2 → t.heap[q]? = st.heap[q]?
def PcOf (G : Geo) (k : Nat) (vs : List Int) (u : Sto) : Array Value → State → Prop := fun a U => a = (encA G.1 (mArg k) vs).toArray ∧ okA (mArg k) vs ∧ Rel G u U.heap ∧ KOK G U ∧ G.2.2.2 ≤ U.heap.size ∧ SOK G U
def QcOf (G : Geo) (k : Nat) (Q : Int → Sto → Prop) : Array Value → State → Outcome → State → Prop := fun _ st o t =>
  (∃ (v : Int) (u : Sto), o = .returned (encR G.1 (mRty k) v) ∧ okv (mRty k) v ∧ Q v u ∧ Rel G u t.heap) ∧ FrH G st t
def wsOf (k : Nat) : List Cond := mWor k :: gTbl
def ClOK (l : Launch) (R : Room) (G : Geo) (cl : ClT) : Prop := ∀ (k : Nat) (vs : List Int) (Q : Int → Sto → Prop) (u : Sto), cl k vs Q u → sbc u ≤ mCel k → sbw u ≤ mSlo k →
  ∃ rm : Room, rm.cells = mCel k ∧ rm.slots = mSlo k ∧ rm.frames + 1 ≤ R.frames ∧ 20 + (mMax k + 11) + rm.locals ≤ R.locals ∧
    Met l (mNam k) (wsOf k) rm (PcOf G k vs u) (QcOf G k Q) (mCel k) (mSlo k) (fun q => G.2.2.2 ≤ q)
def MX (p : Program) (R : Room) (s : State) (m : MethodId) (args : Array Value) (c : Code) (cc : ByteArray) (nL ow : Nat) (G : Geo) : Prop :=
  p.tables.exec = Jvm.exec ∧ c.code = cc ∧ c.maxLocals = nL ∧ s.vm.findClass (kC ow) = some m.cls ∧ (∀ w ∈ gTbl, w.before args s = true) ∧ KOK G s ∧ G.2.2.2 ≤ s.heap.size ∧ 1 ≤ R.frames ∧ 40 ≤ R.locals ∧ SOK G s ∧ (100 ≤ ow → ∀ mt : Method, s.vm.method? m = some mt → mt.name = "<init>")
def cats (st : List Value) : Nat := (st.map fun v => v.category).sum
theorem cats_cons (v : Value) (st : List Value) : cats (v :: st) = v.category + cats st := by simp [cats]
theorem cat_enc (al : Int → Nat) (t : Nat) (v : Int) : (enc al t v).category = if t = 1 then 2 else 1 := by
  unfold enc
  split
  · rfl
  · split
    · split <;> rfl
    · rfl
abbrev XE : Type := (Gam → Nat → Cds → Option (Nat × Cds)) × (ClT → (Int → Sto → Prop) → Rho → Sto → Prop)
def SndE (ow : Nat) (x : XE) : Prop :=
  ∀ (p : Program) (l : Launch) (e : Env) (R : Room) (s : State) (m : MethodId) (args : Array Value) (below : List Frame) (meth : Method) (c : Code) (cc : ByteArray) (nL : Nat) (G : Geo) (Qf : State → Prop) (cl : ClT),
  MX p R s m args c cc nL ow G → ClOK l R G cl → ∀ (ga : Gam) (d : Nat) (cs : Cds) (t : Nat) (cs' : Cds), x.1 ga d cs = some (t, cs') → Dec cc cs →
  ∀ (r : Rho) (u : Sto) (H : Heap) (locs : List Loc) (cells slots : Nat) (ls : Array Slot) (st : List Value) (Q : Int → Sto → Prop),
  LR G nL ga r ls → At G R s.heap u H locs cells slots → cats st ≤ d → x.2 cl Q r u →
  (∀ (v : Int) (u' : Sto) (H' : Heap) (locs' : List Loc) (cells' slots' : Nat), okv t v → At G R s.heap u' H' locs' cells' slots' → Q v u' → Dec cc cs' → W p l e R s m args below meth c H' locs' cells' slots' Qf (F0 m (pcOf cs') ls (enc G.1 t v :: st))) →
  W p l e R s m args below meth c H locs cells slots Qf (F0 m (pcOf cs) ls st)
def DecE (x : XE) : Prop := ∀ (ga : Gam) (d : Nat) (cs : Cds) (t : Nat) (cs' : Cds) (cc : ByteArray), x.1 ga d cs = some (t, cs') → Dec cc cs → Dec cc cs'
theorem map_nx {i : Instr} {n a t : Nat} {cs cs' : Cds} {cc : ByteArray} (h : (nx i n cs).map (fun x => (a, x)) = some (t, cs')) (hD : Dec cc cs) : Dec cc cs' := by
  obtain ⟨x, hx, e1⟩ := Option.map_eq_some_iff.mp h
  cases e1
  exact (nx_ok hx hD).2.2
abbrev EX (ow : Nat) : Type := { x : XE // SndE ow x ∧ DecE x }

def insC (n : Int) : Instr × Nat := if -1 ≤ n ∧ n ≤ 5 then (.iconst n, 1) else if -128 ≤ n ∧ n ≤ 127 then (.bipush n, 2) else (.sipush n, 3)
def cstP (n : Int) : XE := (fun _ _ cs => if -32768 ≤ n ∧ n ≤ 32767 then (nx (insC n).1 (insC n).2 cs).map (fun x => (0, x)) else none, fun _ Q _ u => Q n u)
theorem cst_ok (ow : Nat) (n : Int) : SndE ow (cstP n) := by
  intro p l e R s m args below meth c cc nL G Qf cl hX hC ga d cs t cs' hc hD r u H locs cells slots ls st Q hL hA hs hw k
  simp only [cstP] at hc hw
  split at hc
  case isFalse => cases hc
  rename_i hn
  obtain ⟨x, hx, e1⟩ := Option.map_eq_some_iff.mp hc
  cases e1
  obtain ⟨h1, h2, h3⟩ := nx_ok hx hD
  have hi : inI n := by unfold inI; omega
  have k' := k n u H locs cells slots hi hA hw h3
  rw [h2, enc_0] at k'
  unfold insC at h1 k'
  split at h1
  · rename_i q
    rw [if_pos q] at k'
    exact lv_iconst hX.1 hX.2.1 h1 rfl k'
  · rename_i q
    rw [if_neg q] at k'
    split at h1
    · rename_i q2
      rw [if_pos q2] at k'
      exact lv_bipush hX.1 hX.2.1 h1 (Int8.toInt32_ofInt (by show (-128 : Int) ≤ n; omega) (by show n ≤ (127 : Int); omega)) k'
    · rename_i q2
      rw [if_neg q2] at k'
      exact lv_sipush hX.1 hX.2.1 h1 (Int16.toInt32_ofInt (by show (-32768 : Int) ≤ n; omega) (by show n ≤ (32767 : Int); omega)) k'
theorem cst_d (n : Int) : DecE (cstP n) := by
  intro ga d cs t cs' cc hc hD
  simp only [cstP] at hc
  split at hc
  case isFalse => cases hc
  exact map_nx hc hD
def cst {ow : Nat} (n : Int) : EX ow := ⟨cstP n, cst_ok ow n, cst_d n⟩
def insI (i : Nat) : Instr × Nat := if h : i < 4 then (.iload_n ⟨i, h⟩, 1) else (.iload i, 2)
def insA (i : Nat) : Instr × Nat := if h : i < 4 then (.aload_n ⟨i, h⟩, 1) else (.aload i, 2)
def insJ (i : Nat) : Instr × Nat := if h : i < 4 then (.lload_n ⟨i, h⟩, 1) else (.lload i, 2)
def ldiP (i : Nat) : XE := (fun ga _ cs => if (i, 0) ∈ ga then (nx (insI i).1 (insI i).2 cs).map (fun x => (0, x)) else none, fun _ Q r u => Q (r i) u)
theorem ldi_ok (ow : Nat) (i : Nat) : SndE ow (ldiP i) := by
  intro p l e R s m args below meth c cc nL G Qf cl hX hC ga d cs t cs' hc hD r u H locs cells slots ls st Q hL hA hs hw k
  simp only [ldiP] at hc hw
  split at hc
  case isFalse => cases hc
  rename_i hm
  obtain ⟨x, hx, e1⟩ := Option.map_eq_some_iff.mp hc
  cases e1
  obtain ⟨h1, h2, h3⟩ := nx_ok hx hD
  obtain ⟨hl, hi⟩ := hL.at hm
  have k' := k (r i) u H locs cells slots hi hA hw h3
  rw [h2] at k'
  unfold insI at h1 k'
  split at h1
  · rename_i q
    rw [dif_pos q] at k'
    exact lv_iload_n hX.1 hX.2.1 h1 rfl hl k'
  · rename_i q
    rw [dif_neg q] at k'
    exact lv_iload hX.1 hX.2.1 h1 hl k'
theorem ldi_d (i : Nat) : DecE (ldiP i) := by
  intro ga d cs t cs' cc hc hD
  simp only [ldiP] at hc
  split at hc
  case isFalse => cases hc
  exact map_nx hc hD
def ldi {ow : Nat} (i : Nat) : EX ow := ⟨ldiP i, ldi_ok ow i, ldi_d i⟩
def ldjP (i : Nat) : XE := (fun ga _ cs => if (i, 1) ∈ ga then (nx (insJ i).1 (insJ i).2 cs).map (fun x => (1, x)) else none, fun _ Q r u => Q (r i) u)
theorem ldj_ok (ow : Nat) (i : Nat) : SndE ow (ldjP i) := by
  intro p l e R s m args below meth c cc nL G Qf cl hX hC ga d cs t cs' hc hD r u H locs cells slots ls st Q hL hA hs hw k
  simp only [ldjP] at hc hw
  split at hc
  case isFalse => cases hc
  rename_i hm
  obtain ⟨x, hx, e1⟩ := Option.map_eq_some_iff.mp hc
  cases e1
  obtain ⟨h1, h2, h3⟩ := nx_ok hx hD
  obtain ⟨hl, hi⟩ := hL.at hm
  have k' := k (r i) u H locs cells slots hi hA hw h3
  rw [h2] at k'
  unfold insJ at h1 k'
  split at h1
  · rename_i q
    rw [dif_pos q] at k'
    exact lv_lload_n hX.1 hX.2.1 h1 rfl hl k'
  · rename_i q
    rw [dif_neg q] at k'
    exact lv_lload hX.1 hX.2.1 h1 hl k'
theorem ldj_d (i : Nat) : DecE (ldjP i) := by
  intro ga d cs t cs' cc hc hD
  simp only [ldjP] at hc
  split at hc
  case isFalse => cases hc
  exact map_nx hc hD
def ldj {ow : Nat} (i : Nat) : EX ow := ⟨ldjP i, ldj_ok ow i, ldj_d i⟩
def ldaP (i : Nat) : XE := (fun ga _ cs => if (i, 2) ∈ ga then (nx (insA i).1 (insA i).2 cs).map (fun x => (2, x)) else none, fun _ Q r u => r i ≠ 0 ∧ Q (r i) u)
theorem lda_ok (ow : Nat) (i : Nat) : SndE ow (ldaP i) := by
  intro p l e R s m args below meth c cc nL G Qf cl hX hC ga d cs t cs' hc hD r u H locs cells slots ls st Q hL hA hs hw k
  simp only [ldaP] at hc hw
  split at hc
  case isFalse => cases hc
  rename_i hm
  obtain ⟨x, hx, e1⟩ := Option.map_eq_some_iff.mp hc
  cases e1
  obtain ⟨h1, h2, h3⟩ := nx_ok hx hD
  obtain ⟨hl, hi⟩ := hL.at hm
  have k' := k (r i) u H locs cells slots hi hA hw.2 h3
  rw [h2, enc_2 _ hw.1] at k'
  rw [enc_2 _ hw.1] at hl
  unfold insA at h1 k'
  split at h1
  · rename_i q
    rw [dif_pos q] at k'
    exact lv_aload_n hX.1 hX.2.1 h1 rfl hl k'
  · rename_i q
    rw [dif_neg q] at k'
    exact lv_aload hX.1 hX.2.1 h1 hl k'
theorem lda_d (i : Nat) : DecE (ldaP i) := by
  intro ga d cs t cs' cc hc hD
  simp only [ldaP] at hc
  split at hc
  case isFalse => cases hc
  exact map_nx hc hD
def lda {ow : Nat} (i : Nat) : EX ow := ⟨ldaP i, lda_ok ow i, lda_d i⟩

def negP (a : XE) : XE := (fun ga d cs => match a.1 ga d cs with
    | some (0, cs1) => (nx .ineg 1 cs1).map (fun x => (0, x))
    | _ => none, fun cl Q r u => a.2 cl (fun v u' => Q (w32 (-v)) u') r u)
theorem neg_ok (ow : Nat) (a : XE) (ha : SndE ow a) : SndE ow (negP a) := by
  intro p l e R s m args below meth c cc nL G Qf cl hX hC ga d cs t cs' hc hD r u H locs cells slots ls st Q hL hA hs hw k
  simp only [negP] at hc hw
  split at hc
  case h_2 => cases hc
  rename_i cs1 h0
  obtain ⟨x, hx, e1⟩ := Option.map_eq_some_iff.mp hc
  cases e1
  refine ha p l e R s m args below meth c cc nL G Qf cl hX hC ga d cs 0 cs1 h0 hD r u H locs cells slots ls st _ hL hA hs hw ?_
  intro v u' H' locs' cells' slots' hv hA' hq hD1
  obtain ⟨h1, h2, h3⟩ := nx_ok hx hD1
  have hv : inI v := hv
  have k' := k (w32 (-v)) u' H' locs' cells' slots' (w32_in _) hA' hq h3
  rw [h2] at k'
  exact lv_ineg hX.1 hX.2.1 h1 (by rw [← Int32.ofInt_neg, ← ofI_bmod]; exact k')
theorem neg_d (a : XE) (ha : DecE a) : DecE (negP a) := by
  intro ga d cs t cs' cc hc hD
  simp only [negP] at hc
  split at hc
  case h_2 => cases hc
  rename_i h0
  exact map_nx hc (ha _ _ _ _ _ _ h0 hD)
def neg {ow : Nat} (a : EX ow) : EX ow := ⟨negP a.1, neg_ok ow a.1 a.2.1, neg_d a.1 a.2.2⟩

def cvbP (a : XE) : XE := (fun ga d cs => match a.1 ga d cs with
    | some (0, cs1) => (nx .i2b 1 cs1).map (fun x => (0, x))
    | _ => none, fun cl Q r u => a.2 cl (fun v u' => Q (i2b v) u') r u)
theorem cvb_ok (ow : Nat) (a : XE) (ha : SndE ow a) : SndE ow (cvbP a) := by
  intro p l e R s m args below meth c cc nL G Qf cl hX hC ga d cs t cs' hc hD r u H locs cells slots ls st Q hL hA hs hw k
  simp only [cvbP] at hc hw
  split at hc
  case h_2 => cases hc
  rename_i cs1 h0
  obtain ⟨x, hx, e1⟩ := Option.map_eq_some_iff.mp hc
  cases e1
  refine ha p l e R s m args below meth c cc nL G Qf cl hX hC ga d cs 0 cs1 h0 hD r u H locs cells slots ls st _ hL hA hs hw ?_
  intro v u' H' locs' cells' slots' hv hA' hq hD1
  obtain ⟨h1, h2, h3⟩ := nx_ok hx hD1
  have hv : inI v := hv
  have k' := k (i2b v) u' H' locs' cells' slots' (toInt_in _) hA' hq h3
  rw [h2] at k'
  exact lv_i2b hX.1 hX.2.1 h1 (by rw [i2b, Int32.ofInt_toInt]) k'
theorem cvb_d (a : XE) (ha : DecE a) : DecE (cvbP a) := by
  intro ga d cs t cs' cc hc hD
  simp only [cvbP] at hc
  split at hc
  case h_2 => cases hc
  rename_i h0
  exact map_nx hc (ha _ _ _ _ _ _ h0 hD)
def cvb {ow : Nat} (a : EX ow) : EX ow := ⟨cvbP a.1, cvb_ok ow a.1 a.2.1, cvb_d a.1 a.2.2⟩

def cvsP (a : XE) : XE := (fun ga d cs => match a.1 ga d cs with
    | some (0, cs1) => (nx .i2s 1 cs1).map (fun x => (0, x))
    | _ => none, fun cl Q r u => a.2 cl (fun v u' => Q (i2s v) u') r u)
theorem cvs_ok (ow : Nat) (a : XE) (ha : SndE ow a) : SndE ow (cvsP a) := by
  intro p l e R s m args below meth c cc nL G Qf cl hX hC ga d cs t cs' hc hD r u H locs cells slots ls st Q hL hA hs hw k
  simp only [cvsP] at hc hw
  split at hc
  case h_2 => cases hc
  rename_i cs1 h0
  obtain ⟨x, hx, e1⟩ := Option.map_eq_some_iff.mp hc
  cases e1
  refine ha p l e R s m args below meth c cc nL G Qf cl hX hC ga d cs 0 cs1 h0 hD r u H locs cells slots ls st _ hL hA hs hw ?_
  intro v u' H' locs' cells' slots' hv hA' hq hD1
  obtain ⟨h1, h2, h3⟩ := nx_ok hx hD1
  have hv : inI v := hv
  have k' := k (i2s v) u' H' locs' cells' slots' (toInt_in _) hA' hq h3
  rw [h2] at k'
  exact lv_i2s hX.1 hX.2.1 h1 (by rw [i2s, Int32.ofInt_toInt]) k'
theorem cvs_d (a : XE) (ha : DecE a) : DecE (cvsP a) := by
  intro ga d cs t cs' cc hc hD
  simp only [cvsP] at hc
  split at hc
  case h_2 => cases hc
  rename_i h0
  exact map_nx hc (ha _ _ _ _ _ _ h0 hD)
def cvs {ow : Nat} (a : EX ow) : EX ow := ⟨cvsP a.1, cvs_ok ow a.1 a.2.1, cvs_d a.1 a.2.2⟩

def cvcP (a : XE) : XE := (fun ga d cs => match a.1 ga d cs with
    | some (0, cs1) => (nx .i2c 1 cs1).map (fun x => (0, x))
    | _ => none, fun cl Q r u => a.2 cl (fun v u' => Q (i2c v) u') r u)
theorem cvc_ok (ow : Nat) (a : XE) (ha : SndE ow a) : SndE ow (cvcP a) := by
  intro p l e R s m args below meth c cc nL G Qf cl hX hC ga d cs t cs' hc hD r u H locs cells slots ls st Q hL hA hs hw k
  simp only [cvcP] at hc hw
  split at hc
  case h_2 => cases hc
  rename_i cs1 h0
  obtain ⟨x, hx, e1⟩ := Option.map_eq_some_iff.mp hc
  cases e1
  refine ha p l e R s m args below meth c cc nL G Qf cl hX hC ga d cs 0 cs1 h0 hD r u H locs cells slots ls st _ hL hA hs hw ?_
  intro v u' H' locs' cells' slots' hv hA' hq hD1
  obtain ⟨h1, h2, h3⟩ := nx_ok hx hD1
  have hv : inI v := hv
  have k' := k (i2c v) u' H' locs' cells' slots' (toInt_in _) hA' hq h3
  rw [h2] at k'
  exact lv_i2c hX.1 hX.2.1 h1 (by rw [i2c, Int32.ofInt_toInt]) k'
theorem cvc_d (a : XE) (ha : DecE a) : DecE (cvcP a) := by
  intro ga d cs t cs' cc hc hD
  simp only [cvcP] at hc
  split at hc
  case h_2 => cases hc
  rename_i h0
  exact map_nx hc (ha _ _ _ _ _ _ h0 hD)
def cvc {ow : Nat} (a : EX ow) : EX ow := ⟨cvcP a.1, cvc_ok ow a.1 a.2.1, cvc_d a.1 a.2.2⟩

def cvjP (a : XE) : XE := (fun ga d cs => match a.1 ga d cs with
    | some (0, cs1) => (nx .i2l 1 cs1).map (fun x => (1, x))
    | _ => none, fun cl Q r u => a.2 cl (fun v u' => Q (v) u') r u)
theorem cvj_ok (ow : Nat) (a : XE) (ha : SndE ow a) : SndE ow (cvjP a) := by
  intro p l e R s m args below meth c cc nL G Qf cl hX hC ga d cs t cs' hc hD r u H locs cells slots ls st Q hL hA hs hw k
  simp only [cvjP] at hc hw
  split at hc
  case h_2 => cases hc
  rename_i cs1 h0
  obtain ⟨x, hx, e1⟩ := Option.map_eq_some_iff.mp hc
  cases e1
  refine ha p l e R s m args below meth c cc nL G Qf cl hX hC ga d cs 0 cs1 h0 hD r u H locs cells slots ls st _ hL hA hs hw ?_
  intro v u' H' locs' cells' slots' hv hA' hq hD1
  obtain ⟨h1, h2, h3⟩ := nx_ok hx hD1
  have hv : inI v := hv
  have k' := k (v) u' H' locs' cells' slots' (⟨by have := hv.1; omega, by have := hv.2; omega⟩) hA' hq h3
  rw [h2] at k'
  exact lv_i2l hX.1 hX.2.1 h1 (Int32.toInt64_ofInt (by show (-2147483648 : Int) ≤ v; exact hv.1) (by show v ≤ (2147483647 : Int); have := hv.2; omega)) k'
theorem cvj_d (a : XE) (ha : DecE a) : DecE (cvjP a) := by
  intro ga d cs t cs' cc hc hD
  simp only [cvjP] at hc
  split at hc
  case h_2 => cases hc
  rename_i h0
  exact map_nx hc (ha _ _ _ _ _ _ h0 hD)
def cvj {ow : Nat} (a : EX ow) : EX ow := ⟨cvjP a.1, cvj_ok ow a.1 a.2.1, cvj_d a.1 a.2.2⟩

def BinR (ins : Instr) (g : Int32 → Int32 → Int32) (ok : Int → Prop) : Prop := ∀ (p : Program) (l : Launch) (e : Env) (R : Room) (s : State) (m : MethodId) (args : Array Value) (below : List Frame) (meth : Method) (c : Code) (cc : ByteArray) (H : Heap) (locs : List Loc) (cells slots : Nat) (Q : State → Prop) (pc : Nat) (ls : Array Slot) (rest : List Value) (x y : Int), p.tables.exec = Jvm.exec → c.code = cc → decode cc pc = .ok (ins, 1) → ok y → inI y →
  W p l e R s m args below meth c H locs cells slots Q (F0 m (pc + 1) ls (.int (g (Int32.ofInt x) (Int32.ofInt y)) :: rest)) → W p l e R s m args below meth c H locs cells slots Q (F0 m pc ls (.int (Int32.ofInt y) :: .int (Int32.ofInt x) :: rest))
def binP (ins : Instr) (f : Int → Int → Int) (ok : Int → Prop) (a b : XE) : XE := (fun ga d cs => match a.1 ga d cs with
    | some (0, cs1) => match b.1 ga (d + 1) cs1 with
      | some (0, cs2) => (nx ins 1 cs2).map (fun x => (0, x))
      | _ => none
    | _ => none, fun cl Q r u => a.2 cl (fun v u' => b.2 cl (fun w u2 => ok w ∧ Q (f v w) u2) r u') r u)
theorem bin_ok (ow : Nat) (ins : Instr) (f : Int → Int → Int) (ok : Int → Prop) (g : Int32 → Int32 → Int32) (hr : BinR ins g ok) (hf : ∀ x y, inI (f x y)) (hg : ∀ x y, inI x → inI y → Int32.ofInt (f x y) = g (Int32.ofInt x) (Int32.ofInt y)) (a b : XE) (ha : SndE ow a) (hb : SndE ow b) : SndE ow (binP ins f ok a b) := by
  intro p l e R s m args below meth c cc nL G Qf cl hX hC ga d cs t cs' hc hD r u H locs cells slots ls st Q hL hA hs hw k
  simp only [binP] at hc hw
  split at hc
  case h_2 => cases hc
  rename_i cs1 h0
  split at hc
  case h_2 => cases hc
  rename_i cs2 h00
  obtain ⟨x, hx, e1⟩ := Option.map_eq_some_iff.mp hc
  cases e1
  refine ha p l e R s m args below meth c cc nL G Qf cl hX hC ga d cs 0 cs1 h0 hD r u H locs cells slots ls st _ hL hA hs hw ?_
  intro v u' H' locs' cells' slots' hv hA' hq hD1
  refine hb p l e R s m args below meth c cc nL G Qf cl hX hC ga (d + 1) cs1 0 cs2 h00 hD1 r u' H' locs' cells' slots' ls _ _ hL hA' ?_ hq ?_
  · rw [cats_cons, cat_enc]; simp; omega
  intro w u2 H2 locs2 cells2 slots2 hv2 hA2 hq2 hD2
  obtain ⟨h1, h2, h3⟩ := nx_ok hx hD2
  have hv : inI v := hv
  have hv2 : inI w := hv2
  have k' := k (f v w) u2 H2 locs2 cells2 slots2 (hf v w) hA2 hq2.2 h3
  rw [h2, enc_0, hg v w hv hv2] at k'
  exact hr p l e R s m args below meth c cc H2 locs2 cells2 slots2 Qf (pcOf cs2) ls st v w hX.1 hX.2.1 h1 hq2.1 hv2 k'
theorem bin_d (ins : Instr) (f : Int → Int → Int) (ok : Int → Prop) (a b : XE) (ha : DecE a) (hb : DecE b) : DecE (binP ins f ok a b) := by
  intro ga d cs t cs' cc hc hD
  simp only [binP] at hc
  split at hc
  case h_2 => cases hc
  rename_i h0
  split at hc
  case h_2 => cases hc
  rename_i h00
  exact map_nx hc (hb _ _ _ _ _ _ h00 (ha _ _ _ _ _ _ h0 hD))
def okT : Int → Prop := fun _ => True
def okN : Int → Prop := fun y => y ≠ 0
theorem add_r : BinR .iadd (fun x y => x + y) okT := fun p l e R s m args below meth c cc H locs cells slots Q pc ls rest x y hx hb hd ho hy k => lv_iadd hx hb hd k
def add {ow : Nat} (a b : EX ow) : EX ow := ⟨binP .iadd (fun a b => w32 (a + b)) okT a.1 b.1, bin_ok ow _ _ _ _ add_r (fun _ _ => w32_in _) (fun x y _ _ => by rw [ofI_bmod, Int32.ofInt_add]) a.1 b.1 a.2.1 b.2.1, bin_d _ _ _ a.1 b.1 a.2.2 b.2.2⟩
theorem sub_r : BinR .isub (fun x y => x - y) okT := fun p l e R s m args below meth c cc H locs cells slots Q pc ls rest x y hx hb hd ho hy k => lv_isub hx hb hd k
def sub {ow : Nat} (a b : EX ow) : EX ow := ⟨binP .isub (fun a b => w32 (a - b)) okT a.1 b.1, bin_ok ow _ _ _ _ sub_r (fun _ _ => w32_in _) (fun x y _ _ => by rw [ofI_bmod, Int32.ofInt_sub]) a.1 b.1 a.2.1 b.2.1, bin_d _ _ _ a.1 b.1 a.2.2 b.2.2⟩
theorem mul_r : BinR .imul (fun x y => x * y) okT := fun p l e R s m args below meth c cc H locs cells slots Q pc ls rest x y hx hb hd ho hy k => lv_imul hx hb hd k
def mul {ow : Nat} (a b : EX ow) : EX ow := ⟨binP .imul (fun a b => w32 (a * b)) okT a.1 b.1, bin_ok ow _ _ _ _ mul_r (fun _ _ => w32_in _) (fun x y _ _ => by rw [ofI_bmod, Int32.ofInt_mul]) a.1 b.1 a.2.1 b.2.1, bin_d _ _ _ a.1 b.1 a.2.2 b.2.2⟩
theorem ban_r : BinR .iand (fun x y => x &&& y) okT := fun p l e R s m args below meth c cc H locs cells slots Q pc ls rest x y hx hb hd ho hy k => lv_iand hx hb hd k
def ban {ow : Nat} (a b : EX ow) : EX ow := ⟨binP .iand iand okT a.1 b.1, bin_ok ow _ _ _ _ ban_r (fun _ _ => toInt_in _) (fun x y _ _ => Int32.ofInt_toInt _) a.1 b.1 a.2.1 b.2.1, bin_d _ _ _ a.1 b.1 a.2.2 b.2.2⟩
theorem bor_r : BinR .ior (fun x y => x ||| y) okT := fun p l e R s m args below meth c cc H locs cells slots Q pc ls rest x y hx hb hd ho hy k => lv_ior hx hb hd k
def bor {ow : Nat} (a b : EX ow) : EX ow := ⟨binP .ior ior okT a.1 b.1, bin_ok ow _ _ _ _ bor_r (fun _ _ => toInt_in _) (fun x y _ _ => Int32.ofInt_toInt _) a.1 b.1 a.2.1 b.2.1, bin_d _ _ _ a.1 b.1 a.2.2 b.2.2⟩
theorem bxo_r : BinR .ixor (fun x y => x ^^^ y) okT := fun p l e R s m args below meth c cc H locs cells slots Q pc ls rest x y hx hb hd ho hy k => lv_ixor hx hb hd k
def bxo {ow : Nat} (a b : EX ow) : EX ow := ⟨binP .ixor ixor okT a.1 b.1, bin_ok ow _ _ _ _ bxo_r (fun _ _ => toInt_in _) (fun x y _ _ => Int32.ofInt_toInt _) a.1 b.1 a.2.1 b.2.1, bin_d _ _ _ a.1 b.1 a.2.2 b.2.2⟩
theorem shl_r : BinR .ishl (fun x y => x <<< (y &&& 31)) okT := fun p l e R s m args below meth c cc H locs cells slots Q pc ls rest x y hx hb hd ho hy k => lv_ishl hx hb hd k
def shl {ow : Nat} (a b : EX ow) : EX ow := ⟨binP .ishl ishl okT a.1 b.1, bin_ok ow _ _ _ _ shl_r (fun _ _ => toInt_in _) (fun x y _ _ => Int32.ofInt_toInt _) a.1 b.1 a.2.1 b.2.1, bin_d _ _ _ a.1 b.1 a.2.2 b.2.2⟩
theorem shr_r : BinR .ishr (fun x y => x >>> (y &&& 31)) okT := fun p l e R s m args below meth c cc H locs cells slots Q pc ls rest x y hx hb hd ho hy k => lv_ishr hx hb hd k
def shr {ow : Nat} (a b : EX ow) : EX ow := ⟨binP .ishr ishr okT a.1 b.1, bin_ok ow _ _ _ _ shr_r (fun _ _ => toInt_in _) (fun x y _ _ => Int32.ofInt_toInt _) a.1 b.1 a.2.1 b.2.1, bin_d _ _ _ a.1 b.1 a.2.2 b.2.2⟩
theorem ush_r : BinR .iushr (fun x y => (x.toUInt32 >>> (y.toUInt32 &&& Int32.toUInt32 31)).toInt32) okT := fun p l e R s m args below meth c cc H locs cells slots Q pc ls rest x y hx hb hd ho hy k => lv_iushr hx hb hd rfl k
def ush {ow : Nat} (a b : EX ow) : EX ow := ⟨binP .iushr iushr okT a.1 b.1, bin_ok ow _ _ _ _ ush_r (fun _ _ => toInt_in _) (fun x y _ _ => Int32.ofInt_toInt _) a.1 b.1 a.2.1 b.2.1, bin_d _ _ _ a.1 b.1 a.2.2 b.2.2⟩
theorem dvi_r : BinR .idiv (fun x y => x / y) okN := fun p l e R s m args below meth c cc H locs cells slots Q pc ls rest x y hx hb hd ho hy k => lv_idiv hx hb hd (fun q => ho ((ofI_zero hy).mp q)) k
def dvi {ow : Nat} (a b : EX ow) : EX ow := ⟨binP .idiv idv okN a.1 b.1, bin_ok ow _ _ _ _ dvi_r (fun _ _ => toInt_in _) (fun x y _ _ => Int32.ofInt_toInt _) a.1 b.1 a.2.1 b.2.1, bin_d _ _ _ a.1 b.1 a.2.2 b.2.2⟩
theorem rmi_r : BinR .irem (fun x y => x - x / y * y) okN := fun p l e R s m args below meth c cc H locs cells slots Q pc ls rest x y hx hb hd ho hy k => lv_irem hx hb hd (fun q => ho ((ofI_zero hy).mp q)) k
def rmi {ow : Nat} (a b : EX ow) : EX ow := ⟨binP .irem irm okN a.1 b.1, bin_ok ow _ _ _ _ rmi_r (fun _ _ => toInt_in _) (fun x y _ _ => Int32.ofInt_toInt _) a.1 b.1 a.2.1 b.2.1, bin_d _ _ _ a.1 b.1 a.2.2 b.2.2⟩
end
section
/-! trees: fields, arrays, branches, calls -/
theorem idl_ok : ∀ q ∈ idl, (1 ≤ q.1 → q.1 ≤ 13 → q.2 = kN q.1) ∧ q.1 ≤ 18 ∧ 0 ≤ q.2 ∧ q.2 < 100000 := by decide +kernel
theorem id_in (a : Int) : (kcls a, klen a) ∈ idl := by
  unfold kcls klen
  by_cases h : a < 0
  · rw [if_pos h, if_pos h]; exact List.mem_cons_self
  · rw [if_neg h, if_neg h, List.getD_eq_getElem?_getD]
    cases hq : idl[a.toNat]? with
    | none => exact List.mem_cons_self
    | some z => exact List.mem_of_getElem? hq
theorem kl_obj {a : Int} {k : Nat} (h : kcls a = k) (h1 : 1 ≤ k) (h2 : k ≤ 13) : klen a = kN k := by
  have := (idl_ok _ (id_in a)).1
  dsimp only at this
  rw [h] at this
  exact this h1 h2
theorem kl_18 (a : Int) : kcls a ≤ 18 ∧ 0 ≤ klen a ∧ klen a < 100000 := (idl_ok _ (id_in a)).2
def FldAt (ow cp k j : Nat) : Prop := Cond.fieldLink (kC ow) cp (kF k j).1 (kF k j).2.1 (kF k j).2.2.1 ∈ gTbl ∧ u_lay (kC k) (kF k) j ∈ gTbl ∧ 1 ≤ k ∧ k ≤ 13 ∧ j < kN k ∧ parseFieldDescriptor (kF k j).2.2.1 = some (kT k j) ∧ tyOK (ety k j) (kT k j)
def gty (t : Nat) : Nat := if t = 1 then 1 else if t = 2 then 2 else 0
theorem enc_g (al : Int → Nat) (t : Nat) (v : Int) : enc al (gty t) v = enc al t v := by
  unfold enc gty
  by_cases h1 : t = 1
  · simp [h1]
  · by_cases h2 : t = 2 <;> simp [h1, h2]
theorem okv_g {t : Nat} {v : Int} (h : okv t v) : okv (gty t) v := by
  by_cases h1 : t = 1
  · subst h1; exact h
  · by_cases h2 : t = 2
    · subst h2; trivial
    · have := okv_I h1 h2 h
      simp [gty, h1, h2, okv, this]
theorem rd_ok {G : Geo} {u : Sto} {H : Heap} (h : Rel G u H) {a : Int} {k j : Nat} (hl : live u a k) (hj : (j : Int) < klen a) : okv (ety k j) (rd u (ety k j) a j) := by
  obtain ⟨h1, h2, rfl⟩ := hl
  unfold rd
  split
  · rename_i q; rw [q]; trivial
  · rename_i q; exact h.2.1 a h1 h2 j hj q
theorem u_lay1 {args : Array Value} {s : State} {C : String} {T : u_T} {k : Nat} (h : (u_lay C T k).before args s = true) :
    (Cond.lays C (T k).1 (T k).2.1 (T k).2.2.1).before args s = true ∨ (Cond.laysFinal C (T k).1 (T k).2.1 (T k).2.2.1).before args s = true := by
  unfold u_lay at h
  split at h
  · exact Or.inr h
  · exact Or.inl h
def getP (cp K j : Nat) (a : XE) : XE := (fun ga d cs => match a.1 ga d cs with
    | some (2, cs1) => (nx (.getfield cp) 3 cs1).map (fun x => (gty (ety K j), x))
    | _ => none, fun cl Q r u => a.2 cl (fun v u' => live u' v K ∧ Q (rd u' (ety K j) v j) u') r u)
theorem get_ok (ow cp K j : Nat) (hf : FldAt ow cp K j) (a : XE) (ha : SndE ow a) : SndE ow (getP cp K j a) := by
  intro p l e R s m args below meth c cc nL G Qf cl hX hC ga d cs t cs' hc hD r u H locs cells slots ls st Q hL hA hs hw k
  simp only [getP] at hc hw
  split at hc
  case h_2 => cases hc
  rename_i cs1 h0
  obtain ⟨x, hx, e1⟩ := Option.map_eq_some_iff.mp hc
  cases e1
  refine ha p l e R s m args below meth c cc nL G Qf cl hX hC ga d cs 2 cs1 h0 hD r u H locs cells slots ls st _ hL hA hs hw ?_
  intro v u' H' locs' cells' slots' hv hA' hq hD1
  obtain ⟨h1, h2, h3⟩ := nx_ok hx hD1
  obtain ⟨hl, hq⟩ := hq
  obtain ⟨f1, f2, f3, f4, f5, f6, f7⟩ := hf
  have hj : (j : Int) < klen v := by rw [kl_obj hl.2.2 f3 f4]; exact_mod_cast f5
  have k' := k (rd u' (ety K j) v j) u' H' locs' cells' slots' (okv_g (rd_ok hA'.1 hl hj)) hA' hq h3
  rw [h2, enc_g] at k'
  obtain ⟨cell, q1, q2, q3, q4, q5⟩ := hA'.1.1 v hl.1 hl.2.1 (by rw [hl.2.2]; omega)
  have hts := hX.2.2.2.2.1
  obtain ⟨hS, hfc, kC', hkC, hkind⟩ := hX.2.2.2.2.2.1.2.1 K f3 f4
  obtain ⟨cf, kf, fi, f, hi, hsl⟩ := hS j f5
  rw [enc_2 _ (by have := hl.1; omega)]
  refine W.getf hX.1 hX.2.1 hX.2.2.2.1 (hts _ f1) hi (u_facts hfc hkC (u_lay1 (hts _ f2)) hi).1 q1 (by rw [q2]; exact fun h => by cases h) (v := enc G.1 (ety K j) (rd u' (ety K j) v j)) ?_ rfl rfl h1 k'
  rw [hsl]
  have := q5 j hj
  rw [hl.2.2] at this
  exact this
theorem get_d (cp K j : Nat) (a : XE) (ha : DecE a) : DecE (getP cp K j a) := by
  intro ga d cs t cs' cc hc hD
  simp only [getP] at hc
  split at hc
  case h_2 => cases hc
  rename_i h0
  exact map_nx hc (ha _ _ _ _ _ _ h0 hD)
def get {ow : Nat} {cp k j : Nat} (hf : FldAt ow cp k j) (a : EX ow) : EX ow := ⟨getP cp k j a.1, get_ok ow cp k j hf a.1 a.2.1, get_d cp k j a.1 a.2.2⟩
theorem arr_is {U : State} {cA : ClassId} {ty : FieldType} (h : ArrOfT U cA ty) {cell : Cell} (h1 : cell.cls = cA) (h2 : cell.vm = .none) : U.isArrayOf cell ty := by
  obtain ⟨-, h4⟩ := h 0 (fun _ => .null)
  exact ⟨fun k q => (by rw [h2] at q; cases q), (by rw [h1]; exact h4)⟩
def AldR (K : Nat) (ins : Instr) : Prop := ∀ (p : Program) (l : Launch) (e : Env) (R : Room) (s : State) (m : MethodId) (args : Array Value) (below : List Frame) (meth : Method) (c : Code) (cc : ByteArray) (H : Heap) (locs : List Loc) (cells slots : Nat) (Q : State → Prop) (pc : Nat) (ls : Array Slot) (rest : List Value) (a : Nat) (cell : Cell) (j : Int32) (v : Value), p.tables.exec = Jvm.exec → c.code = cc → decode cc pc = .ok (ins, 1) →
  H[a]? = some cell → s.isArrayOf cell (aT K) → cell.vm ≠ .unknown → ¬ (j < 0 ∨ cell.slots.size ≤ j.toNatClampNeg) → cell.slots[j.toNatClampNeg]? = some v →
  W p l e R s m args below meth c H locs cells slots Q (F0 m (pc + 1) ls (v :: rest)) → W p l e R s m args below meth c H locs cells slots Q (F0 m pc ls (.int j :: .ref a :: rest))
def inb (u : Sto) (a : Int) (K : Nat) (j : Int) : Prop := live u a K ∧ 0 ≤ j ∧ j < klen a
def aldP (K : Nat) (ins : Instr) (a b : XE) : XE := (fun ga d cs => match a.1 ga d cs with
    | some (2, cs1) => match b.1 ga (d + 1) cs1 with
      | some (0, cs2) => (nx ins 1 cs2).map (fun x => (gty (ety K 0), x))
      | _ => none
    | _ => none, fun cl Q r u => a.2 cl (fun v u' => b.2 cl (fun w u2 => inb u2 v K w ∧ Q (rd u2 (ety K 0) v w) u2) r u') r u)
theorem ety_arr {K : Nat} (h : 14 ≤ K) (h2 : K ≤ 18) (j : Nat) : ety K j = ety K 0 := by
  have : K = 14 ∨ K = 15 ∨ K = 16 ∨ K = 17 ∨ K = 18 := by omega
  rcases this with rfl | rfl | rfl | rfl | rfl <;> rfl
theorem arr_at {G : Geo} {u : Sto} {H : Heap} {U : State} (h : Rel G u H) (hK : KOK G U) {a : Int} {K : Nat} {j : Int} (hl : inb u a K j) (h14 : 14 ≤ K) (h18 : K ≤ 18) :
    ∃ cell : Cell, H[G.1 a]? = some cell ∧ U.isArrayOf cell (aT K) ∧ cell.vm = .none ∧ ¬ (Int32.ofInt j < 0 ∨ cell.slots.size ≤ (Int32.ofInt j).toNatClampNeg) ∧ (Int32.ofInt j).toNatClampNeg = j.toNat ∧ cell.slots[j.toNat]? = some (enc G.1 (ety K 0) (rd u (ety K 0) a j)) ∧ okv (ety K 0) (rd u (ety K 0) a j) ∧ cell.cls = G.2.1 K ∧ cell.slots.size = (klen a).toNat ∧ ∀ i : Nat, (i : Int) < klen a → cell.slots[i]? = some (enc G.1 (ety K 0) (rd u (ety K 0) a i)) := by
  obtain ⟨hl, h0, hj⟩ := hl
  have hlv := hl
  obtain ⟨l1, l2, l3⟩ := hl
  obtain ⟨cell, q1, q2, q3, q4, q5⟩ := h.1 a l1 l2 (by omega)
  obtain ⟨b1, b2, b3⟩ := kl_18 a
  have hsz := q4 (by omega)
  rw [l3] at q3 q5
  have q6 : ∀ i : Nat, (i : Int) < klen a → cell.slots[i]? = some (enc G.1 (ety K 0) (rd u (ety K 0) a i)) := fun i hi => by
    have := q5 i hi
    rw [hK.2.2.2.2.1 K i h14, ety_arr h14 h18] at this
    exact this
  have e2 : ((j.toNat : Nat) : Int) = j := Int.toNat_of_nonneg h0
  refine ⟨cell, q1, arr_is (hK.2.2.2.1 K h14 h18) q3 q2, q2, ?_, ofI_idx h0 (by omega), ?_, ?_, q3, hsz, q6⟩
  · rw [hsz]
    exact ofI_not h0 (by omega) (by omega)
  · have := q6 j.toNat (by omega)
    rw [e2] at this
    exact this
  · have := rd_ok h hlv (j := j.toNat) (by omega)
    rw [ety_arr h14 h18, e2] at this
    exact this
theorem ald_ok (ow K : Nat) (h14 : 14 ≤ K) (h18 : K ≤ 18) (ins : Instr) (hr : AldR K ins) (a b : XE) (ha : SndE ow a) (hb : SndE ow b) : SndE ow (aldP K ins a b) := by
  intro p l e R s m args below meth c cc nL G Qf cl hX hC ga d cs t cs' hc hD r u H locs cells slots ls st Q hL hA hs hw k
  simp only [aldP] at hc hw
  split at hc
  case h_2 => cases hc
  rename_i cs1 h0
  split at hc
  case h_2 => cases hc
  rename_i cs2 h00
  obtain ⟨x, hx, e1⟩ := Option.map_eq_some_iff.mp hc
  cases e1
  refine ha p l e R s m args below meth c cc nL G Qf cl hX hC ga d cs 2 cs1 h0 hD r u H locs cells slots ls st _ hL hA hs hw ?_
  intro v u' H' locs' cells' slots' hv hA' hq hD1
  refine hb p l e R s m args below meth c cc nL G Qf cl hX hC ga (d + 1) cs1 0 cs2 h00 hD1 r u' H' locs' cells' slots' ls _ _ hL hA' ?_ hq ?_
  · rw [cats_cons, cat_enc]; simp; omega
  intro w u2 H2 locs2 cells2 slots2 hv2 hA2 hq2 hD2
  obtain ⟨h1, h2, h3⟩ := nx_ok hx hD2
  obtain ⟨hib, hq2⟩ := hq2
  obtain ⟨cell, q1, q2, q3, q4, q5, q6, q7, -⟩ := arr_at hA2.1 hX.2.2.2.2.2.1 hib h14 h18
  have k' := k _ u2 H2 locs2 cells2 slots2 (okv_g q7) hA2 hq2 h3
  rw [h2, enc_g] at k'
  rw [enc_2 _ (by have := hib.1.1; omega), enc_0]
  exact hr p l e R s m args below meth c cc H2 locs2 cells2 slots2 Qf (pcOf cs2) ls st _ cell _ _ hX.1 hX.2.1 h1 q1 q2 (by rw [q3]; exact fun h => by cases h) q4 (by rw [q5]; exact q6) k'
theorem ald_d (K : Nat) (ins : Instr) (a b : XE) (ha : DecE a) (hb : DecE b) : DecE (aldP K ins a b) := by
  intro ga d cs t cs' cc hc hD
  simp only [aldP] at hc
  split at hc
  case h_2 => cases hc
  rename_i h0
  split at hc
  case h_2 => cases hc
  rename_i h00
  exact map_nx hc (hb _ _ _ _ _ _ h00 (ha _ _ _ _ _ _ h0 hD))
theorem aldi_r : AldR 14 .iaload := fun p l e R s m args below meth c cc H locs cells slots Q pc ls rest a cell j v hx hb hd h1 h2 h3 h4 h5 k => W.iald hx hb h1 h2 h3 h4 h5 rfl rfl hd k
theorem aldj_r : AldR 15 .laload := fun p l e R s m args below meth c cc H locs cells slots Q pc ls rest a cell j v hx hb hd h1 h2 h3 h4 h5 k => W.lald hx hb h1 h2 h3 h4 h5 rfl rfl hd k
theorem aldz_r : AldR 16 .baload := fun p l e R s m args below meth c cc H locs cells slots Q pc ls rest a cell j v hx hb hd h1 h2 h3 h4 h5 k => W.zald hx hb h1 h2 h3 h4 h5 rfl rfl hd k
theorem aldc_r : AldR 17 .caload := fun p l e R s m args below meth c cc H locs cells slots Q pc ls rest a cell j v hx hb hd h1 h2 h3 h4 h5 k => W.cald hx hb h1 h2 h3 h4 h5 rfl rfl hd k
theorem alda_r : AldR 18 .aaload := fun p l e R s m args below meth c cc H locs cells slots Q pc ls rest a cell j v hx hb hd h1 h2 h3 h4 h5 k => W.aald hx hb h1 h2 rfl h3 h4 h5 rfl rfl hd k
def aldi {ow : Nat} (a b : EX ow) : EX ow := ⟨aldP 14 .iaload a.1 b.1, ald_ok ow 14 (by decide) (by decide) .iaload aldi_r a.1 b.1 a.2.1 b.2.1, ald_d _ _ a.1 b.1 a.2.2 b.2.2⟩
def aldj {ow : Nat} (a b : EX ow) : EX ow := ⟨aldP 15 .laload a.1 b.1, ald_ok ow 15 (by decide) (by decide) .laload aldj_r a.1 b.1 a.2.1 b.2.1, ald_d _ _ a.1 b.1 a.2.2 b.2.2⟩
def aldz {ow : Nat} (a b : EX ow) : EX ow := ⟨aldP 16 .baload a.1 b.1, ald_ok ow 16 (by decide) (by decide) .baload aldz_r a.1 b.1 a.2.1 b.2.1, ald_d _ _ a.1 b.1 a.2.2 b.2.2⟩
def aldc {ow : Nat} (a b : EX ow) : EX ow := ⟨aldP 17 .caload a.1 b.1, ald_ok ow 17 (by decide) (by decide) .caload aldc_r a.1 b.1 a.2.1 b.2.1, ald_d _ _ a.1 b.1 a.2.2 b.2.2⟩
def alda {ow : Nat} (a b : EX ow) : EX ow := ⟨aldP 18 .aaload a.1 b.1, ald_ok ow 18 (by decide) (by decide) .aaload alda_r a.1 b.1 a.2.1 b.2.1, ald_d _ _ a.1 b.1 a.2.2 b.2.2⟩
abbrev XC : Type := (Gam → Nat → Bool → Nat → Cds → Option Cds) × (ClT → (Sto → Prop) → (Sto → Prop) → Rho → Sto → Prop)
def SndC (ow : Nat) (x : XC) : Prop :=
  ∀ (p : Program) (l : Launch) (e : Env) (R : Room) (s : State) (m : MethodId) (args : Array Value) (below : List Frame) (meth : Method) (c : Code) (cc : ByteArray) (nL : Nat) (G : Geo) (Qf : State → Prop) (cl : ClT),
  MX p R s m args c cc nL ow G → ClOK l R G cl → ∀ (ga : Gam) (d : Nat) (b : Bool) (L : Nat) (cs cs' : Cds), x.1 ga d b L cs = some cs' → Dec cc cs →
  ∀ (r : Rho) (u : Sto) (H : Heap) (locs : List Loc) (cells slots : Nat) (ls : Array Slot) (st : List Value) (Qt Qn : Sto → Prop),
  LR G nL ga r ls → At G R s.heap u H locs cells slots → cats st ≤ d → x.2 cl Qt Qn r u →
  (∀ (u' : Sto) (H' : Heap) (locs' : List Loc) (cells' slots' : Nat), At G R s.heap u' H' locs' cells' slots' → Qt u' → Dec cc cs' → W p l e R s m args below meth c H' locs' cells' slots' Qf (F0 m (if b then pcOf cs' else L) ls st)) →
  (∀ (u' : Sto) (H' : Heap) (locs' : List Loc) (cells' slots' : Nat), At G R s.heap u' H' locs' cells' slots' → Qn u' → Dec cc cs' → W p l e R s m args below meth c H' locs' cells' slots' Qf (F0 m (if b then L else pcOf cs') ls st)) →
  W p l e R s m args below meth c H locs cells slots Qf (F0 m (pcOf cs) ls st)
def DecC (x : XC) : Prop := ∀ (ga : Gam) (d : Nat) (f : Bool) (L : Nat) (cs cs' : Cds) (cc : ByteArray), x.1 ga d f L cs = some cs' → Dec cc cs → Dec cc cs'
abbrev CX (ow : Nat) : Type := { x : XC // SndC ow x ∧ DecC x }
/-- 0 =, 1 not =, 2 <, 3 not <, 4 >, 5 not > -/
def sem (o : Nat) (a b : Int) : Prop := if o = 0 then a = b else if o = 1 then ¬ a = b else if o = 2 then a < b else if o = 3 then b ≤ a else if o = 4 then b < a else a ≤ b
def ngo (o : Nat) : Nat := if o = 0 then 1 else if o = 1 then 0 else if o = 2 then 3 else if o = 3 then 2 else if o = 4 then 5 else 4
def icI (o : Nat) (off : Int) : Instr := if o = 0 then .if_icmp .eq off else if o = 1 then .if_icmp .ne off else if o = 2 then .if_icmp .lt off else if o = 3 then .if_icmp .ge off else if o = 4 then .if_icmp .gt off else .if_icmp .le off
def izI (o : Nat) (off : Int) : Instr := if o = 0 then .ifCond .eq off else if o = 1 then .ifCond .ne off else if o = 2 then .ifCond .lt off else if o = 3 then .ifCond .ge off else if o = 4 then .ifCond .gt off else .ifCond .le off
theorem sem_ngo {o : Nat} (h : o ≤ 5) (a b : Int) : sem (ngo o) a b ↔ ¬ sem o a b := by
  have : o = 0 ∨ o = 1 ∨ o = 2 ∨ o = 3 ∨ o = 4 ∨ o = 5 := by omega
  rcases this with rfl | rfl | rfl | rfl | rfl | rfl <;> simp [sem, ngo] <;> omega
theorem icmp_row {o : Nat} (ho : o ≤ 5) {p : Program} {l : Launch} {e : Env} {R : Room} {s : State} {m : MethodId} {args : Array Value} {below : List Frame} {meth : Method} {c : Code} {cc : ByteArray} {H : Heap} {locs : List Loc} {cells slots : Nat} {Q : State → Prop} {pc : Nat} {ls : Array Slot} {rest : List Value} {x y : Int} {off : Int} {tgt : Nat}
    (hx : p.tables.exec = Jvm.exec) (hb : c.code = cc) (hd : decode cc pc = .ok (icI o off, 3)) (ht : (pc : Int) + off = (tgt : Int)) (hix : inI x) (hiy : inI y)
    (kt : sem o x y → W p l e R s m args below meth c H locs cells slots Q (F0 m tgt ls rest)) (kf : ¬ sem o x y → W p l e R s m args below meth c H locs cells slots Q (F0 m (pc + 3) ls rest)) :
    W p l e R s m args below meth c H locs cells slots Q (F0 m pc ls (.int (Int32.ofInt y) :: .int (Int32.ofInt x) :: rest)) := by
  have : o = 0 ∨ o = 1 ∨ o = 2 ∨ o = 3 ∨ o = 4 ∨ o = 5 := by omega
  rcases this with rfl | rfl | rfl | rfl | rfl | rfl
  · exact lv_icmp_eq hx hb hd ht (fun q => kt ((ofI_inj hix hiy).mp q)) (fun q => kf (fun z => q ((ofI_inj hix hiy).mpr z)))
  · exact lv_icmp_ne hx hb hd ht (fun q => kt (fun z => q ((ofI_inj hix hiy).mpr z))) (fun q => kf (fun z => z ((ofI_inj hix hiy).mp q)))
  · exact lv_icmp_lt hx hb hd ht (fun q => kt ((ofI_lt hix hiy).mp q)) (fun q => kf (fun z => q ((ofI_lt hix hiy).mpr z)))
  · exact lv_icmp_ge hx hb hd ht (fun q => kt ((ofI_le hiy hix).mp q)) (fun q => kf (fun z => q ((ofI_le hiy hix).mpr z)))
  · exact lv_icmp_gt hx hb hd ht (fun q => kt ((ofI_lt hiy hix).mp q)) (fun q => kf (fun z => q ((ofI_lt hiy hix).mpr z)))
  · exact lv_icmp_le hx hb hd ht (fun q => kt ((ofI_le hix hiy).mp q)) (fun q => kf (fun z => q ((ofI_le hix hiy).mpr z)))
theorem ifz_row {o : Nat} (ho : o ≤ 5) {p : Program} {l : Launch} {e : Env} {R : Room} {s : State} {m : MethodId} {args : Array Value} {below : List Frame} {meth : Method} {c : Code} {cc : ByteArray} {H : Heap} {locs : List Loc} {cells slots : Nat} {Q : State → Prop} {pc : Nat} {ls : Array Slot} {rest : List Value} {x : Int} {off : Int} {tgt : Nat}
    (hx : p.tables.exec = Jvm.exec) (hb : c.code = cc) (hd : decode cc pc = .ok (izI o off, 3)) (ht : (pc : Int) + off = (tgt : Int)) (hix : inI x)
    (kt : sem o x 0 → W p l e R s m args below meth c H locs cells slots Q (F0 m tgt ls rest)) (kf : ¬ sem o x 0 → W p l e R s m args below meth c H locs cells slots Q (F0 m (pc + 3) ls rest)) :
    W p l e R s m args below meth c H locs cells slots Q (F0 m pc ls (.int (Int32.ofInt x) :: rest)) := by
  have hiy := inI_0
  have : o = 0 ∨ o = 1 ∨ o = 2 ∨ o = 3 ∨ o = 4 ∨ o = 5 := by omega
  rcases this with rfl | rfl | rfl | rfl | rfl | rfl
  · exact lv_if_eq hx hb hd ht (fun q => kt ((ofI_inj hix hiy).mp q)) (fun q => kf (fun z => q ((ofI_inj hix hiy).mpr z)))
  · exact lv_if_ne hx hb hd ht (fun q => kt (fun z => q ((ofI_inj hix hiy).mpr z))) (fun q => kf (fun z => z ((ofI_inj hix hiy).mp q)))
  · exact lv_if_lt hx hb hd ht (fun q => kt ((ofI_lt hix hiy).mp q)) (fun q => kf (fun z => q ((ofI_lt hix hiy).mpr z)))
  · exact lv_if_ge hx hb hd ht (fun q => kt ((ofI_le hiy hix).mp q)) (fun q => kf (fun z => q ((ofI_le hiy hix).mpr z)))
  · exact lv_if_gt hx hb hd ht (fun q => kt ((ofI_lt hiy hix).mp q)) (fun q => kf (fun z => q ((ofI_lt hiy hix).mpr z)))
  · exact lv_if_le hx hb hd ht (fun q => kt ((ofI_le hix hiy).mp q)) (fun q => kf (fun z => q ((ofI_le hix hiy).mpr z)))
def nxc (o : Nat) (L : Nat) (cs : Cds) : Option Cds := nx (icI o ((L : Int) - (pcOf cs : Int))) 3 cs
def nxz (o : Nat) (L : Nat) (cs : Cds) : Option Cds := nx (izI o ((L : Int) - (pcOf cs : Int))) 3 cs
def cmpP (o : Nat) (a b : XE) : XC := (fun ga d f L cs => match a.1 ga d cs with
    | some (0, cs1) => match b.1 ga (d + 1) cs1 with
      | some (0, cs2) => nxc (if f then ngo o else o) L cs2
      | _ => none
    | _ => none, fun cl Qt Qn r u => a.2 cl (fun v u' => b.2 cl (fun w u2 => (sem o v w → Qt u2) ∧ (¬ sem o v w → Qn u2)) r u') r u)
theorem ngo5 {o : Nat} (h : o ≤ 5) : ngo o ≤ 5 := by
  have : o = 0 ∨ o = 1 ∨ o = 2 ∨ o = 3 ∨ o = 4 ∨ o = 5 := by omega
  rcases this with rfl | rfl | rfl | rfl | rfl | rfl <;> decide
theorem cmp_ok (ow o : Nat) (ho : o ≤ 5) (a b : XE) (ha : SndE ow a) (hb : SndE ow b) : SndC ow (cmpP o a b) := by
  intro p l e R s m args below meth c cc nL G Qf cl hX hC ga d f L cs cs' hc hD r u H locs cells slots ls st Qt Qn hL hA hs hw kt kn
  simp only [cmpP] at hc hw
  split at hc
  case h_2 => cases hc
  rename_i cs1 h0
  split at hc
  case h_2 => cases hc
  rename_i cs2 h00
  refine ha p l e R s m args below meth c cc nL G Qf cl hX hC ga d cs 0 cs1 h0 hD r u H locs cells slots ls st _ hL hA hs hw ?_
  intro v u' H' locs' cells' slots' hv hA' hq hD1
  refine hb p l e R s m args below meth c cc nL G Qf cl hX hC ga (d + 1) cs1 0 cs2 h00 hD1 r u' H' locs' cells' slots' ls _ _ hL hA' ?_ hq ?_
  · rw [cats_cons, cat_enc]; simp; omega
  intro w u2 H2 locs2 cells2 slots2 hv2 hA2 hq2 hD2
  obtain ⟨h1, h2, h3⟩ := nx_ok hc hD2
  have hv : inI v := hv
  have hv2 : inI w := hv2
  have kt' := fun q => kt u2 H2 locs2 cells2 slots2 hA2 (hq2.1 q) h3
  have kn' := fun q => kn u2 H2 locs2 cells2 slots2 hA2 (hq2.2 q) h3
  rw [enc_0, enc_0]
  cases f
  · simp only [Bool.false_eq_true, if_false] at h1 kt' kn'
    rw [h2] at kn'
    exact icmp_row ho hX.1 hX.2.1 h1 (by omega) hv hv2 kt' kn'
  · simp only [if_true] at h1 kt' kn'
    rw [h2] at kt'
    exact icmp_row (ngo5 ho) hX.1 hX.2.1 h1 (by omega) hv hv2 (fun q => kn' ((sem_ngo ho v w).mp q)) (fun q => kt' (Classical.not_not.mp (fun z => q ((sem_ngo ho v w).mpr z))))
theorem cmp_d (o : Nat) (a b : XE) (ha : DecE a) (hb : DecE b) : DecC (cmpP o a b) := by
  intro ga d f L cs cs' cc hc hD
  simp only [cmpP] at hc
  split at hc
  case h_2 => cases hc
  rename_i h0
  split at hc
  case h_2 => cases hc
  rename_i h00
  exact (nx_ok hc (hb _ _ _ _ _ _ h00 (ha _ _ _ _ _ _ h0 hD))).2.2
def cmp {ow : Nat} (o : Nat) (ho : o ≤ 5) (a b : EX ow) : CX ow := ⟨cmpP o a.1 b.1, cmp_ok ow o ho a.1 b.1 a.2.1 b.2.1, cmp_d o a.1 b.1 a.2.2 b.2.2⟩
def czP (o : Nat) (a : XE) : XC := (fun ga d f L cs => match a.1 ga d cs with
    | some (0, cs1) => nxz (if f then ngo o else o) L cs1
    | _ => none, fun cl Qt Qn r u => a.2 cl (fun v u2 => (sem o v 0 → Qt u2) ∧ (¬ sem o v 0 → Qn u2)) r u)
theorem cz_ok (ow o : Nat) (ho : o ≤ 5) (a : XE) (ha : SndE ow a) : SndC ow (czP o a) := by
  intro p l e R s m args below meth c cc nL G Qf cl hX hC ga d f L cs cs' hc hD r u H locs cells slots ls st Qt Qn hL hA hs hw kt kn
  simp only [czP] at hc hw
  split at hc
  case h_2 => cases hc
  rename_i cs2 h0
  refine ha p l e R s m args below meth c cc nL G Qf cl hX hC ga d cs 0 cs2 h0 hD r u H locs cells slots ls st _ hL hA hs hw ?_
  intro v u2 H2 locs2 cells2 slots2 hv hA2 hq2 hD2
  obtain ⟨h1, h2, h3⟩ := nx_ok hc hD2
  have hv : inI v := hv
  have kt' := fun q => kt u2 H2 locs2 cells2 slots2 hA2 (hq2.1 q) h3
  have kn' := fun q => kn u2 H2 locs2 cells2 slots2 hA2 (hq2.2 q) h3
  rw [enc_0]
  cases f
  · simp only [Bool.false_eq_true, if_false] at h1 kt' kn'
    rw [h2] at kn'
    exact ifz_row ho hX.1 hX.2.1 h1 (by omega) hv kt' kn'
  · simp only [if_true] at h1 kt' kn'
    rw [h2] at kt'
    exact ifz_row (ngo5 ho) hX.1 hX.2.1 h1 (by omega) hv (fun q => kn' ((sem_ngo ho v 0).mp q)) (fun q => kt' (Classical.not_not.mp (fun z => q ((sem_ngo ho v 0).mpr z))))
theorem cz_d (o : Nat) (a : XE) (ha : DecE a) : DecC (czP o a) := by
  intro ga d f L cs cs' cc hc hD
  simp only [czP] at hc
  split at hc
  case h_2 => cases hc
  rename_i h0
  exact (nx_ok hc (ha _ _ _ _ _ _ h0 hD)).2.2
def cz {ow : Nat} (o : Nat) (ho : o ≤ 5) (a : EX ow) : CX ow := ⟨czP o a.1, cz_ok ow o ho a.1 a.2.1, cz_d o a.1 a.2.2⟩
theorem lcm_sem {o : Nat} (ho : o ≤ 5) {x y : Int} (hx : inL x) (hy : inL y) : ∃ z : Int, inI z ∧ lg_cmp (Int64.ofInt x) (Int64.ofInt y) = Int32.ofInt z ∧ (sem o z 0 ↔ sem o x y) := by
  have e1 : (Int64.ofInt x > Int64.ofInt y) ↔ y < x := by rw [gt_iff_lt, Int64.lt_iff_toInt_lt, ofL_toInt hx, ofL_toInt hy]
  have e2 : (Int64.ofInt x = Int64.ofInt y) ↔ x = y := by rw [← Int64.toInt_inj, ofL_toInt hx, ofL_toInt hy]
  have ho : o = 0 ∨ o = 1 ∨ o = 2 ∨ o = 3 ∨ o = 4 ∨ o = 5 := by omega
  unfold lg_cmp
  by_cases q : y < x
  · rw [if_pos (e1.mpr q)]
    refine ⟨1, ⟨by omega, by omega⟩, rfl, ?_⟩
    rcases ho with rfl | rfl | rfl | rfl | rfl | rfl <;> simp [sem] <;> omega
  · rw [if_neg (fun z => q (e1.mp z))]
    by_cases q2 : x = y
    · rw [if_pos (e2.mpr q2)]
      refine ⟨0, inI_0, rfl, ?_⟩
      rcases ho with rfl | rfl | rfl | rfl | rfl | rfl <;> simp [sem] <;> omega
    · rw [if_neg (fun z => q2 (e2.mp z))]
      refine ⟨-1, ⟨by omega, by omega⟩, rfl, ?_⟩
      rcases ho with rfl | rfl | rfl | rfl | rfl | rfl <;> simp [sem] <;> omega
def cmjP (o : Nat) (a b : XE) : XC := (fun ga d f L cs => match a.1 ga d cs with
    | some (1, cs1) => match b.1 ga (d + 2) cs1 with
      | some (1, cs2) => match nx .lcmp 1 cs2 with
        | some cs3 => nxz (if f then ngo o else o) L cs3
        | _ => none
      | _ => none
    | _ => none, fun cl Qt Qn r u => a.2 cl (fun v u' => b.2 cl (fun w u2 => (sem o v w → Qt u2) ∧ (¬ sem o v w → Qn u2)) r u') r u)
theorem cmj_ok (ow o : Nat) (ho : o ≤ 5) (a b : XE) (ha : SndE ow a) (hb : SndE ow b) : SndC ow (cmjP o a b) := by
  intro p l e R s m args below meth c cc nL G Qf cl hX hC ga d f L cs cs' hc hD r u H locs cells slots ls st Qt Qn hL hA hs hw kt kn
  simp only [cmjP] at hc hw
  split at hc
  case h_2 => cases hc
  rename_i cs1 h0
  split at hc
  case h_2 => cases hc
  rename_i cs2 h00
  split at hc
  case h_2 => cases hc
  rename_i cs3 h000
  refine ha p l e R s m args below meth c cc nL G Qf cl hX hC ga d cs 1 cs1 h0 hD r u H locs cells slots ls st _ hL hA hs hw ?_
  intro v u' H' locs' cells' slots' hv hA' hq hD1
  refine hb p l e R s m args below meth c cc nL G Qf cl hX hC ga (d + 2) cs1 1 cs2 h00 hD1 r u' H' locs' cells' slots' ls _ _ hL hA' ?_ hq ?_
  · rw [cats_cons, cat_enc]; simp; omega
  intro w u2 H2 locs2 cells2 slots2 hv2 hA2 hq2 hD2
  obtain ⟨h4, h5, h6⟩ := nx_ok h000 hD2
  obtain ⟨h1, h2, h3⟩ := nx_ok hc h6
  have hv : inL v := hv
  have hv2 : inL w := hv2
  have kt' := fun q => kt u2 H2 locs2 cells2 slots2 hA2 (hq2.1 q) h3
  have kn' := fun q => kn u2 H2 locs2 cells2 slots2 hA2 (hq2.2 q) h3
  rw [enc_1, enc_1]
  refine W.lcmp hX.1 hX.2.1 h4 ?_
  rw [← h5]
  cases f
  · simp only [Bool.false_eq_true, if_false] at h1 kt' kn'
    rw [h2] at kn'
    obtain ⟨z, z1, z2, z3⟩ := lcm_sem ho hv hv2
    rw [z2]
    exact ifz_row ho hX.1 hX.2.1 h1 (by omega) z1 (fun q => kt' (z3.mp q)) (fun q => kn' (fun z => q (z3.mpr z)))
  · simp only [if_true] at h1 kt' kn'
    rw [h2] at kt'
    obtain ⟨z, z1, z2, z3⟩ := lcm_sem (ngo5 ho) hv hv2
    rw [z2]
    exact ifz_row (ngo5 ho) hX.1 hX.2.1 h1 (by omega) z1 (fun q => kn' ((sem_ngo ho v w).mp (z3.mp q))) (fun q => kt' (Classical.not_not.mp (fun y => q (z3.mpr ((sem_ngo ho v w).mpr y)))))
theorem cmj_d (o : Nat) (a b : XE) (ha : DecE a) (hb : DecE b) : DecC (cmjP o a b) := by
  intro ga d f L cs cs' cc hc hD
  simp only [cmjP] at hc
  split at hc
  case h_2 => cases hc
  rename_i h0
  split at hc
  case h_2 => cases hc
  rename_i h00
  split at hc
  case h_2 => cases hc
  rename_i h000
  exact (nx_ok hc (nx_ok h000 (hb _ _ _ _ _ _ h00 (ha _ _ _ _ _ _ h0 hD))).2.2).2.2
def cmj {ow : Nat} (o : Nat) (ho : o ≤ 5) (a b : EX ow) : CX ow := ⟨cmjP o a.1 b.1, cmj_ok ow o ho a.1 b.1 a.2.1 b.2.1, cmj_d o a.1 b.1 a.2.2 b.2.2⟩
def notP (a : XC) : XC := (fun ga d f L cs => a.1 ga d (!f) L cs, fun cl Qt Qn r u => a.2 cl Qn Qt r u)
theorem not_ok (ow : Nat) (a : XC) (ha : SndC ow a) : SndC ow (notP a) := by
  intro p l e R s m args below meth c cc nL G Qf cl hX hC ga d f L cs cs' hc hD r u H locs cells slots ls st Qt Qn hL hA hs hw kt kn
  refine ha p l e R s m args below meth c cc nL G Qf cl hX hC ga d (!f) L cs cs' hc hD r u H locs cells slots ls st _ _ hL hA hs hw ?_ ?_
  · intro u' H' locs' cells' slots' hA' hq hD'
    have := kn u' H' locs' cells' slots' hA' hq hD'
    cases f <;> exact this
  · intro u' H' locs' cells' slots' hA' hq hD'
    have := kt u' H' locs' cells' slots' hA' hq hD'
    cases f <;> exact this
def cnot {ow : Nat} (a : CX ow) : CX ow := ⟨notP a.1, not_ok ow a.1 a.2.1, fun ga d f L cs cs' cc hc hD => a.2.2 ga d (!f) L cs cs' cc hc hD⟩
def andP (X : Nat) (a b : XC) : XC := (fun ga d f L cs => match a.1 ga d true (if f then L else X) cs with
    | some cs1 => match b.1 ga d f L cs1 with
      | some cs2 => if f = true ∨ pcOf cs2 = X then some cs2 else none
      | _ => none
    | _ => none, fun cl Qt Qn r u => a.2 cl (fun u' => b.2 cl Qt Qn r u') Qn r u)

theorem and_ok (ow X : Nat) (a b : XC) (ha : SndC ow a) (hb : SndC ow b) (hbd : DecC b) : SndC ow (andP X a b) := by
  intro p l e R s m args below meth c cc nL G Qf cl hX hC ga d f L cs cs' hc hD r u H locs cells slots ls st Qt Qn hL hA hs hw kt kn
  simp only [andP] at hc hw
  split at hc
  case h_2 => cases hc
  rename_i cs1 h0
  split at hc
  case h_2 => cases hc
  rename_i cs2 h00
  split at hc
  case isFalse => cases hc
  rename_i hX2
  cases hc
  refine ha p l e R s m args below meth c cc nL G Qf cl hX hC ga d true _ cs cs1 h0 hD r u H locs cells slots ls st _ _ hL hA hs hw ?_ ?_
  · intro u' H' locs' cells' slots' hA' hq hD'
    exact hb p l e R s m args below meth c cc nL G Qf cl hX hC ga d f L cs1 _ h00 hD' r u' H' locs' cells' slots' ls st _ _ hL hA' hs hq kt kn
  · intro u' H' locs' cells' slots' hA' hq hD'
    have := kn u' H' locs' cells' slots' hA' hq (hbd _ _ _ _ _ _ _ h00 hD')
    cases f
    · simp only [Bool.false_eq_true, if_false, false_or, if_true] at *
      rw [← hX2]; exact this
    · simpa using this
theorem and_d (X : Nat) (a b : XC) (ha : DecC a) (hb : DecC b) : DecC (andP X a b) := by
  intro ga d f L cs cs' cc hc hD
  simp only [andP] at hc
  split at hc
  case h_2 => cases hc
  rename_i h0
  split at hc
  case h_2 => cases hc
  rename_i h00
  split at hc
  case isFalse => cases hc
  cases hc
  exact hb _ _ _ _ _ _ _ h00 (ha _ _ _ _ _ _ _ h0 hD)
def cand {ow : Nat} (X : Nat) (a b : CX ow) : CX ow := ⟨andP X a.1 b.1, and_ok ow X a.1 b.1 a.2.1 b.2.1 b.2.2, and_d X a.1 b.1 a.2.2 b.2.2⟩
def orP (X : Nat) (a b : XC) : XC := (fun ga d f L cs => match a.1 ga d false (if f then X else L) cs with
    | some cs1 => match b.1 ga d f L cs1 with
      | some cs2 => if f = false ∨ pcOf cs2 = X then some cs2 else none
      | _ => none
    | _ => none, fun cl Qt Qn r u => a.2 cl Qt (fun u' => b.2 cl Qt Qn r u') r u)
theorem or_ok (ow X : Nat) (a b : XC) (ha : SndC ow a) (hb : SndC ow b) (hbd : DecC b) : SndC ow (orP X a b) := by
  intro p l e R s m args below meth c cc nL G Qf cl hX hC ga d f L cs cs' hc hD r u H locs cells slots ls st Qt Qn hL hA hs hw kt kn
  simp only [orP] at hc hw
  split at hc
  case h_2 => cases hc
  rename_i cs1 h0
  split at hc
  case h_2 => cases hc
  rename_i cs2 h00
  split at hc
  case isFalse => cases hc
  rename_i hX2
  cases hc
  refine ha p l e R s m args below meth c cc nL G Qf cl hX hC ga d false _ cs cs1 h0 hD r u H locs cells slots ls st _ _ hL hA hs hw ?_ ?_
  · intro u' H' locs' cells' slots' hA' hq hD'
    have := kt u' H' locs' cells' slots' hA' hq (hbd _ _ _ _ _ _ _ h00 hD')
    cases f
    · simpa using this
    · simp only [Bool.true_eq_false, Bool.false_eq_true, if_false, false_or, if_true] at *
      rw [← hX2]; exact this
  · intro u' H' locs' cells' slots' hA' hq hD'
    exact hb p l e R s m args below meth c cc nL G Qf cl hX hC ga d f L cs1 _ h00 hD' r u' H' locs' cells' slots' ls st _ _ hL hA' hs hq kt kn
theorem or_d (X : Nat) (a b : XC) (ha : DecC a) (hb : DecC b) : DecC (orP X a b) := by
  intro ga d f L cs cs' cc hc hD
  simp only [orP] at hc
  split at hc
  case h_2 => cases hc
  rename_i h0
  split at hc
  case h_2 => cases hc
  rename_i h00
  split at hc
  case isFalse => cases hc
  cases hc
  exact hb _ _ _ _ _ _ _ h00 (ha _ _ _ _ _ _ _ h0 hD)
def cor {ow : Nat} (X : Nat) (a b : CX ow) : CX ow := ⟨orP X a.1 b.1, or_ok ow X a.1 b.1 a.2.1 b.2.1 b.2.2, or_d X a.1 b.1 a.2.2 b.2.2⟩
end
section
/-! trees: choice, arguments, calls -/
def nxg (L : Nat) (cs : Cds) : Option Cds := nxe (.goto ((L : Int) - (pcOf cs : Int))) 3 cs
def iteP (A X : Nat) (c : XC) (a b : XE) : XE := (fun ga d cs => match c.1 ga d true A cs with
    | some cs1 => match a.1 ga d cs1 with
      | some (t, cs2) => match nxg X cs2 with
        | some cs3 => match b.1 ga d cs3 with
          | some (t2, cs4) => if pcOf cs3 = A ∧ pcOf cs4 = X ∧ t2 = t then some (t, cs4) else none
          | _ => none
        | _ => none
      | _ => none
    | _ => none, fun cl Q r u => c.2 cl (fun u' => a.2 cl Q r u') (fun u' => b.2 cl Q r u') r u)
theorem ite_d (A X : Nat) (c : XC) (a b : XE) (hc0 : DecC c) (ha : DecE a) (hb : DecE b) : DecE (iteP A X c a b) := by
  intro ga d cs t cs' cc hc hD
  simp only [iteP] at hc
  split at hc
  case h_2 => cases hc
  rename_i h0
  split at hc
  case h_2 => cases hc
  rename_i h1
  split at hc
  case h_2 => cases hc
  rename_i h2
  split at hc
  case h_2 => cases hc
  rename_i h3
  split at hc
  case isFalse => cases hc
  cases hc
  exact hb _ _ _ _ _ _ h3 (nxe_ok h2 (ha _ _ _ _ _ _ h1 (hc0 _ _ _ _ _ _ _ h0 hD))).2
theorem ite_ok (ow A X : Nat) (c0 : XC) (a b : XE) (hc0 : SndC ow c0) (ha : SndE ow a) (hb : SndE ow b) (dc : DecC c0) (da : DecE a) (db : DecE b) : SndE ow (iteP A X c0 a b) := by
  intro p l e R s m args below meth c cc nL G Qf cl hX hC ga d cs t cs' hc hD r u H locs cells slots ls st Q hL hA hs hw k
  have hD9 := ite_d A X c0 a b dc da db ga d cs t cs' cc hc hD
  simp only [iteP] at hc hw
  split at hc
  case h_2 => cases hc
  rename_i cs1 h0
  split at hc
  case h_2 => cases hc
  rename_i t1 cs2 h1
  split at hc
  case h_2 => cases hc
  rename_i cs3 h2
  split at hc
  case h_2 => cases hc
  rename_i t2 cs4 h3
  split at hc
  case isFalse => cases hc
  rename_i he
  obtain ⟨he1, he2, he3⟩ := he
  cases hc
  subst he3
  have D1 := dc _ _ _ _ _ _ _ h0 hD
  have D2 := da _ _ _ _ _ _ h1 D1
  obtain ⟨g1, D3⟩ := nxe_ok h2 D2
  refine hc0 p l e R s m args below meth c cc nL G Qf cl hX hC ga d true A cs cs1 h0 hD r u H locs cells slots ls st _ _ hL hA hs hw ?_ ?_
  · intro u' H' locs' cells' slots' hA' hq _
    refine ha p l e R s m args below meth c cc nL G Qf cl hX hC ga d cs1 _ cs2 h1 D1 r u' H' locs' cells' slots' ls st _ hL hA' hs hq ?_
    intro v u2 H2 locs2 cells2 slots2 hv hA2 hq2 _
    refine lv_goto (tgt := X) hX.1 hX.2.1 g1 (by omega) ?_
    have := k v u2 H2 locs2 cells2 slots2 hv hA2 hq2 hD9
    rw [he2] at this
    exact this
  · intro u' H' locs' cells' slots' hA' hq _
    simp only [if_true]
    rw [← he1]
    exact hb p l e R s m args below meth c cc nL G Qf cl hX hC ga d cs3 _ cs' h3 D3 r u' H' locs' cells' slots' ls st _ hL hA' hs hq k
def ite {ow : Nat} (A X : Nat) (c : CX ow) (a b : EX ow) : EX ow := ⟨iteP A X c.1 a.1 b.1, ite_ok ow A X c.1 a.1 b.1 c.2.1 a.2.1 b.2.1 c.2.2 a.2.2 b.2.2, ite_d A X c.1 a.1 b.1 c.2.2 a.2.2 b.2.2⟩
abbrev XL : Type := (Gam → Nat → Cds → Option (List Nat × Cds)) × (ClT → (List Int → Sto → Prop) → Rho → Sto → Prop)
def SndL (ow : Nat) (x : XL) : Prop :=
  ∀ (p : Program) (l : Launch) (e : Env) (R : Room) (s : State) (m : MethodId) (args : Array Value) (below : List Frame) (meth : Method) (c : Code) (cc : ByteArray) (nL : Nat) (G : Geo) (Qf : State → Prop) (cl : ClT),
  MX p R s m args c cc nL ow G → ClOK l R G cl → ∀ (ga : Gam) (d : Nat) (cs : Cds) (t : List Nat) (cs' : Cds), x.1 ga d cs = some (t, cs') → Dec cc cs →
  ∀ (r : Rho) (u : Sto) (H : Heap) (locs : List Loc) (cells slots : Nat) (ls : Array Slot) (st : List Value) (Q : List Int → Sto → Prop),
  LR G nL ga r ls → At G R s.heap u H locs cells slots → cats st ≤ d → x.2 cl Q r u →
  (∀ (v : List Int) (u' : Sto) (H' : Heap) (locs' : List Loc) (cells' slots' : Nat), okA t v → At G R s.heap u' H' locs' cells' slots' → Q v u' → Dec cc cs' → W p l e R s m args below meth c H' locs' cells' slots' Qf (F0 m (pcOf cs') ls ((encA G.1 t v).reverse ++ st))) →
  W p l e R s m args below meth c H locs cells slots Qf (F0 m (pcOf cs) ls st)
def DecL (x : XL) : Prop := ∀ (ga : Gam) (d : Nat) (cs : Cds) (t : List Nat) (cs' : Cds) (cc : ByteArray), x.1 ga d cs = some (t, cs') → Dec cc cs → Dec cc cs'
abbrev LX (ow : Nat) : Type := { x : XL // SndL ow x ∧ DecL x }
def nilP : XL := (fun _ _ cs => some ([], cs), fun _ Q _ u => Q [] u)
theorem nil_ok (ow : Nat) : SndL ow nilP := by
  intro p l e R s m args below meth c cc nL G Qf cl hX hC ga d cs t cs' hc hD r u H locs cells slots ls st Q hL hA hs hw k
  simp only [nilP] at hc hw
  cases hc
  exact k [] u H locs cells slots trivial hA hw hD
def anil {ow : Nat} : LX ow := ⟨nilP, nil_ok ow, fun ga d cs t cs' cc hc hD => by simp only [nilP] at hc; cases hc; exact hD⟩
def consP (a : XE) (b : XL) : XL := (fun ga d cs => match a.1 ga d cs with
    | some (t, cs1) => match b.1 ga (d + if t = 1 then 2 else 1) cs1 with
      | some (ts, cs2) => some (t :: ts, cs2)
      | _ => none
    | _ => none, fun cl Q r u => a.2 cl (fun v u' => b.2 cl (fun vs u2 => Q (v :: vs) u2) r u') r u)
theorem cons_d (a : XE) (b : XL) (ha : DecE a) (hb : DecL b) : DecL (consP a b) := by
  intro ga d cs t cs' cc hc hD
  simp only [consP] at hc
  split at hc
  case h_2 => cases hc
  rename_i h0
  split at hc
  case h_2 => cases hc
  rename_i h1
  cases hc
  exact hb _ _ _ _ _ _ h1 (ha _ _ _ _ _ _ h0 hD)
theorem cons_ok (ow : Nat) (a : XE) (b : XL) (ha : SndE ow a) (hb : SndL ow b) : SndL ow (consP a b) := by
  intro p l e R s m args below meth c cc nL G Qf cl hX hC ga d cs t cs' hc hD r u H locs cells slots ls st Q hL hA hs hw k
  simp only [consP] at hc hw
  split at hc
  case h_2 => cases hc
  rename_i t1 cs1 h0
  split at hc
  case h_2 => cases hc
  rename_i ts cs2 h1
  cases hc
  refine ha p l e R s m args below meth c cc nL G Qf cl hX hC ga d cs _ cs1 h0 hD r u H locs cells slots ls st _ hL hA hs hw ?_
  intro v u' H' locs' cells' slots' hv hA' hq hD1
  refine hb p l e R s m args below meth c cc nL G Qf cl hX hC ga _ cs1 ts cs' h1 hD1 r u' H' locs' cells' slots' ls _ _ hL hA' ?_ hq ?_
  · rw [cats_cons, cat_enc]; omega
  intro vs u2 H2 locs2 cells2 slots2 hv2 hA2 hq2 hD2
  have := k (v :: vs) u2 H2 locs2 cells2 slots2 ⟨hv, hv2⟩ hA2 hq2 hD2
  simpa [encA] using this
def acons {ow : Nat} (a : EX ow) (b : LX ow) : LX ow := ⟨consP a.1 b.1, cons_ok ow a.1 b.1 a.2.1 b.2.1, cons_d a.1 b.1 a.2.2 b.2.2⟩
def MthOK (K : Nat) : Prop := mWor K ∈ gTbl ∧ Cond.initialized (mNam K).cls ∈ gTbl ∧ ((mNam K).cls ≠ "java/lang/invoke/MethodHandle" ∧ (mNam K).cls ≠ "java/lang/invoke/VarHandle")
def VirtAt (ow cp K kk : Nat) : Prop := MthOK K ∧ Cond.methodLink (kC ow) cp (mNam K) ∈ gTbl ∧ Cond.instanceMethod (mNam K) ∈ gTbl ∧ Cond.selects (mNam K).cls (mNam K) (mNam K) ∈ gTbl ∧ kC kk = (mNam K).cls ∧ 1 ≤ kk ∧ kk ≤ 13 ∧
  (parseMethodDescriptor (mNam K).desc).map (fun d => d.parameters.length + 1) = some (mArg K).length ∧ (mArg K).head? = some 2
def StatAt (ow cp K : Nat) : Prop := MthOK K ∧ Cond.methodLink (kC ow) cp (mNam K) ∈ gTbl ∧ Cond.static (mNam K) ∈ gTbl ∧ (parseMethodDescriptor (mNam K).desc).map (fun d => d.parameters.length) = some (mArg K).length
theorem encA_len (al : Int → Nat) : ∀ (ts : List Nat) (vs : List Int), okA ts vs → (encA al ts vs).length = ts.length
  | [], [], _ => rfl
  | t :: ts, v :: vs, h => by
    simp only [encA, List.length_cons]
    rw [encA_len al ts vs h.2]
  | [], _ :: _, h => h.elim
  | _ :: _, [], h => h.elim
theorem SOK.same {G : Geo} {U : State} {g : JFrame} {mk : MethodId} {a : Array Value} (h : SOK G U) : SOK G (U.calling g mk a) := by
  obtain ⟨⟨adV, h1⟩, h2, h3, h4, h5, h6⟩ := h
  have hv : U.vm.Alike (U.calling g mk a).vm := Vm.Alike.refl U.vm
  exact ⟨⟨adV, h1.moved hv⟩, fun i hi => vk_R.same (u := U) rfl (h2 i hi), h3.moved hv, h4.moved hv, h5.moved hv, h6.moved hv⟩
theorem pc_blind (G : Geo) (K : Nat) (vs : List Int) (u : Sto) : FrameBlind (PcOf G K vs u) := fun a U g mk q =>
  ⟨q.1, q.2.1, q.2.2.1, KOK.moved (u := U) (U := U.calling g mk a) (Vm.Alike.refl U.vm) q.2.2.2.1, q.2.2.2.2.1, SOK.same q.2.2.2.2.2⟩
theorem after_call {G : Geo} {R : Room} {H0 H H' : Heap} {u u' : Sto} {locs L : List Loc} {cells slots mc ms : Nat} (hA : At G R H0 u H locs cells slots) (hr : Rel G u' H') (hz : H.size ≤ H'.size) (hk : ∀ q : Nat, q < G.2.2.2 → H'[q]? = H[q]?) (hL : ∀ q ∈ L, G.2.2.2 ≤ q.base) (h1 : mc ≤ sbc u) (h2 : ms ≤ sbw u) :
    At G R H0 (bud u' (sbc u - mc) (sbw u - ms)) H' (locs ++ L) (cells + mc) (slots + ms) := by
  obtain ⟨a1, ⟨a2, a3, a4⟩, a5, a6⟩ := hA
  refine ⟨hr, ⟨by omega, fun q hq => (hk q hq).trans (a3 q hq), fun q hq => ?_⟩, ?_, ?_⟩
  · rcases List.mem_append.mp hq with h | h
    · exact a4 q h
    · exact hL q h
  · show cells + mc + (sbc u - mc) ≤ R.cells
    omega
  · show slots + ms + (sbw u - ms) ≤ R.slots
    omega
theorem run_on {G : Geo} {p : Program} {l : Launch} {e : Env} {R : Room} {s : State} {m : MethodId} {args : Array Value} {below : List Frame} {meth : Method} {c : Code} {H : Heap} {locs : List Loc} {cells slots : Nat} {Q : State → Prop} {pc : Nat} {ls : Array Slot} {st st0 : List Value} {a : Array Value} {K : Nat} {Q' : Int → Sto → Prop} {u : Sto}
    (hr : va_Run p l e R s m args below meth c H locs cells slots (mCel K) (mSlo K) (F0 m pc ls st0) st (QcOf G K Q' a) (fun q => G.2.2.2 ≤ q)) (hA : At G R s.heap u H locs cells slots) (hb : mCel K ≤ sbc u ∧ mSlo K ≤ sbw u)
    (kk : ∀ (v : Int) (u' : Sto) (H' : Heap) (locs' : List Loc), okv (mRty K) v → Q' v u' → At G R s.heap (bud u' (sbc u - mCel K) (sbw u - mSlo K)) H' locs' (cells + mCel K) (slots + mSlo K) → W p l e R s m args below meth c H' locs' (cells + mCel K) (slots + mSlo K) Q (F0 m (pc + 3) ls ((encR G.1 (mRty K) v).toList ++ st))) :
    W p l e R s m args below meth c H locs cells slots Q (F0 m pc ls st0) := by
  intro T hT X
  obtain ⟨v, st₀, t, T', L, h0, X', hL, e1, e2, ⟨⟨w, u', hv, hok, hq, hrel⟩, hz, hk⟩, go⟩ := hr T hT X
  cases hv
  rw [h0] at hz hk
  obtain ⟨t2, a1, b1⟩ := kk w u' T'.heap (locs ++ L) hok hq (after_call hA (by rw [e1]; exact hrel) (by rw [e1]; exact hz) (by rw [e1]; exact hk) hL hb.1 hb.2) T' rfl X'
  exact ⟨t2, go t2 a1, b1⟩
theorem callB_at {p : Program} {l : Launch} {R : Room} {s : State} {m : MethodId} {args : Array Value} {c : Code} {cc : ByteArray} {nL ow cp K n : Nat} {G : Geo} {rm : Room} (hX : MX p R s m args c cc nL ow G) (hM : MthOK K) (hl : Cond.methodLink (kC ow) cp (mNam K) ∈ gTbl) (hn : ∀ sig, parseMethodDescriptor (mNam K).desc = some sig → n = sig.parameters.length)
    (h1 : rm.cells = mCel K) (h2 : rm.slots = mSlo K) (h3 : rm.frames + 1 ≤ R.frames) (h4 : 8 + (mMax K + 11) + rm.locals ≤ R.locals) : CallB R s args (kC ow) cp (mNam K) (mCod K) (mMax K) (mRet K) (wsOf K) rm (mCel K) (mSlo K) n := by
  have hts := hX.2.2.2.2.1
  obtain ⟨g1, g2, g3⟩ := hM
  refine ⟨h1, h2, h3, h4, fun w hw => ?_, List.mem_cons_self, hts _ g1, hts _ g2, g3, hn, hts _ hl⟩
  rcases List.mem_cons.mp hw with rfl | hw
  · exact gt_pay hts _ g1
  · exact gt_pay hts _ hw
theorem pc_pre {p : Program} {R : Room} {s : State} {m : MethodId} {args : Array Value} {c : Code} {cc : ByteArray} {nL ow : Nat} {G : Geo} {u : Sto} {H : Heap} {locs : List Loc} {cells slots : Nat} (hX : MX p R s m args c cc nL ow G) (hA : At G R s.heap u H locs cells slots) {K : Nat} {vs : List Int} (hok : okA (mArg K) vs) (x y : Nat) (U : State) (hU : U.heap = H) (hW : s.WarmedH U.vm) : PcOf G K vs (bud u x y) (encA G.1 (mArg K) vs).toArray U :=
  ⟨rfl, hok, by rw [hU]; exact hA.1, KOK.moved hW.alike hX.2.2.2.2.2.1, by rw [hU]; exact Nat.le_trans hX.2.2.2.2.2.2.1 hA.2.1.1, hX.2.2.2.2.2.2.2.2.2.1.on hW (by rw [hU]; exact hA.2.1.2.1)⟩
theorem back20 {p : Program} {l : Launch} {e : Env} {R : Room} {s : State} {args : Array Value} {below : List Frame} {own : String} {index : Nat} {y : MethodName} {bytes : ByteArray} {maxL mc ms n : Nat} {ret : Option FieldType} {ws : List Cond} {rm : Room} {Pc : Array Value → State → Prop} {Qc : Array Value → State → Outcome → State → Prop} {free : Addr → Prop}
    (cb : CallB R s args own index y bytes maxL ret ws rm mc ms n) (h20 : 20 + (maxL + 11) + rm.locals ≤ R.locals) (hM : Met l y ws rm Pc Qc mc ms free) (hbl : FrameBlind Pc) : Back l R p e below s args y 3 20 (PreOf R mc ms Pc) (PostOf Qc mc ms free) := by
  obtain ⟨hrc, hrs, hfr, -, hws, hcw, -, hini, -⟩ := cb
  exact back_of (bytes := bytes) (maxL := maxL) (ret := ret) hM hbl hrc hrs hfr h20 hws hcw (fun a' U hW => word_at hW (Or.inl rfl) hini)
theorem room20 {m : MethodId} {pc : Nat} {ls : Array Slot} {rest st : List Value} (h : cats st ≤ 20) : 2 * (F0 m pc ls rest).monitorRoom + (st.map fun v => v.category).sum ≤ 20 := by
  show 2 * 0 + cats st ≤ 20
  omega
section X20
variable {p : Program} {l : Launch} {e : Env} {R : Room} {s : State} {m : MethodId} {args : Array Value} {below : List Frame} {meth : Method} {c : Code} {H : Heap} {locs : List Loc} {cells slots : Nat}
theorem x20V {y : MethodName} {bytes cc : ByteArray} {maxL nL mc ms n index : Nat} {ret : Option FieldType} {ws : List Cond} {rm : Room} {Pc : Array Value → State → Prop} {Qc : Array Value → State → Outcome → State → Prop} {free : Addr → Prop} {Ts : List Cond} {own C : String} {b : Addr} {As rest : List Value} {g : JFrame}
    (h20 : 20 + (maxL + 11) + rm.locals ≤ R.locals) (S : CallFix p m c cc nL s args Ts own) (hM : Met l y ws rm Pc Qc mc ms free) (cw : CallW R s args own C index y bytes maxL ret ws rm mc ms n) (hp : PreV s H C b Pc As)
    (hg : g.method = m) (hn : As.length = n) (hsize : g.locals.size = nL) (hstack : g.stack = As.reverse ++ .ref b :: rest) (hW : 2 * g.monitorRoom + (rest.map fun v => v.category).sum ≤ 20) (hdg : decode cc g.pc = .ok (.invokevirtual index, 3)) (hf : cells + mc ≤ R.cells ∧ slots + ms ≤ R.slots) :
    va_Run p l e R s m args below meth c H locs cells slots mc ms g rest (Qc (Value.ref b :: As).toArray) (free) := by
  have hK : Back l R p e below s args y 3 20 (PreOf R mc ms Pc) (PostOf Qc mc ms free) := back20 cw.1 h20 hM hp.1
  obtain ⟨⟨-, -, -, -, -, -, hcode, -, hy, hlen, hl⟩, hin, hse⟩ := cw
  obtain ⟨hx, hb, hml, ho, -⟩ := S
  obtain ⟨-, ⟨cellB, hcB, hoB, hclB⟩, hPc⟩ := hp
  intro T hT X
  obtain ⟨v, vm₁, ⟨U', l2, c2, s2⟩, hW₁, X', ⟨g', mk, t, L, e1, e2, hq, h1, hL, h2, h3⟩, st⟩ := callV X hx (C := C) (bytes := bytes) (maxL := maxL) (ret := ret) ho hl hin hse hcode hy hK (by rw [hT]; exact hcB) hoB hclB hg (hsize.trans hml.symm) (argsL := As) (rest := rest) (fun sig h => hn.trans (hlen sig h)) hstack hW (by rw [hb]; exact hdg)
    (fun vm₁ hW₁ => ⟨hf.1, hf.2, hPc (T.setVm vm₁) hT hW₁⟩)
  dsimp only [Pt.U, Pt.locs, Pt.cells, Pt.slots] at X' e1 e2 h1 h2 h3 st
  subst h1; subst h2; subst h3
  exact ⟨v, (T.setVm vm₁).calling g' mk (Value.ref b :: As).toArray, t, U', L, hT, X', hL, e1, e2, hq, st⟩
theorem x20S {y : MethodName} {bytes cc : ByteArray} {maxL nL mc ms n index : Nat} {ret : Option FieldType} {ws : List Cond} {rm : Room} {Pc : Array Value → State → Prop} {Qc : Array Value → State → Outcome → State → Prop} {free : Addr → Prop} {Ts : List Cond} {own : String} {As rest : List Value} {g : JFrame}
    (h20 : 20 + (maxL + 11) + rm.locals ≤ R.locals) (S : CallFix p m c cc nL s args Ts own) (hM : Met l y ws rm Pc Qc mc ms free) (cw : CallB R s args own index y bytes maxL ret ws rm mc ms n ∧ (Cond.static y).before args s = true) (hp : PreS s H Pc As)
    (hg : g.method = m) (hn : As.length = n) (hsize : g.locals.size = nL) (hstack : g.stack = As.reverse ++ rest) (hW : 2 * g.monitorRoom + (rest.map fun v => v.category).sum ≤ 20) (hdg : decode cc g.pc = .ok (.invokestatic index, 3)) (hf : cells + mc ≤ R.cells ∧ slots + ms ≤ R.slots) :
    va_Run p l e R s m args below meth c H locs cells slots mc ms g rest (Qc As.toArray) (free) := by
  have hK : Back l R p e below s args y 3 20 (PreOf R mc ms Pc) (PostOf Qc mc ms free) := back20 cw.1 h20 hM hp.1
  obtain ⟨⟨-, -, -, -, -, -, hcode, hini, hy, hlen, hl⟩, hstt⟩ := cw
  obtain ⟨hx, hb, hml, ho, -⟩ := S
  intro T hT X
  obtain ⟨v, vm₁, ⟨U', l2, c2, s2⟩, hW₁, X', ⟨g', mk, t, L, e1, e2, hq, h1, hL, h2, h3⟩, st⟩ := callS X hx (bytes := bytes) (maxL := maxL) (ret := ret) ho hl hstt hini hcode hy hK hg (hsize.trans hml.symm) (argsL := As) (rest := rest) (fun sig h => hn.trans (hlen sig h)) hstack hW (by rw [hb]; exact hdg)
    (fun vm₁ hW₁ => ⟨hf.1, hf.2, hp.2 (T.setVm vm₁) hT hW₁⟩)
  dsimp only [Pt.U, Pt.locs, Pt.cells, Pt.slots] at X' e1 e2 h1 h2 h3 st
  subst h1; subst h2; subst h3
  exact ⟨v, (T.setVm vm₁).calling g' mk As.toArray, t, U', L, hT, X', hL, e1, e2, hq, st⟩
end X20
section CR
variable {p : Program} {l : Launch} {e : Env} {R : Room} {s : State} {m : MethodId} {args : Array Value} {below : List Frame} {meth : Method} {c : Code} {cc : ByteArray} {nL ow cp K : Nat} {G : Geo} {H : Heap} {locs : List Loc} {cells slots : Nat} {Q : State → Prop} {pc : Nat} {ls : Array Slot} {st : List Value} {cl : ClT} {u : Sto} {vs : List Int} {Q' : Int → Sto → Prop}
theorem call_virt {kk : Nat} (hX : MX p R s m args c cc nL ow G) (hC : ClOK l R G cl) (hv : VirtAt ow cp K kk) (hd : decode cc pc = .ok (.invokevirtual cp, 3)) (hA : At G R s.heap u H locs cells slots) (hok : okA (mArg K) vs) (hcat : cats st ≤ 20) (hlive : ∀ v, vs.head? = some v → live u v kk) (hls : ls.size = nL) (hb : mCel K ≤ sbc u ∧ mSlo K ≤ sbw u) (hcl : cl K vs Q' (bud u (mCel K) (mSlo K)))
    (k : ∀ (v : Int) (u' : Sto) (H' : Heap) (locs' : List Loc), okv (mRty K) v → Q' v u' → At G R s.heap (bud u' (sbc u - mCel K) (sbw u - mSlo K)) H' locs' (cells + mCel K) (slots + mSlo K) → W p l e R s m args below meth c H' locs' (cells + mCel K) (slots + mSlo K) Q (F0 m (pc + 3) ls ((encR G.1 (mRty K) v).toList ++ st))) :
    W p l e R s m args below meth c H locs cells slots Q (F0 m pc ls ((encA G.1 (mArg K) vs).reverse ++ st)) := by
  obtain ⟨g1, g2, g3, g4, g5, g6, g7, g8, g9⟩ := hv
  have hts := hX.2.2.2.2.1
  obtain ⟨rm, r1, r2, r3, r4, hM⟩ := hC K vs Q' _ hcl (Nat.le_refl _) (Nat.le_refl _)
  match hm : mArg K, vs, hok with
  | [], _, _ => rw [hm] at g9; cases g9
  | t :: ts, [], hok => exact hok.elim
  | t :: ts, v0 :: vt, hok' =>
    rw [hm] at g9 g8
    cases g9
    have lv := hlive v0 rfl
    have hv0 : v0 ≠ 0 := by have := lv.1; omega
    have e0 : encA G.1 (2 :: ts) (v0 :: vt) = .ref (G.1 v0) :: encA G.1 ts vt := by simp only [encA]; rw [enc_2 _ hv0]
    have hp := pc_pre (K := K) (vs := v0 :: vt) hX hA (by rw [hm]; exact hok') (mCel K) (mSlo K)
    rw [hm, e0] at hp
    obtain ⟨cell, q1, q2, q3, -⟩ := hA.1.1 v0 lv.1 lv.2.1 (by rw [lv.2.2]; omega)
    rw [lv.2.2] at q3
    have hn : ∀ sig, parseMethodDescriptor (mNam K).desc = some sig → ts.length = sig.parameters.length := fun sig h => by
      rw [h] at g8; simp at g8; omega
    rw [e0, List.reverse_cons, List.append_assoc]
    refine run_on (u := u) (x20V r4 (As := encA G.1 ts vt) (rest := st) (b := G.1 v0) (n := ts.length) (Ts := gTbl) (own := kC ow) (C := (mNam K).cls) ⟨hX.1, hX.2.1, hX.2.2.1, hX.2.2.2.1, hts⟩ hM ⟨callB_at (l := l) hX g1 g2 hn r1 r2 r3 (by omega), hts _ g3, hts _ g4⟩
      ⟨pc_blind G K _ _, ⟨cell, q1, by rw [q2]; rfl, ?_⟩, hp⟩ rfl (encA_len _ _ _ hok'.2) hls rfl (room20 hcat) hd ⟨by have := hA.2.2.1; omega, by have := hA.2.2.2; omega⟩) hA hb k
    rw [← g5, q3]
    exact (hX.2.2.2.2.2.1.2.1 kk g6 g7).2.1
theorem call_stat (hX : MX p R s m args c cc nL ow G) (hC : ClOK l R G cl) (hv : StatAt ow cp K) (hd : decode cc pc = .ok (.invokestatic cp, 3)) (hA : At G R s.heap u H locs cells slots) (hok : okA (mArg K) vs) (hcat : cats st ≤ 20) (hls : ls.size = nL) (hb : mCel K ≤ sbc u ∧ mSlo K ≤ sbw u) (hcl : cl K vs Q' (bud u (mCel K) (mSlo K)))
    (k : ∀ (v : Int) (u' : Sto) (H' : Heap) (locs' : List Loc), okv (mRty K) v → Q' v u' → At G R s.heap (bud u' (sbc u - mCel K) (sbw u - mSlo K)) H' locs' (cells + mCel K) (slots + mSlo K) → W p l e R s m args below meth c H' locs' (cells + mCel K) (slots + mSlo K) Q (F0 m (pc + 3) ls ((encR G.1 (mRty K) v).toList ++ st))) :
    W p l e R s m args below meth c H locs cells slots Q (F0 m pc ls ((encA G.1 (mArg K) vs).reverse ++ st)) := by
  obtain ⟨g1, g2, g3, g8⟩ := hv
  have hts := hX.2.2.2.2.1
  obtain ⟨rm, r1, r2, r3, r4, hM⟩ := hC K vs Q' _ hcl (Nat.le_refl _) (Nat.le_refl _)
  have hp := pc_pre (K := K) (vs := vs) hX hA hok (mCel K) (mSlo K)
  have hn : ∀ sig, parseMethodDescriptor (mNam K).desc = some sig → (mArg K).length = sig.parameters.length := fun sig h => by
    rw [h] at g8; simp at g8; omega
  exact run_on (u := u) (x20S r4 (As := encA G.1 (mArg K) vs) (rest := st) (n := (mArg K).length) (Ts := gTbl) (own := kC ow) ⟨hX.1, hX.2.1, hX.2.2.1, hX.2.2.2.1, hts⟩ hM ⟨callB_at (l := l) hX g1 g2 hn r1 r2 r3 (by omega), hts _ g3⟩
      ⟨pc_blind G K _ _, hp⟩ rfl (encA_len _ _ _ hok) hls rfl (room20 hcat) hd ⟨by have := hA.2.2.1; omega, by have := hA.2.2.2; omega⟩) hA hb k
end CR
/-- what a call asks and gives -/
def wcl (cl : ClT) (K : Nat) (Q : Int → Sto → Prop) (vs : List Int) (u : Sto) : Prop := (mCel K ≤ sbc u ∧ mSlo K ≤ sbw u) ∧ cl K vs (fun v u' => Q v (bud u' (sbc u - mCel K) (sbw u - mSlo K))) (bud u (mCel K) (mSlo K))
def hdl (vs : List Int) (u : Sto) (kk : Nat) : Prop := live u (vs.headD 0) kk
theorem hdl_v {vs : List Int} {u : Sto} {kk : Nat} (h : hdl vs u kk) : ∀ v, vs.head? = some v → live u v kk := by
  intro v hv
  cases vs with
  | nil => cases hv
  | cons a t => cases hv; exact h
theorem encR_g {t : Nat} (h : t ≠ 9) (al : Int → Nat) (v : Int) : encR al t v = some (enc al (gty t) v) := by unfold encR; rw [if_neg h, enc_g]
def cviP (cp K kk : Nat) (a : XL) : XE := (fun ga d cs => match a.1 ga d cs with
    | some (ts, cs1) => if ts = mArg K ∧ d ≤ 20 ∧ mRty K ≠ 9 then (nx (.invokevirtual cp) 3 cs1).map (fun x => (gty (mRty K), x)) else none
    | _ => none, fun cl Q r u => a.2 cl (fun vs u' => hdl vs u' kk ∧ wcl cl K Q vs u') r u)
def cstaP (cp K : Nat) (a : XL) : XE := (fun ga d cs => match a.1 ga d cs with
    | some (ts, cs1) => if ts = mArg K ∧ d ≤ 20 ∧ mRty K ≠ 9 then (nx (.invokestatic cp) 3 cs1).map (fun x => (gty (mRty K), x)) else none
    | _ => none, fun cl Q r u => a.2 cl (fun vs u' => wcl cl K Q vs u') r u)

theorem cvi_d (cp K kk : Nat) (a : XL) (ha : DecL a) : DecE (cviP cp K kk a) := by
  intro ga d cs t cs' cc hc hD
  simp only [cviP] at hc
  split at hc
  case h_2 => cases hc
  rename_i h0
  split at hc
  case isFalse => cases hc
  exact map_nx hc (ha _ _ _ _ _ _ h0 hD)
theorem cvi_ok (ow : Nat) (cp K kk : Nat) (hf : VirtAt ow cp K kk) (a : XL) (ha : SndL ow a) : SndE ow (cviP cp K kk a) := by
  intro p l e R s m args below meth c cc nL G Qf cl hX hC ga d cs t cs' hc hD r u H locs cells slots ls st Q hL hA hs hw k
  simp only [cviP] at hc hw
  split at hc
  case h_2 => cases hc
  rename_i ts cs1 h0
  split at hc
  case isFalse => cases hc
  rename_i hcond
  obtain ⟨rfl, hd8, h9⟩ := hcond
  obtain ⟨x, hx, e1⟩ := Option.map_eq_some_iff.mp hc
  cases e1
  refine ha p l e R s m args below meth c cc nL G Qf cl hX hC ga d cs _ cs1 h0 hD r u H locs cells slots ls st _ hL hA hs hw ?_
  intro vs u' H' locs' cells' slots' hv hA' hq hD1
  obtain ⟨h1, h2, h3⟩ := nx_ok hx hD1
  refine call_virt hX hC hf h1 hA' hv (by omega) (hdl_v hq.1) hL.1.1 hq.2.1 hq.2.2 ?_
  intro w u2 H2 locs2 hw2 hQ2 hA2
  have k' := k w _ H2 locs2 _ _ (okv_g hw2) hA2 hQ2 h3
  rw [h2] at k'
  rw [encR_g h9]
  exact k'
def cvi {ow : Nat} {cp K kk : Nat} (hf : VirtAt ow cp K kk) (a : LX ow) : EX ow := ⟨cviP cp K kk a.1, cvi_ok ow cp K kk hf a.1 a.2.1, cvi_d cp K kk a.1 a.2.2⟩

theorem csta_d (cp K : Nat) (a : XL) (ha : DecL a) : DecE (cstaP cp K a) := by
  intro ga d cs t cs' cc hc hD
  simp only [cstaP] at hc
  split at hc
  case h_2 => cases hc
  rename_i h0
  split at hc
  case isFalse => cases hc
  exact map_nx hc (ha _ _ _ _ _ _ h0 hD)
theorem csta_ok (ow : Nat) (cp K : Nat) (hf : StatAt ow cp K) (a : XL) (ha : SndL ow a) : SndE ow (cstaP cp K a) := by
  intro p l e R s m args below meth c cc nL G Qf cl hX hC ga d cs t cs' hc hD r u H locs cells slots ls st Q hL hA hs hw k
  simp only [cstaP] at hc hw
  split at hc
  case h_2 => cases hc
  rename_i ts cs1 h0
  split at hc
  case isFalse => cases hc
  rename_i hcond
  obtain ⟨rfl, hd8, h9⟩ := hcond
  obtain ⟨x, hx, e1⟩ := Option.map_eq_some_iff.mp hc
  cases e1
  refine ha p l e R s m args below meth c cc nL G Qf cl hX hC ga d cs _ cs1 h0 hD r u H locs cells slots ls st _ hL hA hs hw ?_
  intro vs u' H' locs' cells' slots' hv hA' hq hD1
  obtain ⟨h1, h2, h3⟩ := nx_ok hx hD1
  refine call_stat hX hC hf h1 hA' hv (by omega) hL.1.1 hq.1 hq.2 ?_
  intro w u2 H2 locs2 hw2 hQ2 hA2
  have k' := k w _ H2 locs2 _ _ (okv_g hw2) hA2 hQ2 h3
  rw [h2] at k'
  rw [encR_g h9]
  exact k'
def csta {ow : Nat} {cp K : Nat} (hf : StatAt ow cp K) (a : LX ow) : EX ow := ⟨cstaP cp K a.1, csta_ok ow cp K hf a.1 a.2.1, csta_d cp K a.1 a.2.2⟩
end
section
/-! trees of statements -/
/-- no value of any type: thrown -/
def XV : Int := 9223372036854775808
def retI (rt : Nat) : Instr := if rt = 9 then .return_ else if rt = 1 then .lreturn else .ireturn
abbrev XS : Type := (Gam → Nat → Nat → Nat → Gam → Nat → Cds → Option (Gam × Cds)) × (ClT → (Rho → Sto → Prop) → (Rho → Sto → Prop) → (Int → Sto → Prop) → Rho → Sto → Prop)
def SndS (ow : Nat) (x : XS) : Prop :=
  ∀ (p : Program) (l : Launch) (e : Env) (R : Room) (s : State) (m : MethodId) (args : Array Value) (below : List Frame) (meth : Method) (c : Code) (cc : ByteArray) (nL : Nat) (G : Geo) (Qf : State → Prop) (cl : ClT),
  MX p R s m args c cc nL ow G → ClOK l R G cl → ∀ (ga : Gam) (nx lb : Nat) (gb : Gam) (rt : Nat) (cs : Cds) (ga' : Gam) (cs' : Cds), x.1 ga nL nx lb gb rt cs = some (ga', cs') → Dec cc cs →
  ∀ (r : Rho) (u : Sto) (H : Heap) (locs : List Loc) (cells slots : Nat) (ls : Array Slot) (Kn Kb : Rho → Sto → Prop) (Kr : Int → Sto → Prop),
  LR G nL ga r ls → At G R s.heap u H locs cells slots → x.2 cl Kn Kb Kr r u →
  (∀ (r' : Rho) (u' : Sto) (H' : Heap) (locs' : List Loc) (cells' slots' : Nat) (ls' : Array Slot), LR G nL ga' r' ls' → At G R s.heap u' H' locs' cells' slots' → Kn r' u' → W p l e R s m args below meth c H' locs' cells' slots' Qf (F0 m nx ls' [])) →
  (∀ (r' : Rho) (u' : Sto) (H' : Heap) (locs' : List Loc) (cells' slots' : Nat) (ls' : Array Slot), LR G nL gb r' ls' → At G R s.heap u' H' locs' cells' slots' → Kb r' u' → W p l e R s m args below meth c H' locs' cells' slots' Qf (F0 m lb ls' [])) →
  (∀ (v : Int) (u' : Sto) (H' : Heap) (locs' : List Loc) (cells' slots' : Nat) (ls' : Array Slot) (pc : Nat), okv (rt % 20) v → At G R s.heap u' H' locs' cells' slots' → Kr v u' → decode cc pc = .ok (retI (rt % 20), 1) → W p l e R s m args below meth c H' locs' cells' slots' Qf (F0 m pc ls' (encR G.1 (rt % 20) v).toList)) →
  (20 ≤ rt → ∀ (u' : Sto) (H' : Heap) (locs' : List Loc) (cells' slots' : Nat) (ls' : Array Slot) (pc ik ic : Nat), ls'.size = nL → At G R s.heap u' H' locs' cells' slots' → Kr XV u' → decode cc pc = .ok (.new ik, 3) → decode cc (pc + 3) = .ok (.dup, 1) → decode cc (pc + 4) = .ok (.invokespecial ic, 3) → decode cc (pc + 7) = .ok (.athrow, 1) → W p l e R s m args below meth c H' locs' cells' slots' Qf (F0 m pc ls' [])) →
  W p l e R s m args below meth c H locs cells slots Qf (F0 m (pcOf cs) ls [])
def DecS (x : XS) : Prop := ∀ (ga : Gam) (nL nx lb : Nat) (gb : Gam) (rt : Nat) (cs : Cds) (ga' : Gam) (cs' : Cds) (cc : ByteArray), x.1 ga nL nx lb gb rt cs = some (ga', cs') → Dec cc cs → Dec cc cs'
abbrev SX (ow : Nat) : Type := { x : XS // SndS ow x ∧ DecS x }
def okt (L : Nat) : Cds → Bool
  | [] => false
  | q :: _ => (q.1 == L) || (decide (q.2.1 = .goto ((L : Int) - (q.1 : Int))) && (q.2.2 == 3))
theorem okt_W {L : Nat} {cs : Cds} {cc : ByteArray} {p : Program} {l : Launch} {e : Env} {R : Room} {s : State} {m : MethodId} {args : Array Value} {below : List Frame} {meth : Method} {c : Code} {H : Heap} {locs : List Loc} {cells slots : Nat} {Q : State → Prop} {ls : Array Slot} {st : List Value}
    (h : okt L cs = true) (hx : p.tables.exec = Jvm.exec) (hb : c.code = cc) (hD : Dec cc cs) (k : W p l e R s m args below meth c H locs cells slots Q (F0 m L ls st)) : W p l e R s m args below meth c H locs cells slots Q (F0 m (pcOf cs) ls st) := by
  match cs, h, hD with
  | [], h, _ => cases h
  | q :: t, h, hD =>
    rcases Bool.or_eq_true_iff.mp h with h | h
    · have := eq_of_beq h
      show W p l e R s m args below meth c H locs cells slots Q (F0 m q.1 ls st)
      rw [this]; exact k
    · have h1 := of_decide_eq_true (Bool.and_eq_true_iff.mp h).1
      have h2 := eq_of_beq (Bool.and_eq_true_iff.mp h).2
      have h3 := hD.1
      rw [h1, h2] at h3
      exact lv_goto (pc := q.1) (tgt := L) hx hb h3 (by omega) k
def upg (ga : Gam) (i t : Nat) : Gam := (i, t) :: ga.filter (fun q => !(q.1 == i) && !(q.1 + 1 == i && q.2 == 1))
def upj (ga : Gam) (i : Nat) : Gam := (i, 1) :: ga.filter (fun q => !(q.1 == i) && (!(q.1 == i + 1) && !(q.1 + 1 == i && q.2 == 1)))
theorem cat2 (al : Int → Nat) (t : Nat) (v : Int) : ((enc al t v).category == 2) = (t == 1) := by
  rw [cat_enc]
  by_cases h : t = 1
  · subst h; rfl
  · rw [if_neg h]
    have : (t == 1) = false := by simpa using h
    rw [this]; rfl
theorem LR_up {G : Geo} {nL : Nat} {ga : Gam} {r : Rho} {ls ls' : Array Slot} {i t : Nat} {v : Int} (hL : LR G nL ga r ls) (hv : okv t v)
    (h : lv_has ls' nL ((i, enc G.1 t v) :: (ga.map fun q => (q.1, enc G.1 q.2 (r q.1))).filter (fun q => !(q.1 == i) && !(q.1 + 1 == i && q.2.category == 2)))) : LR G nL (upg ga i t) (upr r i v) ls' := by
  have key : ∀ q ∈ ga.filter (fun q => !(q.1 == i) && !(q.1 + 1 == i && q.2 == 1)), upr r i v q.1 = r q.1 := fun q hq => by
    have := (List.mem_filter.mp hq).2
    simp at this
    unfold upr
    rw [if_neg this.1]
  refine ⟨⟨h.1, h.2.1, fun q hq => ?_⟩, fun q hq => ?_⟩
  · obtain ⟨z, hz, rfl⟩ := List.mem_map.mp hq
    rcases List.mem_cons.mp hz with rfl | hz
    · have := h.2.2 _ List.mem_cons_self
      simpa [upr] using this
    · refine h.2.2 _ (List.mem_cons_of_mem _ (List.mem_filter.mpr ⟨List.mem_map.mpr ⟨z, (List.mem_filter.mp hz).1, ?_⟩, ?_⟩))
      · rw [key z hz]
      · have h2 := (List.mem_filter.mp hz).2
        dsimp only
        rw [cat2]
        exact h2
  · rcases List.mem_cons.mp hq with rfl | hq
    · simpa [upr] using hv
    · rw [key q hq]
      exact hL.2 q (List.mem_filter.mp hq).1
theorem LR_upj {G : Geo} {nL : Nat} {ga : Gam} {r : Rho} {ls ls' : Array Slot} {i : Nat} {v : Int} (hL : LR G nL ga r ls) (hv : okv 1 v)
    (h : lv_has ls' nL ((i, enc G.1 1 v) :: (ga.map fun q => (q.1, enc G.1 q.2 (r q.1))).filter (fun q => !(q.1 == i) && (!(q.1 == i + 1) && !(q.1 + 1 == i && q.2.category == 2))))) : LR G nL (upj ga i) (upr r i v) ls' := by
  have key : ∀ q ∈ ga.filter (fun q => !(q.1 == i) && (!(q.1 == i + 1) && !(q.1 + 1 == i && q.2 == 1))), upr r i v q.1 = r q.1 := fun q hq => by
    have := (List.mem_filter.mp hq).2
    simp at this
    unfold upr
    rw [if_neg this.1]
  refine ⟨⟨h.1, h.2.1, fun q hq => ?_⟩, fun q hq => ?_⟩
  · obtain ⟨z, hz, rfl⟩ := List.mem_map.mp hq
    rcases List.mem_cons.mp hz with rfl | hz
    · have := h.2.2 _ List.mem_cons_self
      simpa [upr] using this
    · refine h.2.2 _ (List.mem_cons_of_mem _ (List.mem_filter.mpr ⟨List.mem_map.mpr ⟨z, (List.mem_filter.mp hz).1, ?_⟩, ?_⟩))
      · rw [key z hz]
      · have h2 := (List.mem_filter.mp hz).2
        dsimp only
        rw [cat2]
        exact h2
  · rcases List.mem_cons.mp hq with rfl | hq
    · simpa [upr] using hv
    · rw [key q hq]
      exact hL.2 q (List.mem_filter.mp hq).1
def inSI (i : Nat) : Instr × Nat := if h : i < 4 then (.istore_n ⟨i, h⟩, 1) else (.istore i, 2)
def inSA (i : Nat) : Instr × Nat := if h : i < 4 then (.astore_n ⟨i, h⟩, 1) else (.astore i, 2)
def inSJ (i : Nat) : Instr × Nat := if h : i < 4 then (.lstore_n ⟨i, h⟩, 1) else (.lstore i, 2)

def asiP (i : Nat) (a : XE) : XS := (fun ga nL nx9 _ _ _ cs => match a.1 ga 0 cs with
    | some (0, cs1) => match nx (inSI i).1 (inSI i).2 cs1 with
      | some cs2 => if okt nx9 cs2 = true ∧ i < nL then some (upg ga i 0, cs2) else none
      | _ => none
    | _ => none, fun cl Kn _ _ r u => a.2 cl (fun v u' => Kn (upr r i v) u') r u)
theorem asi_d (i : Nat) (a : XE) (ha : DecE a) : DecS (asiP i a) := by
  intro ga nL nx9 lb gb rt cs ga' cs' cc hc hD
  simp only [asiP] at hc
  split at hc
  case h_2 => cases hc
  rename_i h0
  split at hc
  case h_2 => cases hc
  rename_i h1
  split at hc
  case isFalse => cases hc
  cases hc
  exact (nx_ok h1 (ha _ _ _ _ _ _ h0 hD)).2.2
theorem asi_ok (ow i : Nat) (a : XE) (ha : SndE ow a) : SndS ow (asiP i a) := by
  intro p l e R s m args below meth c cc nL G Qf cl hX hC ga nx9 lb gb rt cs ga' cs' hc hD r u H locs cells slots ls Kn Kb Kr hL hA hw hn hb hr hx9
  simp only [asiP] at hc hw
  split at hc
  case h_2 => cases hc
  rename_i cs1 h0
  split at hc
  case h_2 => cases hc
  rename_i cs2 h1
  split at hc
  case isFalse => cases hc
  rename_i hcond
  cases hc
  refine ha p l e R s m args below meth c cc nL G Qf cl hX hC ga 0 cs 0 cs1 h0 hD r u H locs cells slots ls [] _ hL hA (Nat.le_refl _) hw ?_
  intro v u' H' locs' cells' slots' hv hA' hq hD1
  obtain ⟨g1, g2, g3⟩ := nx_ok h1 hD1
  rw [enc_0]
  have fin : ∀ ls' : Array Slot, LR G nL (upg ga i 0) (upr r i v) ls' → W p l e R s m args below meth c H' locs' cells' slots' Qf (F0 m (pcOf cs') ls' []) := fun ls' h =>
    okt_W hcond.1 hX.1 hX.2.1 g3 (hn _ u' H' locs' cells' slots' ls' h hA' hq)
  rw [g2] at fin
  unfold inSI at g1 fin
  split at g1
  · rename_i q
    rw [dif_pos q] at fin
    exact lv_istore_n hX.1 hX.2.1 g1 rfl hL.1 hcond.2 rfl (fun ls' h => fin ls' (LR_up hL hv h))
  · rename_i q
    rw [dif_neg q] at fin
    exact lv_istore hX.1 hX.2.1 g1 hL.1 hcond.2 rfl (fun ls' h => fin ls' (LR_up hL hv h))
def asi {ow : Nat} (i : Nat) (a : EX ow) : SX ow := ⟨asiP i a.1, asi_ok ow i a.1 a.2.1, asi_d i a.1 a.2.2⟩

def asaP (i : Nat) (a : XE) : XS := (fun ga nL nx9 _ _ _ cs => match a.1 ga 0 cs with
    | some (2, cs1) => match nx (inSA i).1 (inSA i).2 cs1 with
      | some cs2 => if okt nx9 cs2 = true ∧ i < nL then some (upg ga i 2, cs2) else none
      | _ => none
    | _ => none, fun cl Kn _ _ r u => a.2 cl (fun v u' => v ≠ 0 ∧ Kn (upr r i v) u') r u)
theorem asa_d (i : Nat) (a : XE) (ha : DecE a) : DecS (asaP i a) := by
  intro ga nL nx9 lb gb rt cs ga' cs' cc hc hD
  simp only [asaP] at hc
  split at hc
  case h_2 => cases hc
  rename_i h0
  split at hc
  case h_2 => cases hc
  rename_i h1
  split at hc
  case isFalse => cases hc
  cases hc
  exact (nx_ok h1 (ha _ _ _ _ _ _ h0 hD)).2.2
theorem asa_ok (ow i : Nat) (a : XE) (ha : SndE ow a) : SndS ow (asaP i a) := by
  intro p l e R s m args below meth c cc nL G Qf cl hX hC ga nx9 lb gb rt cs ga' cs' hc hD r u H locs cells slots ls Kn Kb Kr hL hA hw hn hb hr hx9
  simp only [asaP] at hc hw
  split at hc
  case h_2 => cases hc
  rename_i cs1 h0
  split at hc
  case h_2 => cases hc
  rename_i cs2 h1
  split at hc
  case isFalse => cases hc
  rename_i hcond
  cases hc
  refine ha p l e R s m args below meth c cc nL G Qf cl hX hC ga 0 cs 2 cs1 h0 hD r u H locs cells slots ls [] _ hL hA (Nat.le_refl _) hw ?_
  intro v u' H' locs' cells' slots' hv hA' hq hD1
  obtain ⟨g1, g2, g3⟩ := nx_ok h1 hD1
  obtain ⟨hne, hq⟩ := hq
  rw [enc_2 _ hne]
  have fin : ∀ ls' : Array Slot, LR G nL (upg ga i 2) (upr r i v) ls' → W p l e R s m args below meth c H' locs' cells' slots' Qf (F0 m (pcOf cs') ls' []) := fun ls' h =>
    okt_W hcond.1 hX.1 hX.2.1 g3 (hn _ u' H' locs' cells' slots' ls' h hA' hq)
  rw [g2] at fin
  unfold inSA at g1 fin
  split at g1
  · rename_i q
    rw [dif_pos q] at fin
    exact lv_astore_n hX.1 hX.2.1 g1 rfl hL.1 hcond.2 rfl (fun ls' h => fin ls' (LR_up hL hv (by rw [enc_2 _ hne]; exact h)))
  · rename_i q
    rw [dif_neg q] at fin
    exact lv_astore hX.1 hX.2.1 g1 hL.1 hcond.2 rfl (fun ls' h => fin ls' (LR_up hL hv (by rw [enc_2 _ hne]; exact h)))
def asa {ow : Nat} (i : Nat) (a : EX ow) : SX ow := ⟨asaP i a.1, asa_ok ow i a.1 a.2.1, asa_d i a.1 a.2.2⟩

def asjP (i : Nat) (a : XE) : XS := (fun ga nL nx9 _ _ _ cs => match a.1 ga 0 cs with
    | some (1, cs1) => match nx (inSJ i).1 (inSJ i).2 cs1 with
      | some cs2 => if okt nx9 cs2 = true ∧ i + 1 < nL then some (upj ga i, cs2) else none
      | _ => none
    | _ => none, fun cl Kn _ _ r u => a.2 cl (fun v u' => Kn (upr r i v) u') r u)
theorem asj_d (i : Nat) (a : XE) (ha : DecE a) : DecS (asjP i a) := by
  intro ga nL nx9 lb gb rt cs ga' cs' cc hc hD
  simp only [asjP] at hc
  split at hc
  case h_2 => cases hc
  rename_i h0
  split at hc
  case h_2 => cases hc
  rename_i h1
  split at hc
  case isFalse => cases hc
  cases hc
  exact (nx_ok h1 (ha _ _ _ _ _ _ h0 hD)).2.2
theorem asj_ok (ow i : Nat) (a : XE) (ha : SndE ow a) : SndS ow (asjP i a) := by
  intro p l e R s m args below meth c cc nL G Qf cl hX hC ga nx9 lb gb rt cs ga' cs' hc hD r u H locs cells slots ls Kn Kb Kr hL hA hw hn hb hr hx9
  simp only [asjP] at hc hw
  split at hc
  case h_2 => cases hc
  rename_i cs1 h0
  split at hc
  case h_2 => cases hc
  rename_i cs2 h1
  split at hc
  case isFalse => cases hc
  rename_i hcond
  cases hc
  refine ha p l e R s m args below meth c cc nL G Qf cl hX hC ga 0 cs 1 cs1 h0 hD r u H locs cells slots ls [] _ hL hA (Nat.le_refl _) hw ?_
  intro v u' H' locs' cells' slots' hv hA' hq hD1
  obtain ⟨g1, g2, g3⟩ := nx_ok h1 hD1
  rw [enc_1]
  have fin : ∀ ls' : Array Slot, LR G nL (upj ga i) (upr r i v) ls' → W p l e R s m args below meth c H' locs' cells' slots' Qf (F0 m (pcOf cs') ls' []) := fun ls' h =>
    okt_W hcond.1 hX.1 hX.2.1 g3 (hn _ u' H' locs' cells' slots' ls' h hA' hq)
  rw [g2] at fin
  unfold inSJ at g1 fin
  split at g1
  · rename_i q
    rw [dif_pos q] at fin
    exact lv_lstore_n hX.1 hX.2.1 g1 rfl hL.1 hcond.2 rfl (fun ls' h => fin ls' (LR_upj hL hv h))
  · rename_i q
    rw [dif_neg q] at fin
    exact lv_lstore hX.1 hX.2.1 g1 hL.1 hcond.2 rfl (fun ls' h => fin ls' (LR_upj hL hv h))
def asj {ow : Nat} (i : Nat) (a : EX ow) : SX ow := ⟨asjP i a.1, asj_ok ow i a.1 a.2.1, asj_d i a.1 a.2.2⟩

def incP (i : Nat) (n : Int) : XS := (fun ga nL nx9 _ _ _ cs => match nx (.iinc i n) 3 cs with
    | some cs2 => if okt nx9 cs2 = true ∧ i < nL ∧ (i, 0) ∈ ga then some (upg ga i 0, cs2) else none
    | _ => none, fun _ Kn _ _ r u => Kn (upr r i (w32 (r i + n))) u)
theorem inc_d (i : Nat) (n : Int) : DecS (incP i n) := by
  intro ga nL nx9 lb gb rt cs ga' cs' cc hc hD
  simp only [incP] at hc
  split at hc
  case h_2 => cases hc
  rename_i h1
  split at hc
  case isFalse => cases hc
  cases hc
  exact (nx_ok h1 hD).2.2
theorem inc_ok (ow i : Nat) (n : Int) : SndS ow (incP i n) := by
  intro p l e R s m args below meth c cc nL G Qf cl hX hC ga nx9 lb gb rt cs ga' cs' hc hD r u H locs cells slots ls Kn Kb Kr hL hA hw hn hb hr hx9
  simp only [incP] at hc hw
  split at hc
  case h_2 => cases hc
  rename_i cs2 h1
  split at hc
  case isFalse => cases hc
  rename_i hcond
  cases hc
  obtain ⟨g1, g2, g3⟩ := nx_ok h1 hD
  obtain ⟨c1, c2, c3⟩ := hcond
  have hm : (i, Value.int (Int32.ofInt (r i))) ∈ ga.map (fun q => (q.1, enc G.1 q.2 (r q.1))) := List.mem_map.mpr ⟨(i, 0), c3, rfl⟩
  obtain ⟨k, hk⟩ := List.getElem?_of_mem hm
  have e9 : Int32.ofInt (r i) + Int32.ofInt n = Int32.ofInt (w32 (r i + n)) := by rw [ofI_bmod, Int32.ofInt_add]
  refine lv_iinc (v := Int32.ofInt (w32 (r i + n))) hX.1 hX.2.1 g1 hL.1 hk e9 c2 rfl (fun ls' h => ?_)
  rw [← g2]
  exact okt_W c1 hX.1 hX.2.1 g3 (hn _ u H locs cells slots ls' (LR_up (t := 0) hL (w32_in _) h) hA hw)
def inc {ow : Nat} (i : Nat) (n : Int) : SX ow := ⟨incP i n, inc_ok ow i n, inc_d i n⟩
def seqP (N : Nat) (a b : XS) : XS := (fun ga nL nx9 lb gb rt cs => match a.1 ga nL N lb gb rt cs with
    | some (ga1, cs1) => if pcOf cs1 = N ∧ cs1 ≠ [] then b.1 ga1 nL nx9 lb gb rt cs1 else none
    | _ => none, fun cl Kn Kb Kr r u => a.2 cl (fun r' u' => b.2 cl Kn Kb Kr r' u') Kb Kr r u)
theorem seq_d (N : Nat) (a b : XS) (ha : DecS a) (hb : DecS b) : DecS (seqP N a b) := by
  intro ga nL nx9 lb gb rt cs ga' cs' cc hc hD
  simp only [seqP] at hc
  split at hc
  case h_2 => cases hc
  rename_i h1
  split at hc
  case isFalse => cases hc
  exact hb _ _ _ _ _ _ _ _ _ _ hc (ha _ _ _ _ _ _ _ _ _ _ h1 hD)
theorem seq_ok (ow N : Nat) (a b : XS) (ha : SndS ow a) (hb0 : SndS ow b) (da : DecS a) : SndS ow (seqP N a b) := by
  intro p l e R s m args below meth c cc nL G Qf cl hX hC ga nx9 lb gb rt cs ga' cs' hc hD r u H locs cells slots ls Kn Kb Kr hL hA hw hn hb hr hx9
  simp only [seqP] at hc hw
  split at hc
  case h_2 => cases hc
  rename_i ga1 cs1 h1
  split at hc
  case isFalse => cases hc
  rename_i hcond
  have D1 := da _ _ _ _ _ _ _ _ _ _ h1 hD
  refine ha p l e R s m args below meth c cc nL G Qf cl hX hC ga N lb gb rt cs ga1 cs1 h1 hD r u H locs cells slots ls _ _ _ hL hA hw ?_ hb hr hx9
  intro r' u' H' locs' cells' slots' ls' hL' hA' hq
  have := hb0 p l e R s m args below meth c cc nL G Qf cl hX hC ga1 nx9 lb gb rt cs1 ga' cs' hc D1 r' u' H' locs' cells' slots' ls' Kn Kb Kr hL' hA' hq hn hb hr hx9
  rw [hcond.1] at this
  exact this
def seq {ow : Nat} (N : Nat) (a b : SX ow) : SX ow := ⟨seqP N a.1 b.1, seq_ok ow N a.1 b.1 a.2.1 b.2.1 a.2.2, seq_d N a.1 b.1 a.2.2 b.2.2⟩
/-- a, then out of the switch -/
def sbrP (a : XS) : XS := (fun ga nL _ lb gb rt cs => match a.1 ga nL lb lb gb rt cs with
    | some (ga1, cs1) => if gb.all (fun q => ga1.contains q) = true then (nxg lb cs1).map (fun x => (ga, x)) else none
    | _ => none, fun cl _ Kb Kr r u => a.2 cl Kb Kb Kr r u)
theorem mapg {a : Gam} {L : Nat} {cs : Cds} {ga' : Gam} {cs' : Cds} {cc : ByteArray} (h : (nxg L cs).map (fun x => (a, x)) = some (ga', cs')) (hD : Dec cc cs) : ga' = a ∧ decode cc (pcOf cs) = .ok (.goto ((L : Int) - (pcOf cs : Int)), 3) ∧ Dec cc cs' := by
  obtain ⟨x, hx, e1⟩ := Option.map_eq_some_iff.mp h
  cases e1
  exact ⟨rfl, nxe_ok hx hD⟩
theorem sbr_d (a : XS) (ha : DecS a) : DecS (sbrP a) := by
  intro ga nL nx9 lb gb rt cs ga' cs' cc hc hD
  simp only [sbrP] at hc
  split at hc
  case h_2 => cases hc
  rename_i h1
  split at hc
  case isFalse => cases hc
  exact (mapg hc (ha _ _ _ _ _ _ _ _ _ _ h1 hD)).2.2
theorem sub_all {ga gb : Gam} (h : gb.all (fun q => ga.contains q) = true) : ∀ q ∈ gb, q ∈ ga := fun q hq => by
  have := List.all_eq_true.mp h q hq
  simpa using this
theorem sbr_ok (ow : Nat) (a : XS) (ha : SndS ow a) : SndS ow (sbrP a) := by
  intro p l e R s m args below meth c cc nL G Qf cl hX hC ga nx9 lb gb rt cs ga' cs' hc hD r u H locs cells slots ls Kn Kb Kr hL hA hw hn hb hr hx9
  simp only [sbrP] at hc hw
  split at hc
  case h_2 => cases hc
  rename_i ga1 cs1 h1
  split at hc
  case isFalse => cases hc
  rename_i hcond
  refine ha p l e R s m args below meth c cc nL G Qf cl hX hC ga lb lb gb rt cs ga1 cs1 h1 hD r u H locs cells slots ls _ _ _ hL hA hw ?_ hb hr hx9
  intro r' u' H' locs' cells' slots' ls' hL' hA' hq
  exact hb r' u' H' locs' cells' slots' ls' (hL'.sub (sub_all hcond)) hA' hq
def sbr {ow : Nat} (a : SX ow) : SX ow := ⟨sbrP a.1, sbr_ok ow a.1 a.2.1, sbr_d a.1 a.2.2⟩
/-- nothing but 'break' -/
def brkP : XS := (fun ga _ _ lb gb _ cs => if gb.all (fun q => ga.contains q) = true then (nxg lb cs).map (fun x => (ga, x)) else none, fun _ _ Kb _ r u => Kb r u)
theorem brk_ok (ow : Nat) : SndS ow brkP := by
  intro p l e R s m args below meth c cc nL G Qf cl hX hC ga nx9 lb gb rt cs ga' cs' hc hD r u H locs cells slots ls Kn Kb Kr hL hA hw hn hb hr hx9
  simp only [brkP] at hc hw
  split at hc
  case isFalse => cases hc
  rename_i hcond
  obtain ⟨-, g1, -⟩ := mapg hc hD
  exact lv_goto (tgt := lb) hX.1 hX.2.1 g1 (by omega) (hb r u H locs cells slots ls (hL.sub (sub_all hcond)) hA hw)
def brk {ow : Nat} : SX ow := ⟨brkP, brk_ok ow, by
  intro ga nL nx9 lb gb rt cs ga' cs' cc hc hD
  simp only [brkP] at hc
  split at hc
  case isFalse => cases hc
  exact (mapg hc hD).2.2⟩
def int9 (ga gb : Gam) : Gam := ga.filter (fun q => gb.contains q)
theorem int9_l {ga gb : Gam} : ∀ q ∈ int9 ga gb, q ∈ ga := fun q hq => (List.mem_filter.mp hq).1
theorem int9_r {ga gb : Gam} : ∀ q ∈ int9 ga gb, q ∈ gb := fun q hq => by
  have := (List.mem_filter.mp hq).2
  simpa using this
def ifsP (c : XC) (a : XS) : XS := (fun ga nL nx9 lb gb rt cs => match c.1 ga 0 true nx9 cs with
    | some cs1 => match a.1 ga nL nx9 lb gb rt cs1 with
      | some (ga1, cs2) => some (int9 ga ga1, cs2)
      | _ => none
    | _ => none, fun cl Kn Kb Kr r u => c.2 cl (fun u' => a.2 cl Kn Kb Kr r u') (fun u' => Kn r u') r u)
theorem ifs_d (c : XC) (a : XS) (hc0 : DecC c) (ha : DecS a) : DecS (ifsP c a) := by
  intro ga nL nx9 lb gb rt cs ga' cs' cc hc hD
  simp only [ifsP] at hc
  split at hc
  case h_2 => cases hc
  rename_i h0
  split at hc
  case h_2 => cases hc
  rename_i h1
  cases hc
  exact ha _ _ _ _ _ _ _ _ _ _ h1 (hc0 _ _ _ _ _ _ _ h0 hD)
theorem ifs_ok (ow : Nat) (c0 : XC) (a : XS) (hc0 : SndC ow c0) (ha : SndS ow a) : SndS ow (ifsP c0 a) := by
  intro p l e R s m args below meth c cc nL G Qf cl hX hC ga nx9 lb gb rt cs ga' cs' hc hD r u H locs cells slots ls Kn Kb Kr hL hA hw hn hb hr hx9
  simp only [ifsP] at hc hw
  split at hc
  case h_2 => cases hc
  rename_i cs1 h0
  split at hc
  case h_2 => cases hc
  rename_i ga1 cs2 h1
  cases hc
  refine hc0 p l e R s m args below meth c cc nL G Qf cl hX hC ga 0 true nx9 cs cs1 h0 hD r u H locs cells slots ls [] _ _ hL hA (Nat.le_refl _) hw ?_ ?_
  · intro u' H' locs' cells' slots' hA' hq D1
    exact ha p l e R s m args below meth c cc nL G Qf cl hX hC ga nx9 lb gb rt cs1 ga1 cs' h1 D1 r u' H' locs' cells' slots' ls Kn Kb Kr hL hA' hq (fun r' u2 H2 locs2 cells2 slots2 ls2 hL2 hA2 hq2 => hn r' u2 H2 locs2 cells2 slots2 ls2 (hL2.sub int9_r) hA2 hq2) hb hr hx9
  · intro u' H' locs' cells' slots' hA' hq D1
    exact hn r u' H' locs' cells' slots' ls (hL.sub int9_l) hA' hq
def ifs {ow : Nat} (c : CX ow) (a : SX ow) : SX ow := ⟨ifsP c.1 a.1, ifs_ok ow c.1 a.1 c.2.1 a.2.1, ifs_d c.1 a.1 c.2.2 a.2.2⟩
/-- if, else; g: the first one comes to its end (a goto behind it) -/
def ifeP (g : Bool) (E : Nat) (c : XC) (a b : XS) : XS := (fun ga nL nx9 lb gb rt cs => match c.1 ga 0 true E cs with
    | some cs1 => match a.1 ga nL nx9 lb gb rt cs1 with
      | some (ga1, cs2) => match (if g then nxg nx9 cs2 else some cs2) with
        | some cs3 => if pcOf cs3 = E ∧ cs3 ≠ [] then match b.1 ga nL nx9 lb gb rt cs3 with
            | some (ga2, cs4) => some (int9 ga1 ga2, cs4)
            | _ => none
          else none
        | _ => none
      | _ => none
    | _ => none, fun cl Kn Kb Kr r u => c.2 cl (fun u' => a.2 cl Kn Kb Kr r u') (fun u' => b.2 cl Kn Kb Kr r u') r u)
theorem ife_g {g : Bool} {L : Nat} {cs cs' : Cds} {cc : ByteArray} (h : (if g then nxg L cs else some cs) = some cs') (hD : Dec cc cs) : Dec cc cs' := by
  cases g
  · cases h; exact hD
  · exact (nxe_ok h hD).2
theorem ife_d (g : Bool) (E : Nat) (c : XC) (a b : XS) (hc0 : DecC c) (ha : DecS a) (hb : DecS b) : DecS (ifeP g E c a b) := by
  intro ga nL nx9 lb gb rt cs ga' cs' cc hc hD
  simp only [ifeP] at hc
  split at hc
  case h_2 => cases hc
  rename_i h0
  split at hc
  case h_2 => cases hc
  rename_i h1
  split at hc
  case h_2 => cases hc
  rename_i h2
  split at hc
  case isFalse => cases hc
  split at hc
  case h_2 => cases hc
  rename_i h3
  cases hc
  exact hb _ _ _ _ _ _ _ _ _ _ h3 (ife_g h2 (ha _ _ _ _ _ _ _ _ _ _ h1 (hc0 _ _ _ _ _ _ _ h0 hD)))
theorem ife_ok (ow : Nat) (g : Bool) (E : Nat) (c0 : XC) (a b : XS) (hc0 : SndC ow c0) (ha : SndS ow a) (hb0 : SndS ow b) (dc : DecC c0) (da : DecS a) : SndS ow (ifeP g E c0 a b) := by
  intro p l e R s m args below meth c cc nL G Qf cl hX hC ga nx9 lb gb rt cs ga' cs' hc hD r u H locs cells slots ls Kn Kb Kr hL hA hw hn hb hr hx9
  simp only [ifeP] at hc hw
  split at hc
  case h_2 => cases hc
  rename_i cs1 h0
  split at hc
  case h_2 => cases hc
  rename_i ga1 cs2 h1
  split at hc
  case h_2 => cases hc
  rename_i cs3 h2
  split at hc
  case isFalse => cases hc
  rename_i hE
  split at hc
  case h_2 => cases hc
  rename_i ga2 cs4 h3
  cases hc
  have D1 := dc _ _ _ _ _ _ _ h0 hD
  have D2 := da _ _ _ _ _ _ _ _ _ _ h1 D1
  have D3 := ife_g h2 D2
  refine hc0 p l e R s m args below meth c cc nL G Qf cl hX hC ga 0 true E cs cs1 h0 hD r u H locs cells slots ls [] _ _ hL hA (Nat.le_refl _) hw ?_ ?_
  · intro u' H' locs' cells' slots' hA' hq _
    exact ha p l e R s m args below meth c cc nL G Qf cl hX hC ga nx9 lb gb rt cs1 ga1 cs2 h1 D1 r u' H' locs' cells' slots' ls Kn Kb Kr hL hA' hq (fun r' u2 H2 locs2 cells2 slots2 ls2 hL2 hA2 hq2 => hn r' u2 H2 locs2 cells2 slots2 ls2 (hL2.sub int9_l) hA2 hq2) hb hr hx9
  · intro u' H' locs' cells' slots' hA' hq _
    simp only [if_true]
    rw [← hE.1]
    exact hb0 p l e R s m args below meth c cc nL G Qf cl hX hC ga nx9 lb gb rt cs3 ga2 cs' h3 D3 r u' H' locs' cells' slots' ls Kn Kb Kr hL hA' hq (fun r' u2 H2 locs2 cells2 slots2 ls2 hL2 hA2 hq2 => hn r' u2 H2 locs2 cells2 slots2 ls2 (hL2.sub int9_r) hA2 hq2) hb hr hx9
def ife {ow : Nat} (g : Bool) (E : Nat) (c : CX ow) (a b : SX ow) : SX ow := ⟨ifeP g E c.1 a.1 b.1, ife_ok ow g E c.1 a.1 b.1 c.2.1 a.2.1 b.2.1 c.2.2 a.2.2, ife_d g E c.1 a.1 b.1 c.2.2 a.2.2 b.2.2⟩
/-- only some places of the frame are used from here on -/
def wkP (ks : List Nat) (a : XS) : XS := (fun ga nL nx9 lb gb rt cs => a.1 (ga.filter (fun q => ks.contains q.1)) nL nx9 lb gb rt cs, a.2)
theorem wk_ok (ow : Nat) (ks : List Nat) (a : XS) (ha : SndS ow a) : SndS ow (wkP ks a) := by
  intro p l e R s m args below meth c cc nL G Qf cl hX hC ga nx9 lb gb rt cs ga' cs' hc hD r u H locs cells slots ls Kn Kb Kr hL hA hw hn hb hr hx9
  exact ha p l e R s m args below meth c cc nL G Qf cl hX hC _ nx9 lb gb rt cs ga' cs' hc hD r u H locs cells slots ls Kn Kb Kr (hL.sub (fun q hq => (List.mem_filter.mp hq).1)) hA hw hn hb hr hx9
def wk {ow : Nat} (ks : List Nat) (a : SX ow) : SX ow := ⟨wkP ks a.1, wk_ok ow ks a.1 a.2.1, fun ga nL nx9 lb gb rt cs ga' cs' cc hc hD => a.2.2 _ nL nx9 lb gb rt cs ga' cs' cc hc hD⟩
/-- while: C the place of the step (the head, where there is none) -/
def whlP (hs : Bool) (C : Nat) (c : XC) (a b : XS) : XS := (fun ga nL nx9 lb gb rt cs => match c.1 ga 0 true nx9 cs with
    | some cs1 => match a.1 ga nL C lb gb rt cs1 with
      | some (ga1, cs2) => match (if hs then (if pcOf cs2 = C ∧ cs2 ≠ [] then b.1 ga1 nL (pcOf cs) lb gb rt cs2 else none) else (if C = pcOf cs then some (ga1, cs2) else none)) with
        | some (ga2, cs3) => if ga.all (fun q => ga2.contains q) = true then (nxg (pcOf cs) cs3).map (fun x => (ga, x)) else none
        | _ => none
      | _ => none
    | _ => none, fun cl Kn Kb Kr r u => ∃ I : Nat → Rho → Sto → Prop, (∃ n, I n r u) ∧ ∀ n r u, I n r u →
      c.2 cl (fun u' => a.2 cl (fun r2 u2 => if hs then b.2 cl (fun r3 u3 => ∃ n', n' < n ∧ I n' r3 u3) Kb Kr r2 u2 else ∃ n', n' < n ∧ I n' r2 u2) Kb Kr r u') (fun u' => Kn r u') r u)
theorem whl_s {hs : Bool} {C : Nat} {b : XS} {ga1 ga2 : Gam} {nL h lb : Nat} {gb : Gam} {rt : Nat} {cs2 cs3 : Cds} {cc : ByteArray} (db : DecS b)
    (q : (if hs then (if pcOf cs2 = C ∧ cs2 ≠ [] then b.1 ga1 nL h lb gb rt cs2 else none) else (if C = h then some (ga1, cs2) else none)) = some (ga2, cs3)) (hD : Dec cc cs2) : Dec cc cs3 := by
  cases hs
  · simp only [Bool.false_eq_true, if_false] at q
    split at q
    · cases q; exact hD
    · cases q
  · simp only [if_true] at q
    split at q
    · exact db _ _ _ _ _ _ _ _ _ _ q hD
    · cases q
theorem whl_d (hs : Bool) (C : Nat) (c : XC) (a b : XS) (hc0 : DecC c) (ha : DecS a) (hb : DecS b) : DecS (whlP hs C c a b) := by
  intro ga nL nx9 lb gb rt cs ga' cs' cc hc hD
  simp only [whlP] at hc
  split at hc
  case h_2 => cases hc
  rename_i h0
  split at hc
  case h_2 => cases hc
  rename_i h1
  split at hc
  case h_2 => cases hc
  rename_i h2
  split at hc
  case isFalse => cases hc
  exact (mapg hc (whl_s hb h2 (ha _ _ _ _ _ _ _ _ _ _ h1 (hc0 _ _ _ _ _ _ _ h0 hD)))).2.2
theorem whl_ok (ow : Nat) (hs : Bool) (C : Nat) (c0 : XC) (a b : XS) (hc0 : SndC ow c0) (ha : SndS ow a) (hb0 : SndS ow b) (dc : DecC c0) (da : DecS a) (db : DecS b) : SndS ow (whlP hs C c0 a b) := by
  intro p l e R s m args below meth c cc nL G Qf cl hX hC ga nx9 lb gb rt cs ga' cs' hc hD r u H locs cells slots ls Kn Kb Kr hL hA hw hn hb hr hx9
  simp only [whlP] at hc hw
  split at hc
  case h_2 => cases hc
  rename_i cs1 h0
  split at hc
  case h_2 => cases hc
  rename_i ga1 cs2 h1
  split at hc
  case h_2 => cases hc
  rename_i ga2 cs3 h2
  split at hc
  case isFalse => cases hc
  rename_i hsub
  have D1 := dc _ _ _ _ _ _ _ h0 hD
  have D2 := da _ _ _ _ _ _ _ _ _ _ h1 D1
  have D3 := whl_s db h2 D2
  obtain ⟨rfl, g1, -⟩ := mapg hc D3
  obtain ⟨I, ⟨n, hI⟩, hstep⟩ := hw
  have main : ∀ n r u H locs cells slots ls, I n r u → LR G nL ga' r ls → At G R s.heap u H locs cells slots → W p l e R s m args below meth c H locs cells slots Qf (F0 m (pcOf cs) ls []) := by
    intro n
    induction n using Nat.strongRecOn with
    | _ n ih =>
      intro r u H locs cells slots ls hI hL hA
      refine hc0 p l e R s m args below meth c cc nL G Qf cl hX hC ga' 0 true nx9 cs cs1 h0 hD r u H locs cells slots ls [] _ _ hL hA (Nat.le_refl _) (hstep n r u hI) ?_ ?_
      · intro u' H' locs' cells' slots' hA' hq _
        simp only [if_true]
        refine ha p l e R s m args below meth c cc nL G Qf cl hX hC ga' C lb gb rt cs1 ga1 cs2 h1 D1 r u' H' locs' cells' slots' ls _ _ _ hL hA' hq ?_ hb hr hx9
        intro r2 u2 H2 locs2 cells2 slots2 ls2 hL2 hA2 hq2
        have back : ∀ (r3 : Rho) (u3 : Sto) (H3 : Heap) (locs3 : List Loc) (cells3 slots3 : Nat) (ls3 : Array Slot), LR G nL ga2 r3 ls3 → At G R s.heap u3 H3 locs3 cells3 slots3 → (∃ n', n' < n ∧ I n' r3 u3) → W p l e R s m args below meth c H3 locs3 cells3 slots3 Qf (F0 m (pcOf cs) ls3 []) := by
          intro r3 u3 H3 locs3 cells3 slots3 ls3 hL3 hA3 hq3
          obtain ⟨n', hlt, hI'⟩ := hq3
          exact ih n' hlt r3 u3 H3 locs3 cells3 slots3 ls3 hI' (hL3.sub (sub_all hsub)) hA3
        cases hs
        · simp only [Bool.false_eq_true, if_false] at h2 hq2
          split at h2
          case isFalse => cases h2
          rename_i hC
          cases h2
          rw [hC]
          exact back r2 u2 H2 locs2 cells2 slots2 ls2 hL2 hA2 hq2
        · simp only [if_true] at h2 hq2
          split at h2
          case isFalse => cases h2
          rename_i hCC
          have := hb0 p l e R s m args below meth c cc nL G Qf cl hX hC ga1 (pcOf cs) lb gb rt cs2 ga2 cs3 h2 D2 r2 u2 H2 locs2 cells2 slots2 ls2 _ _ _ hL2 hA2 hq2 back hb hr hx9
          rw [hCC.1] at this
          exact this
      · intro u' H' locs' cells' slots' hA' hq _
        simp only [if_true]
        exact hn r u' H' locs' cells' slots' ls hL hA' hq
  exact main n r u H locs cells slots ls hI hL hA
def whl {ow : Nat} (hs : Bool) (C : Nat) (c : CX ow) (a b : SX ow) : SX ow := ⟨whlP hs C c.1 a.1 b.1, whl_ok ow hs C c.1 a.1 b.1 c.2.1 a.2.1 b.2.1 c.2.2 a.2.2 b.2.2, whl_d hs C c.1 a.1 b.1 c.2.2 a.2.2 b.2.2⟩
end
section
/-! trees of statements: stores, ends, calls -/
theorem rel_wr {G : Geo} {u : Sto} {H H' : Heap} {U : State} (h : Rel G u H) (hK : KOK G U) {a : Int} {k j : Nat} (hl : live u a k) (h1 : 1 ≤ k) (hj : (j : Int) < klen a) {v : Int} (hv : okv (ety k j) v) {cell : Cell} (hc : H[G.1 a]? = some cell) (e1 : H'[G.1 a]? = some (cell.setSlot (G.2.2.1 k j) (enc G.1 (ety k j) v))) (e2 : H'.size = H.size) (e3 : ∀ q, q ≠ G.1 a → H'[q]? = H[q]?) : Rel G (wr u (ety k j) a j v) H' := by
  obtain ⟨r1, r2, r3, r4, r5⟩ := h
  obtain ⟨l1, l2, l3⟩ := hl
  have hs : stn (wr u (ety k j) a j v) = stn u := by unfold wr; split <;> rfl
  have hx : sex (wr u (ety k j) a j v) = sex u := by unfold wr; split <;> rfl
  have h18 := (kl_18 a).1
  rw [l3] at h18
  have inj : ∀ j' : Nat, (j' : Int) < klen a → j' ≠ j → G.2.2.1 k j' ≠ G.2.2.1 k j := by
    intro j' hj' hne
    by_cases h13 : k ≤ 13
    · rw [kl_obj l3 h1 h13] at hj hj'
      exact hK.2.2.1 k j' j h1 h13 (by omega) (by omega) hne
    · by_cases h14 : 14 ≤ k
      · rw [hK.2.2.2.2.1 k j' h14, hK.2.2.2.2.1 k j h14]; exact hne
      · omega
  refine ⟨fun b b1 b2 b3 => ?_, fun b b1 b2 i hi ht => ?_, by rw [hs]; exact r3, by rw [hs, e2]; exact r4, by rw [hs, hx, e2]; exact r5⟩
  · rw [hs] at b2
    obtain ⟨cl', q1, q2, q3, q4, q5⟩ := r1 b b1 b2 b3
    by_cases hba : b = a
    · subst hba
      rw [l3] at q3 q4 q5
      cases hc.symm.trans q1
      have hlt : G.2.2.1 k j < cell.slots.size := k2_hasslot (q5 j hj)
      refine ⟨_, e1, q2, by rw [l3]; exact q3, ?_, ?_⟩
      · rw [l3]
        intro h14
        show (cell.slots.setIfInBounds _ _).size = _
        rw [Array.size_setIfInBounds]
        exact q4 h14
      · intro j' hj'
        rw [l3]
        by_cases hjj : j' = j
        · subst hjj
          rw [Cell.slots_setSlot_self _ hlt]
          congr 2
          unfold rd wr upm
          by_cases ht : ety k j' = 2
          · simp [ht]
          · simp [ht]
        · rw [slot_ne _ _ (Ne.symm (inj j' hj' hjj)), q5 j' hj']
          congr 2
          have hji : ¬ ((j' : Int) = (j : Int)) := by omega
          unfold rd wr upm
          by_cases ht : ety k j = 2 <;> by_cases ht' : ety k j' = 2 <;> simp [ht, ht', hji]
    · have hne : G.1 b ≠ G.1 a := by
        rw [hK.1 b b1, hK.1 a l1]; omega
      refine ⟨cl', by rw [e3 _ hne]; exact q1, q2, q3, q4, fun j' hj' => ?_⟩
      rw [q5 j' hj']
      congr 2
      unfold rd wr upm
      by_cases ht : ety k j = 2 <;> by_cases ht' : ety (kcls b) j' = 2 <;> simp [ht, ht', hba]
  · rw [hs] at b2
    have := r2 b b1 b2 i hi ht
    unfold wr upm
    by_cases ht2 : ety k j = 2
    · simp only [ht2, if_true]; exact this
    · simp only [ht2, if_false]
      by_cases hba : b = a ∧ (i : Int) = j
      · rw [if_pos hba]
        obtain ⟨rfl, hij⟩ := hba
        have : i = j := by omega
        subst this
        rw [l3]; exact hv
      · rw [if_neg hba]; exact this
theorem wr_t (u : Sto) (t : Nat) (a j v : Int) : stn (wr u t a j v) = stn u ∧ sex (wr u t a j v) = sex u ∧ sbc (wr u t a j v) = sbc u ∧ sbw (wr u t a j v) = sbw u := by
  unfold wr; split <;> exact ⟨rfl, rfl, rfl, rfl⟩
theorem at_put {G : Geo} {R : Room} {H0 H H' : Heap} {u u' : Sto} {locs : List Loc} {cells slots A i : Nat} (hA : At G R H0 u H locs cells slots) (hr : Rel G u' H') (e2 : H'.size = H.size) (e3 : ∀ q, q ≠ A → H'[q]? = H[q]?) (hA2 : G.2.2.2 ≤ A) (h1 : sbc u' = sbc u) (h2 : sbw u' = sbw u) : At G R H0 u' H' (locs ++ [⟨A, i⟩]) cells slots := by
  obtain ⟨a1, ⟨a2, a3, a4⟩, a5, a6⟩ := hA
  refine ⟨hr, ⟨by omega, fun q hq => (e3 q (by omega)).trans (a3 q hq), fun q hq => ?_⟩, by rw [h1]; exact a5, by rw [h2]; exact a6⟩
  rcases List.mem_append.mp hq with h | h
  · exact a4 q h
  · cases List.mem_singleton.mp h; exact hA2
theorem al_ge {G : Geo} {U : State} (hK : KOK G U) {a : Int} (h : 0 < a) : G.2.2.2 ≤ G.1 a := by rw [hK.1 a h]; omega
section PR
variable {p : Program} {l : Launch} {e : Env} {R : Room} {s : State} {m : MethodId} {args : Array Value} {below : List Frame} {meth : Method} {c : Code} {cc : ByteArray} {nL ow cp k j : Nat} {G : Geo} {H : Heap} {locs : List Loc} {cells slots : Nat} {Q : State → Prop} {pc : Nat} {ls : Array Slot} {st : List Value} {u : Sto} {a v : Int}
theorem put_row (hX : MX p R s m args c cc nL ow G) (hf : FldAt ow cp k j) (hnf : (kF k j).2.2.2 = false) (hd : decode cc pc = .ok (.putfield cp, 3)) (hA : At G R s.heap u H locs cells slots) (hl : live u a k) (hv : okv (ety k j) v)
    (kk : ∀ (H' : Heap) (locs' : List Loc), At G R s.heap (wr u (ety k j) a j v) H' locs' cells slots → W p l e R s m args below meth c H' locs' cells slots Q (F0 m (pc + 3) ls st)) :
    W p l e R s m args below meth c H locs cells slots Q (F0 m pc ls (enc G.1 (ety k j) v :: .ref (G.1 a) :: st)) := by
  obtain ⟨f1, f2, f3, f4, f5, f6, f7⟩ := hf
  have hj : (j : Int) < klen a := by rw [kl_obj hl.2.2 f3 f4]; exact_mod_cast f5
  obtain ⟨cell, q1, q2, q3, q4, q5⟩ := hA.1.1 a hl.1 hl.2.1 (by rw [hl.2.2]; omega)
  rw [hl.2.2] at q3 q5
  have hts := hX.2.2.2.2.1
  have hK := hX.2.2.2.2.2.1
  obtain ⟨hS, hfc, kC', hkC, hkind⟩ := hK.2.1 k f3 f4
  obtain ⟨cf, kf, fi, f, hi, hsl⟩ := hS j f5
  have hlay := hts _ f2
  have hst := (u_facts hfc hkC (u_lay1 hlay) hi).1
  unfold u_lay at hlay
  rw [if_neg (by rw [hnf]; decide)] at hlay
  have h6 := u_store hfc hkC hkind hlay hi f6 (f7 G.1 v hv).1 (f7 G.1 v hv).2
  refine W.putK hX.1 hX.2.1 (f := f) ⟨hX.2.2.2.1, hts _ f1, ⟨_, _, _, hi⟩, hst⟩ (by rw [q3]; exact h6) q1 q2 (by rw [hsl]; exact k2_hasslot (q5 j hj)) rfl rfl hd fun H' e1 e2 e3 => ?_
  rw [hsl] at e1
  have t4 := wr_t u (ety k j) a j v
  exact kk H' _ (at_put hA (rel_wr hA.1 hK hl f3 hj hv q1 e1 e2 e3) e2 e3 (al_ge hK hl.1) t4.2.2.1 t4.2.2.2)
def AstR (K : Nat) (ins : Instr) : Prop := ∀ (p : Program) (l : Launch) (e : Env) (R : Room) (s : State) (m : MethodId) (args : Array Value) (below : List Frame) (meth : Method) (c : Code) (cc : ByteArray) (H : Heap) (locs : List Loc) (cells slots : Nat) (Q : State → Prop) (pc : Nat) (ls : Array Slot) (rest : List Value) (a : Nat) (cell : Cell) (j : Int32) (v : Int) (al : Int → Nat), p.tables.exec = Jvm.exec → c.code = cc → decode cc pc = .ok (ins, 1) →
  H[a]? = some cell → s.isArrayOf cell (aT K) → cell.vm ≠ .unknown → ¬ (j < 0 ∨ cell.slots.size ≤ j.toNatClampNeg) → okv (ety K 0) v →
  (∀ H' : Heap, H'[a]? = some (cell.setSlot j.toNatClampNeg (enc al (ety K 0) v)) → H'.size = H.size → (∀ q, q ≠ a → H'[q]? = H[q]?) → W p l e R s m args below meth c H' (locs ++ [⟨a, j.toNatClampNeg⟩]) cells slots Q (F0 m (pc + 1) ls rest)) → W p l e R s m args below meth c H locs cells slots Q (F0 m pc ls (enc al (ety K 0) v :: .int j :: .ref a :: rest))
theorem asti_r : AstR 14 .iastore := fun p l e R s m args below meth c cc H locs cells slots Q pc ls rest a cell j v al hx hb hd h1 h2 h3 h4 h5 k => W.iast hx hb h1 h2 h3 h4 rfl rfl hd k
theorem astj_r : AstR 15 .lastore := fun p l e R s m args below meth c cc H locs cells slots Q pc ls rest a cell j v al hx hb hd h1 h2 h3 h4 h5 k => W.last hx hb h1 h2 h3 h4 rfl rfl hd k
theorem astz_r : AstR 16 .bastore := fun p l e R s m args below meth c cc H locs cells slots Q pc ls rest a cell j v al hx hb hd h1 h2 h3 h4 h5 k => W.zast hx hb h1 h2 h3 h4 rfl rfl hd (fun H' e1 e2 e3 => k H' (by
  have h5 : 0 ≤ v ∧ v ≤ 1 := h5
  have : v = 0 ∨ v = 1 := by omega
  rcases this with rfl | rfl <;> exact e1) e2 e3)
theorem nar_c {v : Int} (h : 0 ≤ v ∧ v < 65536) : narrow .char (.int (Int32.ofInt v)) = .int (Int32.ofInt v) := by
  obtain ⟨n, rfl⟩ := Int.eq_ofNat_of_zero_le h.1
  exact (pk_charN (q := n) (by omega)).1
theorem astc_r : AstR 17 .castore := fun p l e R s m args below meth c cc H locs cells slots Q pc ls rest a cell j v al hx hb hd h1 h2 h3 h4 h5 k => W.cast hx hb h1 h2 h3 h4 rfl rfl hd (fun H' e1 e2 e3 => k H' (by
  rw [nar_c h5] at e1
  exact e1) e2 e3)
theorem ast_row {K : Nat} {ins : Instr} {i : Int} (hX : MX p R s m args c cc nL ow G) (h14 : 14 ≤ K) (h18 : K ≤ 18) (hrow : AstR K ins) (hd : decode cc pc = .ok (ins, 1)) (hA : At G R s.heap u H locs cells slots) (hl : inb u a K i) (hv : okv (ety K 0) v)
    (kk : ∀ (H' : Heap) (locs' : List Loc), At G R s.heap (wr u (ety K 0) a i v) H' locs' cells slots → W p l e R s m args below meth c H' locs' cells slots Q (F0 m (pc + 1) ls st)) :
    W p l e R s m args below meth c H locs cells slots Q (F0 m pc ls (enc G.1 (ety K 0) v :: .int (Int32.ofInt i) :: .ref (G.1 a) :: st)) := by
  have hK := hX.2.2.2.2.2.1
  obtain ⟨cell, q1, q2, q3, q4, q5, q6, q7, -⟩ := arr_at hA.1 hK hl h14 h18
  refine hrow p l e R s m args below meth c cc H locs cells slots Q pc ls st _ cell _ v G.1 hX.1 hX.2.1 hd q1 q2 (by rw [q3]; exact fun h => by cases h) q4 hv (fun H' e1 e2 e3 => ?_)
  rw [q5] at e1
  have t4 := wr_t u (ety K 0) a i v
  have e0 : ((i.toNat : Nat) : Int) = i := Int.toNat_of_nonneg hl.2.1
  refine kk H' _ (at_put hA ?_ e2 e3 (al_ge hK hl.1.1) t4.2.2.1 t4.2.2.2)
  have := rel_wr (j := i.toNat) (v := v) (H' := H') hA.1 hK hl.1 (by omega) (by have := hl.2.2; omega) (by rw [ety_arr h14 h18]; exact hv) q1 (by rw [hK.2.2.2.2.1 K _ h14, ety_arr h14 h18]; exact e1) e2 e3
  rw [ety_arr h14 h18, e0] at this
  exact this
end PR
def FldPut (ow cp k j : Nat) : Prop := FldAt ow cp k j ∧ (kF k j).2.2.2 = false
/-- what a field of that type asks of a value that fits the stack -/
def tyq (t : Nat) (v : Int) : Prop := (t = 3 → 0 ≤ v ∧ v ≤ 1) ∧ (t = 4 → 0 ≤ v ∧ v < 65536)
theorem okv_q {t : Nat} {v : Int} (h : okv (gty t) v) (hq : tyq t v) : okv t v := by
  unfold okv gty at *
  by_cases h1 : t = 1
  · simp only [h1] at *; exact h
  · by_cases h2 : t = 2
    · simp [h2]
    · simp only [h1, h2, if_false] at *
      by_cases h3 : t = 3
      · simp only [h3, if_true]; exact hq.1 h3
      · by_cases h4 : t = 4
        · simp only [h4, if_true]; simpa using hq.2 h4
        · simp only [h3, h4, if_false]; simpa using h
theorem tyq_0 (v : Int) : tyq 0 v := ⟨(fun h => absurd h (by decide)), (fun h => absurd h (by decide))⟩
theorem tyq_1 (v : Int) : tyq 1 v := ⟨(fun h => absurd h (by decide)), (fun h => absurd h (by decide))⟩
theorem tyq_2 (v : Int) : tyq 2 v := ⟨(fun h => absurd h (by decide)), (fun h => absurd h (by decide))⟩
def putP (cp k j : Nat) (a b : XE) : XS := (fun ga _ nx9 _ _ _ cs => match a.1 ga 0 cs with
    | some (2, cs1) => match b.1 ga 1 cs1 with
      | some (t, cs2) => match nx (.putfield cp) 3 cs2 with
        | some cs3 => if okt nx9 cs3 = true ∧ t = gty (ety k j) then some (ga, cs3) else none
        | _ => none
      | _ => none
    | _ => none, fun cl Kn _ _ r u => a.2 cl (fun o u' => b.2 cl (fun v u2 => live u2 o k ∧ tyq (ety k j) v ∧ Kn r (wr u2 (ety k j) o j v)) r u') r u)
theorem put_d (cp k j : Nat) (a b : XE) (ha : DecE a) (hb : DecE b) : DecS (putP cp k j a b) := by
  intro ga nL nx9 lb gb rt cs ga' cs' cc hc hD
  simp only [putP] at hc
  split at hc
  case h_2 => cases hc
  rename_i h0
  split at hc
  case h_2 => cases hc
  rename_i h1
  split at hc
  case h_2 => cases hc
  rename_i h2
  split at hc
  case isFalse => cases hc
  cases hc
  exact (nx_ok h2 (hb _ _ _ _ _ _ h1 (ha _ _ _ _ _ _ h0 hD))).2.2
theorem put_ok (ow cp k j : Nat) (hf : FldPut ow cp k j) (a b : XE) (ha : SndE ow a) (hb0 : SndE ow b) : SndS ow (putP cp k j a b) := by
  intro p l e R s m args below meth c cc nL G Qf cl hX hC ga nx9 lb gb rt cs ga' cs' hc hD r u H locs cells slots ls Kn Kb Kr hL hA hw hn hb hr hx9
  simp only [putP] at hc hw
  split at hc
  case h_2 => cases hc
  rename_i cs1 h0
  split at hc
  case h_2 => cases hc
  rename_i t cs2 h1
  split at hc
  case h_2 => cases hc
  rename_i cs3 h2
  split at hc
  case isFalse => cases hc
  rename_i hcond
  obtain ⟨hk9, rfl⟩ := hcond
  cases hc
  refine ha p l e R s m args below meth c cc nL G Qf cl hX hC ga 0 cs 2 cs1 h0 hD r u H locs cells slots ls [] _ hL hA (Nat.le_refl _) hw ?_
  intro o u' H' locs' cells' slots' ho hA' hq hD1
  refine hb0 p l e R s m args below meth c cc nL G Qf cl hX hC ga 1 cs1 _ cs2 h1 hD1 r u' H' locs' cells' slots' ls _ _ hL hA' ?_ hq ?_
  · rw [cats_cons, cat_enc]; simp [cats]
  intro v u2 H2 locs2 cells2 slots2 hv hA2 hq2 hD2
  obtain ⟨g1, g2, g3⟩ := nx_ok h2 hD2
  obtain ⟨hl, htq, hq2⟩ := hq2
  rw [enc_g, enc_2 _ (by have := hl.1; omega)]
  refine put_row hX hf.1 hf.2 g1 hA2 hl (okv_q hv htq) (fun H3 locs3 hA3 => ?_)
  rw [← g2]
  exact okt_W hk9 hX.1 hX.2.1 g3 (hn r _ H3 locs3 _ _ ls hL hA3 hq2)
def put {ow : Nat} {cp k j : Nat} (hf : FldPut ow cp k j) (a b : EX ow) : SX ow := ⟨putP cp k j a.1 b.1, put_ok ow cp k j hf a.1 b.1 a.2.1 b.2.1, put_d cp k j a.1 b.1 a.2.2 b.2.2⟩
/-- x.f op= e: the row of the binary instruction is handed in -/
def popP (ins : Instr) (f : Int → Int → Int) (cp k j : Nat) (a b : XE) : XS := (fun ga _ nx9 _ _ _ cs => match a.1 ga 0 cs with
    | some (2, cs1) => match nx .dup 1 cs1 with
      | some cs2 => match nx (.getfield cp) 3 cs2 with
        | some cs3 => match b.1 ga 2 cs3 with
          | some (0, cs4) => match nx ins 1 cs4 with
            | some cs5 => match nx (.putfield cp) 3 cs5 with
              | some cs6 => if okt nx9 cs6 = true ∧ ety k j = 0 then some (ga, cs6) else none
              | _ => none
            | _ => none
          | _ => none
        | _ => none
      | _ => none
    | _ => none, fun cl Kn _ _ r u => a.2 cl (fun o u' => live u' o k ∧ b.2 cl (fun v u2 => live u2 o k ∧ Kn r (wr u2 (ety k j) o j (f (rd u' (ety k j) o j) v))) r u') r u)
theorem pop_d (ins : Instr) (f : Int → Int → Int) (cp k j : Nat) (a b : XE) (ha : DecE a) (hb : DecE b) : DecS (popP ins f cp k j a b) := by
  intro ga nL nx9 lb gb rt cs ga' cs' cc hc hD
  simp only [popP] at hc
  split at hc
  case h_2 => cases hc
  rename_i h0
  split at hc
  case h_2 => cases hc
  rename_i h1
  split at hc
  case h_2 => cases hc
  rename_i h2
  split at hc
  case h_2 => cases hc
  rename_i h3
  split at hc
  case h_2 => cases hc
  rename_i h4
  split at hc
  case h_2 => cases hc
  rename_i h5
  split at hc
  case isFalse => cases hc
  cases hc
  exact (nx_ok h5 (nx_ok h4 (hb _ _ _ _ _ _ h3 (nx_ok h2 (nx_ok h1 (ha _ _ _ _ _ _ h0 hD)).2.2).2.2)).2.2).2.2
theorem pop_ok (ow : Nat) (ins : Instr) (f : Int → Int → Int) (ok : Int → Prop) (g : Int32 → Int32 → Int32) (hrow : BinR ins g ok) (hok : ∀ y, ok y) (hfi : ∀ x y, inI (f x y)) (hg : ∀ x y, inI x → inI y → Int32.ofInt (f x y) = g (Int32.ofInt x) (Int32.ofInt y)) (cp k j : Nat) (hf : FldPut ow cp k j) (a b : XE) (ha : SndE ow a) (hb0 : SndE ow b) : SndS ow (popP ins f cp k j a b) := by
  intro p l e R s m args below meth c cc nL G Qf cl hX hC ga nx9 lb gb rt cs ga' cs' hc hD r u H locs cells slots ls Kn Kb Kr hL hA hw hn hb hr hx9
  simp only [popP] at hc hw
  split at hc
  case h_2 => cases hc
  rename_i cs1 h0
  split at hc
  case h_2 => cases hc
  rename_i cs2 h1
  split at hc
  case h_2 => cases hc
  rename_i cs3 h2
  split at hc
  case h_2 => cases hc
  rename_i cs4 h3
  split at hc
  case h_2 => cases hc
  rename_i cs5 h4
  split at hc
  case h_2 => cases hc
  rename_i cs6 h5
  split at hc
  case isFalse => cases hc
  rename_i hcond
  obtain ⟨hk9, ht0⟩ := hcond
  cases hc
  refine ha p l e R s m args below meth c cc nL G Qf cl hX hC ga 0 cs 2 cs1 h0 hD r u H locs cells slots ls [] _ hL hA (Nat.le_refl _) hw ?_
  intro o u' H' locs' cells' slots' ho hA' hq hD1
  obtain ⟨hl, hq⟩ := hq
  obtain ⟨a1, a2, a3⟩ := nx_ok h1 hD1
  obtain ⟨b1, b2, b3⟩ := nx_ok h2 a3
  rw [enc_2 _ (by have := hl.1; omega)]
  refine lv_dup hX.1 hX.2.1 a1 rfl ?_
  rw [← a2]
  have hff := hf
  obtain ⟨⟨f1, f2, f3, f4, f5, f6, f7⟩, hnf⟩ := hff
  have hj : (j : Int) < klen o := by rw [kl_obj hl.2.2 f3 f4]; exact_mod_cast f5
  obtain ⟨cell, q1, q2, q3, q4, q5⟩ := hA'.1.1 o hl.1 hl.2.1 (by rw [hl.2.2]; omega)
  have hts := hX.2.2.2.2.1
  obtain ⟨hS, hfc, kC', hkC, hkind⟩ := hX.2.2.2.2.2.1.2.1 k f3 f4
  obtain ⟨cf, kf, fi, fd, hi, hsl⟩ := hS j f5
  refine W.getf hX.1 hX.2.1 hX.2.2.2.1 (hts _ f1) hi (u_facts hfc hkC (u_lay1 (hts _ f2)) hi).1 q1 (by rw [q2]; exact fun h => by cases h) (v := enc G.1 (ety k j) (rd u' (ety k j) o j)) ?_ rfl rfl b1 ?_
  · rw [hsl]
    have := q5 j hj
    rw [hl.2.2] at this
    exact this
  have hx9 : inI (rd u' (ety k j) o j) := by
    have := rd_ok hA'.1 hl hj
    rw [ht0] at this ⊢
    exact this
  show W p l e R s m args below meth c H' locs' cells' slots' Qf (F0 m (pcOf cs2 + 3) ls (enc G.1 (ety k j) (rd u' (ety k j) o j) :: .ref (G.1 o) :: []))
  rw [← b2, ht0, enc_0]
  rw [ht0] at hx9 hq
  refine hb0 p l e R s m args below meth c cc nL G Qf cl hX hC ga 2 cs3 _ cs4 h3 b3 r u' H' locs' cells' slots' ls _ _ hL hA' ?_ hq ?_
  · exact Nat.le_refl _
  intro v u2 H2 locs2 cells2 slots2 hv hA2 hq2 hD2
  obtain ⟨c1, c2, c3⟩ := nx_ok h4 hD2
  obtain ⟨d1, d2, d3⟩ := nx_ok h5 c3
  have hv : inI v := hv
  rw [enc_0]
  refine hrow p l e R s m args below meth c cc H2 locs2 cells2 slots2 Qf (pcOf cs4) ls _ _ v hX.1 hX.2.1 c1 (hok v) hv ?_
  rw [← c2, ← hg _ _ hx9 hv]
  have := put_row (l := l) (e := e) (below := below) (meth := meth) (Q := Qf) (ls := ls) (st := []) (v := f (rd u' 0 o j) v) hX hf.1 hf.2 d1 hA2 hq2.1 (by rw [ht0]; exact hfi _ _) (fun H3 locs3 hA3 => by
    rw [← d2]
    rw [ht0] at hA3
    exact okt_W hk9 hX.1 hX.2.1 d3 (hn r _ H3 locs3 _ _ ls hL hA3 hq2.2))
  rw [ht0, enc_0] at this
  exact this

def popadd {ow : Nat} {cp k j : Nat} (hf : FldPut ow cp k j) (a b : EX ow) : SX ow := ⟨popP .iadd (fun a b => w32 (a + b)) cp k j a.1 b.1, pop_ok ow _ _ _ _ add_r (fun _ => trivial) (fun _ _ => w32_in _) (fun x y _ _ => by rw [ofI_bmod, Int32.ofInt_add]) cp k j hf a.1 b.1 a.2.1 b.2.1, pop_d _ _ cp k j a.1 b.1 a.2.2 b.2.2⟩
def popsub {ow : Nat} {cp k j : Nat} (hf : FldPut ow cp k j) (a b : EX ow) : SX ow := ⟨popP .isub (fun a b => w32 (a - b)) cp k j a.1 b.1, pop_ok ow _ _ _ _ sub_r (fun _ => trivial) (fun _ _ => w32_in _) (fun x y _ _ => by rw [ofI_bmod, Int32.ofInt_sub]) cp k j hf a.1 b.1 a.2.1 b.2.1, pop_d _ _ cp k j a.1 b.1 a.2.2 b.2.2⟩
def popor {ow : Nat} {cp k j : Nat} (hf : FldPut ow cp k j) (a b : EX ow) : SX ow := ⟨popP .ior ior cp k j a.1 b.1, pop_ok ow _ _ _ _ bor_r (fun _ => trivial) (fun _ _ => toInt_in _) (fun x y _ _ => Int32.ofInt_toInt _) cp k j hf a.1 b.1 a.2.1 b.2.1, pop_d _ _ cp k j a.1 b.1 a.2.2 b.2.2⟩
def popand {ow : Nat} {cp k j : Nat} (hf : FldPut ow cp k j) (a b : EX ow) : SX ow := ⟨popP .iand iand cp k j a.1 b.1, pop_ok ow _ _ _ _ ban_r (fun _ => trivial) (fun _ _ => toInt_in _) (fun x y _ _ => Int32.ofInt_toInt _) cp k j hf a.1 b.1 a.2.1 b.2.1, pop_d _ _ cp k j a.1 b.1 a.2.2 b.2.2⟩
def astP (K : Nat) (ins : Instr) (a b v : XE) : XS := (fun ga _ nx9 _ _ _ cs => match a.1 ga 0 cs with
    | some (2, cs1) => match b.1 ga 1 cs1 with
      | some (0, cs2) => match v.1 ga 2 cs2 with
        | some (t, cs3) => match nx ins 1 cs3 with
          | some cs4 => if okt nx9 cs4 = true ∧ t = gty (ety K 0) then some (ga, cs4) else none
          | _ => none
        | _ => none
      | _ => none
    | _ => none, fun cl Kn _ _ r u => a.2 cl (fun o u' => b.2 cl (fun i u2 => v.2 cl (fun x u3 => inb u3 o K i ∧ tyq (ety K 0) x ∧ Kn r (wr u3 (ety K 0) o i x)) r u2) r u') r u)
theorem ast_d (K : Nat) (ins : Instr) (a b v : XE) (ha : DecE a) (hb : DecE b) (hv : DecE v) : DecS (astP K ins a b v) := by
  intro ga nL nx9 lb gb rt cs ga' cs' cc hc hD
  simp only [astP] at hc
  split at hc
  case h_2 => cases hc
  rename_i h0
  split at hc
  case h_2 => cases hc
  rename_i h1
  split at hc
  case h_2 => cases hc
  rename_i h2
  split at hc
  case h_2 => cases hc
  rename_i h3
  split at hc
  case isFalse => cases hc
  cases hc
  exact (nx_ok h3 (hv _ _ _ _ _ _ h2 (hb _ _ _ _ _ _ h1 (ha _ _ _ _ _ _ h0 hD)))).2.2
theorem ast_ok (ow K : Nat) (h14 : 14 ≤ K) (h18 : K ≤ 18) (ins : Instr) (hrow : AstR K ins) (a b v0 : XE) (ha : SndE ow a) (hb0 : SndE ow b) (hv0 : SndE ow v0) : SndS ow (astP K ins a b v0) := by
  intro p l e R s m args below meth c cc nL G Qf cl hX hC ga nx9 lb gb rt cs ga' cs' hc hD r u H locs cells slots ls Kn Kb Kr hL hA hw hn hb hr hx9
  simp only [astP] at hc hw
  split at hc
  case h_2 => cases hc
  rename_i cs1 h0
  split at hc
  case h_2 => cases hc
  rename_i cs2 h1
  split at hc
  case h_2 => cases hc
  rename_i t cs3 h2
  split at hc
  case h_2 => cases hc
  rename_i cs4 h3
  split at hc
  case isFalse => cases hc
  rename_i hcond
  obtain ⟨hk9, rfl⟩ := hcond
  cases hc
  refine ha p l e R s m args below meth c cc nL G Qf cl hX hC ga 0 cs 2 cs1 h0 hD r u H locs cells slots ls [] _ hL hA (Nat.le_refl _) hw ?_
  intro o u' H' locs' cells' slots' ho hA' hq hD1
  refine hb0 p l e R s m args below meth c cc nL G Qf cl hX hC ga 1 cs1 _ cs2 h1 hD1 r u' H' locs' cells' slots' ls _ _ hL hA' ?_ hq ?_
  · rw [cats_cons, cat_enc]; simp [cats]
  intro i u2 H2 locs2 cells2 slots2 hi hA2 hq2 hD2
  refine hv0 p l e R s m args below meth c cc nL G Qf cl hX hC ga 2 cs2 _ cs3 h2 hD2 r u2 H2 locs2 cells2 slots2 ls _ _ hL hA2 ?_ hq2 ?_
  · rw [cats_cons, cats_cons, cat_enc, cat_enc]; simp [cats]
  intro v u3 H3 locs3 cells3 slots3 hv hA3 hq3 hD3
  obtain ⟨g1, g2, g3⟩ := nx_ok h3 hD3
  obtain ⟨hl, htq, hq3⟩ := hq3
  rw [enc_g, enc_0, enc_2 _ (by have := hl.1.1; omega)]
  refine ast_row hX h14 h18 hrow g1 hA3 hl (okv_q hv htq) (fun H4 locs4 hA4 => ?_)
  rw [← g2]
  exact okt_W hk9 hX.1 hX.2.1 g3 (hn r _ H4 locs4 _ _ ls hL hA4 hq3)

def asti {ow : Nat} (a b v : EX ow) : SX ow := ⟨astP 14 .iastore a.1 b.1 v.1, ast_ok ow 14 (by decide) (by decide) .iastore asti_r a.1 b.1 v.1 a.2.1 b.2.1 v.2.1, ast_d _ _ a.1 b.1 v.1 a.2.2 b.2.2 v.2.2⟩
def astj {ow : Nat} (a b v : EX ow) : SX ow := ⟨astP 15 .lastore a.1 b.1 v.1, ast_ok ow 15 (by decide) (by decide) .lastore astj_r a.1 b.1 v.1 a.2.1 b.2.1 v.2.1, ast_d _ _ a.1 b.1 v.1 a.2.2 b.2.2 v.2.2⟩
def astz {ow : Nat} (a b v : EX ow) : SX ow := ⟨astP 16 .bastore a.1 b.1 v.1, ast_ok ow 16 (by decide) (by decide) .bastore astz_r a.1 b.1 v.1 a.2.1 b.2.1 v.2.1, ast_d _ _ a.1 b.1 v.1 a.2.2 b.2.2 v.2.2⟩
def astc {ow : Nat} (a b v : EX ow) : SX ow := ⟨astP 17 .castore a.1 b.1 v.1, ast_ok ow 17 (by decide) (by decide) .castore astc_r a.1 b.1 v.1 a.2.1 b.2.1 v.2.1, ast_d _ _ a.1 b.1 v.1 a.2.2 b.2.2 v.2.2⟩
def aopP (ins : Instr) (f : Int → Int → Int) (a b v : XE) : XS := (fun ga _ nx9 _ _ _ cs => match a.1 ga 0 cs with
    | some (2, cs1) => match b.1 ga 1 cs1 with
      | some (0, cs2) => match nx .dup2 1 cs2 with
        | some cs3 => match nx .iaload 1 cs3 with
          | some cs4 => match v.1 ga 3 cs4 with
            | some (0, cs5) => match nx ins 1 cs5 with
              | some cs6 => match nx .iastore 1 cs6 with
                | some cs7 => if okt nx9 cs7 = true then some (ga, cs7) else none
                | _ => none
              | _ => none
            | _ => none
          | _ => none
        | _ => none
      | _ => none
    | _ => none, fun cl Kn _ _ r u => a.2 cl (fun o u' => b.2 cl (fun i u2 => inb u2 o 14 i ∧ v.2 cl (fun x u3 => inb u3 o 14 i ∧ Kn r (wr u3 (ety 14 0) o i (f (rd u2 (ety 14 0) o i) x))) r u2) r u') r u)
theorem aop_d (ins : Instr) (f : Int → Int → Int) (a b v : XE) (ha : DecE a) (hb : DecE b) (hv : DecE v) : DecS (aopP ins f a b v) := by
  intro ga nL nx9 lb gb rt cs ga' cs' cc hc hD
  simp only [aopP] at hc
  split at hc
  case h_2 => cases hc
  rename_i h0
  split at hc
  case h_2 => cases hc
  rename_i h1
  split at hc
  case h_2 => cases hc
  rename_i h2
  split at hc
  case h_2 => cases hc
  rename_i h3
  split at hc
  case h_2 => cases hc
  rename_i h4
  split at hc
  case h_2 => cases hc
  rename_i h5
  split at hc
  case h_2 => cases hc
  rename_i h6
  split at hc
  case isFalse => cases hc
  cases hc
  exact (nx_ok h6 (nx_ok h5 (hv _ _ _ _ _ _ h4 (nx_ok h3 (nx_ok h2 (hb _ _ _ _ _ _ h1 (ha _ _ _ _ _ _ h0 hD))).2.2).2.2)).2.2).2.2
theorem aop_ok (ow : Nat) (ins : Instr) (f : Int → Int → Int) (ok : Int → Prop) (g : Int32 → Int32 → Int32) (hrow : BinR ins g ok) (hok : ∀ y, ok y) (hfi : ∀ x y, inI (f x y)) (hg : ∀ x y, inI x → inI y → Int32.ofInt (f x y) = g (Int32.ofInt x) (Int32.ofInt y)) (a b v0 : XE) (ha : SndE ow a) (hb0 : SndE ow b) (hv0 : SndE ow v0) : SndS ow (aopP ins f a b v0) := by
  intro p l e R s m args below meth c cc nL G Qf cl hX hC ga nx9 lb gb rt cs ga' cs' hc hD r u H locs cells slots ls Kn Kb Kr hL hA hw hn hb hr hx9
  simp only [aopP] at hc hw
  split at hc
  case h_2 => cases hc
  rename_i cs1 h0
  split at hc
  case h_2 => cases hc
  rename_i cs2 h1
  split at hc
  case h_2 => cases hc
  rename_i cs3 h2
  split at hc
  case h_2 => cases hc
  rename_i cs4 h3
  split at hc
  case h_2 => cases hc
  rename_i cs5 h4
  split at hc
  case h_2 => cases hc
  rename_i cs6 h5
  split at hc
  case h_2 => cases hc
  rename_i cs7 h6
  split at hc
  case isFalse => cases hc
  rename_i hk9
  cases hc
  refine ha p l e R s m args below meth c cc nL G Qf cl hX hC ga 0 cs 2 cs1 h0 hD r u H locs cells slots ls [] _ hL hA (Nat.le_refl _) hw ?_
  intro o u' H' locs' cells' slots' ho hA' hq hD1
  refine hb0 p l e R s m args below meth c cc nL G Qf cl hX hC ga 1 cs1 _ cs2 h1 hD1 r u' H' locs' cells' slots' ls _ _ hL hA' ?_ hq ?_
  · rw [cats_cons, cat_enc]; simp [cats]
  intro i u2 H2 locs2 cells2 slots2 hi hA2 hq2 hD2
  obtain ⟨hl, hq2⟩ := hq2
  obtain ⟨a1, a2, a3⟩ := nx_ok h2 hD2
  obtain ⟨b1, b2, b3⟩ := nx_ok h3 a3
  rw [enc_0, enc_2 _ (by have := hl.1.1; omega)]
  refine lv_dup2_11 hX.1 hX.2.1 a1 rfl rfl ?_
  rw [← a2]
  obtain ⟨cell, q1, q2, q3, q4, q5, q6, q7, -⟩ := arr_at hA2.1 hX.2.2.2.2.2.1 hl (by decide) (by decide)
  refine aldi_r p l e R s m args below meth c cc H2 locs2 cells2 slots2 Qf (pcOf cs3) ls _ _ cell _ _ hX.1 hX.2.1 b1 q1 q2 (by rw [q3]; exact fun h => by cases h) q4 (by rw [q5]; exact q6) ?_
  have hx9 : inI (rd u2 (ety 14 0) o i) := q7
  rw [← b2]
  refine hv0 p l e R s m args below meth c cc nL G Qf cl hX hC ga 3 cs4 _ cs5 h4 b3 r u2 H2 locs2 cells2 slots2 ls _ _ hL hA2 ?_ hq2 ?_
  · exact Nat.le_refl _
  intro v u3 H3 locs3 cells3 slots3 hv hA3 hq3 hD3
  obtain ⟨c1, c2, c3⟩ := nx_ok h5 hD3
  obtain ⟨d1, d2, d3⟩ := nx_ok h6 c3
  have hv : inI v := hv
  refine hrow p l e R s m args below meth c cc H3 locs3 cells3 slots3 Qf (pcOf cs5) ls _ _ v hX.1 hX.2.1 c1 (hok v) hv ?_
  rw [← c2, ← hg _ _ hx9 hv]
  exact ast_row (K := 14) (v := f (rd u2 (ety 14 0) o i) v) hX (by decide) (by decide) asti_r d1 hA3 hq3.1 (hfi _ _) (fun H4 locs4 hA4 => by
    rw [← d2]
    exact okt_W hk9 hX.1 hX.2.1 d3 (hn r _ H4 locs4 _ _ ls hL hA4 hq3.2))

def aopadd {ow : Nat} (a b v : EX ow) : SX ow := ⟨aopP .iadd (fun a b => w32 (a + b)) a.1 b.1 v.1, aop_ok ow _ _ _ _ add_r (fun _ => trivial) (fun _ _ => w32_in _) (fun x y _ _ => by rw [ofI_bmod, Int32.ofInt_add]) a.1 b.1 v.1 a.2.1 b.2.1 v.2.1, aop_d _ _ a.1 b.1 v.1 a.2.2 b.2.2 v.2.2⟩
def aopsub {ow : Nat} (a b v : EX ow) : SX ow := ⟨aopP .isub (fun a b => w32 (a - b)) a.1 b.1 v.1, aop_ok ow _ _ _ _ sub_r (fun _ => trivial) (fun _ _ => w32_in _) (fun x y _ _ => by rw [ofI_bmod, Int32.ofInt_sub]) a.1 b.1 v.1 a.2.1 b.2.1 v.2.1, aop_d _ _ a.1 b.1 v.1 a.2.2 b.2.2 v.2.2⟩
/-- the end, with a value of type t -/
def retP (t : Nat) (a : XE) : XS := (fun ga _ _ _ _ rt cs => match a.1 ga 0 cs with
    | some (t1, cs1) => if t1 = gty t ∧ rt % 20 = t ∧ t ≠ 9 then (nxe (retI t) 1 cs1).map (fun x => (ga, x)) else none
    | _ => none, fun cl _ _ Kr r u => a.2 cl (fun v u' => tyq t v ∧ Kr v u') r u)
theorem ret_d (t : Nat) (a : XE) (ha : DecE a) : DecS (retP t a) := by
  intro ga nL nx9 lb gb rt cs ga' cs' cc hc hD
  simp only [retP] at hc
  split at hc
  case h_2 => cases hc
  rename_i h0
  split at hc
  case isFalse => cases hc
  obtain ⟨x, hx, e1⟩ := Option.map_eq_some_iff.mp hc
  cases e1
  exact (nxe_ok hx (ha _ _ _ _ _ _ h0 hD)).2
theorem ret_ok (ow t : Nat) (a : XE) (ha : SndE ow a) : SndS ow (retP t a) := by
  intro p l e R s m args below meth c cc nL G Qf cl hX hC ga nx9 lb gb rt cs ga' cs' hc hD r u H locs cells slots ls Kn Kb Kr hL hA hw hn hb hr hx9
  simp only [retP] at hc hw
  split at hc
  case h_2 => cases hc
  rename_i t1 cs1 h0
  split at hc
  case isFalse => cases hc
  rename_i hcond
  obtain ⟨rfl, rfl, h9⟩ := hcond
  obtain ⟨x, hx, e1⟩ := Option.map_eq_some_iff.mp hc
  cases e1
  refine ha p l e R s m args below meth c cc nL G Qf cl hX hC ga 0 cs _ cs1 h0 hD r u H locs cells slots ls [] _ hL hA (Nat.le_refl _) hw ?_
  intro v u' H' locs' cells' slots' hv hA' hq hD1
  have := hr v u' H' locs' cells' slots' ls (pcOf cs1) (okv_q hv hq.1) hA' hq.2 (nxe_ok hx hD1).1
  rw [encR_g h9] at this
  exact this
def rets {ow : Nat} (t : Nat) (a : EX ow) : SX ow := ⟨retP t a.1, ret_ok ow t a.1 a.2.1, ret_d t a.1 a.2.2⟩
def rtvP : XS := (fun ga _ _ _ _ rt cs => if rt % 20 = 9 then (nxe .return_ 1 cs).map (fun x => (ga, x)) else none, fun _ _ _ Kr _ u => Kr 0 u)
theorem rtv_ok (ow : Nat) : SndS ow rtvP := by
  intro p l e R s m args below meth c cc nL G Qf cl hX hC ga nx9 lb gb rt cs ga' cs' hc hD r u H locs cells slots ls Kn Kb Kr hL hA hw hn hb hr hx9
  simp only [rtvP] at hc hw
  split at hc
  case isFalse => cases hc
  rename_i hcond
  obtain ⟨x, hx, e1⟩ := Option.map_eq_some_iff.mp hc
  cases e1
  rw [hcond] at hr
  exact hr 0 u H locs cells slots ls (pcOf cs) inI_0 hA hw (nxe_ok hx hD).1
def rtv {ow : Nat} : SX ow := ⟨rtvP, rtv_ok ow, by
  intro ga nL nx9 lb gb rt cs ga' cs' cc hc hD
  simp only [rtvP] at hc
  split at hc
  case isFalse => cases hc
  obtain ⟨x, hx, e1⟩ := Option.map_eq_some_iff.mp hc
  cases e1
  exact (nxe_ok hx hD).2⟩
/-- throw new, of the one kind -/
def thrP (ik ic : Nat) : XS := (fun ga _ _ _ _ rt cs => if 20 ≤ rt then match nx (.new ik) 3 cs with
    | some cs1 => match nx .dup 1 cs1 with
      | some cs2 => match nx (.invokespecial ic) 3 cs2 with
        | some cs3 => (nxe .athrow 1 cs3).map (fun x => (ga, x))
        | _ => none
      | _ => none
    | _ => none
  else none, fun _ _ _ Kr _ u => Kr XV u)
theorem thr_d (ik ic : Nat) : DecS (thrP ik ic) := by
  intro ga nL nx9 lb gb rt cs ga' cs' cc hc hD
  simp only [thrP] at hc
  split at hc
  case isFalse => cases hc
  split at hc
  case h_2 => cases hc
  rename_i h1
  split at hc
  case h_2 => cases hc
  rename_i h2
  split at hc
  case h_2 => cases hc
  rename_i h3
  obtain ⟨x, hx, e1⟩ := Option.map_eq_some_iff.mp hc
  cases e1
  exact (nxe_ok hx (nx_ok h3 (nx_ok h2 (nx_ok h1 hD).2.2).2.2).2.2).2
theorem thr_ok (ow ik ic : Nat) : SndS ow (thrP ik ic) := by
  intro p l e R s m args below meth c cc nL G Qf cl hX hC ga nx9 lb gb rt cs ga' cs' hc hD r u H locs cells slots ls Kn Kb Kr hL hA hw hn hb hr hx9
  simp only [thrP] at hc hw
  split at hc
  case isFalse => cases hc
  rename_i hrt
  split at hc
  case h_2 => cases hc
  rename_i cs1 h1
  split at hc
  case h_2 => cases hc
  rename_i cs2 h2
  split at hc
  case h_2 => cases hc
  rename_i cs3 h3
  obtain ⟨x, hx, e1⟩ := Option.map_eq_some_iff.mp hc
  cases e1
  obtain ⟨a1, a2, a3⟩ := nx_ok h1 hD
  obtain ⟨b1, b2, b3⟩ := nx_ok h2 a3
  obtain ⟨c1, c2, c3⟩ := nx_ok h3 b3
  obtain ⟨d1, -⟩ := nxe_ok hx c3
  rw [a2] at b1
  rw [b2, a2] at c1
  rw [c2, b2, a2] at d1
  exact hx9 hrt u H locs cells slots ls (pcOf cs) ik ic hL.1.1 hA hw a1 b1 c1 d1
def thr {ow : Nat} (ik ic : Nat) : SX ow := ⟨thrP ik ic, thr_ok ow ik ic, thr_d ik ic⟩
/-- a value that nobody wants -/
def exsP (a : XE) : XS := (fun ga _ nx9 _ _ _ cs => match a.1 ga 0 cs with
    | some (0, cs1) => match nx .pop 1 cs1 with
      | some cs2 => if okt nx9 cs2 = true then some (ga, cs2) else none
      | _ => none
    | _ => none, fun cl Kn _ _ r u => a.2 cl (fun _ u' => Kn r u') r u)
theorem exs_d (a : XE) (ha : DecE a) : DecS (exsP a) := by
  intro ga nL nx9 lb gb rt cs ga' cs' cc hc hD
  simp only [exsP] at hc
  split at hc
  case h_2 => cases hc
  rename_i h0
  split at hc
  case h_2 => cases hc
  rename_i h1
  split at hc
  case isFalse => cases hc
  cases hc
  exact (nx_ok h1 (ha _ _ _ _ _ _ h0 hD)).2.2
theorem exs_ok (ow : Nat) (a : XE) (ha : SndE ow a) : SndS ow (exsP a) := by
  intro p l e R s m args below meth c cc nL G Qf cl hX hC ga nx9 lb gb rt cs ga' cs' hc hD r u H locs cells slots ls Kn Kb Kr hL hA hw hn hb hr hx9
  simp only [exsP] at hc hw
  split at hc
  case h_2 => cases hc
  rename_i cs1 h0
  split at hc
  case h_2 => cases hc
  rename_i cs2 h1
  split at hc
  case isFalse => cases hc
  rename_i hk9
  cases hc
  refine ha p l e R s m args below meth c cc nL G Qf cl hX hC ga 0 cs 0 cs1 h0 hD r u H locs cells slots ls [] _ hL hA (Nat.le_refl _) hw ?_
  intro v u' H' locs' cells' slots' hv hA' hq hD1
  obtain ⟨g1, g2, g3⟩ := nx_ok h1 hD1
  refine lv_pop hX.1 hX.2.1 g1 rfl ?_
  rw [← g2]
  exact okt_W hk9 hX.1 hX.2.1 g3 (hn r u' H' locs' cells' slots' ls hL hA' hq)
def exs {ow : Nat} (a : EX ow) : SX ow := ⟨exsP a.1, exs_ok ow a.1 a.2.1, exs_d a.1 a.2.2⟩
/-- a call that answers nothing -/
def cvvP (cp K kk : Nat) (a : XL) : XS := (fun ga _ nx9 _ _ _ cs => match a.1 ga 0 cs with
    | some (ts, cs1) => match nx (.invokevirtual cp) 3 cs1 with
      | some cs2 => if ts = mArg K ∧ mRty K = 9 ∧ okt nx9 cs2 = true then some (ga, cs2) else none
      | _ => none
    | _ => none, fun cl Kn _ _ r u => a.2 cl (fun vs u' => hdl vs u' kk ∧ wcl cl K (fun _ u2 => Kn r u2) vs u') r u)
theorem cvv_d (cp K kk : Nat) (a : XL) (ha : DecL a) : DecS (cvvP cp K kk a) := by
  intro ga nL nx9 lb gb rt cs ga' cs' cc hc hD
  simp only [cvvP] at hc
  split at hc
  case h_2 => cases hc
  rename_i h0
  split at hc
  case h_2 => cases hc
  rename_i h1
  split at hc
  case isFalse => cases hc
  cases hc
  exact (nx_ok h1 (ha _ _ _ _ _ _ h0 hD)).2.2
theorem cvv_ok (ow cp K kk : Nat) (hf : VirtAt ow cp K kk) (a : XL) (ha : SndL ow a) : SndS ow (cvvP cp K kk a) := by
  intro p l e R s m args below meth c cc nL G Qf cl hX hC ga nx9 lb gb rt cs ga' cs' hc hD r u H locs cells slots ls Kn Kb Kr hL hA hw hn hb hr hx9
  simp only [cvvP] at hc hw
  split at hc
  case h_2 => cases hc
  rename_i ts cs1 h0
  split at hc
  case h_2 => cases hc
  rename_i cs2 h1
  split at hc
  case isFalse => cases hc
  rename_i hcond
  obtain ⟨rfl, h9, hk9⟩ := hcond
  cases hc
  refine ha p l e R s m args below meth c cc nL G Qf cl hX hC ga 0 cs _ cs1 h0 hD r u H locs cells slots ls [] _ hL hA (Nat.le_refl _) hw ?_
  intro vs u' H' locs' cells' slots' hv hA' hq hD1
  obtain ⟨g1, g2, g3⟩ := nx_ok h1 hD1
  refine call_virt hX hC hf g1 hA' hv (Nat.zero_le _) (hdl_v hq.1) hL.1.1 hq.2.1 hq.2.2 ?_
  intro w u2 H2 locs2 hw2 hQ2 hA2
  rw [← g2, h9]
  exact okt_W hk9 hX.1 hX.2.1 g3 (hn r _ H2 locs2 _ _ ls hL hA2 hQ2)
def cvv {ow : Nat} {cp K kk : Nat} (hf : VirtAt ow cp K kk) (a : LX ow) : SX ow := ⟨cvvP cp K kk a.1, cvv_ok ow cp K kk hf a.1 a.2.1, cvv_d cp K kk a.1 a.2.2⟩
/-- a call of a method of the class that answers nothing -/
def csvP (cp K : Nat) (a : XL) : XS := (fun ga _ nx9 _ _ _ cs => match a.1 ga 0 cs with
    | some (ts, cs1) => match nx (.invokestatic cp) 3 cs1 with
      | some cs2 => if ts = mArg K ∧ mRty K = 9 ∧ okt nx9 cs2 = true then some (ga, cs2) else none
      | _ => none
    | _ => none, fun cl Kn _ _ r u => a.2 cl (fun vs u' => wcl cl K (fun _ u2 => Kn r u2) vs u') r u)
theorem csv_d (cp K : Nat) (a : XL) (ha : DecL a) : DecS (csvP cp K a) := by
  intro ga nL nx9 lb gb rt cs ga' cs' cc hc hD
  simp only [csvP] at hc
  split at hc
  case h_2 => cases hc
  rename_i h0
  split at hc
  case h_2 => cases hc
  rename_i h1
  split at hc
  case isFalse => cases hc
  cases hc
  exact (nx_ok h1 (ha _ _ _ _ _ _ h0 hD)).2.2
theorem csv_ok (ow cp K : Nat) (hf : StatAt ow cp K) (a : XL) (ha : SndL ow a) : SndS ow (csvP cp K a) := by
  intro p l e R s m args below meth c cc nL G Qf cl hX hC ga nx9 lb gb rt cs ga' cs' hc hD r u H locs cells slots ls Kn Kb Kr hL hA hw hn hb hr hx9
  simp only [csvP] at hc hw
  split at hc
  case h_2 => cases hc
  rename_i ts cs1 h0
  split at hc
  case h_2 => cases hc
  rename_i cs2 h1
  split at hc
  case isFalse => cases hc
  rename_i hcond
  obtain ⟨rfl, h9, hk9⟩ := hcond
  cases hc
  refine ha p l e R s m args below meth c cc nL G Qf cl hX hC ga 0 cs _ cs1 h0 hD r u H locs cells slots ls [] _ hL hA (Nat.le_refl _) hw ?_
  intro vs u' H' locs' cells' slots' hv hA' hq hD1
  obtain ⟨g1, g2, g3⟩ := nx_ok h1 hD1
  refine call_stat hX hC hf g1 hA' hv (Nat.zero_le _) hL.1.1 hq.1 hq.2 ?_
  intro w u2 H2 locs2 hw2 hQ2 hA2
  rw [← g2, h9]
  exact okt_W hk9 hX.1 hX.2.1 g3 (hn r _ H2 locs2 _ _ ls hL hA2 hQ2)
def csv {ow : Nat} {cp K : Nat} (hf : StatAt ow cp K) (a : LX ow) : SX ow := ⟨csvP cp K a.1, csv_ok ow cp K hf a.1 a.2.1, csv_d cp K a.1 a.2.2⟩
end
section
/-! trees: switches, written constants -/
/-- a, then out of the switch, nothing written for it -/
def sbnP (a : XS) : XS := (fun ga nL _ lb gb rt cs => match a.1 ga nL lb lb gb rt cs with
    | some (ga1, cs1) => if gb.all (fun q => ga1.contains q) = true then some (ga, cs1) else none
    | _ => none, fun cl _ Kb Kr r u => a.2 cl Kb Kb Kr r u)
theorem sbn_d (a : XS) (ha : DecS a) : DecS (sbnP a) := by
  intro ga nL nx9 lb gb rt cs ga' cs' cc hc hD
  simp only [sbnP] at hc
  split at hc
  case h_2 => cases hc
  rename_i h1
  split at hc
  case isFalse => cases hc
  cases hc
  exact ha _ _ _ _ _ _ _ _ _ _ h1 hD
theorem sbn_ok (ow : Nat) (a : XS) (ha : SndS ow a) : SndS ow (sbnP a) := by
  intro p l e R s m args below meth c cc nL G Qf cl hX hC ga nx9 lb gb rt cs ga' cs' hc hD r u H locs cells slots ls Kn Kb Kr hL hA hw hn hb hr hx9
  simp only [sbnP] at hc hw
  split at hc
  case h_2 => cases hc
  rename_i ga1 cs1 h1
  split at hc
  case isFalse => cases hc
  rename_i hcond
  refine ha p l e R s m args below meth c cc nL G Qf cl hX hC ga lb lb gb rt cs ga1 cs1 h1 hD r u H locs cells slots ls _ _ _ hL hA hw ?_ hb hr hx9
  intro r' u' H' locs' cells' slots' ls' hL' hA' hq
  exact hb r' u' H' locs' cells' slots' ls' (hL'.sub (sub_all hcond)) hA' hq
def sbn {ow : Nat} (a : SX ow) : SX ow := ⟨sbnP a.1, sbn_ok ow a.1 a.2.1, sbn_d a.1 a.2.2⟩
abbrev SW (ow : Nat) : Type := List (List Int × SX ow)
def swW {ow : Nat} (d : ClT → (Rho → Sto → Prop) → (Rho → Sto → Prop) → (Int → Sto → Prop) → Rho → Sto → Prop) (v : Int) : SW ow → ClT → (Rho → Sto → Prop) → (Rho → Sto → Prop) → (Int → Sto → Prop) → Rho → Sto → Prop
  | [] => d
  | q :: t => fun cl Kn Kb Kr r u => (v ∈ q.1 → q.2.1.2 cl Kn Kb Kr r u) ∧ (¬ v ∈ q.1 → swW d v t cl Kn Kb Kr r u)
def swL {ow : Nat} (ga : Gam) (nL nx9 : Nat) (rt : Nat) : SW ow → Cds → Option (List (List Int × Nat) × Cds)
  | [], cs => some ([], cs)
  | q :: t, cs => match q.2.1.1 ga nL nx9 nx9 ga rt cs with
    | some (ga1, cs1) => if ga.all (fun z => ga1.contains z) = true then match swL ga nL nx9 rt t cs1 with
        | some (ls, cs2) => some ((q.1, pcOf cs) :: ls, cs2)
        | _ => none
      else none
    | _ => none
def labOf (dl : Nat) (v : Int) : List (List Int × Nat) → Nat
  | [] => dl
  | q :: t => if v ∈ q.1 then q.2 else labOf dl v t
def tgtOK (i : Instr) (pc dl : Nat) (ls : List (List Int × Nat)) : Bool := match i with
  | .tableswitch d lo hi offs => decide ((pc : Int) + d = dl) && (List.range (hi - lo + 1).toNat).all (fun k => decide (offs[k]? = some ((labOf dl (lo + k) ls : Int) - pc))) && ls.all (fun q => q.1.all (fun x => decide (lo ≤ x ∧ x ≤ hi)))
  | .lookupswitch d ps => decide ((pc : Int) + d = dl) && (ps.toList.zip (ps.toList.drop 1)).all (fun (a, next) => a.1 < next.1) && ps.toList.all (fun q => decide ((pc : Int) + q.2 = labOf dl q.1 ls)) && ls.all (fun q => q.1.all (fun x => (ps.toList.map (fun z => z.1)).contains x))
  | _ => false
theorem labOf_out {dl : Nat} {v : Int} : ∀ {ls : List (List Int × Nat)}, (∀ q ∈ ls, ¬ v ∈ q.1) → labOf dl v ls = dl
  | [], _ => rfl
  | q :: t, h => by
    unfold labOf
    rw [if_neg (h q List.mem_cons_self)]
    exact labOf_out (fun z hz => h z (List.mem_cons_of_mem _ hz))
theorem look_off {d pc : Int} {dl : Nat} {ls : List (List Int × Nat)} {v : Int} : ∀ {ps : List (Int × Int)}, (∀ q ∈ ps, pc + q.2 = labOf dl q.1 ls) → (pc + d = dl) → ((¬ v ∈ ps.map (fun z => z.1)) → labOf dl v ls = dl) → pc + Op.lookupswitch.offset ps d v = labOf dl v ls
  | [], _, h2, h3 => by
    rw [h3 (by simp)]
    simpa [Op.lookupswitch.offset] using h2
  | q :: t, h1, h2, h3 => by
    rw [Op.lookupswitch.offset_cons]
    by_cases hq : q.1 = v
    · rw [if_pos (by first | exact hq | exact hq.symm)]
      rw [← hq]
      exact h1 q List.mem_cons_self
    · rw [if_neg (by first | exact hq | exact fun z => hq z.symm)]
      refine look_off (fun z hz => h1 z (List.mem_cons_of_mem _ hz)) h2 (fun hn => h3 ?_)
      intro hz
      simp only [List.map_cons, List.mem_cons] at hz
      rcases hz with hz | hz
      · exact hq hz.symm
      · exact hn hz
section SWR
variable {p : Program} {l : Launch} {e : Env} {R : Room} {s : State} {m : MethodId} {args : Array Value} {below : List Frame} {meth : Method} {c : Code} {cc : ByteArray} {H : Heap} {locs : List Loc} {cells slots : Nat} {Q : State → Prop} {pc : Nat} {ls : Array Slot} {st : List Value}
theorem sw_row {i : Instr} {len dl : Nat} {lbs : List (List Int × Nat)} {v : Int} (hx : p.tables.exec = Jvm.exec) (hb : c.code = cc) (hd : decode cc pc = .ok (i, len)) (ht : tgtOK i pc dl lbs = true) (hv : inI v)
    (k : W p l e R s m args below meth c H locs cells slots Q (F0 m (labOf dl v lbs) ls st)) : W p l e R s m args below meth c H locs cells slots Q (F0 m pc ls (.int (Int32.ofInt v) :: st)) := by
  unfold tgtOK at ht
  split at ht
  · rename_i d lo hi offs
    simp only [Bool.and_eq_true, decide_eq_true_eq, List.all_eq_true, List.mem_range] at ht
    obtain ⟨⟨h1, h2⟩, h3⟩ := ht
    by_cases hin : lo ≤ v ∧ v ≤ hi
    · have := h2 (v - lo).toNat (by omega)
      rw [show lo + ((v - lo).toNat : Int) = v by omega] at this
      exact lv_tableIn (off := (labOf dl v lbs : Int) - pc) hx hb hd (by rw [ofI_toInt hv]; omega) (by rw [ofI_toInt hv]; omega) (by rw [ofI_toInt hv]; exact this) (by omega) k
    · rw [labOf_out (fun q hq hm => hin (h3 q hq v hm))] at k
      exact lv_tableOut hx hb hd (by rw [ofI_toInt hv]; omega) h1 k
  · rename_i d ps
    simp only [Bool.and_eq_true, decide_eq_true_eq, List.all_eq_true] at ht
    obtain ⟨⟨⟨h1, h2⟩, h3⟩, h4⟩ := ht
    refine lv_lookup hx hb hd (List.all_eq_true.mpr (fun x hx => by simpa using h2 x hx)) rfl ?_ k
    rw [ofI_toInt hv]
    refine look_off h3 h1 (fun hn => labOf_out (fun q hq hm => hn ?_))
    have := h4 q hq v hm
    simpa using this
  · cases ht
end SWR
def swD {ow : Nat} (g : Bool) (b : SX ow) (ga : Gam) (nL nx9 rt : Nat) (cs : Cds) : Option (Gam × Cds) := if g then b.1.1 ga nL nx9 nx9 ga rt cs else some (ga, cs)
def swE (g : Bool) (cs : Cds) (n : Nat) : Nat := if g then pcOf cs else n
/-- g: there is a default, laid last -/
def swP {ow : Nat} (g : Bool) (a : XE) (bs : SW ow) (b : SX ow) : XS := (fun ga nL nx9 _ _ rt cs => match a.1 ga 0 cs with
    | some (0, (pc, i, len) :: cs1) => match swL ga nL nx9 rt bs cs1 with
      | some (lbs, cs2) => match swD g b ga nL nx9 rt cs2 with
        | some (ga9, cs3) => if tgtOK i pc (swE g cs2 nx9) lbs = true ∧ ga.all (fun z => ga9.contains z) = true then some (ga, cs3) else none
        | _ => none
      | _ => none
    | _ => none, fun cl Kn Kb Kr r u => a.2 cl (fun v u' => swW (if g then fun cl Kn Kb Kr r u => b.1.2 cl Kn Kb Kr r u else fun _ Kn _ _ r u => Kn r u) v bs cl Kn Kn Kr r u') r u)
theorem swL_d {ow : Nat} {ga : Gam} {nL nx9 rt : Nat} {cc : ByteArray} : ∀ (bs : SW ow) {cs : Cds} {lbs : List (List Int × Nat)} {cs' : Cds}, swL ga nL nx9 rt bs cs = some (lbs, cs') → Dec cc cs → Dec cc cs'
  | [], cs, lbs, cs', h, hD => by simp only [swL] at h; cases h; exact hD
  | q :: t, cs, lbs, cs', h, hD => by
    simp only [swL] at h
    split at h
    case h_2 => cases h
    rename_i h0
    split at h
    case isFalse => cases h
    split at h
    case h_2 => cases h
    rename_i h1
    cases h
    exact swL_d t h1 (q.2.2.2 _ _ _ _ _ _ _ _ _ _ h0 hD)
theorem sw_d {ow : Nat} (g : Bool) (a : XE) (bs : SW ow) (b : SX ow) (ha : DecE a) : DecS (swP g a bs b) := by
  intro ga nL nx9 lb gb rt cs ga' cs' cc hc hD
  simp only [swP] at hc
  split at hc
  case h_2 => cases hc
  rename_i h0
  split at hc
  case h_2 => cases hc
  rename_i h1
  split at hc
  case h_2 => cases hc
  rename_i h2
  split at hc
  case isFalse => cases hc
  cases hc
  have D1 := swL_d bs h1 (ha _ _ _ _ _ _ h0 hD).2.2
  unfold swD at h2
  cases g
  · simp only [Bool.false_eq_true, if_false] at h2
    cases h2; exact D1
  · simp only [if_true] at h2
    exact b.2.2 _ _ _ _ _ _ _ _ _ _ h2 D1
theorem sw_ok {ow : Nat} (g : Bool) (a : XE) (bs : SW ow) (b : SX ow) (ha : SndE ow a) : SndS ow (swP g a bs b) := by
  intro p l e R s m args below meth c cc nL G Qf cl hX hC ga nx9 lb gb rt cs ga' cs' hc hD r u H locs cells slots ls Kn Kb Kr hL hA hw hn hb hr hx9
  simp only [swP] at hc hw
  split at hc
  case h_2 => cases hc
  rename_i pc i len cs1 h0
  split at hc
  case h_2 => cases hc
  rename_i lbs cs2 h1
  split at hc
  case h_2 => cases hc
  rename_i ga9 cs3 h2
  split at hc
  case isFalse => cases hc
  rename_i hcond
  cases hc
  unfold swD at h2
  unfold swE at hcond
  refine ha p l e R s m args below meth c cc nL G Qf cl hX hC ga 0 cs 0 _ h0 hD r u H locs cells slots ls [] _ hL hA (Nat.le_refl _) hw ?_
  intro v u' H' locs' cells' slots' hv hA' hq hD1
  have hv : inI v := hv
  have D1 := hD1.2.2
  have D2 := swL_d bs h1 D1
  have hn' : ∀ (ga1 : Gam), ga.all (fun z => ga1.contains z) = true → ∀ (r' : Rho) (u' : Sto) (H' : Heap) (locs' : List Loc) (cells' slots' : Nat) (ls' : Array Slot), LR G nL ga1 r' ls' → At G R s.heap u' H' locs' cells' slots' → Kn r' u' → W p l e R s m args below meth c H' locs' cells' slots' Qf (F0 m nx9 ls' []) :=
    fun ga1 hs r' u2 H2 locs2 cells2 slots2 ls2 hL2 hA2 hq2 => hn r' u2 H2 locs2 cells2 slots2 ls2 (hL2.sub (sub_all hs)) hA2 hq2
  have hn0 := hn
  rw [enc_0]
  refine sw_row (dl := if g then pcOf cs2 else nx9) hX.1 hX.2.1 hD1.1 hcond.1 hv ?_
  have dflt : (if g then fun cl Kn Kb Kr r u => b.1.2 cl Kn Kb Kr r u else fun _ Kn _ _ r u => Kn r u : ClT → (Rho → Sto → Prop) → (Rho → Sto → Prop) → (Int → Sto → Prop) → Rho → Sto → Prop) cl Kn Kn Kr r u' → W p l e R s m args below meth c H' locs' cells' slots' Qf (F0 m (if g then pcOf cs2 else nx9) ls []) := by
    intro hq
    cases g
    · simp only [Bool.false_eq_true, if_false] at hq ⊢
      exact hn r u' H' locs' cells' slots' ls hL hA' hq
    · simp only [if_true] at hq h2 ⊢
      exact b.2.1 p l e R s m args below meth c cc nL G Qf cl hX hC ga nx9 nx9 ga rt cs2 ga9 cs' h2 D2 r u' H' locs' cells' slots' ls Kn Kn Kr hL hA' hq (hn' ga9 hcond.2) hn0 hr hx9
  clear h2
  generalize (if g then pcOf cs2 else nx9) = dl at dflt ⊢
  generalize (if g then fun cl Kn Kb Kr r u => b.1.2 cl Kn Kb Kr r u else fun _ Kn _ _ r u => Kn r u : ClT → (Rho → Sto → Prop) → (Rho → Sto → Prop) → (Int → Sto → Prop) → Rho → Sto → Prop) = dw at hq dflt
  clear hcond hD1 h0 D2 hw
  induction bs generalizing cs1 lbs with
  | nil =>
    simp only [swL] at h1
    cases h1
    exact dflt hq
  | cons q t ih =>
    simp only [swL] at h1
    split at h1
    case h_2 => cases h1
    rename_i ga1 cs4 g0
    split at h1
    case isFalse => cases h1
    rename_i gs
    split at h1
    case h_2 => cases h1
    rename_i lbs2 cs5 g1
    cases h1
    unfold labOf
    by_cases hm : v ∈ q.1
    · rw [if_pos hm]
      exact q.2.2.1 p l e R s m args below meth c cc nL G Qf cl hX hC ga nx9 nx9 ga rt cs1 ga1 cs4 g0 D1 r u' H' locs' cells' slots' ls Kn Kn Kr hL hA' (hq.1 hm) (hn' ga1 gs) hn0 hr hx9
    · rw [if_neg hm]
      exact ih cs4 lbs2 g1 (q.2.2.2 _ _ _ _ _ _ _ _ _ _ g0 D1) (hq.2 hm)
def sw {ow : Nat} (g : Bool) (a : EX ow) (bs : SW ow) (b : SX ow) : SX ow := ⟨swP g a.1 bs b, sw_ok g a.1 bs b a.2.1, sw_d g a.1 bs b a.2.2⟩
def ljkP (n : Fin 2) : XE := (fun _ _ cs => if 0 ≤ (n : Nat) then (nx (.lconst n) 1 cs).map (fun x => (1, x)) else none, fun _ Q _ u => Q (n : Nat) u)
theorem ljk_ok (ow : Nat) (n : Fin 2) : SndE ow (ljkP n) := by
  intro p l e R s m args below meth c cc nL G Qf cl hX hC ga d cs t cs' hc hD r u H locs cells slots ls st Q hL hA hs hw k
  simp only [ljkP] at hc hw
  split at hc
  case isFalse => cases hc
  obtain ⟨x, hx, e1⟩ := Option.map_eq_some_iff.mp hc
  cases e1
  obtain ⟨h1, h2, h3⟩ := nx_ok hx hD
  have hi : inL ((n : Nat) : Int) := by have := n.isLt; unfold inL; omega
  have k' := k _ u H locs cells slots hi hA hw h3
  rw [h2] at k'
  exact lv_lconst hX.1 hX.2.1 h1 rfl k'
def ljk {ow : Nat} (n : Fin 2) : EX ow := ⟨ljkP n, ljk_ok ow n, by
  intro ga d cs t cs' cc hc hD
  simp only [ljkP] at hc
  split at hc
  case isFalse => cases hc
  exact map_nx hc hD⟩
def KonAt (ow cp : Nat) (v : Int) : Prop := Cond.constant (kC ow) cp (Int32.ofInt v) ∈ gTbl ∧ inI v
def KojAt (ow cp : Nat) (v : Int) : Prop := Cond.constantLong (kC ow) cp (Int64.ofInt v) ∈ gTbl ∧ inL v

def ldkP (cp : Nat) (v : Int) : XE := (fun _ _ cs => if 0 ≤ cp then (nx (.ldc cp) 2 cs).map (fun x => (0, x)) else none, fun _ Q _ u => Q v u)
theorem ldk_ok (ow cp : Nat) (v : Int) (hf : KonAt ow cp v) : SndE ow (ldkP cp v) := by
  intro p l e R s m args below meth c cc nL G Qf cl hX hC ga d cs t cs' hc hD r u H locs cells slots ls st Q hL hA hs hw k
  simp only [ldkP] at hc hw
  split at hc
  case isFalse => cases hc
  obtain ⟨x, hx, e1⟩ := Option.map_eq_some_iff.mp hc
  cases e1
  obtain ⟨h1, h2, h3⟩ := nx_ok hx hD
  have k' := k _ u H locs cells slots hf.2 hA hw h3
  rw [h2] at k'
  exact lv_ldc hX.1 hX.2.1 hX.2.2.2.1 (hX.2.2.2.2.1 _ hf.1) h1 k'
def ldk {ow cp : Nat} {v : Int} (hf : KonAt ow cp v) : EX ow := ⟨ldkP cp v, ldk_ok ow cp v hf, by
  intro ga d cs t cs' cc hc hD
  simp only [ldkP] at hc
  split at hc
  case isFalse => cases hc
  exact map_nx hc hD⟩
def ldwP (cp : Nat) (v : Int) : XE := (fun _ _ cs => if 0 ≤ cp then (nx (.ldc_w cp) 3 cs).map (fun x => (0, x)) else none, fun _ Q _ u => Q v u)
theorem ldw_ok (ow cp : Nat) (v : Int) (hf : KonAt ow cp v) : SndE ow (ldwP cp v) := by
  intro p l e R s m args below meth c cc nL G Qf cl hX hC ga d cs t cs' hc hD r u H locs cells slots ls st Q hL hA hs hw k
  simp only [ldwP] at hc hw
  split at hc
  case isFalse => cases hc
  obtain ⟨x, hx, e1⟩ := Option.map_eq_some_iff.mp hc
  cases e1
  obtain ⟨h1, h2, h3⟩ := nx_ok hx hD
  have k' := k _ u H locs cells slots hf.2 hA hw h3
  rw [h2] at k'
  exact lv_ldcw hX.1 hX.2.1 hX.2.2.2.1 (hX.2.2.2.2.1 _ hf.1) h1 k'
def ldw {ow cp : Nat} {v : Int} (hf : KonAt ow cp v) : EX ow := ⟨ldwP cp v, ldw_ok ow cp v hf, by
  intro ga d cs t cs' cc hc hD
  simp only [ldwP] at hc
  split at hc
  case isFalse => cases hc
  exact map_nx hc hD⟩
def ldk2P (cp : Nat) (v : Int) : XE := (fun _ _ cs => if 0 ≤ cp then (nx (.ldc2_w cp) 3 cs).map (fun x => (1, x)) else none, fun _ Q _ u => Q v u)
theorem ldk2_ok (ow cp : Nat) (v : Int) (hf : KojAt ow cp v) : SndE ow (ldk2P cp v) := by
  intro p l e R s m args below meth c cc nL G Qf cl hX hC ga d cs t cs' hc hD r u H locs cells slots ls st Q hL hA hs hw k
  simp only [ldk2P] at hc hw
  split at hc
  case isFalse => cases hc
  obtain ⟨x, hx, e1⟩ := Option.map_eq_some_iff.mp hc
  cases e1
  obtain ⟨h1, h2, h3⟩ := nx_ok hx hD
  have k' := k _ u H locs cells slots hf.2 hA hw h3
  rw [h2] at k'
  exact lv_ldc2 hX.1 hX.2.1 hX.2.2.2.1 (hX.2.2.2.2.1 _ hf.1) h1 k'
def ldk2 {ow cp : Nat} {v : Int} (hf : KojAt ow cp v) : EX ow := ⟨ldk2P cp v, ldk2_ok ow cp v hf, by
  intro ga d cs t cs' cc hc hD
  simp only [ldk2P] at hc
  split at hc
  case isFalse => cases hc
  exact map_nx hc hD⟩
end
section
/-! trees: texts, copies, what constructors do -/
theorem ldcwS9 {p : Program} {l : Launch} {e : Env} {R : Room} {s : State} {m : MethodId} {args : Array Value} {below : List Frame} {meth : Method} {c : Code} {T : State} {locs : List Loc} {cells slots : Nat}
    (X : Stand p l e R s m args below meth c T locs cells slots) (hexec : p.tables.exec = Jvm.exec) {own text : String} {index : Nat} {a : Addr} (hown : s.vm.findClass own = some m.cls)
    (hconst : (Cond.stringRef own index text).before args s = true) (hev : (Term.string own index).eval args s none [] s = some (.ref a)) {g : JFrame} (hg : g.method = m) (hdg : decode c.code g.pc = .ok (.ldc_w index, 3)) :
    ∀ target, Steps p.tables e below (T.setTop { g with pc := g.pc + 3, stack := .ref a :: g.stack }) target → Steps p.tables e below (T.setTop g) target := by
  obtain ⟨k, cf, i, a', hk, hcf, hcp, -, hr, hev'⟩ := Cond.stringRef_spec hown hconst
  cases hev.symm.trans hev'
  obtain ⟨k', hk', he⟩ := X.warmed.alike.2.2 _ _ hk
  have hr' : k'.resolved[index]? = some (some (.string a)) := by
    rcases X.warmed.entry hk hk' index with h | ⟨h, -⟩
    · rw [h]; exact hr
    · rw [hr] at h; cases h
  intro target hrest
  subst hg
  jvm_step X.here [hexec, hdg, ldc_w.wp_string (e := e) (s := T) (f := g) X.here.top hk' (by rw [he]; exact hcf) hcp hr']
  exact hrest
theorem W.ldcwS {p : Program} {l : Launch} {e : Env} {R : Room} {s : State} {m : MethodId} {args : Array Value} {below : List Frame} {meth : Method} {c : Code} {H : Heap} {locs : List Loc} {cells slots : Nat} {Q : State → Prop} {cc : ByteArray} {pc : Nat} {ls : Array Slot} {rest : List Value}
    (hexec : p.tables.exec = Jvm.exec) (hb : c.code = cc) {own tx : String} {index q : Nat} (hown : s.vm.findClass own = some m.cls) (hZ : vk_R own index tx q s) (hdg : decode cc pc = .ok (.ldc_w index, 3))
    (k : W p l e R s m args below meth c H locs cells slots Q (F0 m (pc + 3) ls (.ref q :: rest))) : W p l e R s m args below meth c H locs cells slots Q (F0 m pc ls rest) := by
  intro T hT X
  obtain ⟨t, a1, b1⟩ := k T hT X
  exact ⟨t, ldcwS9 X hexec hown (text := tx) (a := q) hZ.1 hZ.2 (g := F0 m pc ls rest) rfl (by rw [hb]; exact hdg) t a1, b1⟩
def TexAt (ow cp i : Nat) : Prop := kC ow = "HotThroughModel" ∧ i < 8 ∧ sCp.getD i 0 = cp

def ldtP (cp i : Nat) : XE := (fun _ _ cs => if 0 ≤ cp then (nx (.ldc cp) 2 cs).map (fun x => (2, x)) else none, fun _ Q _ u => Q (-1 - (i : Int)) u)
theorem ldt_ok (ow cp i : Nat) (hf : TexAt ow cp i) : SndE ow (ldtP cp i) := by
  intro p l e R s m args below meth c cc nL G Qf cl hX hC ga d cs t cs' hc hD r u H locs cells slots ls st Q hL hA hs hw k
  simp only [ldtP] at hc hw
  split at hc
  case isFalse => cases hc
  obtain ⟨x, hx, e1⟩ := Option.map_eq_some_iff.mp hc
  cases e1
  obtain ⟨h1, h2, h3⟩ := nx_ok hx hD
  have k' := k _ u H locs cells slots trivial hA hw h3
  rw [h2, enc_2 _ (by omega)] at k'
  obtain ⟨g1, g2, g3⟩ := hf
  have hR := hX.2.2.2.2.2.2.2.2.2.1.2.1 i g2
  rw [g3] at hR
  exact va_ldcS hX.1 hX.2.1 (by rw [← g1]; exact hX.2.2.2.1) hR h1 k'
def ldt {ow cp i : Nat} (hf : TexAt ow cp i) : EX ow := ⟨ldtP cp i, ldt_ok ow cp i hf, by
  intro ga d cs t cs' cc hc hD
  simp only [ldtP] at hc
  split at hc
  case isFalse => cases hc
  exact map_nx hc hD⟩
def ldtwP (cp i : Nat) : XE := (fun _ _ cs => if 0 ≤ cp then (nx (.ldc_w cp) 3 cs).map (fun x => (2, x)) else none, fun _ Q _ u => Q (-1 - (i : Int)) u)
theorem ldtw_ok (ow cp i : Nat) (hf : TexAt ow cp i) : SndE ow (ldtwP cp i) := by
  intro p l e R s m args below meth c cc nL G Qf cl hX hC ga d cs t cs' hc hD r u H locs cells slots ls st Q hL hA hs hw k
  simp only [ldtwP] at hc hw
  split at hc
  case isFalse => cases hc
  obtain ⟨x, hx, e1⟩ := Option.map_eq_some_iff.mp hc
  cases e1
  obtain ⟨h1, h2, h3⟩ := nx_ok hx hD
  have k' := k _ u H locs cells slots trivial hA hw h3
  rw [h2, enc_2 _ (by omega)] at k'
  obtain ⟨g1, g2, g3⟩ := hf
  have hR := hX.2.2.2.2.2.2.2.2.2.1.2.1 i g2
  rw [g3] at hR
  exact W.ldcwS hX.1 hX.2.1 (by rw [← g1]; exact hX.2.2.2.1) hR h1 k'
def ldtw {ow cp i : Nat} (hf : TexAt ow cp i) : EX ow := ⟨ldtwP cp i, ldtw_ok ow cp i hf, by
  intro ga d cs t cs' cc hc hD
  simp only [ldtwP] at hc
  split at hc
  case isFalse => cases hc
  exact map_nx hc hD⟩
/-- a call on a written text -/
def StrAt (ow cp K : Nat) : Prop := MthOK K ∧ Cond.methodLink (kC ow) cp (mNam K) ∈ gTbl ∧ Cond.instanceMethod (mNam K) ∈ gTbl ∧ Cond.selects (mNam K).cls (mNam K) (mNam K) ∈ gTbl ∧ (mNam K).cls = "java/lang/String" ∧
  (parseMethodDescriptor (mNam K).desc).map (fun d => d.parameters.length + 1) = some (mArg K).length ∧ (mArg K).head? = some 2
def stx (v : Int) : Prop := -8 ≤ v ∧ v ≤ -1
def cvtP (cp K : Nat) (a : XL) : XE := (fun ga d cs => match a.1 ga d cs with
    | some (ts, cs1) => if ts = mArg K ∧ d ≤ 20 ∧ mRty K ≠ 9 then (nx (.invokevirtual cp) 3 cs1).map (fun x => (gty (mRty K), x)) else none
    | _ => none, fun cl Q r u => a.2 cl (fun vs u' => stx (vs.headD 0) ∧ wcl cl K Q vs u') r u)
theorem cvt_d (cp K : Nat) (a : XL) (ha : DecL a) : DecE (cvtP cp K a) := by
  intro ga d cs t cs' cc hc hD
  simp only [cvtP] at hc
  split at hc
  case h_2 => cases hc
  rename_i h0
  split at hc
  case isFalse => cases hc
  exact map_nx hc (ha _ _ _ _ _ _ h0 hD)
theorem cvt_ok (ow cp K : Nat) (hf : StrAt ow cp K) (a : XL) (ha : SndL ow a) : SndE ow (cvtP cp K a) := by
  intro p l e R s m args below meth c cc nL G Qf cl hX hC ga d cs t cs' hc hD r u H locs cells slots ls st Q hL hA hs hw k
  simp only [cvtP] at hc hw
  split at hc
  case h_2 => cases hc
  rename_i ts cs1 h0
  split at hc
  case isFalse => cases hc
  rename_i hcond
  obtain ⟨rfl, hd8, h9⟩ := hcond
  obtain ⟨x, hx, e1⟩ := Option.map_eq_some_iff.mp hc
  cases e1
  refine ha p l e R s m args below meth c cc nL G Qf cl hX hC ga d cs _ cs1 h0 hD r u H locs cells slots ls st _ hL hA hs hw ?_
  intro vs u' H' locs' cells' slots' hok hA' hq hD1
  obtain ⟨h1, h2, h3⟩ := nx_ok hx hD1
  obtain ⟨hst, hb, hcl⟩ := hq
  obtain ⟨g1, g2, g3, g4, g5, g8, g9⟩ := hf
  have hts := hX.2.2.2.2.1
  obtain ⟨rm, r1, r2, r3, r4, hM⟩ := hC K vs _ _ hcl (Nat.le_refl _) (Nat.le_refl _)
  match hm : mArg K, vs, hok with
  | [], _, _ => rw [hm] at g9; cases g9
  | t :: ts, [], hok => exact hok.elim
  | t :: ts, v0 :: vt, hok' =>
    rw [hm] at g9 g8
    cases g9
    have lv : stx v0 := hst
    have hv0 : v0 ≠ 0 := by have := lv.2; omega
    have e0 : encA G.1 (2 :: ts) (v0 :: vt) = .ref (G.1 v0) :: encA G.1 ts vt := by simp only [encA]; rw [enc_2 _ hv0]
    have hp := pc_pre (K := K) (vs := v0 :: vt) hX hA' (by rw [hm]; exact hok') (mCel K) (mSlo K)
    rw [hm, e0] at hp
    have hn : ∀ sig, parseMethodDescriptor (mNam K).desc = some sig → ts.length = sig.parameters.length := fun sig h => by
      rw [h] at g8; simp at g8; omega
    obtain ⟨⟨adV, hS9⟩, -⟩ := hX.2.2.2.2.2.2.2.2.2.1
    have hi9 : (-1 - v0).toNat < 8 := by have := lv.1; have := lv.2; omega
    have hrecv := vk_recv (H := H') (locs := []) hS9 hi9 ⟨hA'.2.1.1, fun q _ h => hA'.2.1.2.1 q (by omega), fun _ h => by cases h⟩
    have e8 : (-1 - (((-1 - v0).toNat : Nat) : Int)) = v0 := by have := lv.2; omega
    have e9 : G.1 (-1 - (((-1 - v0).toNat : Nat) : Int)) = G.1 v0 := by rw [e8]
    rw [e9, ← g5] at hrecv
    rw [e0, List.reverse_cons, List.append_assoc]
    refine run_on (u := u') (x20V r4 (As := encA G.1 ts vt) (rest := st) (b := G.1 v0) (n := ts.length) (Ts := gTbl) (own := kC ow) (C := (mNam K).cls) ⟨hX.1, hX.2.1, hX.2.2.1, hX.2.2.2.1, hts⟩ hM ⟨callB_at (l := l) hX g1 g2 hn r1 r2 r3 (by omega), hts _ g3, hts _ g4⟩
      ⟨pc_blind G K _ _, hrecv, hp⟩ rfl (encA_len _ _ _ hok'.2) hL.1.1 rfl (room20 (show cats st ≤ 20 by omega)) h1 ⟨by have := hA'.2.2.1; omega, by have := hA'.2.2.2; omega⟩) hA' hb ?_
    intro w u2 H2 locs2 hw2 hQ2 hA2
    have k' := k w _ H2 locs2 _ _ (okv_g hw2) hA2 hQ2 h3
    rw [h2] at k'
    rw [encR_g h9]
    exact k'
def cvt {ow cp K : Nat} (hf : StrAt ow cp K) (a : LX ow) : EX ow := ⟨cvtP cp K a.1, cvt_ok ow cp K hf a.1 a.2.1, cvt_d cp K a.1 a.2.2⟩
/-- copied: n from place i of a, to place j of b -/
def cpm (u : Sto) (a i b j n : Int) : Sto := (u.1, (fun x y => if x = b ∧ j ≤ y ∧ y < j + n then u.2.1 a (y - j + i) else u.2.1 x y), u.2.2)
def cpok (u : Sto) (a i b j n : Int) : Prop := live u a 14 ∧ live u b 14 ∧ 0 ≤ i ∧ 0 ≤ j ∧ 0 ≤ n ∧ i + n ≤ klen a ∧ j + n ≤ klen b
theorem cell_len {G : Geo} {u : Sto} {H : Heap} {U : State} (h : Rel G u H) (hK : KOK G U) {a : Int} {K : Nat} (hl : live u a K) (h14 : 14 ≤ K) (h18 : K ≤ 18) :
    ∃ cell : Cell, H[G.1 a]? = some cell ∧ U.isArrayOf cell (aT K) ∧ cell.vm = .none ∧ cell.cls = G.2.1 K ∧ cell.slots.size = (klen a).toNat ∧ ∀ i : Nat, (i : Int) < klen a → cell.slots[i]? = some (enc G.1 (ety K 0) (rd u (ety K 0) a i)) := by
  obtain ⟨l1, l2, l3⟩ := hl
  obtain ⟨cell, q1, q2, q3, q4, q5⟩ := h.1 a l1 l2 (by omega)
  rw [l3] at q3 q5
  refine ⟨cell, q1, arr_is (hK.2.2.2.1 K h14 h18) q3 q2, q2, q3, q4 (by omega), fun i hi => ?_⟩
  have := q5 i hi
  rw [hK.2.2.2.2.1 K i h14, ety_arr h14 h18] at this
  exact this
theorem copy_row {p : Program} {l : Launch} {e : Env} {R : Room} {s : State} {m : MethodId} {args : Array Value} {below : List Frame} {meth : Method} {c : Code} {cc : ByteArray} {nL ow cp : Nat} {G : Geo} {H : Heap} {locs : List Loc} {cells slots : Nat} {Q : State → Prop} {pc : Nat} {ls : Array Slot} {u : Sto} {a i b j n : Int}
    (hX : MX p R s m args c cc nL ow G) (hls : ls.size = nL) (hl : Cond.methodLink (kC ow) cp arraycopyName ∈ gTbl) (hnat : Cond.native arraycopyName ∈ gTbl) (hst : Cond.static arraycopyName ∈ gTbl) (hini : Cond.initialized "java/lang/System" ∈ gTbl)
    (hd : decode cc pc = .ok (.invokestatic cp, 3)) (hA : At G R s.heap u H locs cells slots) (hok : cpok u a i b j n)
    (kk : ∀ (H' : Heap) (locs' : List Loc), At G R s.heap (cpm u a i b j n) H' locs' cells slots → W p l e R s m args below meth c H' locs' cells slots Q (F0 m (pc + 3) ls [])) :
    W p l e R s m args below meth c H locs cells slots Q (F0 m pc ls [.int (Int32.ofInt n), .int (Int32.ofInt j), .ref (G.1 b), .int (Int32.ofInt i), .ref (G.1 a)]) := by
  obtain ⟨la, lb, h1, h2, h3, h4, h5⟩ := hok
  have hK := hX.2.2.2.2.2.1
  have hts := hX.2.2.2.2.1
  obtain ⟨cs, s1, s2, s3, s4, s5, s6⟩ := cell_len hA.1 hK la (by decide) (by decide)
  obtain ⟨cd, d1, d2, d3, d4, d5, d6⟩ := cell_len hA.1 hK lb (by decide) (by decide)
  have ba := kl_18 a
  have bb := kl_18 b
  have i1 : inI i := ⟨by omega, by omega⟩
  have i2 : inI j := ⟨by omega, by omega⟩
  have i3 : inI n := ⟨by omega, by omega⟩
  have e1 : (Int32.ofInt i).toNatClampNeg = i.toNat := ofI_idx h1 (by omega)
  have e2 : (Int32.ofInt j).toNatClampNeg = j.toNat := ofI_idx h2 (by omega)
  have e3 : (Int32.ofInt n).toNatClampNeg = n.toNat := ofI_idx h3 (by omega)
  have nn : ∀ {x : Int}, inI x → 0 ≤ x → ¬ Int32.ofInt x < 0 := fun {x} hx h0 q => by
    rw [show (0 : Int32) = Int32.ofInt 0 from rfl, ofI_lt hx inI_0] at q; omega
  have vals : ∀ k : Nat, k < n.toNat → cs.slots.getD (i.toNat + k) .null = .int (Int32.ofInt (u.2.1 a (i + k))) := fun k hk => by
    rw [Array.getD_eq_getD_getElem?, s6 (i.toNat + k) (by omega)]
    show Value.int (Int32.ofInt (u.2.1 a ((i.toNat + k : Nat) : Int))) = _
    rw [show ((i.toNat + k : Nat) : Int) = i + k by omega]
  intro T hT X
  obtain ⟨-, k0, hk0, cm0, hkk0⟩ := s2
  obtain ⟨-, k1, hk1, cm1, hkk1⟩ := d2
  obtain ⟨vm', X', step⟩ := X.arraycopy hX.1 hX.2.2.2.1 (hts _ hl) (hts _ hnat) (hts _ hst) (hts _ hini) (src := G.1 a) (dst := G.1 b) (cs := cs) (cd := cd) (srcPos := Int32.ofInt i) (destPos := Int32.ofInt j) (n := Int32.ofInt n) (by rw [hT]; exact s1) (by rw [hT]; exact d1)
    (fun _ h => by rw [s3] at h; cases h) (fun _ h => by rw [d3] at h; cases h) (fun h => by rw [s3] at h; cases h) (fun h => by rw [d3] at h; cases h) hk0 hk1 hkk0 hkk1 (by decide) (nn i1 h1) (nn i2 h2) (nn i3 h3)
    (by rw [ofI_toInt i1, ofI_toInt i3, s5]; omega) (by rw [ofI_toInt i2, ofI_toInt i3, d5]; omega)
    (fun vm₁ _ k hk => by
      rw [e3] at hk
      rw [e1, vals k hk]
      exact ⟨rfl, trivial⟩)
    (g := F0 m pc ls [.int (Int32.ofInt n), .int (Int32.ofInt j), .ref (G.1 b), .int (Int32.ofInt i), .ref (G.1 a)]) rfl (by rw [hX.2.2.1]; exact hls) (rest := []) rfl (by rw [hX.2.1]; exact hd) hX.2.2.2.2.2.2.2.1 (by have := hX.2.2.2.2.2.2.2.2.1; show 2 * 0 + 0 + ((5 + 2) + 11) ≤ _; omega)
  unfold copied at X' step
  rw [e1, e2, e3] at X'
  rw [e1, e2, e3] at step
  have stl : (cs.stretch i.toNat n.toNat).length = n.toNat := by simp [Cell.stretch]
  obtain ⟨z1, z2, z3, -⟩ := Cell.storeRun_facts cd j.toNat (cs.stretch i.toNat n.toNat)
  have zg : ∀ k : Nat, (cd.storeRun j.toNat (cs.stretch i.toNat n.toNat)).slots[k]? = if j.toNat ≤ k ∧ k < j.toNat + n.toNat then some (.int (Int32.ofInt (u.2.1 a ((k : Int) - j + i)))) else cd.slots[k]? := fun k => by
    rw [Cell.storeRun_get _ _ _ _ (by rw [stl, d5]; omega), stl]
    by_cases hk : j.toNat ≤ k ∧ k < j.toNat + n.toNat
    · rw [if_pos hk, if_pos hk]
      unfold Cell.stretch
      rw [List.getElem?_map, List.getElem?_range (by omega)]
      show some (cs.slots.getD (i.toNat + (k - j.toNat)) .null) = _
      rw [vals _ (by omega), show i + ((k - j.toNat : Nat) : Int) = (k : Int) - j + i by omega]
    · rw [if_neg hk, if_neg hk]
  generalize hcd : cd.storeRun j.toNat (cs.stretch i.toNat n.toNat) = cd2 at X' step z1 z2 z3 zg
  have hlt : G.1 b < H.size := (Array.getElem?_eq_some_iff.mp d1).1
  have hheap : ((T.setVm vm').setCell (G.1 b) cd2).heap = H.setIfInBounds (G.1 b) cd2 := by rw [← hT]; rfl
  have oq : ∀ q : Nat, q ≠ G.1 b → (H.setIfInBounds (G.1 b) cd2)[q]? = H[q]? := fun q hq => by simp [Array.getElem?_setIfInBounds, Ne.symm hq]
  have ob : (H.setIfInBounds (G.1 b) cd2)[G.1 b]? = some cd2 := by simp [Array.getElem?_setIfInBounds, hlt]
  have hAt : At G R s.heap (cpm u a i b j n) (H.setIfInBounds (G.1 b) cd2) (locs ++ (cs.stretch i.toNat n.toNat).zipIdx.map fun q => ⟨G.1 b, j.toNat + q.2⟩) cells slots := by
    obtain ⟨⟨r1, r2, r3, r4, r5⟩, ⟨f1, f2, f3⟩, b1, b2⟩ := hA
    have hge : G.2.2.2 ≤ G.1 b := al_ge hK lb.1
    have hsz : (H.setIfInBounds (G.1 b) cd2).size = H.size := by simp
    refine ⟨⟨fun x x1 x2 x3 => ?_, fun x x1 x2 k hk ht => ?_, r3, by rw [hsz]; exact r4, by rw [hsz]; exact r5⟩, ⟨by rw [hsz]; exact f1, fun q hq => (oq q (by omega)).trans (f2 q hq), fun q hq => ?_⟩, b1, b2⟩
    · by_cases hxb : x = b
      · subst hxb
        refine ⟨cd2, ob, z2.trans d3, by rw [lb.2.2]; exact z1.trans d4, fun _ => z3.trans d5, fun k hk => ?_⟩
        rw [lb.2.2, hK.2.2.2.2.1 14 k (by decide), zg k, ety_arr (by decide) (by decide)]
        by_cases hkk : j.toNat ≤ k ∧ k < j.toNat + n.toNat
        · rw [if_pos hkk]
          show _ = some (Value.int (Int32.ofInt (if x = x ∧ j ≤ (k : Int) ∧ (k : Int) < j + n then u.2.1 a ((k : Int) - j + i) else u.2.1 x k)))
          rw [if_pos ⟨rfl, by omega, by omega⟩]
        · rw [if_neg hkk, d6 k hk]
          show some (Value.int (Int32.ofInt (u.2.1 x k))) = some (Value.int (Int32.ofInt (if x = x ∧ j ≤ (k : Int) ∧ (k : Int) < j + n then u.2.1 a ((k : Int) - j + i) else u.2.1 x k)))
          rw [if_neg (fun z => hkk ⟨by omega, by omega⟩)]
      · obtain ⟨cl', q1, q2, q3, q4, q5⟩ := r1 x x1 x2 x3
        have hne : G.1 x ≠ G.1 b := by rw [hK.1 x x1, hK.1 b lb.1]; have := lb.1; omega
        refine ⟨cl', by rw [oq _ hne]; exact q1, q2, q3, q4, fun k hk => ?_⟩
        rw [q5 k hk]
        congr 2
        unfold rd cpm
        by_cases ht : ety (kcls x) k = 2 <;> simp [ht, hxb]
    · have := r2 x x1 x2 k hk ht
      unfold cpm
      dsimp only
      by_cases hxb : x = b ∧ j ≤ (k : Int) ∧ (k : Int) < j + n
      · rw [if_pos hxb]
        obtain ⟨rfl, hx2, hx3⟩ := hxb
        have := r2 a la.1 la.2.1 ((k : Int) - j + i).toNat (by omega) (by rw [la.2.2]; exact (by decide : (0 : Nat) ≠ 2))
        rw [la.2.2, show ((((k : Int) - j + i).toNat : Nat) : Int) = (k : Int) - j + i by omega] at this
        rw [lb.2.2]
        exact this
      · rw [if_neg hxb]; exact this
    · rcases List.mem_append.mp hq with h | h
      · exact f3 q h
      · obtain ⟨z, -, rfl⟩ := List.mem_map.mp h
        exact hge
  obtain ⟨t, a1, b1⟩ := kk _ _ hAt _ hheap X'
  exact ⟨t, step t a1, b1⟩
def CpyAt (ow cp : Nat) : Prop := Cond.methodLink (kC ow) cp arraycopyName ∈ gTbl ∧ Cond.native arraycopyName ∈ gTbl ∧ Cond.static arraycopyName ∈ gTbl ∧ Cond.initialized "java/lang/System" ∈ gTbl
def cpyP (cp : Nat) (a : XL) : XS := (fun ga _ nx9 _ _ _ cs => match a.1 ga 0 cs with
    | some (ts, cs1) => match nx (.invokestatic cp) 3 cs1 with
      | some cs2 => if ts = [2, 0, 2, 0, 0] ∧ okt nx9 cs2 = true then some (ga, cs2) else none
      | _ => none
    | _ => none, fun cl Kn _ _ r u => a.2 cl (fun vs u' => cpok u' (vs.getD 0 0) (vs.getD 1 0) (vs.getD 2 0) (vs.getD 3 0) (vs.getD 4 0) ∧ Kn r (cpm u' (vs.getD 0 0) (vs.getD 1 0) (vs.getD 2 0) (vs.getD 3 0) (vs.getD 4 0))) r u)
theorem cpy_d (cp : Nat) (a : XL) (ha : DecL a) : DecS (cpyP cp a) := by
  intro ga nL nx9 lb gb rt cs ga' cs' cc hc hD
  simp only [cpyP] at hc
  split at hc
  case h_2 => cases hc
  rename_i h0
  split at hc
  case h_2 => cases hc
  rename_i h1
  split at hc
  case isFalse => cases hc
  cases hc
  exact (nx_ok h1 (ha _ _ _ _ _ _ h0 hD)).2.2
theorem cpy_ok (ow cp : Nat) (hf : CpyAt ow cp) (a : XL) (ha : SndL ow a) : SndS ow (cpyP cp a) := by
  intro p l e R s m args below meth c cc nL G Qf cl hX hC ga nx9 lb gb rt cs ga' cs' hc hD r u H locs cells slots ls Kn Kb Kr hL hA hw hn hb hr hx9
  simp only [cpyP] at hc hw
  split at hc
  case h_2 => cases hc
  rename_i ts cs1 h0
  split at hc
  case h_2 => cases hc
  rename_i cs2 h1
  split at hc
  case isFalse => cases hc
  rename_i hcond
  obtain ⟨rfl, hk9⟩ := hcond
  cases hc
  refine ha p l e R s m args below meth c cc nL G Qf cl hX hC ga 0 cs _ cs1 h0 hD r u H locs cells slots ls [] _ hL hA (Nat.le_refl _) hw ?_
  intro vs u' H' locs' cells' slots' hv hA' hq hD1
  obtain ⟨g1, g2, g3⟩ := nx_ok h1 hD1
  match vs, hv with
  | [v0, v1, v2, v3, v4], _ =>
    obtain ⟨hok, hq⟩ := hq
    have e0 : (encA G.1 [2, 0, 2, 0, 0] [v0, v1, v2, v3, v4]).reverse ++ [] = [.int (Int32.ofInt v4), .int (Int32.ofInt v3), .ref (G.1 v2), .int (Int32.ofInt v1), .ref (G.1 v0)] := by
      have a0 : v0 ≠ 0 := by have : 0 < v0 := hok.1.1; omega
      have a2 : v2 ≠ 0 := by have : 0 < v2 := hok.2.1.1; omega
      simp only [encA, enc_2 _ a0, enc_2 _ a2, enc_0]
      rfl
    rw [e0]
    refine copy_row hX hL.1.1 hf.1 hf.2.1 hf.2.2.1 hf.2.2.2 g1 hA' hok (fun H2 locs2 hA2 => ?_)
    rw [← g2]
    exact okt_W hk9 hX.1 hX.2.1 g3 (hn r _ H2 locs2 _ _ ls hL hA2 hq)
def cpy {ow cp : Nat} (hf : CpyAt ow cp) (a : LX ow) : SX ow := ⟨cpyP cp a.1, cpy_ok ow cp hf a.1 a.2.1, cpy_d cp a.1 a.2.2⟩
end
section
/-! trees: what constructors do -/
def clr (f : Mem) (a : Int) : Mem := fun x y => if x = a then 0 else f x y
def alc (u : Sto) (w : Nat) : Sto := (clr u.1 (stn u), clr u.2.1 (stn u), stn u + 1, sex u, sbc u - 1, sbw u - w)
def alcok (u : Sto) (k : Nat) (w : Nat) : Prop := kcls (stn u) = k ∧ sex u = 1 ∧ 1 ≤ sbc u ∧ w ≤ sbw u
theorem okv_0 (t : Nat) : okv t 0 := by
  unfold okv inL inI
  split
  · omega
  · split
    · trivial
    · split
      · omega
      · split <;> omega
theorem at_alc {G : Geo} {R : Room} {H0 H H' : Heap} {u : Sto} {locs : List Loc} {cells slots k w : Nat} {U : State} (hA : At G R H0 u H locs cells slots) (hK : KOK G U) (hok : alcok u k w) (h1 : 1 ≤ k) {cell : Cell} (hc : H'[H.size]? = some cell) (hz : H'.size = H.size + 1) (hq : ∀ q, q < H.size → H'[q]? = H[q]?)
    (c1 : cell.vm = .none) (c2 : cell.cls = G.2.1 k) (c3 : 14 ≤ k → cell.slots.size = (klen (stn u)).toNat) (c4 : ∀ j : Nat, (j : Int) < klen (stn u) → cell.slots[G.2.2.1 k j]? = some (enc G.1 (ety k j) 0)) (hbase : G.2.2.2 ≤ H.size) :
    At G R H0 (alc u w) H' locs (cells + 1) (slots + w) ∧ G.1 (stn u) = H.size ∧ live (alc u w) (stn u) k := by
  obtain ⟨⟨r1, r2, r3, r4, r5⟩, ⟨f1, f2, f3⟩, b1, b2⟩ := hA
  obtain ⟨k1, k2, k3, k4⟩ := hok
  have hsz := r5 k2
  have ha : G.1 (stn u) = H.size := by rw [hK.1 _ (by omega)]; omega
  have hlt : ∀ x : Int, 0 < x → x < stn u → G.1 x < H.size := fun x x1 x2 => by rw [hK.1 x x1]; omega
  refine ⟨⟨⟨fun x x1 x2 x3 => ?_, fun x x1 x2 j hj ht => ?_, ?_, ?_, ?_⟩, ⟨by omega, fun q hq2 => (hq q (by omega)).trans (f2 q hq2), f3⟩, ?_, ?_⟩, ha, ?_⟩
  · have x2 : x < stn u + 1 := x2
    by_cases hx : x = stn u
    · subst hx
      refine ⟨cell, by rw [ha]; exact hc, c1, by rw [k1]; exact c2, fun h14 => c3 (by rw [k1] at h14; exact h14), fun j hj => ?_⟩
      rw [k1, c4 j hj]
      congr 2
      unfold rd alc clr
      by_cases ht : ety k j = 2 <;> simp [ht]
    · obtain ⟨cl', q1, q2, q3, q4, q5⟩ := r1 x x1 (by omega) x3
      refine ⟨cl', by rw [hq _ (hlt x x1 (by omega))]; exact q1, q2, q3, q4, fun j hj => ?_⟩
      rw [q5 j hj]
      congr 2
      unfold rd alc clr
      by_cases ht : ety (kcls x) j = 2 <;> simp [ht, hx]
  · have x2 : x < stn u + 1 := x2
    by_cases hx : x = stn u
    · subst hx
      show okv _ (clr u.2.1 (stn u) (stn u) j)
      unfold clr
      rw [if_pos rfl]
      exact okv_0 _
    · show okv _ (clr u.2.1 (stn u) x j)
      unfold clr
      rw [if_neg hx]
      exact r2 x x1 (by omega) j hj ht
  · show 1 ≤ stn u + 1; omega
  · show G.2.2.2 + (stn u + 1).toNat ≤ H'.size + 1; omega
  · intro _; show H'.size + 1 = G.2.2.2 + (stn u + 1).toNat; omega
  · show cells + 1 + (sbc u - 1) ≤ R.cells; omega
  · show slots + w + (sbw u - w) ≤ R.slots; omega
  · exact ⟨by omega, by show stn u < stn u + 1; omega, k1⟩
/-- super() -/
def oiniP (cp : Nat) (a : XE) : XS := (fun ga _ nx9 _ _ _ cs => match a.1 ga 0 cs with
    | some (2, cs1) => match nx (.invokespecial cp) 3 cs1 with
      | some cs2 => if okt nx9 cs2 = true then some (ga, cs2) else none
      | _ => none
    | _ => none, fun cl Kn _ _ r u => a.2 cl (fun v u' => v ≠ 0 ∧ Kn r u') r u)
theorem oini_d (cp : Nat) (a : XE) (ha : DecE a) : DecS (oiniP cp a) := by
  intro ga nL nx9 lb gb rt cs ga' cs' cc hc hD
  simp only [oiniP] at hc
  split at hc
  case h_2 => cases hc
  rename_i h0
  split at hc
  case h_2 => cases hc
  rename_i h1
  split at hc
  case isFalse => cases hc
  cases hc
  exact (nx_ok h1 (ha _ _ _ _ _ _ h0 hD)).2.2
def ObjAt (ow cp : Nat) : Prop := Cond.methodLink (kC ow) cp objectInit ∈ gTbl ∧ Cond.instanceMethod objectInit ∈ gTbl ∧ Cond.code objectInit ⟨#[0xb1]⟩ 1 none ∈ gTbl
theorem oini_ok (ow cp : Nat) (hf : ObjAt ow cp) (a : XE) (ha : SndE ow a) : SndS ow (oiniP cp a) := by
  intro p l e R s m args below meth c cc nL G Qf cl hX hC ga nx9 lb gb rt cs ga' cs' hc hD r u H locs cells slots ls Kn Kb Kr hL hA hw hn hb hr hx9
  simp only [oiniP] at hc hw
  split at hc
  case h_2 => cases hc
  rename_i cs1 h0
  split at hc
  case h_2 => cases hc
  rename_i cs2 h1
  split at hc
  case isFalse => cases hc
  rename_i hk9
  cases hc
  have hts := hX.2.2.2.2.1
  refine ha p l e R s m args below meth c cc nL G Qf cl hX hC ga 0 cs _ cs1 h0 hD r u H locs cells slots ls [] _ hL hA (Nat.le_refl _) hw ?_
  intro v u' H' locs' cells' slots' hv hA' hq hD1
  obtain ⟨g1, g2, g3⟩ := nx_ok h1 hD1
  rw [enc_2 _ hq.1]
  refine W.objInit hX.1 hX.2.1 hX.2.2.2.1 (hts _ hf.1) (hts _ hf.2.1) (hts _ hf.2.2) rfl (by rw [hX.2.2.1]; exact hL.1.1) rfl g1 hX.2.2.2.2.2.2.2.1 (by have := hX.2.2.2.2.2.2.2.2.1; show 2 * 0 + 0 + 12 ≤ _; omega) ?_
  refine W.eq (g2 := F0 m (pcOf cs') ls []) (by rw [g2]) ?_
  exact okt_W hk9 hX.1 hX.2.1 g3 (hn r u' H' locs' cells' slots' ls hL hA' hq.2)
def oini {ow cp : Nat} (hf : ObjAt ow cp) (a : EX ow) : SX ow := ⟨oiniP cp a.1, oini_ok ow cp hf a.1 a.2.1, oini_d cp a.1 a.2.2⟩
/-- a final field, in its own constructor -/
def FldFin (ow cp k j : Nat) : Prop := FldAt ow cp k j ∧ (kF k j).2.2.2 = true ∧ (kF k j).1 = kC ow
def pfiP (cp k j : Nat) (a b : XE) : XS := (fun ga _ nx9 _ _ rt cs => match a.1 ga 0 cs with
    | some (2, cs1) => match b.1 ga 1 cs1 with
      | some (t, cs2) => match nx (.putfield cp) 3 cs2 with
        | some cs3 => if okt nx9 cs3 = true ∧ t = gty (ety k j) then some (ga, cs3) else none
        | _ => none
      | _ => none
    | _ => none, fun cl Kn _ _ r u => a.2 cl (fun o u' => b.2 cl (fun v u2 => live u2 o k ∧ tyq (ety k j) v ∧ Kn r (wr u2 (ety k j) o j v)) r u') r u)

def defOK (t : Nat) (ft : FieldType) : Prop := ∀ al : Int → Nat, defaultValue ft = enc al t 0
theorem put_fin {p : Program} {l : Launch} {e : Env} {R : Room} {s : State} {m : MethodId} {args : Array Value} {below : List Frame} {meth : Method} {c : Code} {cc : ByteArray} {nL ow cp k j : Nat} {G : Geo} {H : Heap} {locs : List Loc} {cells slots : Nat} {Q : State → Prop} {pc : Nat} {ls : Array Slot} {st : List Value} {u : Sto} {a v : Int}
    (hX : MX p R s m args c cc nL ow G) (h100 : 100 ≤ ow) (hf : FldFin ow cp k j) (hd : decode cc pc = .ok (.putfield cp, 3)) (hA : At G R s.heap u H locs cells slots) (hl : live u a k) (hv : okv (ety k j) v)
    (kk : ∀ (H' : Heap) (locs' : List Loc), At G R s.heap (wr u (ety k j) a j v) H' locs' cells slots → W p l e R s m args below meth c H' locs' cells slots Q (F0 m (pc + 3) ls st)) :
    W p l e R s m args below meth c H locs cells slots Q (F0 m pc ls (enc G.1 (ety k j) v :: .ref (G.1 a) :: st)) := by
  obtain ⟨⟨f1, f2, f3, f4, f5, f6, f7⟩, hfin, hdecl⟩ := hf
  have hj : (j : Int) < klen a := by rw [kl_obj hl.2.2 f3 f4]; exact_mod_cast f5
  obtain ⟨cell, q1, q2, q3, q4, q5⟩ := hA.1.1 a hl.1 hl.2.1 (by rw [hl.2.2]; omega)
  rw [hl.2.2] at q3 q5
  have hts := hX.2.2.2.2.1
  have hK := hX.2.2.2.2.2.1
  have hown := hX.2.2.2.1
  obtain ⟨hS, hfc, kC', hkC, hkind⟩ := hK.2.1 k f3 f4
  obtain ⟨cf, kf, fi, f, hi, hsl⟩ := hS j f5
  have hlay := hts _ f2
  have hst := (u_facts hfc hkC (u_lay1 hlay) hi).1
  unfold u_lay at hlay
  rw [if_pos hfin] at hlay
  have hcf : m.cls = cf := by
    obtain ⟨_, _, c', _, _, _, -, -, hf', -, -, -, hown2, -⟩ := Cond.laysFinal_spec hlay
    have e1 : c' = cf := by have := hi.symm.trans hf'; simp at this; exact this.1.symm
    rw [hdecl] at hown2
    rw [← e1]; exact Option.some.inj (hown.symm.trans hown2)
  have h6 := u_fits hfc hkC hkind (Or.inr hlay) hi f6 (f7 G.1 v hv).1 (f7 G.1 v hv).2
  intro T hT X
  have hname : meth.name = "<init>" := hX.2.2.2.2.2.2.2.2.2.2 h100 meth X.method
  have key : W p l e R s m args below meth c H locs cells slots Q (F0 m pc ls (enc G.1 (ety k j) v :: .ref (G.1 a) :: st)) := by
    refine W.putFinK hX.1 hX.2.1 hown (hts _ f1) hi hst hcf hname (by rw [q3]; exact h6) q1 q2 (by rw [hsl]; exact k2_hasslot (q5 j hj)) rfl rfl hd fun H' e1 e2 e3 => ?_
    rw [hsl] at e1
    have t4 := wr_t u (ety k j) a j v
    exact kk H' _ (at_put hA (rel_wr hA.1 hK hl f3 hj hv q1 e1 e2 e3) e2 e3 (al_ge hK hl.1) t4.2.2.1 t4.2.2.2)
  exact key T hT X
theorem pfi_d (cp k j : Nat) (a b : XE) (ha : DecE a) (hb : DecE b) : DecS (pfiP cp k j a b) := by
  intro ga nL nx9 lb gb rt cs ga' cs' cc hc hD
  simp only [pfiP] at hc
  split at hc
  case h_2 => cases hc
  rename_i h0
  split at hc
  case h_2 => cases hc
  rename_i h1
  split at hc
  case h_2 => cases hc
  rename_i h2
  split at hc
  case isFalse => cases hc
  cases hc
  exact (nx_ok h2 (hb _ _ _ _ _ _ h1 (ha _ _ _ _ _ _ h0 hD))).2.2
theorem pfi_ok (ow cp k j : Nat) (h100 : 100 ≤ ow) (hf : FldFin ow cp k j) (a b : XE) (ha : SndE ow a) (hb0 : SndE ow b) : SndS ow (pfiP cp k j a b) := by
  intro p l e R s m args below meth c cc nL G Qf cl hX hC ga nx9 lb gb rt cs ga' cs' hc hD r u H locs cells slots ls Kn Kb Kr hL hA hw hn hb hr hx9
  simp only [pfiP] at hc hw
  split at hc
  case h_2 => cases hc
  rename_i cs1 h0
  split at hc
  case h_2 => cases hc
  rename_i t cs2 h1
  split at hc
  case h_2 => cases hc
  rename_i cs3 h2
  split at hc
  case isFalse => cases hc
  rename_i hcond
  obtain ⟨hk9, rfl⟩ := hcond
  cases hc
  refine ha p l e R s m args below meth c cc nL G Qf cl hX hC ga 0 cs 2 cs1 h0 hD r u H locs cells slots ls [] _ hL hA (Nat.le_refl _) hw ?_
  intro o u' H' locs' cells' slots' ho hA' hq hD1
  refine hb0 p l e R s m args below meth c cc nL G Qf cl hX hC ga 1 cs1 _ cs2 h1 hD1 r u' H' locs' cells' slots' ls _ _ hL hA' ?_ hq ?_
  · rw [cats_cons, cat_enc]; simp [cats]
  intro v u2 H2 locs2 cells2 slots2 hv hA2 hq2 hD2
  obtain ⟨g1, g2, g3⟩ := nx_ok h2 hD2
  obtain ⟨hl, htq, hq2⟩ := hq2
  rw [enc_g, enc_2 _ (by have := hl.1; omega)]
  refine put_fin hX h100 hf g1 hA2 hl (okv_q hv htq) (fun H3 locs3 hA3 => ?_)
  rw [← g2]
  exact okt_W hk9 hX.1 hX.2.1 g3 (hn r _ H3 locs3 _ _ ls hL hA3 hq2)
def pfi {ow : Nat} {cp k j : Nat} (h100 : 100 ≤ ow) (hf : FldFin ow cp k j) (a b : EX ow) : SX ow := ⟨pfiP cp k j a.1 b.1, pfi_ok ow cp k j h100 hf a.1 b.1 a.2.1 b.2.1, pfi_d cp k j a.1 b.1 a.2.2 b.2.2⟩
/-- new array of n -/
def arT (K : Nat) : ArrayType := if K = 14 then .int else if K = 15 then .long else if K = 16 then .boolean else .char
def nwaP (K : Nat) (a : XE) : XE := (fun ga d cs => match a.1 ga d cs with
    | some (0, cs1) => (nx (.newarray (arT K)) 2 cs1).map (fun x => (2, x))
    | _ => none, fun cl Q r u => a.2 cl (fun n u' => (0 ≤ n ∧ klen (stn u') = n ∧ alcok u' K n.toNat) ∧ Q (stn u') (alc u' n.toNat)) r u)
def ArrAt9 (K : Nat) : Prop := 14 ≤ K ∧ K ≤ 17 ∧ Cond.arrayClass (newarray.typeOf (arT K)) ∈ gTbl
theorem nwa_ok (ow K : Nat) (hf : ArrAt9 K) (a : XE) (ha : SndE ow a) : SndE ow (nwaP K a) := by
  intro p l e R s m args below meth c cc nL G Qf cl hX hC ga d cs t cs' hc hD r u H locs cells slots ls st Q hL hA hs hw k
  simp only [nwaP] at hc hw
  split at hc
  case h_2 => cases hc
  rename_i cs1 h0
  obtain ⟨x, hx, e1⟩ := Option.map_eq_some_iff.mp hc
  cases e1
  refine ha p l e R s m args below meth c cc nL G Qf cl hX hC ga d cs 0 cs1 h0 hD r u H locs cells slots ls st _ hL hA hs hw ?_
  intro n u' H' locs' cells' slots' hv hA' hq hD1
  obtain ⟨h1, h2, h3⟩ := nx_ok hx hD1
  obtain ⟨⟨n0, n1, n2⟩, hq⟩ := hq
  obtain ⟨f1, f2, f3⟩ := hf
  have hts := hX.2.2.2.2.1
  have hK := hX.2.2.2.2.2.1
  have bl := kl_18 (stn u')
  have eT : newarray.typeOf (arT K) = aT K := by
    have : K = 14 ∨ K = 15 ∨ K = 16 ∨ K = 17 := by omega
    rcases this with rfl | rfl | rfl | rfl <;> rfl
  have hn : ¬ Int32.ofInt n < 0 := fun q => by
    rw [show (0 : Int32) = Int32.ofInt 0 from rfl, ofI_lt ⟨by omega, by omega⟩ inI_0] at q; omega
  have en : (Int32.ofInt n).toNatClampNeg = n.toNat := ofI_idx n0 (by omega)
  obtain ⟨k1, k2, k3, k4⟩ := n2
  rw [enc_0]
  refine va_newaK hX.1 hX.2.1 (hts _ f3) rfl h1 rfl hn en ?_ ?_ ?_ rfl ?_
  · have : componentBytes (newarray.typeOf (arT K)) ≤ 8 := by
      have : K = 14 ∨ K = 15 ∨ K = 16 ∨ K = 17 := by omega
      rcases this with rfl | rfl | rfl | rfl <;> decide
    have := Nat.mul_le_mul (Nat.le_refl n.toNat) this
    omega
  · have := hA'.2.2.1; omega
  · have := hA'.2.2.2; omega
  intro H2 cA e1 e2 e3 e4 e5
  rw [eT] at e1 e5
  have hcA : cA = G.2.1 K := by
    have h9 := hK.2.2.2.2.2 K f1 (by omega)
    have : s.vm.findClass ("[" ++ (aT K).toString) = some (G.2.1 K) := by
      have : K = 14 ∨ K = 15 ∨ K = 16 ∨ K = 17 := by omega
      rcases this with rfl | rfl | rfl | rfl <;> exact h9
    exact Option.some.inj (e5.symm.trans this)
  obtain ⟨hA2, ha2, hl2⟩ := at_alc (U := s) hA' hK ⟨k1, k2, k3, k4⟩ (by omega) e1 e2 e3 rfl hcA (fun _ => by rw [n1]; exact arrV_size _ _ _) (fun j hj => by
    rw [hK.2.2.2.2.1 K j f1, arrV_read _ _ (by omega)]
    congr 1
    have : K = 14 ∨ K = 15 ∨ K = 16 ∨ K = 17 := by omega
    rcases this with rfl | rfl | rfl | rfl <;> rfl) (Nat.le_trans hX.2.2.2.2.2.2.1 hA'.2.1.1)
  have k' := k (stn u') _ H2 locs' _ _ trivial hA2 hq h3
  rw [h2, enc_2 _ (by have := hl2.1; omega), ha2] at k'
  exact k'
def nwa {ow K : Nat} (hf : ArrAt9 K) (a : EX ow) : EX ow := ⟨nwaP K a.1, nwa_ok ow K hf a.1 a.2.1, by
  intro ga d cs t cs' cc hc hD
  simp only [nwaP] at hc
  split at hc
  case h_2 => cases hc
  rename_i h0
  exact map_nx hc (a.2.2 _ _ _ _ _ _ h0 hD)⟩
/-- new array of references to the states -/
def nwqP (cp : Nat) (a : XE) : XE := (fun ga d cs => match a.1 ga d cs with
    | some (0, cs1) => (nx (.anewarray cp) 3 cs1).map (fun x => (2, x))
    | _ => none, fun cl Q r u => a.2 cl (fun n u' => (0 ≤ n ∧ klen (stn u') = n ∧ alcok u' 18 n.toNat) ∧ Q (stn u') (alc u' n.toNat)) r u)
def QarAt (ow cp : Nat) : Prop := Cond.classLink (kC ow) cp "HotThrough$State" ∈ gTbl ∧ Cond.arrayOver (.object "HotThrough$State") ∈ gTbl
theorem nwq_ok (ow cp : Nat) (hf : QarAt ow cp) (a : XE) (ha : SndE ow a) : SndE ow (nwqP cp a) := by
  intro p l e R s m args below meth c cc nL G Qf cl hX hC ga d cs t cs' hc hD r u H locs cells slots ls st Q hL hA hs hw k
  simp only [nwqP] at hc hw
  split at hc
  case h_2 => cases hc
  rename_i cs1 h0
  obtain ⟨x, hx, e1⟩ := Option.map_eq_some_iff.mp hc
  cases e1
  refine ha p l e R s m args below meth c cc nL G Qf cl hX hC ga d cs 0 cs1 h0 hD r u H locs cells slots ls st _ hL hA hs hw ?_
  intro n u' H' locs' cells' slots' hv hA' hq hD1
  obtain ⟨h1, h2, h3⟩ := nx_ok hx hD1
  obtain ⟨⟨n0, n1, n2⟩, hq⟩ := hq
  have hts := hX.2.2.2.2.1
  have hK := hX.2.2.2.2.2.1
  have bl := kl_18 (stn u')
  have hn : ¬ Int32.ofInt n < 0 := fun q => by
    rw [show (0 : Int32) = Int32.ofInt 0 from rfl, ofI_lt ⟨by omega, by omega⟩ inI_0] at q; omega
  have en : (Int32.ofInt n).toNatClampNeg = n.toNat := ofI_idx n0 (by omega)
  obtain ⟨k1, k2, k3, k4⟩ := n2
  rw [enc_0]
  refine W.anew hX.1 hX.2.1 hX.2.2.2.1 (hts _ hf.1) (hts _ hf.2) rfl h1 rfl hn (by rw [en]; omega) (by have := hA'.2.2.1; omega) (by rw [en]; have := hA'.2.2.2; omega) ?_
  intro cA kA comp e1 e2 e3 e4
  rw [en]
  have hcA : cA = G.2.1 18 := by
    obtain ⟨_, _, _, _, _, h9⟩ := hK.2.2.2.2.2 18 (by decide) (by decide)
    exact Option.some.inj (e1.symm.trans h9)
  obtain ⟨hA2, ha2, hl2⟩ := at_alc (U := s) (cell := { cls := cA, slots := Array.replicate n.toNat .null, vm := .none }) hA' hK ⟨k1, k2, k3, k4⟩ (by omega) (H' := H'.push { cls := cA, slots := Array.replicate n.toNat .null, vm := .none }) (by simp) (by simp) (fun q hq => by rw [Array.getElem?_push, if_neg (Nat.ne_of_lt hq)]) rfl hcA (fun _ => by rw [n1]; simp) (fun j hj => by
    rw [hK.2.2.2.2.1 18 j (by decide)]
    have : j < n.toNat := by omega
    simp [this, enc]
    rfl) (Nat.le_trans hX.2.2.2.2.2.2.1 hA'.2.1.1)
  have k' := k (stn u') _ _ locs' _ _ trivial hA2 hq h3
  rw [h2, enc_2 _ (by have := hl2.1; omega), ha2] at k'
  exact k'
def nwq {ow cp : Nat} (hf : QarAt ow cp) (a : EX ow) : EX ow := ⟨nwqP cp a.1, nwq_ok ow cp hf a.1 a.2.1, by
  intro ga d cs t cs' cc hc hD
  simp only [nwqP] at hc
  split at hc
  case h_2 => cases hc
  rename_i h0
  exact map_nx hc (a.2.2 _ _ _ _ _ _ h0 hD)⟩
/-- a state put into such a row -/
def asqP (a b v : XE) : XS := (fun ga _ nx9 _ _ _ cs => match a.1 ga 0 cs with
    | some (2, cs1) => match b.1 ga 1 cs1 with
      | some (0, cs2) => match v.1 ga 2 cs2 with
        | some (2, cs3) => match nx .aastore 1 cs3 with
          | some cs4 => if okt nx9 cs4 = true then some (ga, cs4) else none
          | _ => none
        | _ => none
      | _ => none
    | _ => none, fun cl Kn _ _ r u => a.2 cl (fun o u' => b.2 cl (fun i u2 => v.2 cl (fun x u3 => inb u3 o 18 i ∧ live u3 x 5 ∧ Kn r (wr u3 2 o i x)) r u2) r u') r u)
theorem asq_d (a b v : XE) (ha : DecE a) (hb : DecE b) (hv : DecE v) : DecS (asqP a b v) := by
  intro ga nL nx9 lb gb rt cs ga' cs' cc hc hD
  simp only [asqP] at hc
  split at hc
  case h_2 => cases hc
  rename_i h0
  split at hc
  case h_2 => cases hc
  rename_i h1
  split at hc
  case h_2 => cases hc
  rename_i h2
  split at hc
  case h_2 => cases hc
  rename_i h3
  split at hc
  case isFalse => cases hc
  cases hc
  exact (nx_ok h3 (hv _ _ _ _ _ _ h2 (hb _ _ _ _ _ _ h1 (ha _ _ _ _ _ _ h0 hD)))).2.2
theorem asq_ok (ow : Nat) (a b v0 : XE) (ha : SndE ow a) (hb0 : SndE ow b) (hv0 : SndE ow v0) : SndS ow (asqP a b v0) := by
  intro p l e R s m args below meth c cc nL G Qf cl hX hC ga nx9 lb gb rt cs ga' cs' hc hD r u H locs cells slots ls Kn Kb Kr hL hA hw hn hb hr hx9
  simp only [asqP] at hc hw
  split at hc
  case h_2 => cases hc
  rename_i cs1 h0
  split at hc
  case h_2 => cases hc
  rename_i cs2 h1
  split at hc
  case h_2 => cases hc
  rename_i cs3 h2
  split at hc
  case h_2 => cases hc
  rename_i cs4 h3
  split at hc
  case isFalse => cases hc
  rename_i hk9
  cases hc
  refine ha p l e R s m args below meth c cc nL G Qf cl hX hC ga 0 cs 2 cs1 h0 hD r u H locs cells slots ls [] _ hL hA (Nat.le_refl _) hw ?_
  intro o u' H' locs' cells' slots' ho hA' hq hD1
  refine hb0 p l e R s m args below meth c cc nL G Qf cl hX hC ga 1 cs1 _ cs2 h1 hD1 r u' H' locs' cells' slots' ls _ _ hL hA' ?_ hq ?_
  · rw [cats_cons, cat_enc]; simp [cats]
  intro i u2 H2 locs2 cells2 slots2 hi hA2 hq2 hD2
  refine hv0 p l e R s m args below meth c cc nL G Qf cl hX hC ga 2 cs2 _ cs3 h2 hD2 r u2 H2 locs2 cells2 slots2 ls _ _ hL hA2 ?_ hq2 ?_
  · rw [cats_cons, cats_cons, cat_enc, cat_enc]; simp [cats]
  intro v u3 H3 locs3 cells3 slots3 hv hA3 hq3 hD3
  obtain ⟨g1, g2, g3⟩ := nx_ok h3 hD3
  obtain ⟨hl, hlv, hq3⟩ := hq3
  have hK := hX.2.2.2.2.2.1
  obtain ⟨cell, q1, q2, q3, q4, q5, q6, q7, q8, -⟩ := arr_at hA3.1 hK hl (by decide) (by decide)
  obtain ⟨cv, v1, v2, v3, -⟩ := hA3.1.1 v hlv.1 hlv.2.1 (by rw [hlv.2.2]; decide)
  rw [hlv.2.2] at v3
  obtain ⟨kA, comp, w1, w2, w3, -⟩ := hK.2.2.2.2.2 18 (by decide) (by decide)
  have hcls := (hK.2.1 5 (by decide) (by decide)).2
  have hcomp : comp = G.2.1 5 := Option.some.inj (w3.symm.trans hcls.1)
  subst hcomp
  obtain ⟨-, kC', hkC, -⟩ := id hcls
  rw [enc_0, enc_2 G.1 (v := o) (by have := hl.1.1; omega), enc_2 G.1 (v := v) (by have := hlv.1; omega)]
  refine W.aast hX.1 hX.2.1 q1 (fun q h => by rw [q3] at h; cases h) (fun h => by rw [q3] at h; cases h) (by rw [q8]; exact w1) w2 rfl hkC ⟨fun q => q4 (Or.inl q), Nat.not_le.mp fun q => q4 (Or.inr q)⟩ v1 (fun q h => by rw [v2] at h; cases h) (by rw [v3]; exact hkC) (by rw [v3]; exact va_assign hcls) rfl rfl g1 (fun H4 e1 e2 e3 => ?_)
  rw [q5] at e1
  have e0 : ((i.toNat : Nat) : Int) = i := Int.toNat_of_nonneg hl.2.1
  have t4 := wr_t u3 2 o i v
  have hr9 := rel_wr (j := i.toNat) (v := v) (H' := H4) (k := 18) hA3.1 hK hl.1 (by decide) (by have := hl.2.2; omega) trivial q1 (by rw [hK.2.2.2.2.1 18 _ (by decide)]; show _ = some (cell.setSlot i.toNat (enc G.1 2 v)); rw [enc_2 _ (by have := hlv.1; omega)]; exact e1) e2 e3
  rw [e0] at hr9
  refine W.eq (g2 := F0 m (pcOf cs') ls []) (by rw [g2]) ?_
  exact okt_W hk9 hX.1 hX.2.1 g3 (hn r _ H4 _ _ _ ls hL (at_put hA3 hr9 e2 e3 (al_ge hK hl.1.1) t4.2.2.1 t4.2.2.2) hq3)
def asq {ow : Nat} (a b v : EX ow) : SX ow := ⟨asqP a.1 b.1 v.1, asq_ok ow a.1 b.1 v.1 a.2.1 b.2.1 v.2.1, asq_d a.1 b.1 v.1 a.2.2 b.2.2 v.2.2⟩
end
section
/-! trees: new -/
def dfl : Nat → FieldType → Bool
  | 0, .int => true
  | 1, .long => true
  | 2, .object _ => true
  | 2, .array _ => true
  | 3, .boolean => true
  | _, _ => false
theorem dfl_ok {t : Nat} {ft : FieldType} (h : dfl t ft = true) (al : Int → Nat) : defaultValue ft = enc al t 0 := by
  unfold dfl at h
  split at h <;> first | rfl | cases h
def KlsAt (k : Nat) : Prop := (∀ w ∈ u_ws (kC k) (kF k) (kN k), w ∈ gTbl) ∧ (∀ j, j < kN k → parseFieldDescriptor (kF k j).2.2.1 = some (kT k j)) ∧ (∀ j, j < kN k → dfl (ety k j) (kT k j) = true)
def NewAt (ow cp k : Nat) : Prop := Cond.classLink (kC ow) cp (kC k) ∈ gTbl ∧ Cond.instantiable (kC k) (kN k) ∈ gTbl ∧ Cond.initialized (kC k) ∈ gTbl ∧ 1 ≤ k ∧ k ≤ 13 ∧ KlsAt k
def SpecAt (ow cp K : Nat) : Prop := MthOK K ∧ (Cond.methodLink (kC ow) cp (mNam K) ∈ gTbl ∨ ∃ host, Cond.methodLinkNest (kC ow) cp (mNam K) host ∈ gTbl) ∧ Cond.instanceMethod (mNam K) ∈ gTbl ∧ (mNam K).name = "<init>" ∧ mRet K = none ∧ mRty K = 9 ∧
  (parseMethodDescriptor (mNam K).desc).map (fun d => d.parameters.length + 1) = some (mArg K).length ∧ (mArg K).head? = some 2
section CI
variable {p : Program} {l : Launch} {e : Env} {R : Room} {s : State} {m : MethodId} {args : Array Value} {below : List Frame} {meth : Method} {c : Code} {cc : ByteArray} {nL ow cp K : Nat} {G : Geo} {H : Heap} {locs : List Loc} {cells slots : Nat} {Q : State → Prop} {pc : Nat} {ls : Array Slot} {st : List Value} {cl : ClT} {u : Sto} {vs : List Int} {Q' : Int → Sto → Prop}
theorem call_init (hX : MX p R s m args c cc nL ow G) (hC : ClOK l R G cl) (hv : SpecAt ow cp K) (hd : decode cc pc = .ok (.invokespecial cp, 3)) (hA : At G R s.heap u H locs cells slots) (hok : okA (mArg K) vs) (hcat : cats st ≤ 8) (hlive : ∀ v, vs.head? = some v → v ≠ 0) (hls : ls.size = nL) (hb : mCel K ≤ sbc u ∧ mSlo K ≤ sbw u) (hcl : cl K vs Q' (bud u (mCel K) (mSlo K)))
    (k : ∀ (v : Int) (u' : Sto) (H' : Heap) (locs' : List Loc), Q' v u' → At G R s.heap (bud u' (sbc u - mCel K) (sbw u - mSlo K)) H' locs' (cells + mCel K) (slots + mSlo K) → W p l e R s m args below meth c H' locs' (cells + mCel K) (slots + mSlo K) Q (F0 m (pc + 3) ls st)) :
    W p l e R s m args below meth c H locs cells slots Q (F0 m pc ls ((encA G.1 (mArg K) vs).reverse ++ st)) := by
  obtain ⟨g1, g2, g3, g4, g5, g6, g8, g9⟩ := hv
  have hts := hX.2.2.2.2.1
  obtain ⟨rm, r1, r2, r3, r20, hM⟩ := hC K vs Q' _ hcl (Nat.le_refl _) (Nat.le_refl _)
  have r4 : 8 + (mMax K + 11) + rm.locals ≤ R.locals := by omega
  have k9 : ∀ (v : Int) (u' : Sto) (H' : Heap) (locs' : List Loc), okv (mRty K) v → Q' v u' → At G R s.heap (bud u' (sbc u - mCel K) (sbw u - mSlo K)) H' locs' (cells + mCel K) (slots + mSlo K) → W p l e R s m args below meth c H' locs' (cells + mCel K) (slots + mSlo K) Q (F0 m (pc + 3) ls ((encR G.1 (mRty K) v).toList ++ st)) := fun v u' H' locs' _ hq hA' => by
    rw [g6]; exact k v u' H' locs' hq hA'
  match hm : mArg K, vs, hok with
  | [], _, _ => rw [hm] at g9; cases g9
  | t :: ts, [], hok => exact hok.elim
  | t :: ts, v0 :: vt, hok' =>
    rw [hm] at g9 g8
    cases g9
    have hv0 : v0 ≠ 0 := hlive v0 rfl
    have e0 : encA G.1 (2 :: ts) (v0 :: vt) = .ref (G.1 v0) :: encA G.1 ts vt := by simp only [encA]; rw [enc_2 _ hv0]
    have hp := pc_pre (K := K) (vs := v0 :: vt) hX hA (by rw [hm]; exact hok') (mCel K) (mSlo K)
    rw [hm, e0] at hp
    have hn : ∀ sig, parseMethodDescriptor (mNam K).desc = some sig → ts.length = sig.parameters.length := fun sig h => by
      rw [h] at g8; simp at g8; omega
    rw [e0, List.reverse_cons, List.append_assoc]
    rcases g2 with g2 | ⟨host, g2⟩
    · have hB := callB_at (l := l) hX g1 g2 hn r1 r2 r3 r4
      rw [g5] at hB
      exact run_on (u := u) (va_runI (As := encA G.1 ts vt) (rest := st) (b := G.1 v0) (n := ts.length) (Ts := gTbl) (own := kC ow) ⟨hX.1, hX.2.1, hX.2.2.1, hX.2.2.2.1, hts⟩ hM ⟨hB, g4, hts _ g3⟩
        ⟨pc_blind G K _ _, hp⟩ rfl (encA_len _ _ _ hok'.2) hls rfl (lv_room hcat) hd ⟨by have := hA.2.2.1; omega, by have := hA.2.2.2; omega⟩) hA hb k9
    · obtain ⟨m1, m2, m3⟩ := id g1
      have hws : ∀ w ∈ wsOf K, ∀ (a' : Array Value) (U : State), s.WarmedH U.vm → w.before a' U = true := fun w hw => by
        rcases List.mem_cons.mp hw with rfl | hw
        · exact gt_pay hts _ m1
        · exact gt_pay hts _ hw
      have hcode := hts _ m1
      have hin9 : mWor K ∈ wsOf K := List.mem_cons_self
      unfold mWor at hcode hin9
      rw [g5] at hcode hin9
      exact run_on (u := u) (va_runIN (As := encA G.1 ts vt) (rest := st) (b := G.1 v0) (n := ts.length) (Ts := gTbl) (own := kC ow) (host := host) ⟨hX.1, hX.2.1, hX.2.2.1, hX.2.2.2.1, hts⟩ hM ⟨⟨⟨r1, r2, r3, r4, hws, hin9⟩, hcode, hts _ m2, m3, hn, hts _ g2⟩, g4, hts _ g3⟩
        ⟨pc_blind G K _ _, hp⟩ rfl (encA_len _ _ _ hok'.2) hls rfl (lv_room hcat) hd ⟨by have := hA.2.2.1; omega, by have := hA.2.2.2; omega⟩) hA hb k9
end CI
def nwoP (cp cp2 k K : Nat) (a : XL) : XE := (fun ga d cs => match nx (.new cp) 3 cs with
    | some cs1 => match nx .dup 1 cs1 with
      | some cs2 => match a.1 ga (d + 2) cs2 with
        | some (ts, cs3) => if 2 :: ts = mArg K ∧ d ≤ 7 then (nx (.invokespecial cp2) 3 cs3).map (fun x => (2, x)) else none
        | _ => none
      | _ => none
    | _ => none, fun cl Q r u => alcok u k (kN k) ∧ a.2 cl (fun vs u2 => wcl cl K (fun _ u3 => Q (stn u) u3) (stn u :: vs) u2) r (alc u (kN k)))
theorem nwo_d (cp cp2 k K : Nat) (a : XL) (ha : DecL a) : DecE (nwoP cp cp2 k K a) := by
  intro ga d cs t cs' cc hc hD
  simp only [nwoP] at hc
  split at hc
  case h_2 => cases hc
  rename_i h0
  split at hc
  case h_2 => cases hc
  rename_i h1
  split at hc
  case h_2 => cases hc
  rename_i h2
  split at hc
  case isFalse => cases hc
  exact map_nx hc (ha _ _ _ _ _ _ h2 (nx_ok h1 (nx_ok h0 hD).2.2).2.2)
theorem nwo_ok (ow cp cp2 k K : Nat) (hf : NewAt ow cp k) (hf2 : SpecAt ow cp2 K) (a : XL) (ha : SndL ow a) : SndE ow (nwoP cp cp2 k K a) := by
  intro p l e R s m args below meth c cc nL G Qf cl hX hC ga d cs t cs' hc hD r u H locs cells slots ls st Q hL hA hs hw kz
  simp only [nwoP] at hc hw
  split at hc
  case h_2 => cases hc
  rename_i cs1 h0
  split at hc
  case h_2 => cases hc
  rename_i cs2 h1
  split at hc
  case h_2 => cases hc
  rename_i ts cs3 h2
  split at hc
  case isFalse => cases hc
  rename_i hcond
  obtain ⟨hts9, hd7⟩ := hcond
  obtain ⟨x, hx, e1⟩ := Option.map_eq_some_iff.mp hc
  cases e1
  obtain ⟨a1, a2, a3⟩ := nx_ok h0 hD
  obtain ⟨b1, b2, b3⟩ := nx_ok h1 a3
  obtain ⟨hok, hw⟩ := hw
  obtain ⟨f1, f2, f3, f4, f5, f6, f7, f8⟩ := hf
  have hts := hX.2.2.2.2.1
  have hK := hX.2.2.2.2.2.1
  have hkn := hK.2.1 k f4 f5
  have hfc : s.vm.findClass (kC k) = some (G.2.1 k) := hkn.2.1
  have hpos : 0 < stn u := by have := hA.1.2.2.1; omega
  refine W.newcK hX.1 hX.2.1 hX.2.2.2.1 (hts _ f1) (hts _ f2) (hts _ f3) rfl a1 (by have := hA.2.2.1; have := hok.2.2.1; omega) (by have := hA.2.2.2; have := hok.2.2.2; omega) hfc rfl ?_
  intro H1 kCl e1 e2 e3 e4
  obtain ⟨cell, q1, q2, q3, q4⟩ := u_born (kT k) hts f6 hkn e1 e2 f7
  obtain ⟨hA1, ha1, hl1⟩ := at_alc (U := s) hA hK hok f4 q1 e3 e4 q3 q2 (fun h => by omega) (fun j hj => by
    rw [kl_obj hok.1 f4 f5] at hj
    rw [q4 j (by omega)]
    exact congrArg some (dfl_ok (f8 j (by omega)) G.1)) (Nat.le_trans hX.2.2.2.2.2.2.1 hA.2.1.1)
  show W p l e R s m args below meth c H1 locs (cells + 1) (slots + kN k) Qf (F0 m (pcOf cs + 3) ls (.ref H.size :: st))
  rw [← a2, ← ha1]
  refine lv_dup hX.1 hX.2.1 b1 rfl ?_
  rw [← b2]
  refine ha p l e R s m args below meth c cc nL G Qf cl hX hC ga (d + 2) cs2 ts cs3 h2 b3 r (alc u (kN k)) H1 locs (cells + 1) (slots + kN k) ls (.ref (G.1 (stn u)) :: .ref (G.1 (stn u)) :: st) _ hL hA1 ?_ hw ?_
  · rw [cats_cons, cats_cons]; show 1 + (1 + cats st) ≤ d + 2; omega
  intro vs u2 H2 locs2 cells2 slots2 hv hA2 hq2 hD2
  obtain ⟨c1, c2, c3⟩ := nx_ok hx hD2
  have e9 : (encA G.1 ts vs).reverse ++ (Value.ref (G.1 (stn u)) :: Value.ref (G.1 (stn u)) :: st) = (encA G.1 (mArg K) (stn u :: vs)).reverse ++ (Value.ref (G.1 (stn u)) :: st) := by
    rw [← hts9]
    simp only [encA, List.reverse_cons, List.append_assoc]
    rw [enc_2 _ (by omega)]
    rfl
  rw [e9]
  refine call_init hX hC hf2 c1 hA2 (by rw [← hts9]; exact ⟨trivial, hv⟩) (by rw [cats_cons]; show 1 + cats st ≤ 8; omega) (fun v hv => by cases hv; omega) hL.1.1 hq2.1 hq2.2 ?_
  intro v u3 H3 locs3 hQ3 hA3
  have k' := kz (stn u) _ H3 locs3 _ _ trivial hA3 hQ3 c3
  rw [c2, enc_2 _ (by omega)] at k'
  exact k'
def nwo {ow cp cp2 k K : Nat} (hf : NewAt ow cp k) (hf2 : SpecAt ow cp2 K) (a : LX ow) : EX ow := ⟨nwoP cp cp2 k K a.1, nwo_ok ow cp cp2 k K hf hf2 a.1 a.2.1, nwo_d cp cp2 k K a.1 a.2.2⟩
end
section
/-! a method's contract out of its tree -/
def decB (cc : ByteArray) : Cds → Bool
  | [] => true
  | q :: t => decide (decode cc q.1 = .ok (q.2.1, q.2.2)) && (t.isEmpty || pcOf t == q.1 + q.2.2) && decB cc t
theorem decB_ok {cc : ByteArray} : ∀ {cs : Cds}, decB cc cs = true → Dec cc cs
  | [], _ => trivial
  | q :: t, h => by
    simp only [decB, Bool.and_eq_true, Bool.or_eq_true, decide_eq_true_eq, beq_iff_eq, List.isEmpty_iff] at h
    exact ⟨h.1.1, h.1.2, decB_ok h.2⟩
def gam0 : Nat → List Nat → Gam
  | _, [] => []
  | i, t :: ts => (i, t) :: gam0 (if t = 1 then i + 2 else i + 1) ts
def slv : List Nat → List Int → List Int
  | t :: ts, v :: vs => if t = 1 then v :: 0 :: slv ts vs else v :: slv ts vs
  | _, _ => []
def rho0 (ts : List Nat) (vs : List Int) : Rho := fun i => (slv ts vs).getD i 0
def wid : List Nat → Nat
  | [] => 0
  | t :: ts => (if t = 1 then 2 else 1) + wid ts
theorem gam0_lv (al : Int → Nat) : ∀ (ts : List Nat) (vs : List Int) (i : Nat) (r : Rho), okA ts vs → (∀ j, r (i + j) = (slv ts vs).getD j 0) →
    (gam0 i ts).map (fun q => (q.1, enc al q.2 (r q.1))) = lv_args i (encA al ts vs) ∧ ∀ q ∈ gam0 i ts, okv q.2 (r q.1)
  | [], [], i, r, _, _ => ⟨rfl, fun q hq => by cases hq⟩
  | [], _ :: _, _, _, h, _ => h.elim
  | _ :: _, [], _, _, h, _ => h.elim
  | t :: ts, v :: vs, i, r, h, hr => by
    have h0 : r i = v := by
      have := hr 0
      rw [Nat.add_zero] at this
      rw [this]
      unfold slv
      split <;> rfl
    by_cases ht : t = 1
    · have ih := gam0_lv al ts vs (i + 2) r h.2 (fun j => by
        have := hr (j + 2)
        rw [show i + 2 + j = i + (j + 2) by omega, this]
        simp [slv, ht])
      subst ht
      refine ⟨?_, fun q hq => ?_⟩
      · show (i, enc al 1 (r i)) :: (gam0 (i + 2) ts).map _ = (i, enc al 1 v) :: lv_args (i + 2) _
        rw [h0, ih.1]
      · rcases List.mem_cons.mp hq with rfl | hq
        · show okv 1 (r i); rw [h0]; exact h.1
        · exact ih.2 q hq
    · have ih := gam0_lv al ts vs (i + 1) r h.2 (fun j => by
        have := hr (j + 1)
        rw [show i + 1 + j = i + (j + 1) by omega, this]
        simp [slv, ht])
      have hc : ¬ (enc al t v).category = 2 := by rw [cat_enc, if_neg ht]; decide
      refine ⟨?_, fun q hq => ?_⟩
      · simp only [gam0, encA, lv_args, List.map_cons, if_neg ht, if_neg hc]
        rw [h0, ih.1]
      · simp only [gam0, if_neg ht] at hq
        rcases List.mem_cons.mp hq with rfl | hq
        · show okv t (r i); rw [h0]; exact h.1
        · exact ih.2 q hq
theorem sl_wid (al : Int → Nat) : ∀ (ts : List Nat) (vs : List Int), okA ts vs → (lg_sl (encA al ts vs)).length = wid ts
  | [], [], _ => rfl
  | [], _ :: _, h => h.elim
  | _ :: _, [], h => h.elim
  | t :: ts, v :: vs, h => by
    have ih := sl_wid al ts vs h.2
    unfold lg_sl at ih ⊢
    simp only [encA, wid, List.flatMap_cons, List.length_append, ih, cat_enc]
    by_cases ht : t = 1
    · simp [ht]
    · simp [ht]
def rtOK (K : Nat) : Prop := (mRty K = 0 ∧ mRet K = some .int) ∨ (mRty K = 1 ∧ mRet K = some .long) ∨ (mRty K = 3 ∧ mRet K = some .boolean) ∨ (mRty K = 9 ∧ mRet K = none)
def rmD (d K : Nat) : Room := { frames := d, cells := mCel K, slots := mSlo K, locals := 90 * d }
abbrev BT : Type := ClT → List Int → (Int → Sto → Prop) → Sto → Prop
theorem ofWF {l : Launch} {y : MethodName} {ws ws' : List Cond} {rm : Room} {Pc : Array Value → State → Prop} {Qc : Array Value → State → Outcome → State → Prop} {mc ms : Nat} {free : Addr → Prop} {cc : ByteArray} {maxL : Nat} {ret : Option FieldType}
    (hy : plainFor y = true) (hw : ws = Cond.code y cc maxL ret :: ws')
    (body : ∀ p e s m args below meth c s₁, BodyLoose p l y (headSpec ws rm) cc maxL ret e s m args below meth c s₁ → c.maxLocals = maxL → Pc args s →
      W p l e (headSpec ws rm).room s m args below meth c s.heap [] 0 0 (MQ below Qc args s mc ms free) (entryFrame m args maxL)) : Met l y ws rm Pc Qc mc ms free := by
  refine MetFree.of_bodySF (code := cc) (maxLocals := maxL) (ret := ret) hy ?_ ?_
  · intro args s m h hn
    obtain ⟨meth, c, h1, h2, h3, h4, h5, h6, -, -⟩ := Cond.code_spec hn (atoms_spec (ws := ws) h _ (by rw [hw]; exact List.mem_cons_self))
    exact ⟨meth, c, h1, h2, h3, h4, h5, h6⟩
  · intro p e s m args below meth c s₁ B hml hP _
    have hh0 : s₁.heap = s.heap := by rw [B.state]; rfl
    obtain ⟨t, a1, o, b1, b2, b3⟩ := body p e s m args below meth c s₁ B hml hP s₁ hh0 (Stand.of_body B)
    exact ⟨t, o, a1, b1, b2, ⟨b3.1, b3.2⟩⟩
def runB {ow : Nat} (K : Nat) (b : SX ow) : BT := fun cl vs Q u => b.1.2 cl (fun _ _ => False) (fun _ _ => False) Q (rho0 (mArg K) vs) u
def BodyOK (K : Nat) (f : BT) : Prop := ∀ (l : Launch) (G : Geo) (cl : ClT) (d : Nat) (vs : List Int) (Q : Int → Sto → Prop) (u : Sto), l.flags = flags0 → ClOK l (rmD (d + 1) K) G cl → f cl vs Q u → sbc u ≤ mCel K → sbw u ≤ mSlo K →
  Met l (mNam K) (wsOf K) (rmD (d + 1) K) (PcOf G K vs u) (QcOf G K Q) (mCel K) (mSlo K) (fun q => G.2.2.2 ≤ q)
def chkB {ow : Nat} (K : Nat) (b : SX ow) (code : Cds) : Bool := match b.1.1 (gam0 0 (mArg K)) (mMax K) 0 0 [] (mRty K) code with
  | some (_, []) => true
  | _ => false
theorem body_ok (ow K : Nat) (b : SX ow) (code : Cds) (hown : kC ow = (mNam K).cls) (hini : 100 ≤ ow → (mNam K).name = "<init>") (hchk : chkB K b code = true) (hdec : Dec (mCod K) code) (hpc : pcOf code = 0) (hret : rtOK K) (hpl : plainFor (mNam K) = true) (hwid : wid (mArg K) ≤ mMax K) : BodyOK K (runB K b) := by
  intro l G cl d vs Q u hfl hC hf hbc hbw
  refine ofWF (cc := mCod K) (maxL := mMax K) (ret := mRet K) hpl rfl ?_
  intro p e s m args below meth c s₁ B hml hv
  obtain ⟨rfl, hok, hrel, hK, hbase, hSO⟩ := hv
  have hts := atoms_spec (ws := wsOf K) B.pre
  have hX : MX p (rmD (d + 1) K) s m (encA G.1 (mArg K) vs).toArray c (mCod K) (mMax K) ow G :=
    ⟨B.exec, B.bytes, hml, by rw [hown]; exact findClass_of_methodNamed B.named, fun w hw => hts w (List.mem_cons_of_mem _ hw), hK, hbase, Nat.succ_le_succ (Nat.zero_le d), by show 40 ≤ 90 * (d + 1); omega, hSO, fun h mt hmt => (name_of_methodNamed B.named hmt).1.trans (hini h)⟩
  rw [lg_entry_eq]
  have hl := lv_entry (encA G.1 (mArg K) vs) (n := mMax K) (by rw [sl_wid _ _ _ hok]; exact hwid)
  generalize (lg_sl (encA G.1 (mArg K) vs) ++ List.replicate (mMax K - (lg_sl (encA G.1 (mArg K) vs)).length) Slot.unset).toArray = ls at hl ⊢
  have hg := gam0_lv G.1 (mArg K) vs 0 (rho0 (mArg K) vs) hok (fun j => by rw [Nat.zero_add]; rfl)
  have hL : LR G (mMax K) (gam0 0 (mArg K)) (rho0 (mArg K) vs) ls := ⟨by rw [hg.1]; exact hl, hg.2⟩
  have hA : At G (rmD (d + 1) K) s.heap u s.heap [] 0 0 := ⟨hrel, ⟨Nat.le_refl _, fun _ _ => rfl, fun _ h => by cases h⟩, by rw [Nat.zero_add]; exact hbc, by rw [Nat.zero_add]; exact hbw⟩
  have hrt9 : mRty K % 20 = mRty K := by rcases hret with h | h | h | h <;> rw [h.1]
  have hrt8 : mRty K < 20 := by rcases hret with h | h | h | h <;> rw [h.1] <;> decide
  unfold chkB at hchk
  split at hchk
  case h_2 => cases hchk
  rename_i ga9 h0
  have hlocks := B.notSynchronized
  suffices h9 : W p l e (rmD (d + 1) K) s m (encA G.1 (mArg K) vs).toArray below meth c s.heap [] 0 0 (MQ below (QcOf G K Q) (encA G.1 (mArg K) vs).toArray s (mCel K) (mSlo K) fun q => G.2.2.2 ≤ q) (F0 m (pcOf code) ls []) by
    rw [hpc] at h9
    exact h9
  refine b.2.1 p l e (rmD (d + 1) K) s m _ below meth c (mCod K) (mMax K) G _ cl hX hC (gam0 0 (mArg K)) 0 0 [] (mRty K) code ga9 [] h0 hdec (rho0 (mArg K) vs) u s.heap [] 0 0 ls _ _ Q hL hA hf ?_ ?_ ?_ ?_
  · intro _ _ _ _ _ _ _ _ _ h; exact h.elim
  · intro _ _ _ _ _ _ _ _ _ h; exact h.elim
  · intro v u' H' locs' cells' slots' ls' pc hv hA' hq hd
    rw [hrt9] at hv hd ⊢
    obtain ⟨hrel', ⟨f1, f2, f3⟩, b1, b2⟩ := hA'
    have fin : ∀ o, o = encR G.1 (mRty K) v → ∀ t : State, t.heap = H' → s.WarmedH t.vm → QcOf G K Q (encA G.1 (mArg K) vs).toArray s (.returned o) t := fun o ho t ht _ =>
      ⟨⟨v, u', by rw [ho], hv, hq, by rw [ht]; exact hrel'⟩, by rw [ht]; exact f1, fun q hq => by rw [ht]; exact f2 q hq⟩
    have c1 : cells' ≤ mCel K := by have : cells' + sbc u' ≤ mCel K := b1; omega
    have c2 : slots' ≤ mSlo K := by have : slots' + sbw u' ≤ mSlo K := b2; omega
    refine W.widen c1 c2 ?_
    have hrr := B.returns
    rcases hret with ⟨e1, e2⟩ | ⟨e1, e2⟩ | ⟨e1, e2⟩ | ⟨e1, e2⟩
    · rw [e1] at hd fin hv ⊢
      exact W.iret hX.1 hX.2.1 (hrr.trans e2) (fin _ rfl) f3 hd
    · rw [e1] at hd fin hv ⊢
      exact W.lret hX.1 hX.2.1 (hrr.trans e2) (fin _ rfl) f3 hd
    · rw [e1] at hd fin hv ⊢
      refine W.zret (ty := .boolean) hX.1 hX.2.1 (hrr.trans e2) ?_ (fin _ rfl) f3 hd
      have hv : 0 ≤ v ∧ v ≤ 1 := hv
      have : v = 0 ∨ v = 1 := by omega
      rcases this with rfl | rfl <;> rfl
    · rw [e1] at hd fin hv ⊢
      exact W.vret hX.1 hX.2.1 (hrr.trans e2) (fin _ rfl) f3 hd
  · intro h; omega
end
section
/-! an if whose way past it was fixed at the place behind it -/
def ifxP (X : Nat) (c : XC) (a : XS) : XS := (fun ga nL nx9 lb gb rt cs => match c.1 ga 0 true X cs with
    | some cs1 => match a.1 ga nL nx9 lb gb rt cs1 with
      | some (ga1, cs2) => if pcOf cs2 = X ∧ okt nx9 cs2 = true then some (int9 ga ga1, cs2) else none
      | _ => none
    | _ => none, fun cl Kn Kb Kr r u => c.2 cl (fun u' => a.2 cl Kn Kb Kr r u') (fun u' => Kn r u') r u)
theorem ifx_d (X : Nat) (c : XC) (a : XS) (hc0 : DecC c) (ha : DecS a) : DecS (ifxP X c a) := by
  intro ga nL nx9 lb gb rt cs ga' cs' cc hc hD
  simp only [ifxP] at hc
  split at hc
  case h_2 => cases hc
  rename_i h0
  split at hc
  case h_2 => cases hc
  rename_i h1
  split at hc
  case isFalse => cases hc
  cases hc
  exact ha _ _ _ _ _ _ _ _ _ _ h1 (hc0 _ _ _ _ _ _ _ h0 hD)
theorem ifx_ok (ow X : Nat) (c0 : XC) (a : XS) (hc0 : SndC ow c0) (ha : SndS ow a) (dc : DecC c0) (da : DecS a) : SndS ow (ifxP X c0 a) := by
  intro p l e R s m args below meth c cc nL G Qf cl hX hC ga nx9 lb gb rt cs ga' cs' hc hD r u H locs cells slots ls Kn Kb Kr hL hA hw hn hb hr hx9
  simp only [ifxP] at hc hw
  split at hc
  case h_2 => cases hc
  rename_i cs1 h0
  split at hc
  case h_2 => cases hc
  rename_i ga1 cs2 h1
  split at hc
  case isFalse => cases hc
  rename_i hcond
  cases hc
  have D2 := da _ _ _ _ _ _ _ _ _ _ h1 (dc _ _ _ _ _ _ _ h0 hD)
  refine hc0 p l e R s m args below meth c cc nL G Qf cl hX hC ga 0 true X cs cs1 h0 hD r u H locs cells slots ls [] _ _ hL hA (Nat.le_refl _) hw ?_ ?_
  · intro u' H' locs' cells' slots' hA' hq D1
    exact ha p l e R s m args below meth c cc nL G Qf cl hX hC ga nx9 lb gb rt cs1 ga1 cs' h1 D1 r u' H' locs' cells' slots' ls Kn Kb Kr hL hA' hq (fun r' u2 H2 locs2 cells2 slots2 ls2 hL2 hA2 hq2 => hn r' u2 H2 locs2 cells2 slots2 ls2 (hL2.sub int9_r) hA2 hq2) hb hr hx9
  · intro u' H' locs' cells' slots' hA' hq D1
    simp only [if_true]
    rw [← hcond.1]
    exact okt_W hcond.2 hX.1 hX.2.1 D2 (hn r u' H' locs' cells' slots' ls (hL.sub int9_l) hA' hq)
def ifx {ow : Nat} (X : Nat) (c : CX ow) (a : SX ow) : SX ow := ⟨ifxP X c.1 a.1, ifx_ok ow X c.1 a.1 c.2.1 a.2.1 c.2.2 a.2.2, ifx_d X c.1 a.1 c.2.2 a.2.2⟩
end
