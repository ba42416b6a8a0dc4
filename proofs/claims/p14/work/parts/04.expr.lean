/-! programs as trees: what a tree of expressions does to the machine, said once -/
def rd (u : Sto) (t : Nat) (a j : Int) : Int := if t = 2 then u.1 a j else u.2.1 a j
def upm (f : Mem) (a j v : Int) : Mem := fun x y => if x = a ∧ y = j then v else f x y
def wr (u : Sto) (t : Nat) (a j v : Int) : Sto := if t = 2 then (upm u.1 a j v, u.2) else (u.1, upm u.2.1 a j v, u.2.2)
def upr (r : Rho) (i : Nat) (v : Int) : Rho := fun j => if j = i then v else r j
def stn (u : Sto) : Int := u.2.2.1
def sex (u : Sto) : Int := u.2.2.2.1
def sbc (u : Sto) : Nat := u.2.2.2.2.1
def sbw (u : Sto) : Nat := u.2.2.2.2.2
def bud (u : Sto) (c w : Nat) : Sto := (u.1, u.2.1, u.2.2.1, u.2.2.2.1, c, w)
def live (u : Sto) (a : Int) (k : Nat) : Prop := 0 < a ∧ a < stn u ∧ kcls a = k
def cellAt (G : Geo) (u : Sto) (H : Heap) (a : Int) : Prop :=
  ∃ cell : Cell, H[G.1 a]? = some cell ∧ cell.vm = .none ∧ cell.cls = G.2.1 (kcls a) ∧ (14 ≤ kcls a → cell.slots.size = (klen a).toNat) ∧ ∀ j : Nat, (j : Int) < klen a → cell.slots[G.2.2.1 (kcls a) j]? = some (enc G.1 (ety (kcls a) j) (rd u (ety (kcls a) j) a j))
def Rel (G : Geo) (u : Sto) (H : Heap) : Prop :=
  (∀ a : Int, 0 < a → a < stn u → kcls a ≠ 0 → cellAt G u H a) ∧
  (∀ a : Int, 0 < a → a < stn u → ∀ j : Nat, (j : Int) < klen a → ety (kcls a) j ≠ 2 → okv (ety (kcls a) j) (u.2.1 a j)) ∧
  1 ≤ stn u ∧ G.2.2.2 + (stn u).toNat ≤ H.size + 1 ∧ (sex u = 1 → H.size + 1 = G.2.2.2 + (stn u).toNat)
def KOK (G : Geo) (U : State) : Prop :=
  (∀ a : Int, 0 < a → G.1 a = G.2.2.2 + (a.toNat - 1)) ∧
  (∀ k, 1 ≤ k → k ≤ 13 → u_Kn U (kC k) (kF k) (kN k) (G.2.1 k) (G.2.2.1 k)) ∧
  (∀ k i j, 1 ≤ k → k ≤ 13 → i < kN k → j < kN k → i ≠ j → G.2.2.1 k i ≠ G.2.2.1 k j) ∧
  (∀ k, 14 ≤ k → k ≤ 18 → ArrOfT U (G.2.1 k) (aT k)) ∧ (∀ k j, 14 ≤ k → G.2.2.1 k j = j) ∧ ∀ k, 14 ≤ k → k ≤ 18 → va_RA U (G.2.1 k) (aT k)
theorem KOK.moved {G : Geo} {u U : State} (hvm : u.vm.Alike U.vm) (h : KOK G u) : KOK G U :=
  ⟨h.1, fun k h1 h2 => u_Kn_moved hvm (h.2.1 k h1 h2), h.2.2.1, fun k h1 h2 => arrOfT_moved hvm (h.2.2.2.1 k h1 h2), h.2.2.2.2.1, fun k h1 h2 => (h.2.2.2.2.2 k h1 h2).moved hvm⟩
def sTx : List String := ["fbtwph", "fbt", "123456789", "hfnbsipr", "<>=", "+-", "*/", "tdwscgo"]
def sCp : List Nat := [236, 207, 218, 276, 281, 283, 285, 402]
def sLen : List Nat := [6, 3, 9, 8, 3, 2, 2, 7]
def sByt : List (List Int32) := [[102, 98, 116, 119, 112, 104], [102, 98, 116], [49, 50, 51, 52, 53, 54, 55, 56, 57], [104, 102, 110, 98, 115, 105, 112, 114], [60, 62, 61], [43, 45], [42, 47], [116, 100, 119, 115, 99, 103, 111]]
/-- what lies below the base and is never written: texts, statics -/
def SOH (G : Geo) (U : State) (H : Heap) : Prop :=
  (∃ adV : Nat → Nat, vk_S 8 sLen sByt (fun i => G.1 (-1 - (i : Int))) adV (fun q => G.2.2.2 ≤ q) U H) ∧ (∀ i : Nat, i < 8 → vk_R "HotThroughModel" (sCp.getD i 0) (sTx.getD i "") (G.1 (-1 - (i : Int))) U) ∧
  va_Z "java/lang/String" "COMPACT_STRINGS" "Z" (.int 1) (fun q => G.2.2.2 ≤ q) U H ∧ va_Zq "jdk/internal/util/Preconditions" "SIOOBE_FORMATTER" "Ljava/util/function/BiFunction;" (fun q => G.2.2.2 ≤ q) U H ∧
  vx_Zq Bundle.tN "UNASSIGNED_STACK" Bundle.steD (fun q => G.2.2.2 ≤ q) U H ∧ vx_Zq Bundle.tN "SUPPRESSED_SENTINEL" Bundle.listD (fun q => G.2.2.2 ≤ q) U H
def SOK (G : Geo) (U : State) : Prop := SOH G U U.heap
theorem SOK.on {G : Geo} {s U : State} (h : SOK G s) (hW : s.WarmedH U.vm) (hq : ∀ a : Nat, a < G.2.2.2 → U.heap[a]? = s.heap[a]?) : SOK G U := by
  have hk : ∀ a : Nat, a < s.heap.size → ¬ G.2.2.2 ≤ a → U.heap[a]? = s.heap[a]? := fun a _ h2 => hq a (by omega)
  obtain ⟨⟨adV, h1⟩, h2, h3, h4, h5, h6⟩ := h
  exact ⟨⟨adV, (h1.moved hW.alike).kept hk⟩, fun i hi => (h2 i hi).warm hW, (h3.moved hW.alike).kept hk, (h4.moved hW.alike).kept hk, (h5.moved hW.alike).kept hk, (h6.moved hW.alike).kept hk⟩
def FrS (G : Geo) (H0 H : Heap) (locs : List Loc) : Prop := H0.size ≤ H.size ∧ (∀ q : Nat, q < G.2.2.2 → H[q]? = H0[q]?) ∧ ∀ x ∈ locs, G.2.2.2 ≤ x.base
def At (G : Geo) (R : Room) (H0 : Heap) (u : Sto) (H : Heap) (locs : List Loc) (cells slots : Nat) : Prop :=
  Rel G u H ∧ FrS G H0 H locs ∧ cells + sbc u ≤ R.cells ∧ slots + sbw u ≤ R.slots
abbrev Cds : Type := List (Nat × Instr × Nat)
def pcOf : Cds → Nat
  | [] => 0
  | q :: _ => q.1
def Dec (cc : ByteArray) : Cds → Prop
  | [] => True
  | q :: t => decode cc q.1 = .ok (q.2.1, q.2.2) ∧ (t = [] ∨ pcOf t = q.1 + q.2.2) ∧ Dec cc t
/-- past one instruction, more to come -/
def nx (i : Instr) (n : Nat) : Cds → Option Cds
  | q :: r :: t => if q.2.1 = i ∧ q.2.2 = n then some (r :: t) else none
  | _ => none
theorem nx_ok {i : Instr} {n : Nat} {cs t : Cds} {cc : ByteArray} (h : nx i n cs = some t) (hD : Dec cc cs) : decode cc (pcOf cs) = .ok (i, n) ∧ pcOf t = pcOf cs + n ∧ Dec cc t := by
  match cs, h, hD with
  | [], h, _ => simp [nx] at h
  | [_], h, _ => simp [nx] at h
  | q :: r :: t', h, hD =>
    simp only [nx] at h
    split at h
    · rename_i hq
      cases h
      obtain ⟨h1, h2, h3⟩ := hD
      rw [hq.1, hq.2] at h1
      refine ⟨h1, ?_, h3⟩
      rcases h2 with h2 | h2
      · cases h2
      · rw [h2, hq.2]; rfl
    · cases h
/-- the last one of a stretch: what comes behind it, if anything does -/
def nxe (i : Instr) (n : Nat) : Cds → Option Cds
  | q :: t => if q.2.1 = i ∧ q.2.2 = n then some t else none
  | _ => none
theorem nxe_ok {i : Instr} {n : Nat} {cs t : Cds} {cc : ByteArray} (h : nxe i n cs = some t) (hD : Dec cc cs) : decode cc (pcOf cs) = .ok (i, n) ∧ Dec cc t := by
  match cs, h, hD with
  | [], h, _ => simp [nxe] at h
  | q :: t', h, hD =>
    simp only [nxe] at h
    split at h
    · rename_i hq
      cases h
      obtain ⟨h1, h2, h3⟩ := hD
      rw [hq.1, hq.2] at h1
      exact ⟨h1, h3⟩
    · cases h
abbrev Gam : Type := List (Nat × Nat)
def LR (G : Geo) (nL : Nat) (ga : Gam) (r : Rho) (ls : Array Slot) : Prop := lv_has ls nL (ga.map fun q => (q.1, enc G.1 q.2 (r q.1))) ∧ ∀ q ∈ ga, okv q.2 (r q.1)
theorem LR.at {G : Geo} {nL : Nat} {ga : Gam} {r : Rho} {ls : Array Slot} (h : LR G nL ga r ls) {i t : Nat} (hm : (i, t) ∈ ga) : ls[i]? = some (.val (enc G.1 t (r i))) ∧ okv t (r i) :=
  ⟨h.1.2.2 (i, enc G.1 t (r i)) (List.mem_map.mpr ⟨(i, t), hm, rfl⟩), h.2 (i, t) hm⟩
theorem LR.sub {G : Geo} {nL : Nat} {ga gb : Gam} {r : Rho} {ls : Array Slot} (h : LR G nL ga r ls) (hs : ∀ q ∈ gb, q ∈ ga) : LR G nL gb r ls :=
  ⟨⟨h.1.1, h.1.2.1, fun q hq => by
    obtain ⟨z, hz, rfl⟩ := List.mem_map.mp hq
    exact h.1.2.2 _ (List.mem_map.mpr ⟨z, hs z hz, rfl⟩)⟩, fun q hq => h.2 q (hs q hq)⟩
abbrev ClT : Type := Nat → List Int → (Int → Sto → Prop) → Sto → Prop
def encA (al : Int → Nat) : List Nat → List Int → List Value
  | t :: ts, v :: vs => enc al t v :: encA al ts vs
  | _, _ => []
def okA : List Nat → List Int → Prop
  | [], [] => True
  | t :: ts, v :: vs => okv t v ∧ okA ts vs
  | _, _ => False
def encR (al : Int → Nat) (t : Nat) (v : Int) : Option Value := if t = 9 then none else some (enc al t v)
def FrH (G : Geo) (st t : State) : Prop := st.heap.size ≤ t.heap.size ∧ ∀ q : Nat, q < G.2.2.2 → t.heap[q]? = st.heap[q]?
def PcOf (G : Geo) (k : Nat) (vs : List Int) (u : Sto) : Array Value → State → Prop := fun a U => a = (encA G.1 (mArg k) vs).toArray ∧ okA (mArg k) vs ∧ Rel G u U.heap ∧ KOK G U ∧ G.2.2.2 ≤ U.heap.size ∧ SOK G U
def QcOf (G : Geo) (k : Nat) (Q : Int → Sto → Prop) : Array Value → State → Outcome → State → Prop := fun _ st o t =>
  (∃ (v : Int) (u : Sto), o = .returned (encR G.1 (mRty k) v) ∧ okv (mRty k) v ∧ Q v u ∧ Rel G u t.heap) ∧ FrH G st t
def wsOf (k : Nat) : List Cond := mWor k :: gTbl
def ClOK (l : Launch) (R : Room) (G : Geo) (cl : ClT) : Prop := ∀ (k : Nat) (vs : List Int) (Q : Int → Sto → Prop) (u : Sto), cl k vs Q u → sbc u ≤ mCel k → sbw u ≤ mSlo k →
  ∃ rm : Room, rm.cells = mCel k ∧ rm.slots = mSlo k ∧ rm.frames + 1 ≤ R.frames ∧ 20 + (mMax k + 11) + rm.locals ≤ R.locals ∧
    Met l (mNam k) (wsOf k) rm (PcOf G k vs u) (QcOf G k Q) (mCel k) (mSlo k) (fun q => G.2.2.2 ≤ q)
def MX (p : Program) (R : Room) (s : State) (m : MethodId) (args : Array Value) (c : Code) (cc : ByteArray) (nL ow : Nat) (G : Geo) : Prop :=
  p.tables.exec = Jvm.exec ∧ c.code = cc ∧ c.maxLocals = nL ∧ s.vm.findClass (kC ow) = some m.cls ∧ (∀ w ∈ gTbl, w.before args s = true) ∧ KOK G s ∧ G.2.2.2 ≤ s.heap.size ∧ 1 ≤ R.frames ∧ 40 ≤ R.locals ∧ SOK G s ∧ (100 ≤ ow → ∀ mt : Method, s.vm.method? m = some mt → mt.name = "<init>")
def cats (st : List Value) : Nat := (st.map fun v => v.category).sum
theorem cats_cons (v : Value) (st : List Value) : cats (v :: st) = v.category + cats st := by simp [cats]
theorem cat_enc (al : Int → Nat) (t : Nat) (v : Int) : (enc al t v).category = if t = 1 then 2 else 1 := by
  unfold enc
  split
  · rfl
  · split
    · split <;> rfl
    · rfl
abbrev XE : Type := (Gam → Nat → Cds → Option (Nat × Cds)) × (ClT → (Int → Sto → Prop) → Rho → Sto → Prop)
def SndE (ow : Nat) (x : XE) : Prop :=
  ∀ (p : Program) (l : Launch) (e : Env) (R : Room) (s : State) (m : MethodId) (args : Array Value) (below : List Frame) (meth : Method) (c : Code) (cc : ByteArray) (nL : Nat) (G : Geo) (Qf : State → Prop) (cl : ClT),
  MX p R s m args c cc nL ow G → ClOK l R G cl → ∀ (ga : Gam) (d : Nat) (cs : Cds) (t : Nat) (cs' : Cds), x.1 ga d cs = some (t, cs') → Dec cc cs →
  ∀ (r : Rho) (u : Sto) (H : Heap) (locs : List Loc) (cells slots : Nat) (ls : Array Slot) (st : List Value) (Q : Int → Sto → Prop),
  LR G nL ga r ls → At G R s.heap u H locs cells slots → cats st ≤ d → x.2 cl Q r u →
  (∀ (v : Int) (u' : Sto) (H' : Heap) (locs' : List Loc) (cells' slots' : Nat), okv t v → At G R s.heap u' H' locs' cells' slots' → Q v u' → Dec cc cs' → W p l e R s m args below meth c H' locs' cells' slots' Qf (F0 m (pcOf cs') ls (enc G.1 t v :: st))) →
  W p l e R s m args below meth c H locs cells slots Qf (F0 m (pcOf cs) ls st)
def DecE (x : XE) : Prop := ∀ (ga : Gam) (d : Nat) (cs : Cds) (t : Nat) (cs' : Cds) (cc : ByteArray), x.1 ga d cs = some (t, cs') → Dec cc cs → Dec cc cs'
theorem map_nx {i : Instr} {n a t : Nat} {cs cs' : Cds} {cc : ByteArray} (h : (nx i n cs).map (fun x => (a, x)) = some (t, cs')) (hD : Dec cc cs) : Dec cc cs' := by
  obtain ⟨x, hx, e1⟩ := Option.map_eq_some_iff.mp h
  cases e1
  exact (nx_ok hx hD).2.2
abbrev EX (ow : Nat) : Type := { x : XE // SndE ow x ∧ DecE x }

def insC (n : Int) : Instr × Nat := if -1 ≤ n ∧ n ≤ 5 then (.iconst n, 1) else if -128 ≤ n ∧ n ≤ 127 then (.bipush n, 2) else (.sipush n, 3)
def cstP (n : Int) : XE := (fun _ _ cs => if -32768 ≤ n ∧ n ≤ 32767 then (nx (insC n).1 (insC n).2 cs).map (fun x => (0, x)) else none, fun _ Q _ u => Q n u)
theorem cst_ok (ow : Nat) (n : Int) : SndE ow (cstP n) := by
  intro p l e R s m args below meth c cc nL G Qf cl hX hC ga d cs t cs' hc hD r u H locs cells slots ls st Q hL hA hs hw k
  simp only [cstP] at hc hw
  split at hc
  case isFalse => cases hc
  rename_i hn
  obtain ⟨x, hx, e1⟩ := Option.map_eq_some_iff.mp hc
  cases e1
  obtain ⟨h1, h2, h3⟩ := nx_ok hx hD
  have hi : inI n := by unfold inI; omega
  have k' := k n u H locs cells slots hi hA hw h3
  rw [h2, enc_0] at k'
  unfold insC at h1 k'
  split at h1
  · rename_i q
    rw [if_pos q] at k'
    exact lv_iconst hX.1 hX.2.1 h1 rfl k'
  · rename_i q
    rw [if_neg q] at k'
    split at h1
    · rename_i q2
      rw [if_pos q2] at k'
      exact lv_bipush hX.1 hX.2.1 h1 (Int8.toInt32_ofInt (by show (-128 : Int) ≤ n; omega) (by show n ≤ (127 : Int); omega)) k'
    · rename_i q2
      rw [if_neg q2] at k'
      exact lv_sipush hX.1 hX.2.1 h1 (Int16.toInt32_ofInt (by show (-32768 : Int) ≤ n; omega) (by show n ≤ (32767 : Int); omega)) k'
theorem cst_d (n : Int) : DecE (cstP n) := by
  intro ga d cs t cs' cc hc hD
  simp only [cstP] at hc
  split at hc
  case isFalse => cases hc
  exact map_nx hc hD
def cst {ow : Nat} (n : Int) : EX ow := ⟨cstP n, cst_ok ow n, cst_d n⟩
def insI (i : Nat) : Instr × Nat := if h : i < 4 then (.iload_n ⟨i, h⟩, 1) else (.iload i, 2)
def insA (i : Nat) : Instr × Nat := if h : i < 4 then (.aload_n ⟨i, h⟩, 1) else (.aload i, 2)
def insJ (i : Nat) : Instr × Nat := if h : i < 4 then (.lload_n ⟨i, h⟩, 1) else (.lload i, 2)
def ldiP (i : Nat) : XE := (fun ga _ cs => if (i, 0) ∈ ga then (nx (insI i).1 (insI i).2 cs).map (fun x => (0, x)) else none, fun _ Q r u => Q (r i) u)
theorem ldi_ok (ow : Nat) (i : Nat) : SndE ow (ldiP i) := by
  intro p l e R s m args below meth c cc nL G Qf cl hX hC ga d cs t cs' hc hD r u H locs cells slots ls st Q hL hA hs hw k
  simp only [ldiP] at hc hw
  split at hc
  case isFalse => cases hc
  rename_i hm
  obtain ⟨x, hx, e1⟩ := Option.map_eq_some_iff.mp hc
  cases e1
  obtain ⟨h1, h2, h3⟩ := nx_ok hx hD
  obtain ⟨hl, hi⟩ := hL.at hm
  have k' := k (r i) u H locs cells slots hi hA hw h3
  rw [h2] at k'
  unfold insI at h1 k'
  split at h1
  · rename_i q
    rw [dif_pos q] at k'
    exact lv_iload_n hX.1 hX.2.1 h1 rfl hl k'
  · rename_i q
    rw [dif_neg q] at k'
    exact lv_iload hX.1 hX.2.1 h1 hl k'
theorem ldi_d (i : Nat) : DecE (ldiP i) := by
  intro ga d cs t cs' cc hc hD
  simp only [ldiP] at hc
  split at hc
  case isFalse => cases hc
  exact map_nx hc hD
def ldi {ow : Nat} (i : Nat) : EX ow := ⟨ldiP i, ldi_ok ow i, ldi_d i⟩
def ldjP (i : Nat) : XE := (fun ga _ cs => if (i, 1) ∈ ga then (nx (insJ i).1 (insJ i).2 cs).map (fun x => (1, x)) else none, fun _ Q r u => Q (r i) u)
theorem ldj_ok (ow : Nat) (i : Nat) : SndE ow (ldjP i) := by
  intro p l e R s m args below meth c cc nL G Qf cl hX hC ga d cs t cs' hc hD r u H locs cells slots ls st Q hL hA hs hw k
  simp only [ldjP] at hc hw
  split at hc
  case isFalse => cases hc
  rename_i hm
  obtain ⟨x, hx, e1⟩ := Option.map_eq_some_iff.mp hc
  cases e1
  obtain ⟨h1, h2, h3⟩ := nx_ok hx hD
  obtain ⟨hl, hi⟩ := hL.at hm
  have k' := k (r i) u H locs cells slots hi hA hw h3
  rw [h2] at k'
  unfold insJ at h1 k'
  split at h1
  · rename_i q
    rw [dif_pos q] at k'
    exact lv_lload_n hX.1 hX.2.1 h1 rfl hl k'
  · rename_i q
    rw [dif_neg q] at k'
    exact lv_lload hX.1 hX.2.1 h1 hl k'
theorem ldj_d (i : Nat) : DecE (ldjP i) := by
  intro ga d cs t cs' cc hc hD
  simp only [ldjP] at hc
  split at hc
  case isFalse => cases hc
  exact map_nx hc hD
def ldj {ow : Nat} (i : Nat) : EX ow := ⟨ldjP i, ldj_ok ow i, ldj_d i⟩
def ldaP (i : Nat) : XE := (fun ga _ cs => if (i, 2) ∈ ga then (nx (insA i).1 (insA i).2 cs).map (fun x => (2, x)) else none, fun _ Q r u => r i ≠ 0 ∧ Q (r i) u)
theorem lda_ok (ow : Nat) (i : Nat) : SndE ow (ldaP i) := by
  intro p l e R s m args below meth c cc nL G Qf cl hX hC ga d cs t cs' hc hD r u H locs cells slots ls st Q hL hA hs hw k
  simp only [ldaP] at hc hw
  split at hc
  case isFalse => cases hc
  rename_i hm
  obtain ⟨x, hx, e1⟩ := Option.map_eq_some_iff.mp hc
  cases e1
  obtain ⟨h1, h2, h3⟩ := nx_ok hx hD
  obtain ⟨hl, hi⟩ := hL.at hm
  have k' := k (r i) u H locs cells slots hi hA hw.2 h3
  rw [h2, enc_2 _ hw.1] at k'
  rw [enc_2 _ hw.1] at hl
  unfold insA at h1 k'
  split at h1
  · rename_i q
    rw [dif_pos q] at k'
    exact lv_aload_n hX.1 hX.2.1 h1 rfl hl k'
  · rename_i q
    rw [dif_neg q] at k'
    exact lv_aload hX.1 hX.2.1 h1 hl k'
theorem lda_d (i : Nat) : DecE (ldaP i) := by
  intro ga d cs t cs' cc hc hD
  simp only [ldaP] at hc
  split at hc
  case isFalse => cases hc
  exact map_nx hc hD
def lda {ow : Nat} (i : Nat) : EX ow := ⟨ldaP i, lda_ok ow i, lda_d i⟩

def negP (a : XE) : XE := (fun ga d cs => match a.1 ga d cs with
    | some (0, cs1) => (nx .ineg 1 cs1).map (fun x => (0, x))
    | _ => none, fun cl Q r u => a.2 cl (fun v u' => Q (w32 (-v)) u') r u)
theorem neg_ok (ow : Nat) (a : XE) (ha : SndE ow a) : SndE ow (negP a) := by
  intro p l e R s m args below meth c cc nL G Qf cl hX hC ga d cs t cs' hc hD r u H locs cells slots ls st Q hL hA hs hw k
  simp only [negP] at hc hw
  split at hc
  case h_2 => cases hc
  rename_i cs1 h0
  obtain ⟨x, hx, e1⟩ := Option.map_eq_some_iff.mp hc
  cases e1
  refine ha p l e R s m args below meth c cc nL G Qf cl hX hC ga d cs 0 cs1 h0 hD r u H locs cells slots ls st _ hL hA hs hw ?_
  intro v u' H' locs' cells' slots' hv hA' hq hD1
  obtain ⟨h1, h2, h3⟩ := nx_ok hx hD1
  have hv : inI v := hv
  have k' := k (w32 (-v)) u' H' locs' cells' slots' (w32_in _) hA' hq h3
  rw [h2] at k'
  exact lv_ineg hX.1 hX.2.1 h1 (by rw [← Int32.ofInt_neg, ← ofI_bmod]; exact k')
theorem neg_d (a : XE) (ha : DecE a) : DecE (negP a) := by
  intro ga d cs t cs' cc hc hD
  simp only [negP] at hc
  split at hc
  case h_2 => cases hc
  rename_i h0
  exact map_nx hc (ha _ _ _ _ _ _ h0 hD)
def neg {ow : Nat} (a : EX ow) : EX ow := ⟨negP a.1, neg_ok ow a.1 a.2.1, neg_d a.1 a.2.2⟩

def cvbP (a : XE) : XE := (fun ga d cs => match a.1 ga d cs with
    | some (0, cs1) => (nx .i2b 1 cs1).map (fun x => (0, x))
    | _ => none, fun cl Q r u => a.2 cl (fun v u' => Q (i2b v) u') r u)
theorem cvb_ok (ow : Nat) (a : XE) (ha : SndE ow a) : SndE ow (cvbP a) := by
  intro p l e R s m args below meth c cc nL G Qf cl hX hC ga d cs t cs' hc hD r u H locs cells slots ls st Q hL hA hs hw k
  simp only [cvbP] at hc hw
  split at hc
  case h_2 => cases hc
  rename_i cs1 h0
  obtain ⟨x, hx, e1⟩ := Option.map_eq_some_iff.mp hc
  cases e1
  refine ha p l e R s m args below meth c cc nL G Qf cl hX hC ga d cs 0 cs1 h0 hD r u H locs cells slots ls st _ hL hA hs hw ?_
  intro v u' H' locs' cells' slots' hv hA' hq hD1
  obtain ⟨h1, h2, h3⟩ := nx_ok hx hD1
  have hv : inI v := hv
  have k' := k (i2b v) u' H' locs' cells' slots' (toInt_in _) hA' hq h3
  rw [h2] at k'
  exact lv_i2b hX.1 hX.2.1 h1 (by rw [i2b, Int32.ofInt_toInt]) k'
theorem cvb_d (a : XE) (ha : DecE a) : DecE (cvbP a) := by
  intro ga d cs t cs' cc hc hD
  simp only [cvbP] at hc
  split at hc
  case h_2 => cases hc
  rename_i h0
  exact map_nx hc (ha _ _ _ _ _ _ h0 hD)
def cvb {ow : Nat} (a : EX ow) : EX ow := ⟨cvbP a.1, cvb_ok ow a.1 a.2.1, cvb_d a.1 a.2.2⟩

def cvsP (a : XE) : XE := (fun ga d cs => match a.1 ga d cs with
    | some (0, cs1) => (nx .i2s 1 cs1).map (fun x => (0, x))
    | _ => none, fun cl Q r u => a.2 cl (fun v u' => Q (i2s v) u') r u)
theorem cvs_ok (ow : Nat) (a : XE) (ha : SndE ow a) : SndE ow (cvsP a) := by
  intro p l e R s m args below meth c cc nL G Qf cl hX hC ga d cs t cs' hc hD r u H locs cells slots ls st Q hL hA hs hw k
  simp only [cvsP] at hc hw
  split at hc
  case h_2 => cases hc
  rename_i cs1 h0
  obtain ⟨x, hx, e1⟩ := Option.map_eq_some_iff.mp hc
  cases e1
  refine ha p l e R s m args below meth c cc nL G Qf cl hX hC ga d cs 0 cs1 h0 hD r u H locs cells slots ls st _ hL hA hs hw ?_
  intro v u' H' locs' cells' slots' hv hA' hq hD1
  obtain ⟨h1, h2, h3⟩ := nx_ok hx hD1
  have hv : inI v := hv
  have k' := k (i2s v) u' H' locs' cells' slots' (toInt_in _) hA' hq h3
  rw [h2] at k'
  exact lv_i2s hX.1 hX.2.1 h1 (by rw [i2s, Int32.ofInt_toInt]) k'
theorem cvs_d (a : XE) (ha : DecE a) : DecE (cvsP a) := by
  intro ga d cs t cs' cc hc hD
  simp only [cvsP] at hc
  split at hc
  case h_2 => cases hc
  rename_i h0
  exact map_nx hc (ha _ _ _ _ _ _ h0 hD)
def cvs {ow : Nat} (a : EX ow) : EX ow := ⟨cvsP a.1, cvs_ok ow a.1 a.2.1, cvs_d a.1 a.2.2⟩

def cvcP (a : XE) : XE := (fun ga d cs => match a.1 ga d cs with
    | some (0, cs1) => (nx .i2c 1 cs1).map (fun x => (0, x))
    | _ => none, fun cl Q r u => a.2 cl (fun v u' => Q (i2c v) u') r u)
theorem cvc_ok (ow : Nat) (a : XE) (ha : SndE ow a) : SndE ow (cvcP a) := by
  intro p l e R s m args below meth c cc nL G Qf cl hX hC ga d cs t cs' hc hD r u H locs cells slots ls st Q hL hA hs hw k
  simp only [cvcP] at hc hw
  split at hc
  case h_2 => cases hc
  rename_i cs1 h0
  obtain ⟨x, hx, e1⟩ := Option.map_eq_some_iff.mp hc
  cases e1
  refine ha p l e R s m args below meth c cc nL G Qf cl hX hC ga d cs 0 cs1 h0 hD r u H locs cells slots ls st _ hL hA hs hw ?_
  intro v u' H' locs' cells' slots' hv hA' hq hD1
  obtain ⟨h1, h2, h3⟩ := nx_ok hx hD1
  have hv : inI v := hv
  have k' := k (i2c v) u' H' locs' cells' slots' (toInt_in _) hA' hq h3
  rw [h2] at k'
  exact lv_i2c hX.1 hX.2.1 h1 (by rw [i2c, Int32.ofInt_toInt]) k'
theorem cvc_d (a : XE) (ha : DecE a) : DecE (cvcP a) := by
  intro ga d cs t cs' cc hc hD
  simp only [cvcP] at hc
  split at hc
  case h_2 => cases hc
  rename_i h0
  exact map_nx hc (ha _ _ _ _ _ _ h0 hD)
def cvc {ow : Nat} (a : EX ow) : EX ow := ⟨cvcP a.1, cvc_ok ow a.1 a.2.1, cvc_d a.1 a.2.2⟩

def cvjP (a : XE) : XE := (fun ga d cs => match a.1 ga d cs with
    | some (0, cs1) => (nx .i2l 1 cs1).map (fun x => (1, x))
    | _ => none, fun cl Q r u => a.2 cl (fun v u' => Q (v) u') r u)
theorem cvj_ok (ow : Nat) (a : XE) (ha : SndE ow a) : SndE ow (cvjP a) := by
  intro p l e R s m args below meth c cc nL G Qf cl hX hC ga d cs t cs' hc hD r u H locs cells slots ls st Q hL hA hs hw k
  simp only [cvjP] at hc hw
  split at hc
  case h_2 => cases hc
  rename_i cs1 h0
  obtain ⟨x, hx, e1⟩ := Option.map_eq_some_iff.mp hc
  cases e1
  refine ha p l e R s m args below meth c cc nL G Qf cl hX hC ga d cs 0 cs1 h0 hD r u H locs cells slots ls st _ hL hA hs hw ?_
  intro v u' H' locs' cells' slots' hv hA' hq hD1
  obtain ⟨h1, h2, h3⟩ := nx_ok hx hD1
  have hv : inI v := hv
  have k' := k (v) u' H' locs' cells' slots' (⟨by have := hv.1; omega, by have := hv.2; omega⟩) hA' hq h3
  rw [h2] at k'
  exact lv_i2l hX.1 hX.2.1 h1 (Int32.toInt64_ofInt (by show (-2147483648 : Int) ≤ v; exact hv.1) (by show v ≤ (2147483647 : Int); have := hv.2; omega)) k'
theorem cvj_d (a : XE) (ha : DecE a) : DecE (cvjP a) := by
  intro ga d cs t cs' cc hc hD
  simp only [cvjP] at hc
  split at hc
  case h_2 => cases hc
  rename_i h0
  exact map_nx hc (ha _ _ _ _ _ _ h0 hD)
def cvj {ow : Nat} (a : EX ow) : EX ow := ⟨cvjP a.1, cvj_ok ow a.1 a.2.1, cvj_d a.1 a.2.2⟩

def BinR (ins : Instr) (g : Int32 → Int32 → Int32) (ok : Int → Prop) : Prop := ∀ (p : Program) (l : Launch) (e : Env) (R : Room) (s : State) (m : MethodId) (args : Array Value) (below : List Frame) (meth : Method) (c : Code) (cc : ByteArray) (H : Heap) (locs : List Loc) (cells slots : Nat) (Q : State → Prop) (pc : Nat) (ls : Array Slot) (rest : List Value) (x y : Int), p.tables.exec = Jvm.exec → c.code = cc → decode cc pc = .ok (ins, 1) → ok y → inI y →
  W p l e R s m args below meth c H locs cells slots Q (F0 m (pc + 1) ls (.int (g (Int32.ofInt x) (Int32.ofInt y)) :: rest)) → W p l e R s m args below meth c H locs cells slots Q (F0 m pc ls (.int (Int32.ofInt y) :: .int (Int32.ofInt x) :: rest))
def binP (ins : Instr) (f : Int → Int → Int) (ok : Int → Prop) (a b : XE) : XE := (fun ga d cs => match a.1 ga d cs with
    | some (0, cs1) => match b.1 ga (d + 1) cs1 with
      | some (0, cs2) => (nx ins 1 cs2).map (fun x => (0, x))
      | _ => none
    | _ => none, fun cl Q r u => a.2 cl (fun v u' => b.2 cl (fun w u2 => ok w ∧ Q (f v w) u2) r u') r u)
theorem bin_ok (ow : Nat) (ins : Instr) (f : Int → Int → Int) (ok : Int → Prop) (g : Int32 → Int32 → Int32) (hr : BinR ins g ok) (hf : ∀ x y, inI (f x y)) (hg : ∀ x y, inI x → inI y → Int32.ofInt (f x y) = g (Int32.ofInt x) (Int32.ofInt y)) (a b : XE) (ha : SndE ow a) (hb : SndE ow b) : SndE ow (binP ins f ok a b) := by
  intro p l e R s m args below meth c cc nL G Qf cl hX hC ga d cs t cs' hc hD r u H locs cells slots ls st Q hL hA hs hw k
  simp only [binP] at hc hw
  split at hc
  case h_2 => cases hc
  rename_i cs1 h0
  split at hc
  case h_2 => cases hc
  rename_i cs2 h00
  obtain ⟨x, hx, e1⟩ := Option.map_eq_some_iff.mp hc
  cases e1
  refine ha p l e R s m args below meth c cc nL G Qf cl hX hC ga d cs 0 cs1 h0 hD r u H locs cells slots ls st _ hL hA hs hw ?_
  intro v u' H' locs' cells' slots' hv hA' hq hD1
  refine hb p l e R s m args below meth c cc nL G Qf cl hX hC ga (d + 1) cs1 0 cs2 h00 hD1 r u' H' locs' cells' slots' ls _ _ hL hA' ?_ hq ?_
  · rw [cats_cons, cat_enc]; simp; omega
  intro w u2 H2 locs2 cells2 slots2 hv2 hA2 hq2 hD2
  obtain ⟨h1, h2, h3⟩ := nx_ok hx hD2
  have hv : inI v := hv
  have hv2 : inI w := hv2
  have k' := k (f v w) u2 H2 locs2 cells2 slots2 (hf v w) hA2 hq2.2 h3
  rw [h2, enc_0, hg v w hv hv2] at k'
  exact hr p l e R s m args below meth c cc H2 locs2 cells2 slots2 Qf (pcOf cs2) ls st v w hX.1 hX.2.1 h1 hq2.1 hv2 k'
theorem bin_d (ins : Instr) (f : Int → Int → Int) (ok : Int → Prop) (a b : XE) (ha : DecE a) (hb : DecE b) : DecE (binP ins f ok a b) := by
  intro ga d cs t cs' cc hc hD
  simp only [binP] at hc
  split at hc
  case h_2 => cases hc
  rename_i h0
  split at hc
  case h_2 => cases hc
  rename_i h00
  exact map_nx hc (hb _ _ _ _ _ _ h00 (ha _ _ _ _ _ _ h0 hD))
def okT : Int → Prop := fun _ => True
def okN : Int → Prop := fun y => y ≠ 0
theorem add_r : BinR .iadd (fun x y => x + y) okT := fun p l e R s m args below meth c cc H locs cells slots Q pc ls rest x y hx hb hd ho hy k => lv_iadd hx hb hd k
def add {ow : Nat} (a b : EX ow) : EX ow := ⟨binP .iadd (fun a b => w32 (a + b)) okT a.1 b.1, bin_ok ow _ _ _ _ add_r (fun _ _ => w32_in _) (fun x y _ _ => by rw [ofI_bmod, Int32.ofInt_add]) a.1 b.1 a.2.1 b.2.1, bin_d _ _ _ a.1 b.1 a.2.2 b.2.2⟩
theorem sub_r : BinR .isub (fun x y => x - y) okT := fun p l e R s m args below meth c cc H locs cells slots Q pc ls rest x y hx hb hd ho hy k => lv_isub hx hb hd k
def sub {ow : Nat} (a b : EX ow) : EX ow := ⟨binP .isub (fun a b => w32 (a - b)) okT a.1 b.1, bin_ok ow _ _ _ _ sub_r (fun _ _ => w32_in _) (fun x y _ _ => by rw [ofI_bmod, Int32.ofInt_sub]) a.1 b.1 a.2.1 b.2.1, bin_d _ _ _ a.1 b.1 a.2.2 b.2.2⟩
theorem mul_r : BinR .imul (fun x y => x * y) okT := fun p l e R s m args below meth c cc H locs cells slots Q pc ls rest x y hx hb hd ho hy k => lv_imul hx hb hd k
def mul {ow : Nat} (a b : EX ow) : EX ow := ⟨binP .imul (fun a b => w32 (a * b)) okT a.1 b.1, bin_ok ow _ _ _ _ mul_r (fun _ _ => w32_in _) (fun x y _ _ => by rw [ofI_bmod, Int32.ofInt_mul]) a.1 b.1 a.2.1 b.2.1, bin_d _ _ _ a.1 b.1 a.2.2 b.2.2⟩
theorem ban_r : BinR .iand (fun x y => x &&& y) okT := fun p l e R s m args below meth c cc H locs cells slots Q pc ls rest x y hx hb hd ho hy k => lv_iand hx hb hd k
def ban {ow : Nat} (a b : EX ow) : EX ow := ⟨binP .iand iand okT a.1 b.1, bin_ok ow _ _ _ _ ban_r (fun _ _ => toInt_in _) (fun x y _ _ => Int32.ofInt_toInt _) a.1 b.1 a.2.1 b.2.1, bin_d _ _ _ a.1 b.1 a.2.2 b.2.2⟩
theorem bor_r : BinR .ior (fun x y => x ||| y) okT := fun p l e R s m args below meth c cc H locs cells slots Q pc ls rest x y hx hb hd ho hy k => lv_ior hx hb hd k
def bor {ow : Nat} (a b : EX ow) : EX ow := ⟨binP .ior ior okT a.1 b.1, bin_ok ow _ _ _ _ bor_r (fun _ _ => toInt_in _) (fun x y _ _ => Int32.ofInt_toInt _) a.1 b.1 a.2.1 b.2.1, bin_d _ _ _ a.1 b.1 a.2.2 b.2.2⟩
theorem bxo_r : BinR .ixor (fun x y => x ^^^ y) okT := fun p l e R s m args below meth c cc H locs cells slots Q pc ls rest x y hx hb hd ho hy k => lv_ixor hx hb hd k
def bxo {ow : Nat} (a b : EX ow) : EX ow := ⟨binP .ixor ixor okT a.1 b.1, bin_ok ow _ _ _ _ bxo_r (fun _ _ => toInt_in _) (fun x y _ _ => Int32.ofInt_toInt _) a.1 b.1 a.2.1 b.2.1, bin_d _ _ _ a.1 b.1 a.2.2 b.2.2⟩
theorem shl_r : BinR .ishl (fun x y => x <<< (y &&& 31)) okT := fun p l e R s m args below meth c cc H locs cells slots Q pc ls rest x y hx hb hd ho hy k => lv_ishl hx hb hd k
def shl {ow : Nat} (a b : EX ow) : EX ow := ⟨binP .ishl ishl okT a.1 b.1, bin_ok ow _ _ _ _ shl_r (fun _ _ => toInt_in _) (fun x y _ _ => Int32.ofInt_toInt _) a.1 b.1 a.2.1 b.2.1, bin_d _ _ _ a.1 b.1 a.2.2 b.2.2⟩
theorem shr_r : BinR .ishr (fun x y => x >>> (y &&& 31)) okT := fun p l e R s m args below meth c cc H locs cells slots Q pc ls rest x y hx hb hd ho hy k => lv_ishr hx hb hd k
def shr {ow : Nat} (a b : EX ow) : EX ow := ⟨binP .ishr ishr okT a.1 b.1, bin_ok ow _ _ _ _ shr_r (fun _ _ => toInt_in _) (fun x y _ _ => Int32.ofInt_toInt _) a.1 b.1 a.2.1 b.2.1, bin_d _ _ _ a.1 b.1 a.2.2 b.2.2⟩
theorem ush_r : BinR .iushr (fun x y => (x.toUInt32 >>> (y.toUInt32 &&& Int32.toUInt32 31)).toInt32) okT := fun p l e R s m args below meth c cc H locs cells slots Q pc ls rest x y hx hb hd ho hy k => lv_iushr hx hb hd rfl k
def ush {ow : Nat} (a b : EX ow) : EX ow := ⟨binP .iushr iushr okT a.1 b.1, bin_ok ow _ _ _ _ ush_r (fun _ _ => toInt_in _) (fun x y _ _ => Int32.ofInt_toInt _) a.1 b.1 a.2.1 b.2.1, bin_d _ _ _ a.1 b.1 a.2.2 b.2.2⟩
theorem dvi_r : BinR .idiv (fun x y => x / y) okN := fun p l e R s m args below meth c cc H locs cells slots Q pc ls rest x y hx hb hd ho hy k => lv_idiv hx hb hd (fun q => ho ((ofI_zero hy).mp q)) k
def dvi {ow : Nat} (a b : EX ow) : EX ow := ⟨binP .idiv idv okN a.1 b.1, bin_ok ow _ _ _ _ dvi_r (fun _ _ => toInt_in _) (fun x y _ _ => Int32.ofInt_toInt _) a.1 b.1 a.2.1 b.2.1, bin_d _ _ _ a.1 b.1 a.2.2 b.2.2⟩
theorem rmi_r : BinR .irem (fun x y => x - x / y * y) okN := fun p l e R s m args below meth c cc H locs cells slots Q pc ls rest x y hx hb hd ho hy k => lv_irem hx hb hd (fun q => ho ((ofI_zero hy).mp q)) k
def rmi {ow : Nat} (a b : EX ow) : EX ow := ⟨binP .irem irm okN a.1 b.1, bin_ok ow _ _ _ _ rmi_r (fun _ _ => toInt_in _) (fun x y _ _ => Int32.ofInt_toInt _) a.1 b.1 a.2.1 b.2.1, bin_d _ _ _ a.1 b.1 a.2.2 b.2.2⟩
