/-! trees: fields, arrays, branches, calls -/
theorem idl_ok : ∀ q ∈ idl, (1 ≤ q.1 → q.1 ≤ 13 → q.2 = kN q.1) ∧ q.1 ≤ 18 ∧ 0 ≤ q.2 ∧ q.2 < 100000 := by decide +kernel
theorem id_in (a : Int) : (kcls a, klen a) ∈ idl := by
  unfold kcls klen
  by_cases h : a < 0
  · rw [if_pos h, if_pos h]; exact List.mem_cons_self
  · rw [if_neg h, if_neg h, List.getD_eq_getElem?_getD]
    cases hq : idl[a.toNat]? with
    | none => exact List.mem_cons_self
    | some z => exact List.mem_of_getElem? hq
theorem kl_obj {a : Int} {k : Nat} (h : kcls a = k) (h1 : 1 ≤ k) (h2 : k ≤ 13) : klen a = kN k := by
  have := (idl_ok _ (id_in a)).1
  dsimp only at this
  rw [h] at this
  exact this h1 h2
theorem kl_18 (a : Int) : kcls a ≤ 18 ∧ 0 ≤ klen a ∧ klen a < 100000 := (idl_ok _ (id_in a)).2
def FldAt (ow cp k j : Nat) : Prop := Cond.fieldLink (kC ow) cp (kF k j).1 (kF k j).2.1 (kF k j).2.2.1 ∈ gTbl ∧ u_lay (kC k) (kF k) j ∈ gTbl ∧ 1 ≤ k ∧ k ≤ 13 ∧ j < kN k ∧ parseFieldDescriptor (kF k j).2.2.1 = some (kT k j) ∧ tyOK (ety k j) (kT k j)
def gty (t : Nat) : Nat := if t = 1 then 1 else if t = 2 then 2 else 0
theorem enc_g (al : Int → Nat) (t : Nat) (v : Int) : enc al (gty t) v = enc al t v := by
  unfold enc gty
  by_cases h1 : t = 1
  · simp [h1]
  · by_cases h2 : t = 2 <;> simp [h1, h2]
theorem okv_g {t : Nat} {v : Int} (h : okv t v) : okv (gty t) v := by
  by_cases h1 : t = 1
  · subst h1; exact h
  · by_cases h2 : t = 2
    · subst h2; trivial
    · have := okv_I h1 h2 h
      simp [gty, h1, h2, okv, this]
theorem rd_ok {G : Geo} {u : Sto} {H : Heap} (h : Rel G u H) {a : Int} {k j : Nat} (hl : live u a k) (hj : (j : Int) < klen a) : okv (ety k j) (rd u (ety k j) a j) := by
  obtain ⟨h1, h2, rfl⟩ := hl
  unfold rd
  split
  · rename_i q; rw [q]; trivial
  · rename_i q; exact h.2.1 a h1 h2 j hj q
theorem u_lay1 {args : Array Value} {s : State} {C : String} {T : u_T} {k : Nat} (h : (u_lay C T k).before args s = true) :
    (Cond.lays C (T k).1 (T k).2.1 (T k).2.2.1).before args s = true ∨ (Cond.laysFinal C (T k).1 (T k).2.1 (T k).2.2.1).before args s = true := by
  unfold u_lay at h
  split at h
  · exact Or.inr h
  · exact Or.inl h
def getP (cp K j : Nat) (a : XE) : XE := (fun ga d cs => match a.1 ga d cs with
    | some (2, cs1) => (nx (.getfield cp) 3 cs1).map (fun x => (gty (ety K j), x))
    | _ => none, fun cl Q r u => a.2 cl (fun v u' => live u' v K ∧ Q (rd u' (ety K j) v j) u') r u)
theorem get_ok (ow cp K j : Nat) (hf : FldAt ow cp K j) (a : XE) (ha : SndE ow a) : SndE ow (getP cp K j a) := by
  intro p l e R s m args below meth c cc nL G Qf cl hX hC ga d cs t cs' hc hD r u H locs cells slots ls st Q hL hA hs hw k
  simp only [getP] at hc hw
  split at hc
  case h_2 => cases hc
  rename_i cs1 h0
  obtain ⟨x, hx, e1⟩ := Option.map_eq_some_iff.mp hc
  cases e1
  refine ha p l e R s m args below meth c cc nL G Qf cl hX hC ga d cs 2 cs1 h0 hD r u H locs cells slots ls st _ hL hA hs hw ?_
  intro v u' H' locs' cells' slots' hv hA' hq hD1
  obtain ⟨h1, h2, h3⟩ := nx_ok hx hD1
  obtain ⟨hl, hq⟩ := hq
  obtain ⟨f1, f2, f3, f4, f5, f6, f7⟩ := hf
  have hj : (j : Int) < klen v := by rw [kl_obj hl.2.2 f3 f4]; exact_mod_cast f5
  have k' := k (rd u' (ety K j) v j) u' H' locs' cells' slots' (okv_g (rd_ok hA'.1 hl hj)) hA' hq h3
  rw [h2, enc_g] at k'
  obtain ⟨cell, q1, q2, q3, q4, q5⟩ := hA'.1.1 v hl.1 hl.2.1 (by rw [hl.2.2]; omega)
  have hts := hX.2.2.2.2.1
  obtain ⟨hS, hfc, kC', hkC, hkind⟩ := hX.2.2.2.2.2.1.2.1 K f3 f4
  obtain ⟨cf, kf, fi, f, hi, hsl⟩ := hS j f5
  rw [enc_2 _ (by have := hl.1; omega)]
  refine W.getf hX.1 hX.2.1 hX.2.2.2.1 (hts _ f1) hi (u_facts hfc hkC (u_lay1 (hts _ f2)) hi).1 q1 (by rw [q2]; exact fun h => by cases h) (v := enc G.1 (ety K j) (rd u' (ety K j) v j)) ?_ rfl rfl h1 k'
  rw [hsl]
  have := q5 j hj
  rw [hl.2.2] at this
  exact this
theorem get_d (cp K j : Nat) (a : XE) (ha : DecE a) : DecE (getP cp K j a) := by
  intro ga d cs t cs' cc hc hD
  simp only [getP] at hc
  split at hc
  case h_2 => cases hc
  rename_i h0
  exact map_nx hc (ha _ _ _ _ _ _ h0 hD)
def get {ow : Nat} {cp k j : Nat} (hf : FldAt ow cp k j) (a : EX ow) : EX ow := ⟨getP cp k j a.1, get_ok ow cp k j hf a.1 a.2.1, get_d cp k j a.1 a.2.2⟩
theorem arr_is {U : State} {cA : ClassId} {ty : FieldType} (h : ArrOfT U cA ty) {cell : Cell} (h1 : cell.cls = cA) (h2 : cell.vm = .none) : U.isArrayOf cell ty := by
  obtain ⟨-, h4⟩ := h 0 (fun _ => .null)
  exact ⟨fun k q => (by rw [h2] at q; cases q), (by rw [h1]; exact h4)⟩
def AldR (K : Nat) (ins : Instr) : Prop := ∀ (p : Program) (l : Launch) (e : Env) (R : Room) (s : State) (m : MethodId) (args : Array Value) (below : List Frame) (meth : Method) (c : Code) (cc : ByteArray) (H : Heap) (locs : List Loc) (cells slots : Nat) (Q : State → Prop) (pc : Nat) (ls : Array Slot) (rest : List Value) (a : Nat) (cell : Cell) (j : Int32) (v : Value), p.tables.exec = Jvm.exec → c.code = cc → decode cc pc = .ok (ins, 1) →
  H[a]? = some cell → s.isArrayOf cell (aT K) → cell.vm ≠ .unknown → ¬ (j < 0 ∨ cell.slots.size ≤ j.toNatClampNeg) → cell.slots[j.toNatClampNeg]? = some v →
  W p l e R s m args below meth c H locs cells slots Q (F0 m (pc + 1) ls (v :: rest)) → W p l e R s m args below meth c H locs cells slots Q (F0 m pc ls (.int j :: .ref a :: rest))
def inb (u : Sto) (a : Int) (K : Nat) (j : Int) : Prop := live u a K ∧ 0 ≤ j ∧ j < klen a
def aldP (K : Nat) (ins : Instr) (a b : XE) : XE := (fun ga d cs => match a.1 ga d cs with
    | some (2, cs1) => match b.1 ga (d + 1) cs1 with
      | some (0, cs2) => (nx ins 1 cs2).map (fun x => (gty (ety K 0), x))
      | _ => none
    | _ => none, fun cl Q r u => a.2 cl (fun v u' => b.2 cl (fun w u2 => inb u2 v K w ∧ Q (rd u2 (ety K 0) v w) u2) r u') r u)
theorem ety_arr {K : Nat} (h : 14 ≤ K) (h2 : K ≤ 18) (j : Nat) : ety K j = ety K 0 := by
  have : K = 14 ∨ K = 15 ∨ K = 16 ∨ K = 17 ∨ K = 18 := by omega
  rcases this with rfl | rfl | rfl | rfl | rfl <;> rfl
theorem arr_at {G : Geo} {u : Sto} {H : Heap} {U : State} (h : Rel G u H) (hK : KOK G U) {a : Int} {K : Nat} {j : Int} (hl : inb u a K j) (h14 : 14 ≤ K) (h18 : K ≤ 18) :
    ∃ cell : Cell, H[G.1 a]? = some cell ∧ U.isArrayOf cell (aT K) ∧ cell.vm = .none ∧ ¬ (Int32.ofInt j < 0 ∨ cell.slots.size ≤ (Int32.ofInt j).toNatClampNeg) ∧ (Int32.ofInt j).toNatClampNeg = j.toNat ∧ cell.slots[j.toNat]? = some (enc G.1 (ety K 0) (rd u (ety K 0) a j)) ∧ okv (ety K 0) (rd u (ety K 0) a j) ∧ cell.cls = G.2.1 K ∧ cell.slots.size = (klen a).toNat ∧ ∀ i : Nat, (i : Int) < klen a → cell.slots[i]? = some (enc G.1 (ety K 0) (rd u (ety K 0) a i)) := by
  obtain ⟨hl, h0, hj⟩ := hl
  have hlv := hl
  obtain ⟨l1, l2, l3⟩ := hl
  obtain ⟨cell, q1, q2, q3, q4, q5⟩ := h.1 a l1 l2 (by omega)
  obtain ⟨b1, b2, b3⟩ := kl_18 a
  have hsz := q4 (by omega)
  rw [l3] at q3 q5
  have q6 : ∀ i : Nat, (i : Int) < klen a → cell.slots[i]? = some (enc G.1 (ety K 0) (rd u (ety K 0) a i)) := fun i hi => by
    have := q5 i hi
    rw [hK.2.2.2.2.1 K i h14, ety_arr h14 h18] at this
    exact this
  have e2 : ((j.toNat : Nat) : Int) = j := Int.toNat_of_nonneg h0
  refine ⟨cell, q1, arr_is (hK.2.2.2.1 K h14 h18) q3 q2, q2, ?_, ofI_idx h0 (by omega), ?_, ?_, q3, hsz, q6⟩
  · rw [hsz]
    exact ofI_not h0 (by omega) (by omega)
  · have := q6 j.toNat (by omega)
    rw [e2] at this
    exact this
  · have := rd_ok h hlv (j := j.toNat) (by omega)
    rw [ety_arr h14 h18, e2] at this
    exact this
theorem ald_ok (ow K : Nat) (h14 : 14 ≤ K) (h18 : K ≤ 18) (ins : Instr) (hr : AldR K ins) (a b : XE) (ha : SndE ow a) (hb : SndE ow b) : SndE ow (aldP K ins a b) := by
  intro p l e R s m args below meth c cc nL G Qf cl hX hC ga d cs t cs' hc hD r u H locs cells slots ls st Q hL hA hs hw k
  simp only [aldP] at hc hw
  split at hc
  case h_2 => cases hc
  rename_i cs1 h0
  split at hc
  case h_2 => cases hc
  rename_i cs2 h00
  obtain ⟨x, hx, e1⟩ := Option.map_eq_some_iff.mp hc
  cases e1
  refine ha p l e R s m args below meth c cc nL G Qf cl hX hC ga d cs 2 cs1 h0 hD r u H locs cells slots ls st _ hL hA hs hw ?_
  intro v u' H' locs' cells' slots' hv hA' hq hD1
  refine hb p l e R s m args below meth c cc nL G Qf cl hX hC ga (d + 1) cs1 0 cs2 h00 hD1 r u' H' locs' cells' slots' ls _ _ hL hA' ?_ hq ?_
  · rw [cats_cons, cat_enc]; simp; omega
  intro w u2 H2 locs2 cells2 slots2 hv2 hA2 hq2 hD2
  obtain ⟨h1, h2, h3⟩ := nx_ok hx hD2
  obtain ⟨hib, hq2⟩ := hq2
  obtain ⟨cell, q1, q2, q3, q4, q5, q6, q7, -⟩ := arr_at hA2.1 hX.2.2.2.2.2.1 hib h14 h18
  have k' := k _ u2 H2 locs2 cells2 slots2 (okv_g q7) hA2 hq2 h3
  rw [h2, enc_g] at k'
  rw [enc_2 _ (by have := hib.1.1; omega), enc_0]
  exact hr p l e R s m args below meth c cc H2 locs2 cells2 slots2 Qf (pcOf cs2) ls st _ cell _ _ hX.1 hX.2.1 h1 q1 q2 (by rw [q3]; exact fun h => by cases h) q4 (by rw [q5]; exact q6) k'
theorem ald_d (K : Nat) (ins : Instr) (a b : XE) (ha : DecE a) (hb : DecE b) : DecE (aldP K ins a b) := by
  intro ga d cs t cs' cc hc hD
  simp only [aldP] at hc
  split at hc
  case h_2 => cases hc
  rename_i h0
  split at hc
  case h_2 => cases hc
  rename_i h00
  exact map_nx hc (hb _ _ _ _ _ _ h00 (ha _ _ _ _ _ _ h0 hD))
theorem aldi_r : AldR 14 .iaload := fun p l e R s m args below meth c cc H locs cells slots Q pc ls rest a cell j v hx hb hd h1 h2 h3 h4 h5 k => W.iald hx hb h1 h2 h3 h4 h5 rfl rfl hd k
theorem aldj_r : AldR 15 .laload := fun p l e R s m args below meth c cc H locs cells slots Q pc ls rest a cell j v hx hb hd h1 h2 h3 h4 h5 k => W.lald hx hb h1 h2 h3 h4 h5 rfl rfl hd k
theorem aldz_r : AldR 16 .baload := fun p l e R s m args below meth c cc H locs cells slots Q pc ls rest a cell j v hx hb hd h1 h2 h3 h4 h5 k => W.zald hx hb h1 h2 h3 h4 h5 rfl rfl hd k
theorem aldc_r : AldR 17 .caload := fun p l e R s m args below meth c cc H locs cells slots Q pc ls rest a cell j v hx hb hd h1 h2 h3 h4 h5 k => W.cald hx hb h1 h2 h3 h4 h5 rfl rfl hd k
theorem alda_r : AldR 18 .aaload := fun p l e R s m args below meth c cc H locs cells slots Q pc ls rest a cell j v hx hb hd h1 h2 h3 h4 h5 k => W.aald hx hb h1 h2 rfl h3 h4 h5 rfl rfl hd k
def aldi {ow : Nat} (a b : EX ow) : EX ow := ⟨aldP 14 .iaload a.1 b.1, ald_ok ow 14 (by decide) (by decide) .iaload aldi_r a.1 b.1 a.2.1 b.2.1, ald_d _ _ a.1 b.1 a.2.2 b.2.2⟩
def aldj {ow : Nat} (a b : EX ow) : EX ow := ⟨aldP 15 .laload a.1 b.1, ald_ok ow 15 (by decide) (by decide) .laload aldj_r a.1 b.1 a.2.1 b.2.1, ald_d _ _ a.1 b.1 a.2.2 b.2.2⟩
def aldz {ow : Nat} (a b : EX ow) : EX ow := ⟨aldP 16 .baload a.1 b.1, ald_ok ow 16 (by decide) (by decide) .baload aldz_r a.1 b.1 a.2.1 b.2.1, ald_d _ _ a.1 b.1 a.2.2 b.2.2⟩
def aldc {ow : Nat} (a b : EX ow) : EX ow := ⟨aldP 17 .caload a.1 b.1, ald_ok ow 17 (by decide) (by decide) .caload aldc_r a.1 b.1 a.2.1 b.2.1, ald_d _ _ a.1 b.1 a.2.2 b.2.2⟩
def alda {ow : Nat} (a b : EX ow) : EX ow := ⟨aldP 18 .aaload a.1 b.1, ald_ok ow 18 (by decide) (by decide) .aaload alda_r a.1 b.1 a.2.1 b.2.1, ald_d _ _ a.1 b.1 a.2.2 b.2.2⟩
abbrev XC : Type := (Gam → Nat → Bool → Nat → Cds → Option Cds) × (ClT → (Sto → Prop) → (Sto → Prop) → Rho → Sto → Prop)
def SndC (ow : Nat) (x : XC) : Prop :=
  ∀ (p : Program) (l : Launch) (e : Env) (R : Room) (s : State) (m : MethodId) (args : Array Value) (below : List Frame) (meth : Method) (c : Code) (cc : ByteArray) (nL : Nat) (G : Geo) (Qf : State → Prop) (cl : ClT),
  MX p R s m args c cc nL ow G → ClOK l R G cl → ∀ (ga : Gam) (d : Nat) (b : Bool) (L : Nat) (cs cs' : Cds), x.1 ga d b L cs = some cs' → Dec cc cs →
  ∀ (r : Rho) (u : Sto) (H : Heap) (locs : List Loc) (cells slots : Nat) (ls : Array Slot) (st : List Value) (Qt Qn : Sto → Prop),
  LR G nL ga r ls → At G R s.heap u H locs cells slots → cats st ≤ d → x.2 cl Qt Qn r u →
  (∀ (u' : Sto) (H' : Heap) (locs' : List Loc) (cells' slots' : Nat), At G R s.heap u' H' locs' cells' slots' → Qt u' → Dec cc cs' → W p l e R s m args below meth c H' locs' cells' slots' Qf (F0 m (if b then pcOf cs' else L) ls st)) →
  (∀ (u' : Sto) (H' : Heap) (locs' : List Loc) (cells' slots' : Nat), At G R s.heap u' H' locs' cells' slots' → Qn u' → Dec cc cs' → W p l e R s m args below meth c H' locs' cells' slots' Qf (F0 m (if b then L else pcOf cs') ls st)) →
  W p l e R s m args below meth c H locs cells slots Qf (F0 m (pcOf cs) ls st)
def DecC (x : XC) : Prop := ∀ (ga : Gam) (d : Nat) (f : Bool) (L : Nat) (cs cs' : Cds) (cc : ByteArray), x.1 ga d f L cs = some cs' → Dec cc cs → Dec cc cs'
abbrev CX (ow : Nat) : Type := { x : XC // SndC ow x ∧ DecC x }
/-- 0 =, 1 not =, 2 <, 3 not <, 4 >, 5 not > -/
def sem (o : Nat) (a b : Int) : Prop := if o = 0 then a = b else if o = 1 then ¬ a = b else if o = 2 then a < b else if o = 3 then b ≤ a else if o = 4 then b < a else a ≤ b
def ngo (o : Nat) : Nat := if o = 0 then 1 else if o = 1 then 0 else if o = 2 then 3 else if o = 3 then 2 else if o = 4 then 5 else 4
def icI (o : Nat) (off : Int) : Instr := if o = 0 then .if_icmp .eq off else if o = 1 then .if_icmp .ne off else if o = 2 then .if_icmp .lt off else if o = 3 then .if_icmp .ge off else if o = 4 then .if_icmp .gt off else .if_icmp .le off
def izI (o : Nat) (off : Int) : Instr := if o = 0 then .ifCond .eq off else if o = 1 then .ifCond .ne off else if o = 2 then .ifCond .lt off else if o = 3 then .ifCond .ge off else if o = 4 then .ifCond .gt off else .ifCond .le off
theorem sem_ngo {o : Nat} (h : o ≤ 5) (a b : Int) : sem (ngo o) a b ↔ ¬ sem o a b := by
  have : o = 0 ∨ o = 1 ∨ o = 2 ∨ o = 3 ∨ o = 4 ∨ o = 5 := by omega
  rcases this with rfl | rfl | rfl | rfl | rfl | rfl <;> simp [sem, ngo] <;> omega
theorem icmp_row {o : Nat} (ho : o ≤ 5) {p : Program} {l : Launch} {e : Env} {R : Room} {s : State} {m : MethodId} {args : Array Value} {below : List Frame} {meth : Method} {c : Code} {cc : ByteArray} {H : Heap} {locs : List Loc} {cells slots : Nat} {Q : State → Prop} {pc : Nat} {ls : Array Slot} {rest : List Value} {x y : Int} {off : Int} {tgt : Nat}
    (hx : p.tables.exec = Jvm.exec) (hb : c.code = cc) (hd : decode cc pc = .ok (icI o off, 3)) (ht : (pc : Int) + off = (tgt : Int)) (hix : inI x) (hiy : inI y)
    (kt : sem o x y → W p l e R s m args below meth c H locs cells slots Q (F0 m tgt ls rest)) (kf : ¬ sem o x y → W p l e R s m args below meth c H locs cells slots Q (F0 m (pc + 3) ls rest)) :
    W p l e R s m args below meth c H locs cells slots Q (F0 m pc ls (.int (Int32.ofInt y) :: .int (Int32.ofInt x) :: rest)) := by
  have : o = 0 ∨ o = 1 ∨ o = 2 ∨ o = 3 ∨ o = 4 ∨ o = 5 := by omega
  rcases this with rfl | rfl | rfl | rfl | rfl | rfl
  · exact lv_icmp_eq hx hb hd ht (fun q => kt ((ofI_inj hix hiy).mp q)) (fun q => kf (fun z => q ((ofI_inj hix hiy).mpr z)))
  · exact lv_icmp_ne hx hb hd ht (fun q => kt (fun z => q ((ofI_inj hix hiy).mpr z))) (fun q => kf (fun z => z ((ofI_inj hix hiy).mp q)))
  · exact lv_icmp_lt hx hb hd ht (fun q => kt ((ofI_lt hix hiy).mp q)) (fun q => kf (fun z => q ((ofI_lt hix hiy).mpr z)))
  · exact lv_icmp_ge hx hb hd ht (fun q => kt ((ofI_le hiy hix).mp q)) (fun q => kf (fun z => q ((ofI_le hiy hix).mpr z)))
  · exact lv_icmp_gt hx hb hd ht (fun q => kt ((ofI_lt hiy hix).mp q)) (fun q => kf (fun z => q ((ofI_lt hiy hix).mpr z)))
  · exact lv_icmp_le hx hb hd ht (fun q => kt ((ofI_le hix hiy).mp q)) (fun q => kf (fun z => q ((ofI_le hix hiy).mpr z)))
theorem ifz_row {o : Nat} (ho : o ≤ 5) {p : Program} {l : Launch} {e : Env} {R : Room} {s : State} {m : MethodId} {args : Array Value} {below : List Frame} {meth : Method} {c : Code} {cc : ByteArray} {H : Heap} {locs : List Loc} {cells slots : Nat} {Q : State → Prop} {pc : Nat} {ls : Array Slot} {rest : List Value} {x : Int} {off : Int} {tgt : Nat}
    (hx : p.tables.exec = Jvm.exec) (hb : c.code = cc) (hd : decode cc pc = .ok (izI o off, 3)) (ht : (pc : Int) + off = (tgt : Int)) (hix : inI x)
    (kt : sem o x 0 → W p l e R s m args below meth c H locs cells slots Q (F0 m tgt ls rest)) (kf : ¬ sem o x 0 → W p l e R s m args below meth c H locs cells slots Q (F0 m (pc + 3) ls rest)) :
    W p l e R s m args below meth c H locs cells slots Q (F0 m pc ls (.int (Int32.ofInt x) :: rest)) := by
  have hiy := inI_0
  have : o = 0 ∨ o = 1 ∨ o = 2 ∨ o = 3 ∨ o = 4 ∨ o = 5 := by omega
  rcases this with rfl | rfl | rfl | rfl | rfl | rfl
  · exact lv_if_eq hx hb hd ht (fun q => kt ((ofI_inj hix hiy).mp q)) (fun q => kf (fun z => q ((ofI_inj hix hiy).mpr z)))
  · exact lv_if_ne hx hb hd ht (fun q => kt (fun z => q ((ofI_inj hix hiy).mpr z))) (fun q => kf (fun z => z ((ofI_inj hix hiy).mp q)))
  · exact lv_if_lt hx hb hd ht (fun q => kt ((ofI_lt hix hiy).mp q)) (fun q => kf (fun z => q ((ofI_lt hix hiy).mpr z)))
  · exact lv_if_ge hx hb hd ht (fun q => kt ((ofI_le hiy hix).mp q)) (fun q => kf (fun z => q ((ofI_le hiy hix).mpr z)))
  · exact lv_if_gt hx hb hd ht (fun q => kt ((ofI_lt hiy hix).mp q)) (fun q => kf (fun z => q ((ofI_lt hiy hix).mpr z)))
  · exact lv_if_le hx hb hd ht (fun q => kt ((ofI_le hix hiy).mp q)) (fun q => kf (fun z => q ((ofI_le hix hiy).mpr z)))
def nxc (o : Nat) (L : Nat) (cs : Cds) : Option Cds := nx (icI o ((L : Int) - (pcOf cs : Int))) 3 cs
def nxz (o : Nat) (L : Nat) (cs : Cds) : Option Cds := nx (izI o ((L : Int) - (pcOf cs : Int))) 3 cs
def cmpP (o : Nat) (a b : XE) : XC := (fun ga d f L cs => match a.1 ga d cs with
    | some (0, cs1) => match b.1 ga (d + 1) cs1 with
      | some (0, cs2) => nxc (if f then ngo o else o) L cs2
      | _ => none
    | _ => none, fun cl Qt Qn r u => a.2 cl (fun v u' => b.2 cl (fun w u2 => (sem o v w → Qt u2) ∧ (¬ sem o v w → Qn u2)) r u') r u)
theorem ngo5 {o : Nat} (h : o ≤ 5) : ngo o ≤ 5 := by
  have : o = 0 ∨ o = 1 ∨ o = 2 ∨ o = 3 ∨ o = 4 ∨ o = 5 := by omega
  rcases this with rfl | rfl | rfl | rfl | rfl | rfl <;> decide
theorem cmp_ok (ow o : Nat) (ho : o ≤ 5) (a b : XE) (ha : SndE ow a) (hb : SndE ow b) : SndC ow (cmpP o a b) := by
  intro p l e R s m args below meth c cc nL G Qf cl hX hC ga d f L cs cs' hc hD r u H locs cells slots ls st Qt Qn hL hA hs hw kt kn
  simp only [cmpP] at hc hw
  split at hc
  case h_2 => cases hc
  rename_i cs1 h0
  split at hc
  case h_2 => cases hc
  rename_i cs2 h00
  refine ha p l e R s m args below meth c cc nL G Qf cl hX hC ga d cs 0 cs1 h0 hD r u H locs cells slots ls st _ hL hA hs hw ?_
  intro v u' H' locs' cells' slots' hv hA' hq hD1
  refine hb p l e R s m args below meth c cc nL G Qf cl hX hC ga (d + 1) cs1 0 cs2 h00 hD1 r u' H' locs' cells' slots' ls _ _ hL hA' ?_ hq ?_
  · rw [cats_cons, cat_enc]; simp; omega
  intro w u2 H2 locs2 cells2 slots2 hv2 hA2 hq2 hD2
  obtain ⟨h1, h2, h3⟩ := nx_ok hc hD2
  have hv : inI v := hv
  have hv2 : inI w := hv2
  have kt' := fun q => kt u2 H2 locs2 cells2 slots2 hA2 (hq2.1 q) h3
  have kn' := fun q => kn u2 H2 locs2 cells2 slots2 hA2 (hq2.2 q) h3
  rw [enc_0, enc_0]
  cases f
  · simp only [Bool.false_eq_true, if_false] at h1 kt' kn'
    rw [h2] at kn'
    exact icmp_row ho hX.1 hX.2.1 h1 (by omega) hv hv2 kt' kn'
  · simp only [if_true] at h1 kt' kn'
    rw [h2] at kt'
    exact icmp_row (ngo5 ho) hX.1 hX.2.1 h1 (by omega) hv hv2 (fun q => kn' ((sem_ngo ho v w).mp q)) (fun q => kt' (Classical.not_not.mp (fun z => q ((sem_ngo ho v w).mpr z))))
theorem cmp_d (o : Nat) (a b : XE) (ha : DecE a) (hb : DecE b) : DecC (cmpP o a b) := by
  intro ga d f L cs cs' cc hc hD
  simp only [cmpP] at hc
  split at hc
  case h_2 => cases hc
  rename_i h0
  split at hc
  case h_2 => cases hc
  rename_i h00
  exact (nx_ok hc (hb _ _ _ _ _ _ h00 (ha _ _ _ _ _ _ h0 hD))).2.2
def cmp {ow : Nat} (o : Nat) (ho : o ≤ 5) (a b : EX ow) : CX ow := ⟨cmpP o a.1 b.1, cmp_ok ow o ho a.1 b.1 a.2.1 b.2.1, cmp_d o a.1 b.1 a.2.2 b.2.2⟩
def czP (o : Nat) (a : XE) : XC := (fun ga d f L cs => match a.1 ga d cs with
    | some (0, cs1) => nxz (if f then ngo o else o) L cs1
    | _ => none, fun cl Qt Qn r u => a.2 cl (fun v u2 => (sem o v 0 → Qt u2) ∧ (¬ sem o v 0 → Qn u2)) r u)
theorem cz_ok (ow o : Nat) (ho : o ≤ 5) (a : XE) (ha : SndE ow a) : SndC ow (czP o a) := by
  intro p l e R s m args below meth c cc nL G Qf cl hX hC ga d f L cs cs' hc hD r u H locs cells slots ls st Qt Qn hL hA hs hw kt kn
  simp only [czP] at hc hw
  split at hc
  case h_2 => cases hc
  rename_i cs2 h0
  refine ha p l e R s m args below meth c cc nL G Qf cl hX hC ga d cs 0 cs2 h0 hD r u H locs cells slots ls st _ hL hA hs hw ?_
  intro v u2 H2 locs2 cells2 slots2 hv hA2 hq2 hD2
  obtain ⟨h1, h2, h3⟩ := nx_ok hc hD2
  have hv : inI v := hv
  have kt' := fun q => kt u2 H2 locs2 cells2 slots2 hA2 (hq2.1 q) h3
  have kn' := fun q => kn u2 H2 locs2 cells2 slots2 hA2 (hq2.2 q) h3
  rw [enc_0]
  cases f
  · simp only [Bool.false_eq_true, if_false] at h1 kt' kn'
    rw [h2] at kn'
    exact ifz_row ho hX.1 hX.2.1 h1 (by omega) hv kt' kn'
  · simp only [if_true] at h1 kt' kn'
    rw [h2] at kt'
    exact ifz_row (ngo5 ho) hX.1 hX.2.1 h1 (by omega) hv (fun q => kn' ((sem_ngo ho v 0).mp q)) (fun q => kt' (Classical.not_not.mp (fun z => q ((sem_ngo ho v 0).mpr z))))
theorem cz_d (o : Nat) (a : XE) (ha : DecE a) : DecC (czP o a) := by
  intro ga d f L cs cs' cc hc hD
  simp only [czP] at hc
  split at hc
  case h_2 => cases hc
  rename_i h0
  exact (nx_ok hc (ha _ _ _ _ _ _ h0 hD)).2.2
def cz {ow : Nat} (o : Nat) (ho : o ≤ 5) (a : EX ow) : CX ow := ⟨czP o a.1, cz_ok ow o ho a.1 a.2.1, cz_d o a.1 a.2.2⟩
theorem lcm_sem {o : Nat} (ho : o ≤ 5) {x y : Int} (hx : inL x) (hy : inL y) : ∃ z : Int, inI z ∧ lg_cmp (Int64.ofInt x) (Int64.ofInt y) = Int32.ofInt z ∧ (sem o z 0 ↔ sem o x y) := by
  have e1 : (Int64.ofInt x > Int64.ofInt y) ↔ y < x := by rw [gt_iff_lt, Int64.lt_iff_toInt_lt, ofL_toInt hx, ofL_toInt hy]
  have e2 : (Int64.ofInt x = Int64.ofInt y) ↔ x = y := by rw [← Int64.toInt_inj, ofL_toInt hx, ofL_toInt hy]
  have ho : o = 0 ∨ o = 1 ∨ o = 2 ∨ o = 3 ∨ o = 4 ∨ o = 5 := by omega
  unfold lg_cmp
  by_cases q : y < x
  · rw [if_pos (e1.mpr q)]
    refine ⟨1, ⟨by omega, by omega⟩, rfl, ?_⟩
    rcases ho with rfl | rfl | rfl | rfl | rfl | rfl <;> simp [sem] <;> omega
  · rw [if_neg (fun z => q (e1.mp z))]
    by_cases q2 : x = y
    · rw [if_pos (e2.mpr q2)]
      refine ⟨0, inI_0, rfl, ?_⟩
      rcases ho with rfl | rfl | rfl | rfl | rfl | rfl <;> simp [sem] <;> omega
    · rw [if_neg (fun z => q2 (e2.mp z))]
      refine ⟨-1, ⟨by omega, by omega⟩, rfl, ?_⟩
      rcases ho with rfl | rfl | rfl | rfl | rfl | rfl <;> simp [sem] <;> omega
def cmjP (o : Nat) (a b : XE) : XC := (fun ga d f L cs => match a.1 ga d cs with
    | some (1, cs1) => match b.1 ga (d + 2) cs1 with
      | some (1, cs2) => match nx .lcmp 1 cs2 with
        | some cs3 => nxz (if f then ngo o else o) L cs3
        | _ => none
      | _ => none
    | _ => none, fun cl Qt Qn r u => a.2 cl (fun v u' => b.2 cl (fun w u2 => (sem o v w → Qt u2) ∧ (¬ sem o v w → Qn u2)) r u') r u)
theorem cmj_ok (ow o : Nat) (ho : o ≤ 5) (a b : XE) (ha : SndE ow a) (hb : SndE ow b) : SndC ow (cmjP o a b) := by
  intro p l e R s m args below meth c cc nL G Qf cl hX hC ga d f L cs cs' hc hD r u H locs cells slots ls st Qt Qn hL hA hs hw kt kn
  simp only [cmjP] at hc hw
  split at hc
  case h_2 => cases hc
  rename_i cs1 h0
  split at hc
  case h_2 => cases hc
  rename_i cs2 h00
  split at hc
  case h_2 => cases hc
  rename_i cs3 h000
  refine ha p l e R s m args below meth c cc nL G Qf cl hX hC ga d cs 1 cs1 h0 hD r u H locs cells slots ls st _ hL hA hs hw ?_
  intro v u' H' locs' cells' slots' hv hA' hq hD1
  refine hb p l e R s m args below meth c cc nL G Qf cl hX hC ga (d + 2) cs1 1 cs2 h00 hD1 r u' H' locs' cells' slots' ls _ _ hL hA' ?_ hq ?_
  · rw [cats_cons, cat_enc]; simp; omega
  intro w u2 H2 locs2 cells2 slots2 hv2 hA2 hq2 hD2
  obtain ⟨h4, h5, h6⟩ := nx_ok h000 hD2
  obtain ⟨h1, h2, h3⟩ := nx_ok hc h6
  have hv : inL v := hv
  have hv2 : inL w := hv2
  have kt' := fun q => kt u2 H2 locs2 cells2 slots2 hA2 (hq2.1 q) h3
  have kn' := fun q => kn u2 H2 locs2 cells2 slots2 hA2 (hq2.2 q) h3
  rw [enc_1, enc_1]
  refine W.lcmp hX.1 hX.2.1 h4 ?_
  rw [← h5]
  cases f
  · simp only [Bool.false_eq_true, if_false] at h1 kt' kn'
    rw [h2] at kn'
    obtain ⟨z, z1, z2, z3⟩ := lcm_sem ho hv hv2
    rw [z2]
    exact ifz_row ho hX.1 hX.2.1 h1 (by omega) z1 (fun q => kt' (z3.mp q)) (fun q => kn' (fun z => q (z3.mpr z)))
  · simp only [if_true] at h1 kt' kn'
    rw [h2] at kt'
    obtain ⟨z, z1, z2, z3⟩ := lcm_sem (ngo5 ho) hv hv2
    rw [z2]
    exact ifz_row (ngo5 ho) hX.1 hX.2.1 h1 (by omega) z1 (fun q => kn' ((sem_ngo ho v w).mp (z3.mp q))) (fun q => kt' (Classical.not_not.mp (fun y => q (z3.mpr ((sem_ngo ho v w).mpr y)))))
theorem cmj_d (o : Nat) (a b : XE) (ha : DecE a) (hb : DecE b) : DecC (cmjP o a b) := by
  intro ga d f L cs cs' cc hc hD
  simp only [cmjP] at hc
  split at hc
  case h_2 => cases hc
  rename_i h0
  split at hc
  case h_2 => cases hc
  rename_i h00
  split at hc
  case h_2 => cases hc
  rename_i h000
  exact (nx_ok hc (nx_ok h000 (hb _ _ _ _ _ _ h00 (ha _ _ _ _ _ _ h0 hD))).2.2).2.2
def cmj {ow : Nat} (o : Nat) (ho : o ≤ 5) (a b : EX ow) : CX ow := ⟨cmjP o a.1 b.1, cmj_ok ow o ho a.1 b.1 a.2.1 b.2.1, cmj_d o a.1 b.1 a.2.2 b.2.2⟩
def notP (a : XC) : XC := (fun ga d f L cs => a.1 ga d (!f) L cs, fun cl Qt Qn r u => a.2 cl Qn Qt r u)
theorem not_ok (ow : Nat) (a : XC) (ha : SndC ow a) : SndC ow (notP a) := by
  intro p l e R s m args below meth c cc nL G Qf cl hX hC ga d f L cs cs' hc hD r u H locs cells slots ls st Qt Qn hL hA hs hw kt kn
  refine ha p l e R s m args below meth c cc nL G Qf cl hX hC ga d (!f) L cs cs' hc hD r u H locs cells slots ls st _ _ hL hA hs hw ?_ ?_
  · intro u' H' locs' cells' slots' hA' hq hD'
    have := kn u' H' locs' cells' slots' hA' hq hD'
    cases f <;> exact this
  · intro u' H' locs' cells' slots' hA' hq hD'
    have := kt u' H' locs' cells' slots' hA' hq hD'
    cases f <;> exact this
def cnot {ow : Nat} (a : CX ow) : CX ow := ⟨notP a.1, not_ok ow a.1 a.2.1, fun ga d f L cs cs' cc hc hD => a.2.2 ga d (!f) L cs cs' cc hc hD⟩
def andP (X : Nat) (a b : XC) : XC := (fun ga d f L cs => match a.1 ga d true (if f then L else X) cs with
    | some cs1 => match b.1 ga d f L cs1 with
      | some cs2 => if f = true ∨ pcOf cs2 = X then some cs2 else none
      | _ => none
    | _ => none, fun cl Qt Qn r u => a.2 cl (fun u' => b.2 cl Qt Qn r u') Qn r u)

theorem and_ok (ow X : Nat) (a b : XC) (ha : SndC ow a) (hb : SndC ow b) (hbd : DecC b) : SndC ow (andP X a b) := by
  intro p l e R s m args below meth c cc nL G Qf cl hX hC ga d f L cs cs' hc hD r u H locs cells slots ls st Qt Qn hL hA hs hw kt kn
  simp only [andP] at hc hw
  split at hc
  case h_2 => cases hc
  rename_i cs1 h0
  split at hc
  case h_2 => cases hc
  rename_i cs2 h00
  split at hc
  case isFalse => cases hc
  rename_i hX2
  cases hc
  refine ha p l e R s m args below meth c cc nL G Qf cl hX hC ga d true _ cs cs1 h0 hD r u H locs cells slots ls st _ _ hL hA hs hw ?_ ?_
  · intro u' H' locs' cells' slots' hA' hq hD'
    exact hb p l e R s m args below meth c cc nL G Qf cl hX hC ga d f L cs1 _ h00 hD' r u' H' locs' cells' slots' ls st _ _ hL hA' hs hq kt kn
  · intro u' H' locs' cells' slots' hA' hq hD'
    have := kn u' H' locs' cells' slots' hA' hq (hbd _ _ _ _ _ _ _ h00 hD')
    cases f
    · simp only [Bool.false_eq_true, if_false, false_or, if_true] at *
      rw [← hX2]; exact this
    · simpa using this
theorem and_d (X : Nat) (a b : XC) (ha : DecC a) (hb : DecC b) : DecC (andP X a b) := by
  intro ga d f L cs cs' cc hc hD
  simp only [andP] at hc
  split at hc
  case h_2 => cases hc
  rename_i h0
  split at hc
  case h_2 => cases hc
  rename_i h00
  split at hc
  case isFalse => cases hc
  cases hc
  exact hb _ _ _ _ _ _ _ h00 (ha _ _ _ _ _ _ _ h0 hD)
def cand {ow : Nat} (X : Nat) (a b : CX ow) : CX ow := ⟨andP X a.1 b.1, and_ok ow X a.1 b.1 a.2.1 b.2.1 b.2.2, and_d X a.1 b.1 a.2.2 b.2.2⟩
def orP (X : Nat) (a b : XC) : XC := (fun ga d f L cs => match a.1 ga d false (if f then X else L) cs with
    | some cs1 => match b.1 ga d f L cs1 with
      | some cs2 => if f = false ∨ pcOf cs2 = X then some cs2 else none
      | _ => none
    | _ => none, fun cl Qt Qn r u => a.2 cl Qt (fun u' => b.2 cl Qt Qn r u') r u)
theorem or_ok (ow X : Nat) (a b : XC) (ha : SndC ow a) (hb : SndC ow b) (hbd : DecC b) : SndC ow (orP X a b) := by
  intro p l e R s m args below meth c cc nL G Qf cl hX hC ga d f L cs cs' hc hD r u H locs cells slots ls st Qt Qn hL hA hs hw kt kn
  simp only [orP] at hc hw
  split at hc
  case h_2 => cases hc
  rename_i cs1 h0
  split at hc
  case h_2 => cases hc
  rename_i cs2 h00
  split at hc
  case isFalse => cases hc
  rename_i hX2
  cases hc
  refine ha p l e R s m args below meth c cc nL G Qf cl hX hC ga d false _ cs cs1 h0 hD r u H locs cells slots ls st _ _ hL hA hs hw ?_ ?_
  · intro u' H' locs' cells' slots' hA' hq hD'
    have := kt u' H' locs' cells' slots' hA' hq (hbd _ _ _ _ _ _ _ h00 hD')
    cases f
    · simpa using this
    · simp only [Bool.true_eq_false, Bool.false_eq_true, if_false, false_or, if_true] at *
      rw [← hX2]; exact this
  · intro u' H' locs' cells' slots' hA' hq hD'
    exact hb p l e R s m args below meth c cc nL G Qf cl hX hC ga d f L cs1 _ h00 hD' r u' H' locs' cells' slots' ls st _ _ hL hA' hs hq kt kn
theorem or_d (X : Nat) (a b : XC) (ha : DecC a) (hb : DecC b) : DecC (orP X a b) := by
  intro ga d f L cs cs' cc hc hD
  simp only [orP] at hc
  split at hc
  case h_2 => cases hc
  rename_i h0
  split at hc
  case h_2 => cases hc
  rename_i h00
  split at hc
  case isFalse => cases hc
  cases hc
  exact hb _ _ _ _ _ _ _ h00 (ha _ _ _ _ _ _ _ h0 hD)
def cor {ow : Nat} (X : Nat) (a b : CX ow) : CX ow := ⟨orP X a.1 b.1, or_ok ow X a.1 b.1 a.2.1 b.2.1 b.2.2, or_d X a.1 b.1 a.2.2 b.2.2⟩

