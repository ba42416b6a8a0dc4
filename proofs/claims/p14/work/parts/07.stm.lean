/-! trees of statements -/
/-- no value of any type: thrown -/
def XV : Int := 9223372036854775808
def retI (rt : Nat) : Instr := if rt = 9 then .return_ else if rt = 1 then .lreturn else .ireturn
abbrev XS : Type := (Gam → Nat → Nat → Nat → Gam → Nat → Cds → Option (Gam × Cds)) × (ClT → (Rho → Sto → Prop) → (Rho → Sto → Prop) → (Int → Sto → Prop) → Rho → Sto → Prop)
def SndS (ow : Nat) (x : XS) : Prop :=
  ∀ (p : Program) (l : Launch) (e : Env) (R : Room) (s : State) (m : MethodId) (args : Array Value) (below : List Frame) (meth : Method) (c : Code) (cc : ByteArray) (nL : Nat) (G : Geo) (Qf : State → Prop) (cl : ClT),
  MX p R s m args c cc nL ow G → ClOK l R G cl → ∀ (ga : Gam) (nx lb : Nat) (gb : Gam) (rt : Nat) (cs : Cds) (ga' : Gam) (cs' : Cds), x.1 ga nL nx lb gb rt cs = some (ga', cs') → Dec cc cs →
  ∀ (r : Rho) (u : Sto) (H : Heap) (locs : List Loc) (cells slots : Nat) (ls : Array Slot) (Kn Kb : Rho → Sto → Prop) (Kr : Int → Sto → Prop),
  LR G nL ga r ls → At G R s.heap u H locs cells slots → x.2 cl Kn Kb Kr r u →
  (∀ (r' : Rho) (u' : Sto) (H' : Heap) (locs' : List Loc) (cells' slots' : Nat) (ls' : Array Slot), LR G nL ga' r' ls' → At G R s.heap u' H' locs' cells' slots' → Kn r' u' → W p l e R s m args below meth c H' locs' cells' slots' Qf (F0 m nx ls' [])) →
  (∀ (r' : Rho) (u' : Sto) (H' : Heap) (locs' : List Loc) (cells' slots' : Nat) (ls' : Array Slot), LR G nL gb r' ls' → At G R s.heap u' H' locs' cells' slots' → Kb r' u' → W p l e R s m args below meth c H' locs' cells' slots' Qf (F0 m lb ls' [])) →
  (∀ (v : Int) (u' : Sto) (H' : Heap) (locs' : List Loc) (cells' slots' : Nat) (ls' : Array Slot) (pc : Nat), okv (rt % 20) v → At G R s.heap u' H' locs' cells' slots' → Kr v u' → decode cc pc = .ok (retI (rt % 20), 1) → W p l e R s m args below meth c H' locs' cells' slots' Qf (F0 m pc ls' (encR G.1 (rt % 20) v).toList)) →
  (20 ≤ rt → ∀ (u' : Sto) (H' : Heap) (locs' : List Loc) (cells' slots' : Nat) (ls' : Array Slot) (pc ik ic : Nat), ls'.size = nL → At G R s.heap u' H' locs' cells' slots' → Kr XV u' → decode cc pc = .ok (.new ik, 3) → decode cc (pc + 3) = .ok (.dup, 1) → decode cc (pc + 4) = .ok (.invokespecial ic, 3) → decode cc (pc + 7) = .ok (.athrow, 1) → W p l e R s m args below meth c H' locs' cells' slots' Qf (F0 m pc ls' [])) →
  W p l e R s m args below meth c H locs cells slots Qf (F0 m (pcOf cs) ls [])
def DecS (x : XS) : Prop := ∀ (ga : Gam) (nL nx lb : Nat) (gb : Gam) (rt : Nat) (cs : Cds) (ga' : Gam) (cs' : Cds) (cc : ByteArray), x.1 ga nL nx lb gb rt cs = some (ga', cs') → Dec cc cs → Dec cc cs'
abbrev SX (ow : Nat) : Type := { x : XS // SndS ow x ∧ DecS x }
def okt (L : Nat) : Cds → Bool
  | [] => false
  | q :: _ => (q.1 == L) || (decide (q.2.1 = .goto ((L : Int) - (q.1 : Int))) && (q.2.2 == 3))
theorem okt_W {L : Nat} {cs : Cds} {cc : ByteArray} {p : Program} {l : Launch} {e : Env} {R : Room} {s : State} {m : MethodId} {args : Array Value} {below : List Frame} {meth : Method} {c : Code} {H : Heap} {locs : List Loc} {cells slots : Nat} {Q : State → Prop} {ls : Array Slot} {st : List Value}
    (h : okt L cs = true) (hx : p.tables.exec = Jvm.exec) (hb : c.code = cc) (hD : Dec cc cs) (k : W p l e R s m args below meth c H locs cells slots Q (F0 m L ls st)) : W p l e R s m args below meth c H locs cells slots Q (F0 m (pcOf cs) ls st) := by
  match cs, h, hD with
  | [], h, _ => cases h
  | q :: t, h, hD =>
    rcases Bool.or_eq_true_iff.mp h with h | h
    · have := eq_of_beq h
      show W p l e R s m args below meth c H locs cells slots Q (F0 m q.1 ls st)
      rw [this]; exact k
    · have h1 := of_decide_eq_true (Bool.and_eq_true_iff.mp h).1
      have h2 := eq_of_beq (Bool.and_eq_true_iff.mp h).2
      have h3 := hD.1
      rw [h1, h2] at h3
      exact lv_goto (pc := q.1) (tgt := L) hx hb h3 (by omega) k
def upg (ga : Gam) (i t : Nat) : Gam := (i, t) :: ga.filter (fun q => !(q.1 == i) && !(q.1 + 1 == i && q.2 == 1))
def upj (ga : Gam) (i : Nat) : Gam := (i, 1) :: ga.filter (fun q => !(q.1 == i) && (!(q.1 == i + 1) && !(q.1 + 1 == i && q.2 == 1)))
theorem cat2 (al : Int → Nat) (t : Nat) (v : Int) : ((enc al t v).category == 2) = (t == 1) := by
  rw [cat_enc]
  by_cases h : t = 1
  · subst h; rfl
  · rw [if_neg h]
    have : (t == 1) = false := by simpa using h
    rw [this]; rfl
theorem LR_up {G : Geo} {nL : Nat} {ga : Gam} {r : Rho} {ls ls' : Array Slot} {i t : Nat} {v : Int} (hL : LR G nL ga r ls) (hv : okv t v)
    (h : lv_has ls' nL ((i, enc G.1 t v) :: (ga.map fun q => (q.1, enc G.1 q.2 (r q.1))).filter (fun q => !(q.1 == i) && !(q.1 + 1 == i && q.2.category == 2)))) : LR G nL (upg ga i t) (upr r i v) ls' := by
  have key : ∀ q ∈ ga.filter (fun q => !(q.1 == i) && !(q.1 + 1 == i && q.2 == 1)), upr r i v q.1 = r q.1 := fun q hq => by
    have := (List.mem_filter.mp hq).2
    simp at this
    unfold upr
    rw [if_neg this.1]
  refine ⟨⟨h.1, h.2.1, fun q hq => ?_⟩, fun q hq => ?_⟩
  · obtain ⟨z, hz, rfl⟩ := List.mem_map.mp hq
    rcases List.mem_cons.mp hz with rfl | hz
    · have := h.2.2 _ List.mem_cons_self
      simpa [upr] using this
    · refine h.2.2 _ (List.mem_cons_of_mem _ (List.mem_filter.mpr ⟨List.mem_map.mpr ⟨z, (List.mem_filter.mp hz).1, ?_⟩, ?_⟩))
      · rw [key z hz]
      · have h2 := (List.mem_filter.mp hz).2
        dsimp only
        rw [cat2]
        exact h2
  · rcases List.mem_cons.mp hq with rfl | hq
    · simpa [upr] using hv
    · rw [key q hq]
      exact hL.2 q (List.mem_filter.mp hq).1
theorem LR_upj {G : Geo} {nL : Nat} {ga : Gam} {r : Rho} {ls ls' : Array Slot} {i : Nat} {v : Int} (hL : LR G nL ga r ls) (hv : okv 1 v)
    (h : lv_has ls' nL ((i, enc G.1 1 v) :: (ga.map fun q => (q.1, enc G.1 q.2 (r q.1))).filter (fun q => !(q.1 == i) && (!(q.1 == i + 1) && !(q.1 + 1 == i && q.2.category == 2))))) : LR G nL (upj ga i) (upr r i v) ls' := by
  have key : ∀ q ∈ ga.filter (fun q => !(q.1 == i) && (!(q.1 == i + 1) && !(q.1 + 1 == i && q.2 == 1))), upr r i v q.1 = r q.1 := fun q hq => by
    have := (List.mem_filter.mp hq).2
    simp at this
    unfold upr
    rw [if_neg this.1]
  refine ⟨⟨h.1, h.2.1, fun q hq => ?_⟩, fun q hq => ?_⟩
  · obtain ⟨z, hz, rfl⟩ := List.mem_map.mp hq
    rcases List.mem_cons.mp hz with rfl | hz
    · have := h.2.2 _ List.mem_cons_self
      simpa [upr] using this
    · refine h.2.2 _ (List.mem_cons_of_mem _ (List.mem_filter.mpr ⟨List.mem_map.mpr ⟨z, (List.mem_filter.mp hz).1, ?_⟩, ?_⟩))
      · rw [key z hz]
      · have h2 := (List.mem_filter.mp hz).2
        dsimp only
        rw [cat2]
        exact h2
  · rcases List.mem_cons.mp hq with rfl | hq
    · simpa [upr] using hv
    · rw [key q hq]
      exact hL.2 q (List.mem_filter.mp hq).1
def inSI (i : Nat) : Instr × Nat := if h : i < 4 then (.istore_n ⟨i, h⟩, 1) else (.istore i, 2)
def inSA (i : Nat) : Instr × Nat := if h : i < 4 then (.astore_n ⟨i, h⟩, 1) else (.astore i, 2)
def inSJ (i : Nat) : Instr × Nat := if h : i < 4 then (.lstore_n ⟨i, h⟩, 1) else (.lstore i, 2)

def asiP (i : Nat) (a : XE) : XS := (fun ga nL nx9 _ _ _ cs => match a.1 ga 0 cs with
    | some (0, cs1) => match nx (inSI i).1 (inSI i).2 cs1 with
      | some cs2 => if okt nx9 cs2 = true ∧ i < nL then some (upg ga i 0, cs2) else none
      | _ => none
    | _ => none, fun cl Kn _ _ r u => a.2 cl (fun v u' => Kn (upr r i v) u') r u)
theorem asi_d (i : Nat) (a : XE) (ha : DecE a) : DecS (asiP i a) := by
  intro ga nL nx9 lb gb rt cs ga' cs' cc hc hD
  simp only [asiP] at hc
  split at hc
  case h_2 => cases hc
  rename_i h0
  split at hc
  case h_2 => cases hc
  rename_i h1
  split at hc
  case isFalse => cases hc
  cases hc
  exact (nx_ok h1 (ha _ _ _ _ _ _ h0 hD)).2.2
theorem asi_ok (ow i : Nat) (a : XE) (ha : SndE ow a) : SndS ow (asiP i a) := by
  intro p l e R s m args below meth c cc nL G Qf cl hX hC ga nx9 lb gb rt cs ga' cs' hc hD r u H locs cells slots ls Kn Kb Kr hL hA hw hn hb hr hx9
  simp only [asiP] at hc hw
  split at hc
  case h_2 => cases hc
  rename_i cs1 h0
  split at hc
  case h_2 => cases hc
  rename_i cs2 h1
  split at hc
  case isFalse => cases hc
  rename_i hcond
  cases hc
  refine ha p l e R s m args below meth c cc nL G Qf cl hX hC ga 0 cs 0 cs1 h0 hD r u H locs cells slots ls [] _ hL hA (Nat.le_refl _) hw ?_
  intro v u' H' locs' cells' slots' hv hA' hq hD1
  obtain ⟨g1, g2, g3⟩ := nx_ok h1 hD1
  rw [enc_0]
  have fin : ∀ ls' : Array Slot, LR G nL (upg ga i 0) (upr r i v) ls' → W p l e R s m args below meth c H' locs' cells' slots' Qf (F0 m (pcOf cs') ls' []) := fun ls' h =>
    okt_W hcond.1 hX.1 hX.2.1 g3 (hn _ u' H' locs' cells' slots' ls' h hA' hq)
  rw [g2] at fin
  unfold inSI at g1 fin
  split at g1
  · rename_i q
    rw [dif_pos q] at fin
    exact lv_istore_n hX.1 hX.2.1 g1 rfl hL.1 hcond.2 rfl (fun ls' h => fin ls' (LR_up hL hv h))
  · rename_i q
    rw [dif_neg q] at fin
    exact lv_istore hX.1 hX.2.1 g1 hL.1 hcond.2 rfl (fun ls' h => fin ls' (LR_up hL hv h))
def asi {ow : Nat} (i : Nat) (a : EX ow) : SX ow := ⟨asiP i a.1, asi_ok ow i a.1 a.2.1, asi_d i a.1 a.2.2⟩

def asaP (i : Nat) (a : XE) : XS := (fun ga nL nx9 _ _ _ cs => match a.1 ga 0 cs with
    | some (2, cs1) => match nx (inSA i).1 (inSA i).2 cs1 with
      | some cs2 => if okt nx9 cs2 = true ∧ i < nL then some (upg ga i 2, cs2) else none
      | _ => none
    | _ => none, fun cl Kn _ _ r u => a.2 cl (fun v u' => v ≠ 0 ∧ Kn (upr r i v) u') r u)
theorem asa_d (i : Nat) (a : XE) (ha : DecE a) : DecS (asaP i a) := by
  intro ga nL nx9 lb gb rt cs ga' cs' cc hc hD
  simp only [asaP] at hc
  split at hc
  case h_2 => cases hc
  rename_i h0
  split at hc
  case h_2 => cases hc
  rename_i h1
  split at hc
  case isFalse => cases hc
  cases hc
  exact (nx_ok h1 (ha _ _ _ _ _ _ h0 hD)).2.2
theorem asa_ok (ow i : Nat) (a : XE) (ha : SndE ow a) : SndS ow (asaP i a) := by
  intro p l e R s m args below meth c cc nL G Qf cl hX hC ga nx9 lb gb rt cs ga' cs' hc hD r u H locs cells slots ls Kn Kb Kr hL hA hw hn hb hr hx9
  simp only [asaP] at hc hw
  split at hc
  case h_2 => cases hc
  rename_i cs1 h0
  split at hc
  case h_2 => cases hc
  rename_i cs2 h1
  split at hc
  case isFalse => cases hc
  rename_i hcond
  cases hc
  refine ha p l e R s m args below meth c cc nL G Qf cl hX hC ga 0 cs 2 cs1 h0 hD r u H locs cells slots ls [] _ hL hA (Nat.le_refl _) hw ?_
  intro v u' H' locs' cells' slots' hv hA' hq hD1
  obtain ⟨g1, g2, g3⟩ := nx_ok h1 hD1
  obtain ⟨hne, hq⟩ := hq
  rw [enc_2 _ hne]
  have fin : ∀ ls' : Array Slot, LR G nL (upg ga i 2) (upr r i v) ls' → W p l e R s m args below meth c H' locs' cells' slots' Qf (F0 m (pcOf cs') ls' []) := fun ls' h =>
    okt_W hcond.1 hX.1 hX.2.1 g3 (hn _ u' H' locs' cells' slots' ls' h hA' hq)
  rw [g2] at fin
  unfold inSA at g1 fin
  split at g1
  · rename_i q
    rw [dif_pos q] at fin
    exact lv_astore_n hX.1 hX.2.1 g1 rfl hL.1 hcond.2 rfl (fun ls' h => fin ls' (LR_up hL hv (by rw [enc_2 _ hne]; exact h)))
  · rename_i q
    rw [dif_neg q] at fin
    exact lv_astore hX.1 hX.2.1 g1 hL.1 hcond.2 rfl (fun ls' h => fin ls' (LR_up hL hv (by rw [enc_2 _ hne]; exact h)))
def asa {ow : Nat} (i : Nat) (a : EX ow) : SX ow := ⟨asaP i a.1, asa_ok ow i a.1 a.2.1, asa_d i a.1 a.2.2⟩

def asjP (i : Nat) (a : XE) : XS := (fun ga nL nx9 _ _ _ cs => match a.1 ga 0 cs with
    | some (1, cs1) => match nx (inSJ i).1 (inSJ i).2 cs1 with
      | some cs2 => if okt nx9 cs2 = true ∧ i + 1 < nL then some (upj ga i, cs2) else none
      | _ => none
    | _ => none, fun cl Kn _ _ r u => a.2 cl (fun v u' => Kn (upr r i v) u') r u)
theorem asj_d (i : Nat) (a : XE) (ha : DecE a) : DecS (asjP i a) := by
  intro ga nL nx9 lb gb rt cs ga' cs' cc hc hD
  simp only [asjP] at hc
  split at hc
  case h_2 => cases hc
  rename_i h0
  split at hc
  case h_2 => cases hc
  rename_i h1
  split at hc
  case isFalse => cases hc
  cases hc
  exact (nx_ok h1 (ha _ _ _ _ _ _ h0 hD)).2.2
theorem asj_ok (ow i : Nat) (a : XE) (ha : SndE ow a) : SndS ow (asjP i a) := by
  intro p l e R s m args below meth c cc nL G Qf cl hX hC ga nx9 lb gb rt cs ga' cs' hc hD r u H locs cells slots ls Kn Kb Kr hL hA hw hn hb hr hx9
  simp only [asjP] at hc hw
  split at hc
  case h_2 => cases hc
  rename_i cs1 h0
  split at hc
  case h_2 => cases hc
  rename_i cs2 h1
  split at hc
  case isFalse => cases hc
  rename_i hcond
  cases hc
  refine ha p l e R s m args below meth c cc nL G Qf cl hX hC ga 0 cs 1 cs1 h0 hD r u H locs cells slots ls [] _ hL hA (Nat.le_refl _) hw ?_
  intro v u' H' locs' cells' slots' hv hA' hq hD1
  obtain ⟨g1, g2, g3⟩ := nx_ok h1 hD1
  rw [enc_1]
  have fin : ∀ ls' : Array Slot, LR G nL (upj ga i) (upr r i v) ls' → W p l e R s m args below meth c H' locs' cells' slots' Qf (F0 m (pcOf cs') ls' []) := fun ls' h =>
    okt_W hcond.1 hX.1 hX.2.1 g3 (hn _ u' H' locs' cells' slots' ls' h hA' hq)
  rw [g2] at fin
  unfold inSJ at g1 fin
  split at g1
  · rename_i q
    rw [dif_pos q] at fin
    exact lv_lstore_n hX.1 hX.2.1 g1 rfl hL.1 hcond.2 rfl (fun ls' h => fin ls' (LR_upj hL hv h))
  · rename_i q
    rw [dif_neg q] at fin
    exact lv_lstore hX.1 hX.2.1 g1 hL.1 hcond.2 rfl (fun ls' h => fin ls' (LR_upj hL hv h))
def asj {ow : Nat} (i : Nat) (a : EX ow) : SX ow := ⟨asjP i a.1, asj_ok ow i a.1 a.2.1, asj_d i a.1 a.2.2⟩

def incP (i : Nat) (n : Int) : XS := (fun ga nL nx9 _ _ _ cs => match nx (.iinc i n) 3 cs with
    | some cs2 => if okt nx9 cs2 = true ∧ i < nL ∧ (i, 0) ∈ ga then some (upg ga i 0, cs2) else none
    | _ => none, fun _ Kn _ _ r u => Kn (upr r i (w32 (r i + n))) u)
theorem inc_d (i : Nat) (n : Int) : DecS (incP i n) := by
  intro ga nL nx9 lb gb rt cs ga' cs' cc hc hD
  simp only [incP] at hc
  split at hc
  case h_2 => cases hc
  rename_i h1
  split at hc
  case isFalse => cases hc
  cases hc
  exact (nx_ok h1 hD).2.2
theorem inc_ok (ow i : Nat) (n : Int) : SndS ow (incP i n) := by
  intro p l e R s m args below meth c cc nL G Qf cl hX hC ga nx9 lb gb rt cs ga' cs' hc hD r u H locs cells slots ls Kn Kb Kr hL hA hw hn hb hr hx9
  simp only [incP] at hc hw
  split at hc
  case h_2 => cases hc
  rename_i cs2 h1
  split at hc
  case isFalse => cases hc
  rename_i hcond
  cases hc
  obtain ⟨g1, g2, g3⟩ := nx_ok h1 hD
  obtain ⟨c1, c2, c3⟩ := hcond
  have hm : (i, Value.int (Int32.ofInt (r i))) ∈ ga.map (fun q => (q.1, enc G.1 q.2 (r q.1))) := List.mem_map.mpr ⟨(i, 0), c3, rfl⟩
  obtain ⟨k, hk⟩ := List.getElem?_of_mem hm
  have e9 : Int32.ofInt (r i) + Int32.ofInt n = Int32.ofInt (w32 (r i + n)) := by rw [ofI_bmod, Int32.ofInt_add]
  refine lv_iinc (v := Int32.ofInt (w32 (r i + n))) hX.1 hX.2.1 g1 hL.1 hk e9 c2 rfl (fun ls' h => ?_)
  rw [← g2]
  exact okt_W c1 hX.1 hX.2.1 g3 (hn _ u H locs cells slots ls' (LR_up (t := 0) hL (w32_in _) h) hA hw)
def inc {ow : Nat} (i : Nat) (n : Int) : SX ow := ⟨incP i n, inc_ok ow i n, inc_d i n⟩
def seqP (N : Nat) (a b : XS) : XS := (fun ga nL nx9 lb gb rt cs => match a.1 ga nL N lb gb rt cs with
    | some (ga1, cs1) => if pcOf cs1 = N ∧ cs1 ≠ [] then b.1 ga1 nL nx9 lb gb rt cs1 else none
    | _ => none, fun cl Kn Kb Kr r u => a.2 cl (fun r' u' => b.2 cl Kn Kb Kr r' u') Kb Kr r u)
theorem seq_d (N : Nat) (a b : XS) (ha : DecS a) (hb : DecS b) : DecS (seqP N a b) := by
  intro ga nL nx9 lb gb rt cs ga' cs' cc hc hD
  simp only [seqP] at hc
  split at hc
  case h_2 => cases hc
  rename_i h1
  split at hc
  case isFalse => cases hc
  exact hb _ _ _ _ _ _ _ _ _ _ hc (ha _ _ _ _ _ _ _ _ _ _ h1 hD)
theorem seq_ok (ow N : Nat) (a b : XS) (ha : SndS ow a) (hb0 : SndS ow b) (da : DecS a) : SndS ow (seqP N a b) := by
  intro p l e R s m args below meth c cc nL G Qf cl hX hC ga nx9 lb gb rt cs ga' cs' hc hD r u H locs cells slots ls Kn Kb Kr hL hA hw hn hb hr hx9
  simp only [seqP] at hc hw
  split at hc
  case h_2 => cases hc
  rename_i ga1 cs1 h1
  split at hc
  case isFalse => cases hc
  rename_i hcond
  have D1 := da _ _ _ _ _ _ _ _ _ _ h1 hD
  refine ha p l e R s m args below meth c cc nL G Qf cl hX hC ga N lb gb rt cs ga1 cs1 h1 hD r u H locs cells slots ls _ _ _ hL hA hw ?_ hb hr hx9
  intro r' u' H' locs' cells' slots' ls' hL' hA' hq
  have := hb0 p l e R s m args below meth c cc nL G Qf cl hX hC ga1 nx9 lb gb rt cs1 ga' cs' hc D1 r' u' H' locs' cells' slots' ls' Kn Kb Kr hL' hA' hq hn hb hr hx9
  rw [hcond.1] at this
  exact this
def seq {ow : Nat} (N : Nat) (a b : SX ow) : SX ow := ⟨seqP N a.1 b.1, seq_ok ow N a.1 b.1 a.2.1 b.2.1 a.2.2, seq_d N a.1 b.1 a.2.2 b.2.2⟩
/-- a, then out of the switch -/
def sbrP (a : XS) : XS := (fun ga nL _ lb gb rt cs => match a.1 ga nL lb lb gb rt cs with
    | some (ga1, cs1) => if gb.all (fun q => ga1.contains q) = true then (nxg lb cs1).map (fun x => (ga, x)) else none
    | _ => none, fun cl _ Kb Kr r u => a.2 cl Kb Kb Kr r u)
theorem mapg {a : Gam} {L : Nat} {cs : Cds} {ga' : Gam} {cs' : Cds} {cc : ByteArray} (h : (nxg L cs).map (fun x => (a, x)) = some (ga', cs')) (hD : Dec cc cs) : ga' = a ∧ decode cc (pcOf cs) = .ok (.goto ((L : Int) - (pcOf cs : Int)), 3) ∧ Dec cc cs' := by
  obtain ⟨x, hx, e1⟩ := Option.map_eq_some_iff.mp h
  cases e1
  exact ⟨rfl, nxe_ok hx hD⟩
theorem sbr_d (a : XS) (ha : DecS a) : DecS (sbrP a) := by
  intro ga nL nx9 lb gb rt cs ga' cs' cc hc hD
  simp only [sbrP] at hc
  split at hc
  case h_2 => cases hc
  rename_i h1
  split at hc
  case isFalse => cases hc
  exact (mapg hc (ha _ _ _ _ _ _ _ _ _ _ h1 hD)).2.2
theorem sub_all {ga gb : Gam} (h : gb.all (fun q => ga.contains q) = true) : ∀ q ∈ gb, q ∈ ga := fun q hq => by
  have := List.all_eq_true.mp h q hq
  simpa using this
theorem sbr_ok (ow : Nat) (a : XS) (ha : SndS ow a) : SndS ow (sbrP a) := by
  intro p l e R s m args below meth c cc nL G Qf cl hX hC ga nx9 lb gb rt cs ga' cs' hc hD r u H locs cells slots ls Kn Kb Kr hL hA hw hn hb hr hx9
  simp only [sbrP] at hc hw
  split at hc
  case h_2 => cases hc
  rename_i ga1 cs1 h1
  split at hc
  case isFalse => cases hc
  rename_i hcond
  refine ha p l e R s m args below meth c cc nL G Qf cl hX hC ga lb lb gb rt cs ga1 cs1 h1 hD r u H locs cells slots ls _ _ _ hL hA hw ?_ hb hr hx9
  intro r' u' H' locs' cells' slots' ls' hL' hA' hq
  exact hb r' u' H' locs' cells' slots' ls' (hL'.sub (sub_all hcond)) hA' hq
def sbr {ow : Nat} (a : SX ow) : SX ow := ⟨sbrP a.1, sbr_ok ow a.1 a.2.1, sbr_d a.1 a.2.2⟩
/-- nothing but 'break' -/
def brkP : XS := (fun ga _ _ lb gb _ cs => if gb.all (fun q => ga.contains q) = true then (nxg lb cs).map (fun x => (ga, x)) else none, fun _ _ Kb _ r u => Kb r u)
theorem brk_ok (ow : Nat) : SndS ow brkP := by
  intro p l e R s m args below meth c cc nL G Qf cl hX hC ga nx9 lb gb rt cs ga' cs' hc hD r u H locs cells slots ls Kn Kb Kr hL hA hw hn hb hr hx9
  simp only [brkP] at hc hw
  split at hc
  case isFalse => cases hc
  rename_i hcond
  obtain ⟨-, g1, -⟩ := mapg hc hD
  exact lv_goto (tgt := lb) hX.1 hX.2.1 g1 (by omega) (hb r u H locs cells slots ls (hL.sub (sub_all hcond)) hA hw)
def brk {ow : Nat} : SX ow := ⟨brkP, brk_ok ow, by
  intro ga nL nx9 lb gb rt cs ga' cs' cc hc hD
  simp only [brkP] at hc
  split at hc
  case isFalse => cases hc
  exact (mapg hc hD).2.2⟩
def int9 (ga gb : Gam) : Gam := ga.filter (fun q => gb.contains q)
theorem int9_l {ga gb : Gam} : ∀ q ∈ int9 ga gb, q ∈ ga := fun q hq => (List.mem_filter.mp hq).1
theorem int9_r {ga gb : Gam} : ∀ q ∈ int9 ga gb, q ∈ gb := fun q hq => by
  have := (List.mem_filter.mp hq).2
  simpa using this
def ifsP (c : XC) (a : XS) : XS := (fun ga nL nx9 lb gb rt cs => match c.1 ga 0 true nx9 cs with
    | some cs1 => match a.1 ga nL nx9 lb gb rt cs1 with
      | some (ga1, cs2) => some (int9 ga ga1, cs2)
      | _ => none
    | _ => none, fun cl Kn Kb Kr r u => c.2 cl (fun u' => a.2 cl Kn Kb Kr r u') (fun u' => Kn r u') r u)
theorem ifs_d (c : XC) (a : XS) (hc0 : DecC c) (ha : DecS a) : DecS (ifsP c a) := by
  intro ga nL nx9 lb gb rt cs ga' cs' cc hc hD
  simp only [ifsP] at hc
  split at hc
  case h_2 => cases hc
  rename_i h0
  split at hc
  case h_2 => cases hc
  rename_i h1
  cases hc
  exact ha _ _ _ _ _ _ _ _ _ _ h1 (hc0 _ _ _ _ _ _ _ h0 hD)
theorem ifs_ok (ow : Nat) (c0 : XC) (a : XS) (hc0 : SndC ow c0) (ha : SndS ow a) : SndS ow (ifsP c0 a) := by
  intro p l e R s m args below meth c cc nL G Qf cl hX hC ga nx9 lb gb rt cs ga' cs' hc hD r u H locs cells slots ls Kn Kb Kr hL hA hw hn hb hr hx9
  simp only [ifsP] at hc hw
  split at hc
  case h_2 => cases hc
  rename_i cs1 h0
  split at hc
  case h_2 => cases hc
  rename_i ga1 cs2 h1
  cases hc
  refine hc0 p l e R s m args below meth c cc nL G Qf cl hX hC ga 0 true nx9 cs cs1 h0 hD r u H locs cells slots ls [] _ _ hL hA (Nat.le_refl _) hw ?_ ?_
  · intro u' H' locs' cells' slots' hA' hq D1
    exact ha p l e R s m args below meth c cc nL G Qf cl hX hC ga nx9 lb gb rt cs1 ga1 cs' h1 D1 r u' H' locs' cells' slots' ls Kn Kb Kr hL hA' hq (fun r' u2 H2 locs2 cells2 slots2 ls2 hL2 hA2 hq2 => hn r' u2 H2 locs2 cells2 slots2 ls2 (hL2.sub int9_r) hA2 hq2) hb hr hx9
  · intro u' H' locs' cells' slots' hA' hq D1
    exact hn r u' H' locs' cells' slots' ls (hL.sub int9_l) hA' hq
def ifs {ow : Nat} (c : CX ow) (a : SX ow) : SX ow := ⟨ifsP c.1 a.1, ifs_ok ow c.1 a.1 c.2.1 a.2.1, ifs_d c.1 a.1 c.2.2 a.2.2⟩
/-- if, else; g: the first one comes to its end (a goto behind it) -/
def ifeP (g : Bool) (E : Nat) (c : XC) (a b : XS) : XS := (fun ga nL nx9 lb gb rt cs => match c.1 ga 0 true E cs with
    | some cs1 => match a.1 ga nL nx9 lb gb rt cs1 with
      | some (ga1, cs2) => match (if g then nxg nx9 cs2 else some cs2) with
        | some cs3 => if pcOf cs3 = E ∧ cs3 ≠ [] then match b.1 ga nL nx9 lb gb rt cs3 with
            | some (ga2, cs4) => some (int9 ga1 ga2, cs4)
            | _ => none
          else none
        | _ => none
      | _ => none
    | _ => none, fun cl Kn Kb Kr r u => c.2 cl (fun u' => a.2 cl Kn Kb Kr r u') (fun u' => b.2 cl Kn Kb Kr r u') r u)
theorem ife_g {g : Bool} {L : Nat} {cs cs' : Cds} {cc : ByteArray} (h : (if g then nxg L cs else some cs) = some cs') (hD : Dec cc cs) : Dec cc cs' := by
  cases g
  · cases h; exact hD
  · exact (nxe_ok h hD).2
theorem ife_d (g : Bool) (E : Nat) (c : XC) (a b : XS) (hc0 : DecC c) (ha : DecS a) (hb : DecS b) : DecS (ifeP g E c a b) := by
  intro ga nL nx9 lb gb rt cs ga' cs' cc hc hD
  simp only [ifeP] at hc
  split at hc
  case h_2 => cases hc
  rename_i h0
  split at hc
  case h_2 => cases hc
  rename_i h1
  split at hc
  case h_2 => cases hc
  rename_i h2
  split at hc
  case isFalse => cases hc
  split at hc
  case h_2 => cases hc
  rename_i h3
  cases hc
  exact hb _ _ _ _ _ _ _ _ _ _ h3 (ife_g h2 (ha _ _ _ _ _ _ _ _ _ _ h1 (hc0 _ _ _ _ _ _ _ h0 hD)))
theorem ife_ok (ow : Nat) (g : Bool) (E : Nat) (c0 : XC) (a b : XS) (hc0 : SndC ow c0) (ha : SndS ow a) (hb0 : SndS ow b) (dc : DecC c0) (da : DecS a) : SndS ow (ifeP g E c0 a b) := by
  intro p l e R s m args below meth c cc nL G Qf cl hX hC ga nx9 lb gb rt cs ga' cs' hc hD r u H locs cells slots ls Kn Kb Kr hL hA hw hn hb hr hx9
  simp only [ifeP] at hc hw
  split at hc
  case h_2 => cases hc
  rename_i cs1 h0
  split at hc
  case h_2 => cases hc
  rename_i ga1 cs2 h1
  split at hc
  case h_2 => cases hc
  rename_i cs3 h2
  split at hc
  case isFalse => cases hc
  rename_i hE
  split at hc
  case h_2 => cases hc
  rename_i ga2 cs4 h3
  cases hc
  have D1 := dc _ _ _ _ _ _ _ h0 hD
  have D2 := da _ _ _ _ _ _ _ _ _ _ h1 D1
  have D3 := ife_g h2 D2
  refine hc0 p l e R s m args below meth c cc nL G Qf cl hX hC ga 0 true E cs cs1 h0 hD r u H locs cells slots ls [] _ _ hL hA (Nat.le_refl _) hw ?_ ?_
  · intro u' H' locs' cells' slots' hA' hq _
    exact ha p l e R s m args below meth c cc nL G Qf cl hX hC ga nx9 lb gb rt cs1 ga1 cs2 h1 D1 r u' H' locs' cells' slots' ls Kn Kb Kr hL hA' hq (fun r' u2 H2 locs2 cells2 slots2 ls2 hL2 hA2 hq2 => hn r' u2 H2 locs2 cells2 slots2 ls2 (hL2.sub int9_l) hA2 hq2) hb hr hx9
  · intro u' H' locs' cells' slots' hA' hq _
    simp only [if_true]
    rw [← hE.1]
    exact hb0 p l e R s m args below meth c cc nL G Qf cl hX hC ga nx9 lb gb rt cs3 ga2 cs' h3 D3 r u' H' locs' cells' slots' ls Kn Kb Kr hL hA' hq (fun r' u2 H2 locs2 cells2 slots2 ls2 hL2 hA2 hq2 => hn r' u2 H2 locs2 cells2 slots2 ls2 (hL2.sub int9_r) hA2 hq2) hb hr hx9
def ife {ow : Nat} (g : Bool) (E : Nat) (c : CX ow) (a b : SX ow) : SX ow := ⟨ifeP g E c.1 a.1 b.1, ife_ok ow g E c.1 a.1 b.1 c.2.1 a.2.1 b.2.1 c.2.2 a.2.2, ife_d g E c.1 a.1 b.1 c.2.2 a.2.2 b.2.2⟩
/-- only some places of the frame are used from here on -/
def wkP (ks : List Nat) (a : XS) : XS := (fun ga nL nx9 lb gb rt cs => a.1 (ga.filter (fun q => ks.contains q.1)) nL nx9 lb gb rt cs, a.2)
theorem wk_ok (ow : Nat) (ks : List Nat) (a : XS) (ha : SndS ow a) : SndS ow (wkP ks a) := by
  intro p l e R s m args below meth c cc nL G Qf cl hX hC ga nx9 lb gb rt cs ga' cs' hc hD r u H locs cells slots ls Kn Kb Kr hL hA hw hn hb hr hx9
  exact ha p l e R s m args below meth c cc nL G Qf cl hX hC _ nx9 lb gb rt cs ga' cs' hc hD r u H locs cells slots ls Kn Kb Kr (hL.sub (fun q hq => (List.mem_filter.mp hq).1)) hA hw hn hb hr hx9
def wk {ow : Nat} (ks : List Nat) (a : SX ow) : SX ow := ⟨wkP ks a.1, wk_ok ow ks a.1 a.2.1, fun ga nL nx9 lb gb rt cs ga' cs' cc hc hD => a.2.2 _ nL nx9 lb gb rt cs ga' cs' cc hc hD⟩
/-- while: C the place of the step (the head, where there is none) -/
def whlP (hs : Bool) (C : Nat) (c : XC) (a b : XS) : XS := (fun ga nL nx9 lb gb rt cs => match c.1 ga 0 true nx9 cs with
    | some cs1 => match a.1 ga nL C lb gb rt cs1 with
      | some (ga1, cs2) => match (if hs then (if pcOf cs2 = C ∧ cs2 ≠ [] then b.1 ga1 nL (pcOf cs) lb gb rt cs2 else none) else (if C = pcOf cs then some (ga1, cs2) else none)) with
        | some (ga2, cs3) => if ga.all (fun q => ga2.contains q) = true then (nxg (pcOf cs) cs3).map (fun x => (ga, x)) else none
        | _ => none
      | _ => none
    | _ => none, fun cl Kn Kb Kr r u => ∃ I : Nat → Rho → Sto → Prop, (∃ n, I n r u) ∧ ∀ n r u, I n r u →
      c.2 cl (fun u' => a.2 cl (fun r2 u2 => if hs then b.2 cl (fun r3 u3 => ∃ n', n' < n ∧ I n' r3 u3) Kb Kr r2 u2 else ∃ n', n' < n ∧ I n' r2 u2) Kb Kr r u') (fun u' => Kn r u') r u)
theorem whl_s {hs : Bool} {C : Nat} {b : XS} {ga1 ga2 : Gam} {nL h lb : Nat} {gb : Gam} {rt : Nat} {cs2 cs3 : Cds} {cc : ByteArray} (db : DecS b)
    (q : (if hs then (if pcOf cs2 = C ∧ cs2 ≠ [] then b.1 ga1 nL h lb gb rt cs2 else none) else (if C = h then some (ga1, cs2) else none)) = some (ga2, cs3)) (hD : Dec cc cs2) : Dec cc cs3 := by
  cases hs
  · simp only [Bool.false_eq_true, if_false] at q
    split at q
    · cases q; exact hD
    · cases q
  · simp only [if_true] at q
    split at q
    · exact db _ _ _ _ _ _ _ _ _ _ q hD
    · cases q
theorem whl_d (hs : Bool) (C : Nat) (c : XC) (a b : XS) (hc0 : DecC c) (ha : DecS a) (hb : DecS b) : DecS (whlP hs C c a b) := by
  intro ga nL nx9 lb gb rt cs ga' cs' cc hc hD
  simp only [whlP] at hc
  split at hc
  case h_2 => cases hc
  rename_i h0
  split at hc
  case h_2 => cases hc
  rename_i h1
  split at hc
  case h_2 => cases hc
  rename_i h2
  split at hc
  case isFalse => cases hc
  exact (mapg hc (whl_s hb h2 (ha _ _ _ _ _ _ _ _ _ _ h1 (hc0 _ _ _ _ _ _ _ h0 hD)))).2.2
theorem whl_ok (ow : Nat) (hs : Bool) (C : Nat) (c0 : XC) (a b : XS) (hc0 : SndC ow c0) (ha : SndS ow a) (hb0 : SndS ow b) (dc : DecC c0) (da : DecS a) (db : DecS b) : SndS ow (whlP hs C c0 a b) := by
  intro p l e R s m args below meth c cc nL G Qf cl hX hC ga nx9 lb gb rt cs ga' cs' hc hD r u H locs cells slots ls Kn Kb Kr hL hA hw hn hb hr hx9
  simp only [whlP] at hc hw
  split at hc
  case h_2 => cases hc
  rename_i cs1 h0
  split at hc
  case h_2 => cases hc
  rename_i ga1 cs2 h1
  split at hc
  case h_2 => cases hc
  rename_i ga2 cs3 h2
  split at hc
  case isFalse => cases hc
  rename_i hsub
  have D1 := dc _ _ _ _ _ _ _ h0 hD
  have D2 := da _ _ _ _ _ _ _ _ _ _ h1 D1
  have D3 := whl_s db h2 D2
  obtain ⟨rfl, g1, -⟩ := mapg hc D3
  obtain ⟨I, ⟨n, hI⟩, hstep⟩ := hw
  have main : ∀ n r u H locs cells slots ls, I n r u → LR G nL ga' r ls → At G R s.heap u H locs cells slots → W p l e R s m args below meth c H locs cells slots Qf (F0 m (pcOf cs) ls []) := by
    intro n
    induction n using Nat.strongRecOn with
    | _ n ih =>
      intro r u H locs cells slots ls hI hL hA
      refine hc0 p l e R s m args below meth c cc nL G Qf cl hX hC ga' 0 true nx9 cs cs1 h0 hD r u H locs cells slots ls [] _ _ hL hA (Nat.le_refl _) (hstep n r u hI) ?_ ?_
      · intro u' H' locs' cells' slots' hA' hq _
        simp only [if_true]
        refine ha p l e R s m args below meth c cc nL G Qf cl hX hC ga' C lb gb rt cs1 ga1 cs2 h1 D1 r u' H' locs' cells' slots' ls _ _ _ hL hA' hq ?_ hb hr hx9
        intro r2 u2 H2 locs2 cells2 slots2 ls2 hL2 hA2 hq2
        have back : ∀ (r3 : Rho) (u3 : Sto) (H3 : Heap) (locs3 : List Loc) (cells3 slots3 : Nat) (ls3 : Array Slot), LR G nL ga2 r3 ls3 → At G R s.heap u3 H3 locs3 cells3 slots3 → (∃ n', n' < n ∧ I n' r3 u3) → W p l e R s m args below meth c H3 locs3 cells3 slots3 Qf (F0 m (pcOf cs) ls3 []) := by
          intro r3 u3 H3 locs3 cells3 slots3 ls3 hL3 hA3 hq3
          obtain ⟨n', hlt, hI'⟩ := hq3
          exact ih n' hlt r3 u3 H3 locs3 cells3 slots3 ls3 hI' (hL3.sub (sub_all hsub)) hA3
        cases hs
        · simp only [Bool.false_eq_true, if_false] at h2 hq2
          split at h2
          case isFalse => cases h2
          rename_i hC
          cases h2
          rw [hC]
          exact back r2 u2 H2 locs2 cells2 slots2 ls2 hL2 hA2 hq2
        · simp only [if_true] at h2 hq2
          split at h2
          case isFalse => cases h2
          rename_i hCC
          have := hb0 p l e R s m args below meth c cc nL G Qf cl hX hC ga1 (pcOf cs) lb gb rt cs2 ga2 cs3 h2 D2 r2 u2 H2 locs2 cells2 slots2 ls2 _ _ _ hL2 hA2 hq2 back hb hr hx9
          rw [hCC.1] at this
          exact this
      · intro u' H' locs' cells' slots' hA' hq _
        simp only [if_true]
        exact hn r u' H' locs' cells' slots' ls hL hA' hq
  exact main n r u H locs cells slots ls hI hL hA
def whl {ow : Nat} (hs : Bool) (C : Nat) (c : CX ow) (a b : SX ow) : SX ow := ⟨whlP hs C c.1 a.1 b.1, whl_ok ow hs C c.1 a.1 b.1 c.2.1 a.2.1 b.2.1 c.2.2 a.2.2 b.2.2, whl_d hs C c.1 a.1 b.1 c.2.2 a.2.2 b.2.2⟩

