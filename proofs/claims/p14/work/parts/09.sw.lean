/-! trees: switches, written constants -/
/-- a, then out of the switch, nothing written for it -/
def sbnP (a : XS) : XS := (fun ga nL _ lb gb rt cs => match a.1 ga nL lb lb gb rt cs with
    | some (ga1, cs1) => if gb.all (fun q => ga1.contains q) = true then some (ga, cs1) else none
    | _ => none, fun cl _ Kb Kr r u => a.2 cl Kb Kb Kr r u)
theorem sbn_d (a : XS) (ha : DecS a) : DecS (sbnP a) := by
  intro ga nL nx9 lb gb rt cs ga' cs' cc hc hD
  simp only [sbnP] at hc
  split at hc
  case h_2 => cases hc
  rename_i h1
  split at hc
  case isFalse => cases hc
  cases hc
  exact ha _ _ _ _ _ _ _ _ _ _ h1 hD
theorem sbn_ok (ow : Nat) (a : XS) (ha : SndS ow a) : SndS ow (sbnP a) := by
  intro p l e R s m args below meth c cc nL G Qf cl hX hC ga nx9 lb gb rt cs ga' cs' hc hD r u H locs cells slots ls Kn Kb Kr hL hA hw hn hb hr hx9
  simp only [sbnP] at hc hw
  split at hc
  case h_2 => cases hc
  rename_i ga1 cs1 h1
  split at hc
  case isFalse => cases hc
  rename_i hcond
  refine ha p l e R s m args below meth c cc nL G Qf cl hX hC ga lb lb gb rt cs ga1 cs1 h1 hD r u H locs cells slots ls _ _ _ hL hA hw ?_ hb hr hx9
  intro r' u' H' locs' cells' slots' ls' hL' hA' hq
  exact hb r' u' H' locs' cells' slots' ls' (hL'.sub (sub_all hcond)) hA' hq
def sbn {ow : Nat} (a : SX ow) : SX ow := ⟨sbnP a.1, sbn_ok ow a.1 a.2.1, sbn_d a.1 a.2.2⟩
abbrev SW (ow : Nat) : Type := List (List Int × SX ow)
def swW {ow : Nat} (d : ClT → (Rho → Sto → Prop) → (Rho → Sto → Prop) → (Int → Sto → Prop) → Rho → Sto → Prop) (v : Int) : SW ow → ClT → (Rho → Sto → Prop) → (Rho → Sto → Prop) → (Int → Sto → Prop) → Rho → Sto → Prop
  | [] => d
  | q :: t => fun cl Kn Kb Kr r u => (v ∈ q.1 → q.2.1.2 cl Kn Kb Kr r u) ∧ (¬ v ∈ q.1 → swW d v t cl Kn Kb Kr r u)
def swL {ow : Nat} (ga : Gam) (nL nx9 : Nat) (rt : Nat) : SW ow → Cds → Option (List (List Int × Nat) × Cds)
  | [], cs => some ([], cs)
  | q :: t, cs => match q.2.1.1 ga nL nx9 nx9 ga rt cs with
    | some (ga1, cs1) => if ga.all (fun z => ga1.contains z) = true then match swL ga nL nx9 rt t cs1 with
        | some (ls, cs2) => some ((q.1, pcOf cs) :: ls, cs2)
        | _ => none
      else none
    | _ => none
def labOf (dl : Nat) (v : Int) : List (List Int × Nat) → Nat
  | [] => dl
  | q :: t => if v ∈ q.1 then q.2 else labOf dl v t
def tgtOK (i : Instr) (pc dl : Nat) (ls : List (List Int × Nat)) : Bool := match i with
  | .tableswitch d lo hi offs => decide ((pc : Int) + d = dl) && (List.range (hi - lo + 1).toNat).all (fun k => decide (offs[k]? = some ((labOf dl (lo + k) ls : Int) - pc))) && ls.all (fun q => q.1.all (fun x => decide (lo ≤ x ∧ x ≤ hi)))
  | .lookupswitch d ps => decide ((pc : Int) + d = dl) && (ps.toList.zip (ps.toList.drop 1)).all (fun (a, next) => a.1 < next.1) && ps.toList.all (fun q => decide ((pc : Int) + q.2 = labOf dl q.1 ls)) && ls.all (fun q => q.1.all (fun x => (ps.toList.map (fun z => z.1)).contains x))
  | _ => false
theorem labOf_out {dl : Nat} {v : Int} : ∀ {ls : List (List Int × Nat)}, (∀ q ∈ ls, ¬ v ∈ q.1) → labOf dl v ls = dl
  | [], _ => rfl
  | q :: t, h => by
    unfold labOf
    rw [if_neg (h q List.mem_cons_self)]
    exact labOf_out (fun z hz => h z (List.mem_cons_of_mem _ hz))
theorem look_off {d pc : Int} {dl : Nat} {ls : List (List Int × Nat)} {v : Int} : ∀ {ps : List (Int × Int)}, (∀ q ∈ ps, pc + q.2 = labOf dl q.1 ls) → (pc + d = dl) → ((¬ v ∈ ps.map (fun z => z.1)) → labOf dl v ls = dl) → pc + Op.lookupswitch.offset ps d v = labOf dl v ls
  | [], _, h2, h3 => by
    rw [h3 (by simp)]
    simpa [Op.lookupswitch.offset] using h2
  | q :: t, h1, h2, h3 => by
    rw [Op.lookupswitch.offset_cons]
    by_cases hq : q.1 = v
    · rw [if_pos (by first | exact hq | exact hq.symm)]
      rw [← hq]
      exact h1 q List.mem_cons_self
    · rw [if_neg (by first | exact hq | exact fun z => hq z.symm)]
      refine look_off (fun z hz => h1 z (List.mem_cons_of_mem _ hz)) h2 (fun hn => h3 ?_)
      intro hz
      simp only [List.map_cons, List.mem_cons] at hz
      rcases hz with hz | hz
      · exact hq hz.symm
      · exact hn hz
section SWR
variable {p : Program} {l : Launch} {e : Env} {R : Room} {s : State} {m : MethodId} {args : Array Value} {below : List Frame} {meth : Method} {c : Code} {cc : ByteArray} {H : Heap} {locs : List Loc} {cells slots : Nat} {Q : State → Prop} {pc : Nat} {ls : Array Slot} {st : List Value}
theorem sw_row {i : Instr} {len dl : Nat} {lbs : List (List Int × Nat)} {v : Int} (hx : p.tables.exec = Jvm.exec) (hb : c.code = cc) (hd : decode cc pc = .ok (i, len)) (ht : tgtOK i pc dl lbs = true) (hv : inI v)
    (k : W p l e R s m args below meth c H locs cells slots Q (F0 m (labOf dl v lbs) ls st)) : W p l e R s m args below meth c H locs cells slots Q (F0 m pc ls (.int (Int32.ofInt v) :: st)) := by
  unfold tgtOK at ht
  split at ht
  · rename_i d lo hi offs
    simp only [Bool.and_eq_true, decide_eq_true_eq, List.all_eq_true, List.mem_range] at ht
    obtain ⟨⟨h1, h2⟩, h3⟩ := ht
    by_cases hin : lo ≤ v ∧ v ≤ hi
    · have := h2 (v - lo).toNat (by omega)
      rw [show lo + ((v - lo).toNat : Int) = v by omega] at this
      exact lv_tableIn (off := (labOf dl v lbs : Int) - pc) hx hb hd (by rw [ofI_toInt hv]; omega) (by rw [ofI_toInt hv]; omega) (by rw [ofI_toInt hv]; exact this) (by omega) k
    · rw [labOf_out (fun q hq hm => hin (h3 q hq v hm))] at k
      exact lv_tableOut hx hb hd (by rw [ofI_toInt hv]; omega) h1 k
  · rename_i d ps
    simp only [Bool.and_eq_true, decide_eq_true_eq, List.all_eq_true] at ht
    obtain ⟨⟨⟨h1, h2⟩, h3⟩, h4⟩ := ht
    refine lv_lookup hx hb hd (List.all_eq_true.mpr (fun x hx => by simpa using h2 x hx)) rfl ?_ k
    rw [ofI_toInt hv]
    refine look_off h3 h1 (fun hn => labOf_out (fun q hq hm => hn ?_))
    have := h4 q hq v hm
    simpa using this
  · cases ht
end SWR
def swD {ow : Nat} (g : Bool) (b : SX ow) (ga : Gam) (nL nx9 rt : Nat) (cs : Cds) : Option (Gam × Cds) := if g then b.1.1 ga nL nx9 nx9 ga rt cs else some (ga, cs)
def swE (g : Bool) (cs : Cds) (n : Nat) : Nat := if g then pcOf cs else n
/-- g: there is a default, laid last -/
def swP {ow : Nat} (g : Bool) (a : XE) (bs : SW ow) (b : SX ow) : XS := (fun ga nL nx9 _ _ rt cs => match a.1 ga 0 cs with
    | some (0, (pc, i, len) :: cs1) => match swL ga nL nx9 rt bs cs1 with
      | some (lbs, cs2) => match swD g b ga nL nx9 rt cs2 with
        | some (ga9, cs3) => if tgtOK i pc (swE g cs2 nx9) lbs = true ∧ ga.all (fun z => ga9.contains z) = true then some (ga, cs3) else none
        | _ => none
      | _ => none
    | _ => none, fun cl Kn Kb Kr r u => a.2 cl (fun v u' => swW (if g then fun cl Kn Kb Kr r u => b.1.2 cl Kn Kb Kr r u else fun _ Kn _ _ r u => Kn r u) v bs cl Kn Kn Kr r u') r u)
theorem swL_d {ow : Nat} {ga : Gam} {nL nx9 rt : Nat} {cc : ByteArray} : ∀ (bs : SW ow) {cs : Cds} {lbs : List (List Int × Nat)} {cs' : Cds}, swL ga nL nx9 rt bs cs = some (lbs, cs') → Dec cc cs → Dec cc cs'
  | [], cs, lbs, cs', h, hD => by simp only [swL] at h; cases h; exact hD
  | q :: t, cs, lbs, cs', h, hD => by
    simp only [swL] at h
    split at h
    case h_2 => cases h
    rename_i h0
    split at h
    case isFalse => cases h
    split at h
    case h_2 => cases h
    rename_i h1
    cases h
    exact swL_d t h1 (q.2.2.2 _ _ _ _ _ _ _ _ _ _ h0 hD)
theorem sw_d {ow : Nat} (g : Bool) (a : XE) (bs : SW ow) (b : SX ow) (ha : DecE a) : DecS (swP g a bs b) := by
  intro ga nL nx9 lb gb rt cs ga' cs' cc hc hD
  simp only [swP] at hc
  split at hc
  case h_2 => cases hc
  rename_i h0
  split at hc
  case h_2 => cases hc
  rename_i h1
  split at hc
  case h_2 => cases hc
  rename_i h2
  split at hc
  case isFalse => cases hc
  cases hc
  have D1 := swL_d bs h1 (ha _ _ _ _ _ _ h0 hD).2.2
  unfold swD at h2
  cases g
  · simp only [Bool.false_eq_true, if_false] at h2
    cases h2; exact D1
  · simp only [if_true] at h2
    exact b.2.2 _ _ _ _ _ _ _ _ _ _ h2 D1
theorem sw_ok {ow : Nat} (g : Bool) (a : XE) (bs : SW ow) (b : SX ow) (ha : SndE ow a) : SndS ow (swP g a bs b) := by
  intro p l e R s m args below meth c cc nL G Qf cl hX hC ga nx9 lb gb rt cs ga' cs' hc hD r u H locs cells slots ls Kn Kb Kr hL hA hw hn hb hr hx9
  simp only [swP] at hc hw
  split at hc
  case h_2 => cases hc
  rename_i pc i len cs1 h0
  split at hc
  case h_2 => cases hc
  rename_i lbs cs2 h1
  split at hc
  case h_2 => cases hc
  rename_i ga9 cs3 h2
  split at hc
  case isFalse => cases hc
  rename_i hcond
  cases hc
  unfold swD at h2
  unfold swE at hcond
  refine ha p l e R s m args below meth c cc nL G Qf cl hX hC ga 0 cs 0 _ h0 hD r u H locs cells slots ls [] _ hL hA (Nat.le_refl _) hw ?_
  intro v u' H' locs' cells' slots' hv hA' hq hD1
  have hv : inI v := hv
  have D1 := hD1.2.2
  have D2 := swL_d bs h1 D1
  have hn' : ∀ (ga1 : Gam), ga.all (fun z => ga1.contains z) = true → ∀ (r' : Rho) (u' : Sto) (H' : Heap) (locs' : List Loc) (cells' slots' : Nat) (ls' : Array Slot), LR G nL ga1 r' ls' → At G R s.heap u' H' locs' cells' slots' → Kn r' u' → W p l e R s m args below meth c H' locs' cells' slots' Qf (F0 m nx9 ls' []) :=
    fun ga1 hs r' u2 H2 locs2 cells2 slots2 ls2 hL2 hA2 hq2 => hn r' u2 H2 locs2 cells2 slots2 ls2 (hL2.sub (sub_all hs)) hA2 hq2
  have hn0 := hn
  rw [enc_0]
  refine sw_row (dl := if g then pcOf cs2 else nx9) hX.1 hX.2.1 hD1.1 hcond.1 hv ?_
  have dflt : (if g then fun cl Kn Kb Kr r u => b.1.2 cl Kn Kb Kr r u else fun _ Kn _ _ r u => Kn r u : ClT → (Rho → Sto → Prop) → (Rho → Sto → Prop) → (Int → Sto → Prop) → Rho → Sto → Prop) cl Kn Kn Kr r u' → W p l e R s m args below meth c H' locs' cells' slots' Qf (F0 m (if g then pcOf cs2 else nx9) ls []) := by
    intro hq
    cases g
    · simp only [Bool.false_eq_true, if_false] at hq ⊢
      exact hn r u' H' locs' cells' slots' ls hL hA' hq
    · simp only [if_true] at hq h2 ⊢
      exact b.2.1 p l e R s m args below meth c cc nL G Qf cl hX hC ga nx9 nx9 ga rt cs2 ga9 cs' h2 D2 r u' H' locs' cells' slots' ls Kn Kn Kr hL hA' hq (hn' ga9 hcond.2) hn0 hr hx9
  clear h2
  generalize (if g then pcOf cs2 else nx9) = dl at dflt ⊢
  generalize (if g then fun cl Kn Kb Kr r u => b.1.2 cl Kn Kb Kr r u else fun _ Kn _ _ r u => Kn r u : ClT → (Rho → Sto → Prop) → (Rho → Sto → Prop) → (Int → Sto → Prop) → Rho → Sto → Prop) = dw at hq dflt
  clear hcond hD1 h0 D2 hw
  induction bs generalizing cs1 lbs with
  | nil =>
    simp only [swL] at h1
    cases h1
    exact dflt hq
  | cons q t ih =>
    simp only [swL] at h1
    split at h1
    case h_2 => cases h1
    rename_i ga1 cs4 g0
    split at h1
    case isFalse => cases h1
    rename_i gs
    split at h1
    case h_2 => cases h1
    rename_i lbs2 cs5 g1
    cases h1
    unfold labOf
    by_cases hm : v ∈ q.1
    · rw [if_pos hm]
      exact q.2.2.1 p l e R s m args below meth c cc nL G Qf cl hX hC ga nx9 nx9 ga rt cs1 ga1 cs4 g0 D1 r u' H' locs' cells' slots' ls Kn Kn Kr hL hA' (hq.1 hm) (hn' ga1 gs) hn0 hr hx9
    · rw [if_neg hm]
      exact ih cs4 lbs2 g1 (q.2.2.2 _ _ _ _ _ _ _ _ _ _ g0 D1) (hq.2 hm)
def sw {ow : Nat} (g : Bool) (a : EX ow) (bs : SW ow) (b : SX ow) : SX ow := ⟨swP g a.1 bs b, sw_ok g a.1 bs b a.2.1, sw_d g a.1 bs b a.2.2⟩
def ljkP (n : Fin 2) : XE := (fun _ _ cs => if 0 ≤ (n : Nat) then (nx (.lconst n) 1 cs).map (fun x => (1, x)) else none, fun _ Q _ u => Q (n : Nat) u)
theorem ljk_ok (ow : Nat) (n : Fin 2) : SndE ow (ljkP n) := by
  intro p l e R s m args below meth c cc nL G Qf cl hX hC ga d cs t cs' hc hD r u H locs cells slots ls st Q hL hA hs hw k
  simp only [ljkP] at hc hw
  split at hc
  case isFalse => cases hc
  obtain ⟨x, hx, e1⟩ := Option.map_eq_some_iff.mp hc
  cases e1
  obtain ⟨h1, h2, h3⟩ := nx_ok hx hD
  have hi : inL ((n : Nat) : Int) := by have := n.isLt; unfold inL; omega
  have k' := k _ u H locs cells slots hi hA hw h3
  rw [h2] at k'
  exact lv_lconst hX.1 hX.2.1 h1 rfl k'
def ljk {ow : Nat} (n : Fin 2) : EX ow := ⟨ljkP n, ljk_ok ow n, by
  intro ga d cs t cs' cc hc hD
  simp only [ljkP] at hc
  split at hc
  case isFalse => cases hc
  exact map_nx hc hD⟩
def KonAt (ow cp : Nat) (v : Int) : Prop := Cond.constant (kC ow) cp (Int32.ofInt v) ∈ gTbl ∧ inI v
def KojAt (ow cp : Nat) (v : Int) : Prop := Cond.constantLong (kC ow) cp (Int64.ofInt v) ∈ gTbl ∧ inL v

def ldkP (cp : Nat) (v : Int) : XE := (fun _ _ cs => if 0 ≤ cp then (nx (.ldc cp) 2 cs).map (fun x => (0, x)) else none, fun _ Q _ u => Q v u)
theorem ldk_ok (ow cp : Nat) (v : Int) (hf : KonAt ow cp v) : SndE ow (ldkP cp v) := by
  intro p l e R s m args below meth c cc nL G Qf cl hX hC ga d cs t cs' hc hD r u H locs cells slots ls st Q hL hA hs hw k
  simp only [ldkP] at hc hw
  split at hc
  case isFalse => cases hc
  obtain ⟨x, hx, e1⟩ := Option.map_eq_some_iff.mp hc
  cases e1
  obtain ⟨h1, h2, h3⟩ := nx_ok hx hD
  have k' := k _ u H locs cells slots hf.2 hA hw h3
  rw [h2] at k'
  exact lv_ldc hX.1 hX.2.1 hX.2.2.2.1 (hX.2.2.2.2.1 _ hf.1) h1 k'
def ldk {ow cp : Nat} {v : Int} (hf : KonAt ow cp v) : EX ow := ⟨ldkP cp v, ldk_ok ow cp v hf, by
  intro ga d cs t cs' cc hc hD
  simp only [ldkP] at hc
  split at hc
  case isFalse => cases hc
  exact map_nx hc hD⟩
def ldwP (cp : Nat) (v : Int) : XE := (fun _ _ cs => if 0 ≤ cp then (nx (.ldc_w cp) 3 cs).map (fun x => (0, x)) else none, fun _ Q _ u => Q v u)
theorem ldw_ok (ow cp : Nat) (v : Int) (hf : KonAt ow cp v) : SndE ow (ldwP cp v) := by
  intro p l e R s m args below meth c cc nL G Qf cl hX hC ga d cs t cs' hc hD r u H locs cells slots ls st Q hL hA hs hw k
  simp only [ldwP] at hc hw
  split at hc
  case isFalse => cases hc
  obtain ⟨x, hx, e1⟩ := Option.map_eq_some_iff.mp hc
  cases e1
  obtain ⟨h1, h2, h3⟩ := nx_ok hx hD
  have k' := k _ u H locs cells slots hf.2 hA hw h3
  rw [h2] at k'
  exact lv_ldcw hX.1 hX.2.1 hX.2.2.2.1 (hX.2.2.2.2.1 _ hf.1) h1 k'
def ldw {ow cp : Nat} {v : Int} (hf : KonAt ow cp v) : EX ow := ⟨ldwP cp v, ldw_ok ow cp v hf, by
  intro ga d cs t cs' cc hc hD
  simp only [ldwP] at hc
  split at hc
  case isFalse => cases hc
  exact map_nx hc hD⟩
def ldk2P (cp : Nat) (v : Int) : XE := (fun _ _ cs => if 0 ≤ cp then (nx (.ldc2_w cp) 3 cs).map (fun x => (1, x)) else none, fun _ Q _ u => Q v u)
theorem ldk2_ok (ow cp : Nat) (v : Int) (hf : KojAt ow cp v) : SndE ow (ldk2P cp v) := by
  intro p l e R s m args below meth c cc nL G Qf cl hX hC ga d cs t cs' hc hD r u H locs cells slots ls st Q hL hA hs hw k
  simp only [ldk2P] at hc hw
  split at hc
  case isFalse => cases hc
  obtain ⟨x, hx, e1⟩ := Option.map_eq_some_iff.mp hc
  cases e1
  obtain ⟨h1, h2, h3⟩ := nx_ok hx hD
  have k' := k _ u H locs cells slots hf.2 hA hw h3
  rw [h2] at k'
  exact lv_ldc2 hX.1 hX.2.1 hX.2.2.2.1 (hX.2.2.2.2.1 _ hf.1) h1 k'
def ldk2 {ow cp : Nat} {v : Int} (hf : KojAt ow cp v) : EX ow := ⟨ldk2P cp v, ldk2_ok ow cp v hf, by
  intro ga d cs t cs' cc hc hD
  simp only [ldk2P] at hc
  split at hc
  case isFalse => cases hc
  exact map_nx hc hD⟩
