/-! trees: what constructors do -/
def clr (f : Mem) (a : Int) : Mem := fun x y => if x = a then 0 else f x y
def alc (u : Sto) (w : Nat) : Sto := (clr u.1 (stn u), clr u.2.1 (stn u), stn u + 1, sex u, sbc u - 1, sbw u - w)
def alcok (u : Sto) (k : Nat) (w : Nat) : Prop := kcls (stn u) = k ∧ sex u = 1 ∧ 1 ≤ sbc u ∧ w ≤ sbw u
theorem okv_0 (t : Nat) : okv t 0 := by
  unfold okv inL inI
  split
  · omega
  · split
    · trivial
    · split
      · omega
      · split <;> omega
theorem at_alc {G : Geo} {R : Room} {H0 H H' : Heap} {u : Sto} {locs : List Loc} {cells slots k w : Nat} {U : State} (hA : At G R H0 u H locs cells slots) (hK : KOK G U) (hok : alcok u k w) (h1 : 1 ≤ k) {cell : Cell} (hc : H'[H.size]? = some cell) (hz : H'.size = H.size + 1) (hq : ∀ q, q < H.size → H'[q]? = H[q]?)
    (c1 : cell.vm = .none) (c2 : cell.cls = G.2.1 k) (c3 : 14 ≤ k → cell.slots.size = (klen (stn u)).toNat) (c4 : ∀ j : Nat, (j : Int) < klen (stn u) → cell.slots[G.2.2.1 k j]? = some (enc G.1 (ety k j) 0)) (hbase : G.2.2.2 ≤ H.size) :
    At G R H0 (alc u w) H' locs (cells + 1) (slots + w) ∧ G.1 (stn u) = H.size ∧ live (alc u w) (stn u) k := by
  obtain ⟨⟨r1, r2, r3, r4, r5⟩, ⟨f1, f2, f3⟩, b1, b2⟩ := hA
  obtain ⟨k1, k2, k3, k4⟩ := hok
  have hsz := r5 k2
  have ha : G.1 (stn u) = H.size := by rw [hK.1 _ (by omega)]; omega
  have hlt : ∀ x : Int, 0 < x → x < stn u → G.1 x < H.size := fun x x1 x2 => by rw [hK.1 x x1]; omega
  refine ⟨⟨⟨fun x x1 x2 x3 => ?_, fun x x1 x2 j hj ht => ?_, ?_, ?_, ?_⟩, ⟨by omega, fun q hq2 => (hq q (by omega)).trans (f2 q hq2), f3⟩, ?_, ?_⟩, ha, ?_⟩
  · have x2 : x < stn u + 1 := x2
    by_cases hx : x = stn u
    · subst hx
      refine ⟨cell, by rw [ha]; exact hc, c1, by rw [k1]; exact c2, fun h14 => c3 (by rw [k1] at h14; exact h14), fun j hj => ?_⟩
      rw [k1, c4 j hj]
      congr 2
      unfold rd alc clr
      by_cases ht : ety k j = 2 <;> simp [ht]
    · obtain ⟨cl', q1, q2, q3, q4, q5⟩ := r1 x x1 (by omega) x3
      refine ⟨cl', by rw [hq _ (hlt x x1 (by omega))]; exact q1, q2, q3, q4, fun j hj => ?_⟩
      rw [q5 j hj]
      congr 2
      unfold rd alc clr
      by_cases ht : ety (kcls x) j = 2 <;> simp [ht, hx]
  · have x2 : x < stn u + 1 := x2
    by_cases hx : x = stn u
    · subst hx
      show okv _ (clr u.2.1 (stn u) (stn u) j)
      unfold clr
      rw [if_pos rfl]
      exact okv_0 _
    · show okv _ (clr u.2.1 (stn u) x j)
      unfold clr
      rw [if_neg hx]
      exact r2 x x1 (by omega) j hj ht
  · show 1 ≤ stn u + 1; omega
  · show G.2.2.2 + (stn u + 1).toNat ≤ H'.size + 1; omega
  · intro _; show H'.size + 1 = G.2.2.2 + (stn u + 1).toNat; omega
  · show cells + 1 + (sbc u - 1) ≤ R.cells; omega
  · show slots + w + (sbw u - w) ≤ R.slots; omega
  · exact ⟨by omega, by show stn u < stn u + 1; omega, k1⟩
/-- super() -/
def oiniP (cp : Nat) (a : XE) : XS := (fun ga _ nx9 _ _ _ cs => match a.1 ga 0 cs with
    | some (2, cs1) => match nx (.invokespecial cp) 3 cs1 with
      | some cs2 => if okt nx9 cs2 = true then some (ga, cs2) else none
      | _ => none
    | _ => none, fun cl Kn _ _ r u => a.2 cl (fun v u' => v ≠ 0 ∧ Kn r u') r u)
theorem oini_d (cp : Nat) (a : XE) (ha : DecE a) : DecS (oiniP cp a) := by
  intro ga nL nx9 lb gb rt cs ga' cs' cc hc hD
  simp only [oiniP] at hc
  split at hc
  case h_2 => cases hc
  rename_i h0
  split at hc
  case h_2 => cases hc
  rename_i h1
  split at hc
  case isFalse => cases hc
  cases hc
  exact (nx_ok h1 (ha _ _ _ _ _ _ h0 hD)).2.2
def ObjAt (ow cp : Nat) : Prop := Cond.methodLink (kC ow) cp objectInit ∈ gTbl ∧ Cond.instanceMethod objectInit ∈ gTbl ∧ Cond.code objectInit ⟨#[0xb1]⟩ 1 none ∈ gTbl
theorem oini_ok (ow cp : Nat) (hf : ObjAt ow cp) (a : XE) (ha : SndE ow a) : SndS ow (oiniP cp a) := by
  intro p l e R s m args below meth c cc nL G Qf cl hX hC ga nx9 lb gb rt cs ga' cs' hc hD r u H locs cells slots ls Kn Kb Kr hL hA hw hn hb hr hx9
  simp only [oiniP] at hc hw
  split at hc
  case h_2 => cases hc
  rename_i cs1 h0
  split at hc
  case h_2 => cases hc
  rename_i cs2 h1
  split at hc
  case isFalse => cases hc
  rename_i hk9
  cases hc
  have hts := hX.2.2.2.2.1
  refine ha p l e R s m args below meth c cc nL G Qf cl hX hC ga 0 cs _ cs1 h0 hD r u H locs cells slots ls [] _ hL hA (Nat.le_refl _) hw ?_
  intro v u' H' locs' cells' slots' hv hA' hq hD1
  obtain ⟨g1, g2, g3⟩ := nx_ok h1 hD1
  rw [enc_2 _ hq.1]
  refine W.objInit hX.1 hX.2.1 hX.2.2.2.1 (hts _ hf.1) (hts _ hf.2.1) (hts _ hf.2.2) rfl (by rw [hX.2.2.1]; exact hL.1.1) rfl g1 hX.2.2.2.2.2.2.2.1 (by have := hX.2.2.2.2.2.2.2.2.1; show 2 * 0 + 0 + 12 ≤ _; omega) ?_
  refine W.eq (g2 := F0 m (pcOf cs') ls []) (by rw [g2]) ?_
  exact okt_W hk9 hX.1 hX.2.1 g3 (hn r u' H' locs' cells' slots' ls hL hA' hq.2)
def oini {ow cp : Nat} (hf : ObjAt ow cp) (a : EX ow) : SX ow := ⟨oiniP cp a.1, oini_ok ow cp hf a.1 a.2.1, oini_d cp a.1 a.2.2⟩
/-- a final field, in its own constructor -/
def FldFin (ow cp k j : Nat) : Prop := FldAt ow cp k j ∧ (kF k j).2.2.2 = true ∧ (kF k j).1 = kC ow
def pfiP (cp k j : Nat) (a b : XE) : XS := (fun ga _ nx9 _ _ rt cs => match a.1 ga 0 cs with
    | some (2, cs1) => match b.1 ga 1 cs1 with
      | some (t, cs2) => match nx (.putfield cp) 3 cs2 with
        | some cs3 => if okt nx9 cs3 = true ∧ t = gty (ety k j) then some (ga, cs3) else none
        | _ => none
      | _ => none
    | _ => none, fun cl Kn _ _ r u => a.2 cl (fun o u' => b.2 cl (fun v u2 => live u2 o k ∧ tyq (ety k j) v ∧ Kn r (wr u2 (ety k j) o j v)) r u') r u)

def defOK (t : Nat) (ft : FieldType) : Prop := ∀ al : Int → Nat, defaultValue ft = enc al t 0
theorem put_fin {p : Program} {l : Launch} {e : Env} {R : Room} {s : State} {m : MethodId} {args : Array Value} {below : List Frame} {meth : Method} {c : Code} {cc : ByteArray} {nL ow cp k j : Nat} {G : Geo} {H : Heap} {locs : List Loc} {cells slots : Nat} {Q : State → Prop} {pc : Nat} {ls : Array Slot} {st : List Value} {u : Sto} {a v : Int}
    (hX : MX p R s m args c cc nL ow G) (h100 : 100 ≤ ow) (hf : FldFin ow cp k j) (hd : decode cc pc = .ok (.putfield cp, 3)) (hA : At G R s.heap u H locs cells slots) (hl : live u a k) (hv : okv (ety k j) v)
    (kk : ∀ (H' : Heap) (locs' : List Loc), At G R s.heap (wr u (ety k j) a j v) H' locs' cells slots → W p l e R s m args below meth c H' locs' cells slots Q (F0 m (pc + 3) ls st)) :
    W p l e R s m args below meth c H locs cells slots Q (F0 m pc ls (enc G.1 (ety k j) v :: .ref (G.1 a) :: st)) := by
  obtain ⟨⟨f1, f2, f3, f4, f5, f6, f7⟩, hfin, hdecl⟩ := hf
  have hj : (j : Int) < klen a := by rw [kl_obj hl.2.2 f3 f4]; exact_mod_cast f5
  obtain ⟨cell, q1, q2, q3, q4, q5⟩ := hA.1.1 a hl.1 hl.2.1 (by rw [hl.2.2]; omega)
  rw [hl.2.2] at q3 q5
  have hts := hX.2.2.2.2.1
  have hK := hX.2.2.2.2.2.1
  have hown := hX.2.2.2.1
  obtain ⟨hS, hfc, kC', hkC, hkind⟩ := hK.2.1 k f3 f4
  obtain ⟨cf, kf, fi, f, hi, hsl⟩ := hS j f5
  have hlay := hts _ f2
  have hst := (u_facts hfc hkC (u_lay1 hlay) hi).1
  unfold u_lay at hlay
  rw [if_pos hfin] at hlay
  have hcf : m.cls = cf := by
    obtain ⟨_, _, c', _, _, _, -, -, hf', -, -, -, hown2, -⟩ := Cond.laysFinal_spec hlay
    have e1 : c' = cf := by have := hi.symm.trans hf'; simp at this; exact this.1.symm
    rw [hdecl] at hown2
    rw [← e1]; exact Option.some.inj (hown.symm.trans hown2)
  have h6 := u_fits hfc hkC hkind (Or.inr hlay) hi f6 (f7 G.1 v hv).1 (f7 G.1 v hv).2
  intro T hT X
  have hname : meth.name = "<init>" := hX.2.2.2.2.2.2.2.2.2.2 h100 meth X.method
  have key : W p l e R s m args below meth c H locs cells slots Q (F0 m pc ls (enc G.1 (ety k j) v :: .ref (G.1 a) :: st)) := by
    refine W.putFinK hX.1 hX.2.1 hown (hts _ f1) hi hst hcf hname (by rw [q3]; exact h6) q1 q2 (by rw [hsl]; exact k2_hasslot (q5 j hj)) rfl rfl hd fun H' e1 e2 e3 => ?_
    rw [hsl] at e1
    have t4 := wr_t u (ety k j) a j v
    exact kk H' _ (at_put hA (rel_wr hA.1 hK hl f3 hj hv q1 e1 e2 e3) e2 e3 (al_ge hK hl.1) t4.2.2.1 t4.2.2.2)
  exact key T hT X
theorem pfi_d (cp k j : Nat) (a b : XE) (ha : DecE a) (hb : DecE b) : DecS (pfiP cp k j a b) := by
  intro ga nL nx9 lb gb rt cs ga' cs' cc hc hD
  simp only [pfiP] at hc
  split at hc
  case h_2 => cases hc
  rename_i h0
  split at hc
  case h_2 => cases hc
  rename_i h1
  split at hc
  case h_2 => cases hc
  rename_i h2
  split at hc
  case isFalse => cases hc
  cases hc
  exact (nx_ok h2 (hb _ _ _ _ _ _ h1 (ha _ _ _ _ _ _ h0 hD))).2.2
theorem pfi_ok (ow cp k j : Nat) (h100 : 100 ≤ ow) (hf : FldFin ow cp k j) (a b : XE) (ha : SndE ow a) (hb0 : SndE ow b) : SndS ow (pfiP cp k j a b) := by
  intro p l e R s m args below meth c cc nL G Qf cl hX hC ga nx9 lb gb rt cs ga' cs' hc hD r u H locs cells slots ls Kn Kb Kr hL hA hw hn hb hr hx9
  simp only [pfiP] at hc hw
  split at hc
  case h_2 => cases hc
  rename_i cs1 h0
  split at hc
  case h_2 => cases hc
  rename_i t cs2 h1
  split at hc
  case h_2 => cases hc
  rename_i cs3 h2
  split at hc
  case isFalse => cases hc
  rename_i hcond
  obtain ⟨hk9, rfl⟩ := hcond
  cases hc
  refine ha p l e R s m args below meth c cc nL G Qf cl hX hC ga 0 cs 2 cs1 h0 hD r u H locs cells slots ls [] _ hL hA (Nat.le_refl _) hw ?_
  intro o u' H' locs' cells' slots' ho hA' hq hD1
  refine hb0 p l e R s m args below meth c cc nL G Qf cl hX hC ga 1 cs1 _ cs2 h1 hD1 r u' H' locs' cells' slots' ls _ _ hL hA' ?_ hq ?_
  · rw [cats_cons, cat_enc]; simp [cats]
  intro v u2 H2 locs2 cells2 slots2 hv hA2 hq2 hD2
  obtain ⟨g1, g2, g3⟩ := nx_ok h2 hD2
  obtain ⟨hl, htq, hq2⟩ := hq2
  rw [enc_g, enc_2 _ (by have := hl.1; omega)]
  refine put_fin hX h100 hf g1 hA2 hl (okv_q hv htq) (fun H3 locs3 hA3 => ?_)
  rw [← g2]
  exact okt_W hk9 hX.1 hX.2.1 g3 (hn r _ H3 locs3 _ _ ls hL hA3 hq2)
def pfi {ow : Nat} {cp k j : Nat} (h100 : 100 ≤ ow) (hf : FldFin ow cp k j) (a b : EX ow) : SX ow := ⟨pfiP cp k j a.1 b.1, pfi_ok ow cp k j h100 hf a.1 b.1 a.2.1 b.2.1, pfi_d cp k j a.1 b.1 a.2.2 b.2.2⟩
/-- new array of n -/
def arT (K : Nat) : ArrayType := if K = 14 then .int else if K = 15 then .long else if K = 16 then .boolean else .char
def nwaP (K : Nat) (a : XE) : XE := (fun ga d cs => match a.1 ga d cs with
    | some (0, cs1) => (nx (.newarray (arT K)) 2 cs1).map (fun x => (2, x))
    | _ => none, fun cl Q r u => a.2 cl (fun n u' => (0 ≤ n ∧ klen (stn u') = n ∧ alcok u' K n.toNat) ∧ Q (stn u') (alc u' n.toNat)) r u)
def ArrAt9 (K : Nat) : Prop := 14 ≤ K ∧ K ≤ 17 ∧ Cond.arrayClass (newarray.typeOf (arT K)) ∈ gTbl
theorem nwa_ok (ow K : Nat) (hf : ArrAt9 K) (a : XE) (ha : SndE ow a) : SndE ow (nwaP K a) := by
  intro p l e R s m args below meth c cc nL G Qf cl hX hC ga d cs t cs' hc hD r u H locs cells slots ls st Q hL hA hs hw k
  simp only [nwaP] at hc hw
  split at hc
  case h_2 => cases hc
  rename_i cs1 h0
  obtain ⟨x, hx, e1⟩ := Option.map_eq_some_iff.mp hc
  cases e1
  refine ha p l e R s m args below meth c cc nL G Qf cl hX hC ga d cs 0 cs1 h0 hD r u H locs cells slots ls st _ hL hA hs hw ?_
  intro n u' H' locs' cells' slots' hv hA' hq hD1
  obtain ⟨h1, h2, h3⟩ := nx_ok hx hD1
  obtain ⟨⟨n0, n1, n2⟩, hq⟩ := hq
  obtain ⟨f1, f2, f3⟩ := hf
  have hts := hX.2.2.2.2.1
  have hK := hX.2.2.2.2.2.1
  have bl := kl_18 (stn u')
  have eT : newarray.typeOf (arT K) = aT K := by
    have : K = 14 ∨ K = 15 ∨ K = 16 ∨ K = 17 := by omega
    rcases this with rfl | rfl | rfl | rfl <;> rfl
  have hn : ¬ Int32.ofInt n < 0 := fun q => by
    rw [show (0 : Int32) = Int32.ofInt 0 from rfl, ofI_lt ⟨by omega, by omega⟩ inI_0] at q; omega
  have en : (Int32.ofInt n).toNatClampNeg = n.toNat := ofI_idx n0 (by omega)
  obtain ⟨k1, k2, k3, k4⟩ := n2
  rw [enc_0]
  refine va_newaK hX.1 hX.2.1 (hts _ f3) rfl h1 rfl hn en ?_ ?_ ?_ rfl ?_
  · have : componentBytes (newarray.typeOf (arT K)) ≤ 8 := by
      have : K = 14 ∨ K = 15 ∨ K = 16 ∨ K = 17 := by omega
      rcases this with rfl | rfl | rfl | rfl <;> decide
    have := Nat.mul_le_mul (Nat.le_refl n.toNat) this
    omega
  · have := hA'.2.2.1; omega
  · have := hA'.2.2.2; omega
  intro H2 cA e1 e2 e3 e4 e5
  rw [eT] at e1 e5
  have hcA : cA = G.2.1 K := by
    have h9 := hK.2.2.2.2.2 K f1 (by omega)
    have : s.vm.findClass ("[" ++ (aT K).toString) = some (G.2.1 K) := by
      have : K = 14 ∨ K = 15 ∨ K = 16 ∨ K = 17 := by omega
      rcases this with rfl | rfl | rfl | rfl <;> exact h9
    exact Option.some.inj (e5.symm.trans this)
  obtain ⟨hA2, ha2, hl2⟩ := at_alc (U := s) hA' hK ⟨k1, k2, k3, k4⟩ (by omega) e1 e2 e3 rfl hcA (fun _ => by rw [n1]; exact arrV_size _ _ _) (fun j hj => by
    rw [hK.2.2.2.2.1 K j f1, arrV_read _ _ (by omega)]
    congr 1
    have : K = 14 ∨ K = 15 ∨ K = 16 ∨ K = 17 := by omega
    rcases this with rfl | rfl | rfl | rfl <;> rfl) (Nat.le_trans hX.2.2.2.2.2.2.1 hA'.2.1.1)
  have k' := k (stn u') _ H2 locs' _ _ trivial hA2 hq h3
  rw [h2, enc_2 _ (by have := hl2.1; omega), ha2] at k'
  exact k'
def nwa {ow K : Nat} (hf : ArrAt9 K) (a : EX ow) : EX ow := ⟨nwaP K a.1, nwa_ok ow K hf a.1 a.2.1, by
  intro ga d cs t cs' cc hc hD
  simp only [nwaP] at hc
  split at hc
  case h_2 => cases hc
  rename_i h0
  exact map_nx hc (a.2.2 _ _ _ _ _ _ h0 hD)⟩
/-- new array of references to the states -/
def nwqP (cp : Nat) (a : XE) : XE := (fun ga d cs => match a.1 ga d cs with
    | some (0, cs1) => (nx (.anewarray cp) 3 cs1).map (fun x => (2, x))
    | _ => none, fun cl Q r u => a.2 cl (fun n u' => (0 ≤ n ∧ klen (stn u') = n ∧ alcok u' 18 n.toNat) ∧ Q (stn u') (alc u' n.toNat)) r u)
def QarAt (ow cp : Nat) : Prop := Cond.classLink (kC ow) cp "HotThrough$State" ∈ gTbl ∧ Cond.arrayOver (.object "HotThrough$State") ∈ gTbl
theorem nwq_ok (ow cp : Nat) (hf : QarAt ow cp) (a : XE) (ha : SndE ow a) : SndE ow (nwqP cp a) := by
  intro p l e R s m args below meth c cc nL G Qf cl hX hC ga d cs t cs' hc hD r u H locs cells slots ls st Q hL hA hs hw k
  simp only [nwqP] at hc hw
  split at hc
  case h_2 => cases hc
  rename_i cs1 h0
  obtain ⟨x, hx, e1⟩ := Option.map_eq_some_iff.mp hc
  cases e1
  refine ha p l e R s m args below meth c cc nL G Qf cl hX hC ga d cs 0 cs1 h0 hD r u H locs cells slots ls st _ hL hA hs hw ?_
  intro n u' H' locs' cells' slots' hv hA' hq hD1
  obtain ⟨h1, h2, h3⟩ := nx_ok hx hD1
  obtain ⟨⟨n0, n1, n2⟩, hq⟩ := hq
  have hts := hX.2.2.2.2.1
  have hK := hX.2.2.2.2.2.1
  have bl := kl_18 (stn u')
  have hn : ¬ Int32.ofInt n < 0 := fun q => by
    rw [show (0 : Int32) = Int32.ofInt 0 from rfl, ofI_lt ⟨by omega, by omega⟩ inI_0] at q; omega
  have en : (Int32.ofInt n).toNatClampNeg = n.toNat := ofI_idx n0 (by omega)
  obtain ⟨k1, k2, k3, k4⟩ := n2
  rw [enc_0]
  refine W.anew hX.1 hX.2.1 hX.2.2.2.1 (hts _ hf.1) (hts _ hf.2) rfl h1 rfl hn (by rw [en]; omega) (by have := hA'.2.2.1; omega) (by rw [en]; have := hA'.2.2.2; omega) ?_
  intro cA kA comp e1 e2 e3 e4
  rw [en]
  have hcA : cA = G.2.1 18 := by
    obtain ⟨_, _, _, _, _, h9⟩ := hK.2.2.2.2.2 18 (by decide) (by decide)
    exact Option.some.inj (e1.symm.trans h9)
  obtain ⟨hA2, ha2, hl2⟩ := at_alc (U := s) (cell := { cls := cA, slots := Array.replicate n.toNat .null, vm := .none }) hA' hK ⟨k1, k2, k3, k4⟩ (by omega) (H' := H'.push { cls := cA, slots := Array.replicate n.toNat .null, vm := .none }) (by simp) (by simp) (fun q hq => by rw [Array.getElem?_push, if_neg (Nat.ne_of_lt hq)]) rfl hcA (fun _ => by rw [n1]; simp) (fun j hj => by
    rw [hK.2.2.2.2.1 18 j (by decide)]
    have : j < n.toNat := by omega
    simp [this, enc]
    rfl) (Nat.le_trans hX.2.2.2.2.2.2.1 hA'.2.1.1)
  have k' := k (stn u') _ _ locs' _ _ trivial hA2 hq h3
  rw [h2, enc_2 _ (by have := hl2.1; omega), ha2] at k'
  exact k'
def nwq {ow cp : Nat} (hf : QarAt ow cp) (a : EX ow) : EX ow := ⟨nwqP cp a.1, nwq_ok ow cp hf a.1 a.2.1, by
  intro ga d cs t cs' cc hc hD
  simp only [nwqP] at hc
  split at hc
  case h_2 => cases hc
  rename_i h0
  exact map_nx hc (a.2.2 _ _ _ _ _ _ h0 hD)⟩
/-- a state put into such a row -/
def asqP (a b v : XE) : XS := (fun ga _ nx9 _ _ _ cs => match a.1 ga 0 cs with
    | some (2, cs1) => match b.1 ga 1 cs1 with
      | some (0, cs2) => match v.1 ga 2 cs2 with
        | some (2, cs3) => match nx .aastore 1 cs3 with
          | some cs4 => if okt nx9 cs4 = true then some (ga, cs4) else none
          | _ => none
        | _ => none
      | _ => none
    | _ => none, fun cl Kn _ _ r u => a.2 cl (fun o u' => b.2 cl (fun i u2 => v.2 cl (fun x u3 => inb u3 o 18 i ∧ live u3 x 5 ∧ Kn r (wr u3 2 o i x)) r u2) r u') r u)
theorem asq_d (a b v : XE) (ha : DecE a) (hb : DecE b) (hv : DecE v) : DecS (asqP a b v) := by
  intro ga nL nx9 lb gb rt cs ga' cs' cc hc hD
  simp only [asqP] at hc
  split at hc
  case h_2 => cases hc
  rename_i h0
  split at hc
  case h_2 => cases hc
  rename_i h1
  split at hc
  case h_2 => cases hc
  rename_i h2
  split at hc
  case h_2 => cases hc
  rename_i h3
  split at hc
  case isFalse => cases hc
  cases hc
  exact (nx_ok h3 (hv _ _ _ _ _ _ h2 (hb _ _ _ _ _ _ h1 (ha _ _ _ _ _ _ h0 hD)))).2.2
theorem asq_ok (ow : Nat) (a b v0 : XE) (ha : SndE ow a) (hb0 : SndE ow b) (hv0 : SndE ow v0) : SndS ow (asqP a b v0) := by
  intro p l e R s m args below meth c cc nL G Qf cl hX hC ga nx9 lb gb rt cs ga' cs' hc hD r u H locs cells slots ls Kn Kb Kr hL hA hw hn hb hr hx9
  simp only [asqP] at hc hw
  split at hc
  case h_2 => cases hc
  rename_i cs1 h0
  split at hc
  case h_2 => cases hc
  rename_i cs2 h1
  split at hc
  case h_2 => cases hc
  rename_i cs3 h2
  split at hc
  case h_2 => cases hc
  rename_i cs4 h3
  split at hc
  case isFalse => cases hc
  rename_i hk9
  cases hc
  refine ha p l e R s m args below meth c cc nL G Qf cl hX hC ga 0 cs 2 cs1 h0 hD r u H locs cells slots ls [] _ hL hA (Nat.le_refl _) hw ?_
  intro o u' H' locs' cells' slots' ho hA' hq hD1
  refine hb0 p l e R s m args below meth c cc nL G Qf cl hX hC ga 1 cs1 _ cs2 h1 hD1 r u' H' locs' cells' slots' ls _ _ hL hA' ?_ hq ?_
  · rw [cats_cons, cat_enc]; simp [cats]
  intro i u2 H2 locs2 cells2 slots2 hi hA2 hq2 hD2
  refine hv0 p l e R s m args below meth c cc nL G Qf cl hX hC ga 2 cs2 _ cs3 h2 hD2 r u2 H2 locs2 cells2 slots2 ls _ _ hL hA2 ?_ hq2 ?_
  · rw [cats_cons, cats_cons, cat_enc, cat_enc]; simp [cats]
  intro v u3 H3 locs3 cells3 slots3 hv hA3 hq3 hD3
  obtain ⟨g1, g2, g3⟩ := nx_ok h3 hD3
  obtain ⟨hl, hlv, hq3⟩ := hq3
  have hK := hX.2.2.2.2.2.1
  obtain ⟨cell, q1, q2, q3, q4, q5, q6, q7, q8, -⟩ := arr_at hA3.1 hK hl (by decide) (by decide)
  obtain ⟨cv, v1, v2, v3, -⟩ := hA3.1.1 v hlv.1 hlv.2.1 (by rw [hlv.2.2]; decide)
  rw [hlv.2.2] at v3
  obtain ⟨kA, comp, w1, w2, w3, -⟩ := hK.2.2.2.2.2 18 (by decide) (by decide)
  have hcls := (hK.2.1 5 (by decide) (by decide)).2
  have hcomp : comp = G.2.1 5 := Option.some.inj (w3.symm.trans hcls.1)
  subst hcomp
  obtain ⟨-, kC', hkC, -⟩ := id hcls
  rw [enc_0, enc_2 G.1 (v := o) (by have := hl.1.1; omega), enc_2 G.1 (v := v) (by have := hlv.1; omega)]
  refine W.aast hX.1 hX.2.1 q1 (fun q h => by rw [q3] at h; cases h) (fun h => by rw [q3] at h; cases h) (by rw [q8]; exact w1) w2 rfl hkC ⟨fun q => q4 (Or.inl q), Nat.not_le.mp fun q => q4 (Or.inr q)⟩ v1 (fun q h => by rw [v2] at h; cases h) (by rw [v3]; exact hkC) (by rw [v3]; exact va_assign hcls) rfl rfl g1 (fun H4 e1 e2 e3 => ?_)
  rw [q5] at e1
  have e0 : ((i.toNat : Nat) : Int) = i := Int.toNat_of_nonneg hl.2.1
  have t4 := wr_t u3 2 o i v
  have hr9 := rel_wr (j := i.toNat) (v := v) (H' := H4) (k := 18) hA3.1 hK hl.1 (by decide) (by have := hl.2.2; omega) trivial q1 (by rw [hK.2.2.2.2.1 18 _ (by decide)]; show _ = some (cell.setSlot i.toNat (enc G.1 2 v)); rw [enc_2 _ (by have := hlv.1; omega)]; exact e1) e2 e3
  rw [e0] at hr9
  refine W.eq (g2 := F0 m (pcOf cs') ls []) (by rw [g2]) ?_
  exact okt_W hk9 hX.1 hX.2.1 g3 (hn r _ H4 _ _ _ ls hL (at_put hA3 hr9 e2 e3 (al_ge hK hl.1.1) t4.2.2.1 t4.2.2.2) hq3)
def asq {ow : Nat} (a b v : EX ow) : SX ow := ⟨asqP a.1 b.1 v.1, asq_ok ow a.1 b.1 v.1 a.2.1 b.2.1 v.2.1, asq_d a.1 b.1 v.1 a.2.2 b.2.2 v.2.2⟩

