/-! trees: texts, copies, what constructors do -/
theorem ldcwS9 {p : Program} {l : Launch} {e : Env} {R : Room} {s : State} {m : MethodId} {args : Array Value} {below : List Frame} {meth : Method} {c : Code} {T : State} {locs : List Loc} {cells slots : Nat}
    (X : Stand p l e R s m args below meth c T locs cells slots) (hexec : p.tables.exec = Jvm.exec) {own text : String} {index : Nat} {a : Addr} (hown : s.vm.findClass own = some m.cls)
    (hconst : (Cond.stringRef own index text).before args s = true) (hev : (Term.string own index).eval args s none [] s = some (.ref a)) {g : JFrame} (hg : g.method = m) (hdg : decode c.code g.pc = .ok (.ldc_w index, 3)) :
    ∀ target, Steps p.tables e below (T.setTop { g with pc := g.pc + 3, stack := .ref a :: g.stack }) target → Steps p.tables e below (T.setTop g) target := by
  obtain ⟨k, cf, i, a', hk, hcf, hcp, -, hr, hev'⟩ := Cond.stringRef_spec hown hconst
  cases hev.symm.trans hev'
  obtain ⟨k', hk', he⟩ := X.warmed.alike.2.2 _ _ hk
  have hr' : k'.resolved[index]? = some (some (.string a)) := by
    rcases X.warmed.entry hk hk' index with h | ⟨h, -⟩
    · rw [h]; exact hr
    · rw [hr] at h; cases h
  intro target hrest
  subst hg
  jvm_step X.here [hexec, hdg, ldc_w.wp_string (e := e) (s := T) (f := g) X.here.top hk' (by rw [he]; exact hcf) hcp hr']
  exact hrest
theorem W.ldcwS {p : Program} {l : Launch} {e : Env} {R : Room} {s : State} {m : MethodId} {args : Array Value} {below : List Frame} {meth : Method} {c : Code} {H : Heap} {locs : List Loc} {cells slots : Nat} {Q : State → Prop} {cc : ByteArray} {pc : Nat} {ls : Array Slot} {rest : List Value}
    (hexec : p.tables.exec = Jvm.exec) (hb : c.code = cc) {own tx : String} {index q : Nat} (hown : s.vm.findClass own = some m.cls) (hZ : vk_R own index tx q s) (hdg : decode cc pc = .ok (.ldc_w index, 3))
    (k : W p l e R s m args below meth c H locs cells slots Q (F0 m (pc + 3) ls (.ref q :: rest))) : W p l e R s m args below meth c H locs cells slots Q (F0 m pc ls rest) := by
  intro T hT X
  obtain ⟨t, a1, b1⟩ := k T hT X
  exact ⟨t, ldcwS9 X hexec hown (text := tx) (a := q) hZ.1 hZ.2 (g := F0 m pc ls rest) rfl (by rw [hb]; exact hdg) t a1, b1⟩
def TexAt (ow cp i : Nat) : Prop := kC ow = "HotThroughModel" ∧ i < 8 ∧ sCp.getD i 0 = cp

def ldtP (cp i : Nat) : XE := (fun _ _ cs => if 0 ≤ cp then (nx (.ldc cp) 2 cs).map (fun x => (2, x)) else none, fun _ Q _ u => Q (-1 - (i : Int)) u)
theorem ldt_ok (ow cp i : Nat) (hf : TexAt ow cp i) : SndE ow (ldtP cp i) := by
  intro p l e R s m args below meth c cc nL G Qf cl hX hC ga d cs t cs' hc hD r u H locs cells slots ls st Q hL hA hs hw k
  simp only [ldtP] at hc hw
  split at hc
  case isFalse => cases hc
  obtain ⟨x, hx, e1⟩ := Option.map_eq_some_iff.mp hc
  cases e1
  obtain ⟨h1, h2, h3⟩ := nx_ok hx hD
  have k' := k _ u H locs cells slots trivial hA hw h3
  rw [h2, enc_2 _ (by omega)] at k'
  obtain ⟨g1, g2, g3⟩ := hf
  have hR := hX.2.2.2.2.2.2.2.2.2.1.2.1 i g2
  rw [g3] at hR
  exact va_ldcS hX.1 hX.2.1 (by rw [← g1]; exact hX.2.2.2.1) hR h1 k'
def ldt {ow cp i : Nat} (hf : TexAt ow cp i) : EX ow := ⟨ldtP cp i, ldt_ok ow cp i hf, by
  intro ga d cs t cs' cc hc hD
  simp only [ldtP] at hc
  split at hc
  case isFalse => cases hc
  exact map_nx hc hD⟩
def ldtwP (cp i : Nat) : XE := (fun _ _ cs => if 0 ≤ cp then (nx (.ldc_w cp) 3 cs).map (fun x => (2, x)) else none, fun _ Q _ u => Q (-1 - (i : Int)) u)
theorem ldtw_ok (ow cp i : Nat) (hf : TexAt ow cp i) : SndE ow (ldtwP cp i) := by
  intro p l e R s m args below meth c cc nL G Qf cl hX hC ga d cs t cs' hc hD r u H locs cells slots ls st Q hL hA hs hw k
  simp only [ldtwP] at hc hw
  split at hc
  case isFalse => cases hc
  obtain ⟨x, hx, e1⟩ := Option.map_eq_some_iff.mp hc
  cases e1
  obtain ⟨h1, h2, h3⟩ := nx_ok hx hD
  have k' := k _ u H locs cells slots trivial hA hw h3
  rw [h2, enc_2 _ (by omega)] at k'
  obtain ⟨g1, g2, g3⟩ := hf
  have hR := hX.2.2.2.2.2.2.2.2.2.1.2.1 i g2
  rw [g3] at hR
  exact W.ldcwS hX.1 hX.2.1 (by rw [← g1]; exact hX.2.2.2.1) hR h1 k'
def ldtw {ow cp i : Nat} (hf : TexAt ow cp i) : EX ow := ⟨ldtwP cp i, ldtw_ok ow cp i hf, by
  intro ga d cs t cs' cc hc hD
  simp only [ldtwP] at hc
  split at hc
  case isFalse => cases hc
  exact map_nx hc hD⟩
/-- a call on a written text -/
def StrAt (ow cp K : Nat) : Prop := MthOK K ∧ Cond.methodLink (kC ow) cp (mNam K) ∈ gTbl ∧ Cond.instanceMethod (mNam K) ∈ gTbl ∧ Cond.selects (mNam K).cls (mNam K) (mNam K) ∈ gTbl ∧ (mNam K).cls = "java/lang/String" ∧
  (parseMethodDescriptor (mNam K).desc).map (fun d => d.parameters.length + 1) = some (mArg K).length ∧ (mArg K).head? = some 2
def stx (v : Int) : Prop := -8 ≤ v ∧ v ≤ -1
def cvtP (cp K : Nat) (a : XL) : XE := (fun ga d cs => match a.1 ga d cs with
    | some (ts, cs1) => if ts = mArg K ∧ d ≤ 20 ∧ mRty K ≠ 9 then (nx (.invokevirtual cp) 3 cs1).map (fun x => (gty (mRty K), x)) else none
    | _ => none, fun cl Q r u => a.2 cl (fun vs u' => stx (vs.headD 0) ∧ wcl cl K Q vs u') r u)
theorem cvt_d (cp K : Nat) (a : XL) (ha : DecL a) : DecE (cvtP cp K a) := by
  intro ga d cs t cs' cc hc hD
  simp only [cvtP] at hc
  split at hc
  case h_2 => cases hc
  rename_i h0
  split at hc
  case isFalse => cases hc
  exact map_nx hc (ha _ _ _ _ _ _ h0 hD)
theorem cvt_ok (ow cp K : Nat) (hf : StrAt ow cp K) (a : XL) (ha : SndL ow a) : SndE ow (cvtP cp K a) := by
  intro p l e R s m args below meth c cc nL G Qf cl hX hC ga d cs t cs' hc hD r u H locs cells slots ls st Q hL hA hs hw k
  simp only [cvtP] at hc hw
  split at hc
  case h_2 => cases hc
  rename_i ts cs1 h0
  split at hc
  case isFalse => cases hc
  rename_i hcond
  obtain ⟨rfl, hd8, h9⟩ := hcond
  obtain ⟨x, hx, e1⟩ := Option.map_eq_some_iff.mp hc
  cases e1
  refine ha p l e R s m args below meth c cc nL G Qf cl hX hC ga d cs _ cs1 h0 hD r u H locs cells slots ls st _ hL hA hs hw ?_
  intro vs u' H' locs' cells' slots' hok hA' hq hD1
  obtain ⟨h1, h2, h3⟩ := nx_ok hx hD1
  obtain ⟨hst, hb, hcl⟩ := hq
  obtain ⟨g1, g2, g3, g4, g5, g8, g9⟩ := hf
  have hts := hX.2.2.2.2.1
  obtain ⟨rm, r1, r2, r3, r4, hM⟩ := hC K vs _ _ hcl (Nat.le_refl _) (Nat.le_refl _)
  match hm : mArg K, vs, hok with
  | [], _, _ => rw [hm] at g9; cases g9
  | t :: ts, [], hok => exact hok.elim
  | t :: ts, v0 :: vt, hok' =>
    rw [hm] at g9 g8
    cases g9
    have lv : stx v0 := hst
    have hv0 : v0 ≠ 0 := by have := lv.2; omega
    have e0 : encA G.1 (2 :: ts) (v0 :: vt) = .ref (G.1 v0) :: encA G.1 ts vt := by simp only [encA]; rw [enc_2 _ hv0]
    have hp := pc_pre (K := K) (vs := v0 :: vt) hX hA' (by rw [hm]; exact hok') (mCel K) (mSlo K)
    rw [hm, e0] at hp
    have hn : ∀ sig, parseMethodDescriptor (mNam K).desc = some sig → ts.length = sig.parameters.length := fun sig h => by
      rw [h] at g8; simp at g8; omega
    obtain ⟨⟨adV, hS9⟩, -⟩ := hX.2.2.2.2.2.2.2.2.2.1
    have hi9 : (-1 - v0).toNat < 8 := by have := lv.1; have := lv.2; omega
    have hrecv := vk_recv (H := H') (locs := []) hS9 hi9 ⟨hA'.2.1.1, fun q _ h => hA'.2.1.2.1 q (by omega), fun _ h => by cases h⟩
    have e8 : (-1 - (((-1 - v0).toNat : Nat) : Int)) = v0 := by have := lv.2; omega
    have e9 : G.1 (-1 - (((-1 - v0).toNat : Nat) : Int)) = G.1 v0 := by rw [e8]
    rw [e9, ← g5] at hrecv
    rw [e0, List.reverse_cons, List.append_assoc]
    refine run_on (u := u') (x20V r4 (As := encA G.1 ts vt) (rest := st) (b := G.1 v0) (n := ts.length) (Ts := gTbl) (own := kC ow) (C := (mNam K).cls) ⟨hX.1, hX.2.1, hX.2.2.1, hX.2.2.2.1, hts⟩ hM ⟨callB_at (l := l) hX g1 g2 hn r1 r2 r3 (by omega), hts _ g3, hts _ g4⟩
      ⟨pc_blind G K _ _, hrecv, hp⟩ rfl (encA_len _ _ _ hok'.2) hL.1.1 rfl (room20 (show cats st ≤ 20 by omega)) h1 ⟨by have := hA'.2.2.1; omega, by have := hA'.2.2.2; omega⟩) hA' hb ?_
    intro w u2 H2 locs2 hw2 hQ2 hA2
    have k' := k w _ H2 locs2 _ _ (okv_g hw2) hA2 hQ2 h3
    rw [h2] at k'
    rw [encR_g h9]
    exact k'
def cvt {ow cp K : Nat} (hf : StrAt ow cp K) (a : LX ow) : EX ow := ⟨cvtP cp K a.1, cvt_ok ow cp K hf a.1 a.2.1, cvt_d cp K a.1 a.2.2⟩
/-- copied: n from place i of a, to place j of b -/
def cpm (u : Sto) (a i b j n : Int) : Sto := (u.1, (fun x y => if x = b ∧ j ≤ y ∧ y < j + n then u.2.1 a (y - j + i) else u.2.1 x y), u.2.2)
def cpok (u : Sto) (a i b j n : Int) : Prop := live u a 14 ∧ live u b 14 ∧ 0 ≤ i ∧ 0 ≤ j ∧ 0 ≤ n ∧ i + n ≤ klen a ∧ j + n ≤ klen b
theorem cell_len {G : Geo} {u : Sto} {H : Heap} {U : State} (h : Rel G u H) (hK : KOK G U) {a : Int} {K : Nat} (hl : live u a K) (h14 : 14 ≤ K) (h18 : K ≤ 18) :
    ∃ cell : Cell, H[G.1 a]? = some cell ∧ U.isArrayOf cell (aT K) ∧ cell.vm = .none ∧ cell.cls = G.2.1 K ∧ cell.slots.size = (klen a).toNat ∧ ∀ i : Nat, (i : Int) < klen a → cell.slots[i]? = some (enc G.1 (ety K 0) (rd u (ety K 0) a i)) := by
  obtain ⟨l1, l2, l3⟩ := hl
  obtain ⟨cell, q1, q2, q3, q4, q5⟩ := h.1 a l1 l2 (by omega)
  rw [l3] at q3 q5
  refine ⟨cell, q1, arr_is (hK.2.2.2.1 K h14 h18) q3 q2, q2, q3, q4 (by omega), fun i hi => ?_⟩
  have := q5 i hi
  rw [hK.2.2.2.2.1 K i h14, ety_arr h14 h18] at this
  exact this
theorem copy_row {p : Program} {l : Launch} {e : Env} {R : Room} {s : State} {m : MethodId} {args : Array Value} {below : List Frame} {meth : Method} {c : Code} {cc : ByteArray} {nL ow cp : Nat} {G : Geo} {H : Heap} {locs : List Loc} {cells slots : Nat} {Q : State → Prop} {pc : Nat} {ls : Array Slot} {u : Sto} {a i b j n : Int}
    (hX : MX p R s m args c cc nL ow G) (hls : ls.size = nL) (hl : Cond.methodLink (kC ow) cp arraycopyName ∈ gTbl) (hnat : Cond.native arraycopyName ∈ gTbl) (hst : Cond.static arraycopyName ∈ gTbl) (hini : Cond.initialized "java/lang/System" ∈ gTbl)
    (hd : decode cc pc = .ok (.invokestatic cp, 3)) (hA : At G R s.heap u H locs cells slots) (hok : cpok u a i b j n)
    (kk : ∀ (H' : Heap) (locs' : List Loc), At G R s.heap (cpm u a i b j n) H' locs' cells slots → W p l e R s m args below meth c H' locs' cells slots Q (F0 m (pc + 3) ls [])) :
    W p l e R s m args below meth c H locs cells slots Q (F0 m pc ls [.int (Int32.ofInt n), .int (Int32.ofInt j), .ref (G.1 b), .int (Int32.ofInt i), .ref (G.1 a)]) := by
  obtain ⟨la, lb, h1, h2, h3, h4, h5⟩ := hok
  have hK := hX.2.2.2.2.2.1
  have hts := hX.2.2.2.2.1
  obtain ⟨cs, s1, s2, s3, s4, s5, s6⟩ := cell_len hA.1 hK la (by decide) (by decide)
  obtain ⟨cd, d1, d2, d3, d4, d5, d6⟩ := cell_len hA.1 hK lb (by decide) (by decide)
  have ba := kl_18 a
  have bb := kl_18 b
  have i1 : inI i := ⟨by omega, by omega⟩
  have i2 : inI j := ⟨by omega, by omega⟩
  have i3 : inI n := ⟨by omega, by omega⟩
  have e1 : (Int32.ofInt i).toNatClampNeg = i.toNat := ofI_idx h1 (by omega)
  have e2 : (Int32.ofInt j).toNatClampNeg = j.toNat := ofI_idx h2 (by omega)
  have e3 : (Int32.ofInt n).toNatClampNeg = n.toNat := ofI_idx h3 (by omega)
  have nn : ∀ {x : Int}, inI x → 0 ≤ x → ¬ Int32.ofInt x < 0 := fun {x} hx h0 q => by
    rw [show (0 : Int32) = Int32.ofInt 0 from rfl, ofI_lt hx inI_0] at q; omega
  have vals : ∀ k : Nat, k < n.toNat → cs.slots.getD (i.toNat + k) .null = .int (Int32.ofInt (u.2.1 a (i + k))) := fun k hk => by
    rw [Array.getD_eq_getD_getElem?, s6 (i.toNat + k) (by omega)]
    show Value.int (Int32.ofInt (u.2.1 a ((i.toNat + k : Nat) : Int))) = _
    rw [show ((i.toNat + k : Nat) : Int) = i + k by omega]
  intro T hT X
  obtain ⟨-, k0, hk0, cm0, hkk0⟩ := s2
  obtain ⟨-, k1, hk1, cm1, hkk1⟩ := d2
  obtain ⟨vm', X', step⟩ := X.arraycopy hX.1 hX.2.2.2.1 (hts _ hl) (hts _ hnat) (hts _ hst) (hts _ hini) (src := G.1 a) (dst := G.1 b) (cs := cs) (cd := cd) (srcPos := Int32.ofInt i) (destPos := Int32.ofInt j) (n := Int32.ofInt n) (by rw [hT]; exact s1) (by rw [hT]; exact d1)
    (fun _ h => by rw [s3] at h; cases h) (fun _ h => by rw [d3] at h; cases h) (fun h => by rw [s3] at h; cases h) (fun h => by rw [d3] at h; cases h) hk0 hk1 hkk0 hkk1 (by decide) (nn i1 h1) (nn i2 h2) (nn i3 h3)
    (by rw [ofI_toInt i1, ofI_toInt i3, s5]; omega) (by rw [ofI_toInt i2, ofI_toInt i3, d5]; omega)
    (fun vm₁ _ k hk => by
      rw [e3] at hk
      rw [e1, vals k hk]
      exact ⟨rfl, trivial⟩)
    (g := F0 m pc ls [.int (Int32.ofInt n), .int (Int32.ofInt j), .ref (G.1 b), .int (Int32.ofInt i), .ref (G.1 a)]) rfl (by rw [hX.2.2.1]; exact hls) (rest := []) rfl (by rw [hX.2.1]; exact hd) hX.2.2.2.2.2.2.2.1 (by have := hX.2.2.2.2.2.2.2.2.1; show 2 * 0 + 0 + ((5 + 2) + 11) ≤ _; omega)
  unfold copied at X' step
  rw [e1, e2, e3] at X'
  rw [e1, e2, e3] at step
  have stl : (cs.stretch i.toNat n.toNat).length = n.toNat := by simp [Cell.stretch]
  obtain ⟨z1, z2, z3, -⟩ := Cell.storeRun_facts cd j.toNat (cs.stretch i.toNat n.toNat)
  have zg : ∀ k : Nat, (cd.storeRun j.toNat (cs.stretch i.toNat n.toNat)).slots[k]? = if j.toNat ≤ k ∧ k < j.toNat + n.toNat then some (.int (Int32.ofInt (u.2.1 a ((k : Int) - j + i)))) else cd.slots[k]? := fun k => by
    rw [Cell.storeRun_get _ _ _ _ (by rw [stl, d5]; omega), stl]
    by_cases hk : j.toNat ≤ k ∧ k < j.toNat + n.toNat
    · rw [if_pos hk, if_pos hk]
      unfold Cell.stretch
      rw [List.getElem?_map, List.getElem?_range (by omega)]
      show some (cs.slots.getD (i.toNat + (k - j.toNat)) .null) = _
      rw [vals _ (by omega), show i + ((k - j.toNat : Nat) : Int) = (k : Int) - j + i by omega]
    · rw [if_neg hk, if_neg hk]
  generalize hcd : cd.storeRun j.toNat (cs.stretch i.toNat n.toNat) = cd2 at X' step z1 z2 z3 zg
  have hlt : G.1 b < H.size := (Array.getElem?_eq_some_iff.mp d1).1
  have hheap : ((T.setVm vm').setCell (G.1 b) cd2).heap = H.setIfInBounds (G.1 b) cd2 := by rw [← hT]; rfl
  have oq : ∀ q : Nat, q ≠ G.1 b → (H.setIfInBounds (G.1 b) cd2)[q]? = H[q]? := fun q hq => by simp [Array.getElem?_setIfInBounds, Ne.symm hq]
  have ob : (H.setIfInBounds (G.1 b) cd2)[G.1 b]? = some cd2 := by simp [Array.getElem?_setIfInBounds, hlt]
  have hAt : At G R s.heap (cpm u a i b j n) (H.setIfInBounds (G.1 b) cd2) (locs ++ (cs.stretch i.toNat n.toNat).zipIdx.map fun q => ⟨G.1 b, j.toNat + q.2⟩) cells slots := by
    obtain ⟨⟨r1, r2, r3, r4, r5⟩, ⟨f1, f2, f3⟩, b1, b2⟩ := hA
    have hge : G.2.2.2 ≤ G.1 b := al_ge hK lb.1
    have hsz : (H.setIfInBounds (G.1 b) cd2).size = H.size := by simp
    refine ⟨⟨fun x x1 x2 x3 => ?_, fun x x1 x2 k hk ht => ?_, r3, by rw [hsz]; exact r4, by rw [hsz]; exact r5⟩, ⟨by rw [hsz]; exact f1, fun q hq => (oq q (by omega)).trans (f2 q hq), fun q hq => ?_⟩, b1, b2⟩
    · by_cases hxb : x = b
      · subst hxb
        refine ⟨cd2, ob, z2.trans d3, by rw [lb.2.2]; exact z1.trans d4, fun _ => z3.trans d5, fun k hk => ?_⟩
        rw [lb.2.2, hK.2.2.2.2.1 14 k (by decide), zg k, ety_arr (by decide) (by decide)]
        by_cases hkk : j.toNat ≤ k ∧ k < j.toNat + n.toNat
        · rw [if_pos hkk]
          show _ = some (Value.int (Int32.ofInt (if x = x ∧ j ≤ (k : Int) ∧ (k : Int) < j + n then u.2.1 a ((k : Int) - j + i) else u.2.1 x k)))
          rw [if_pos ⟨rfl, by omega, by omega⟩]
        · rw [if_neg hkk, d6 k hk]
          show some (Value.int (Int32.ofInt (u.2.1 x k))) = some (Value.int (Int32.ofInt (if x = x ∧ j ≤ (k : Int) ∧ (k : Int) < j + n then u.2.1 a ((k : Int) - j + i) else u.2.1 x k)))
          rw [if_neg (fun z => hkk ⟨by omega, by omega⟩)]
      · obtain ⟨cl', q1, q2, q3, q4, q5⟩ := r1 x x1 x2 x3
        have hne : G.1 x ≠ G.1 b := by rw [hK.1 x x1, hK.1 b lb.1]; have := lb.1; omega
        refine ⟨cl', by rw [oq _ hne]; exact q1, q2, q3, q4, fun k hk => ?_⟩
        rw [q5 k hk]
        congr 2
        unfold rd cpm
        by_cases ht : ety (kcls x) k = 2 <;> simp [ht, hxb]
    · have := r2 x x1 x2 k hk ht
      unfold cpm
      dsimp only
      by_cases hxb : x = b ∧ j ≤ (k : Int) ∧ (k : Int) < j + n
      · rw [if_pos hxb]
        obtain ⟨rfl, hx2, hx3⟩ := hxb
        have := r2 a la.1 la.2.1 ((k : Int) - j + i).toNat (by omega) (by rw [la.2.2]; exact (by decide : (0 : Nat) ≠ 2))
        rw [la.2.2, show ((((k : Int) - j + i).toNat : Nat) : Int) = (k : Int) - j + i by omega] at this
        rw [lb.2.2]
        exact this
      · rw [if_neg hxb]; exact this
    · rcases List.mem_append.mp hq with h | h
      · exact f3 q h
      · obtain ⟨z, -, rfl⟩ := List.mem_map.mp h
        exact hge
  obtain ⟨t, a1, b1⟩ := kk _ _ hAt _ hheap X'
  exact ⟨t, step t a1, b1⟩
def CpyAt (ow cp : Nat) : Prop := Cond.methodLink (kC ow) cp arraycopyName ∈ gTbl ∧ Cond.native arraycopyName ∈ gTbl ∧ Cond.static arraycopyName ∈ gTbl ∧ Cond.initialized "java/lang/System" ∈ gTbl
def cpyP (cp : Nat) (a : XL) : XS := (fun ga _ nx9 _ _ _ cs => match a.1 ga 0 cs with
    | some (ts, cs1) => match nx (.invokestatic cp) 3 cs1 with
      | some cs2 => if ts = [2, 0, 2, 0, 0] ∧ okt nx9 cs2 = true then some (ga, cs2) else none
      | _ => none
    | _ => none, fun cl Kn _ _ r u => a.2 cl (fun vs u' => cpok u' (vs.getD 0 0) (vs.getD 1 0) (vs.getD 2 0) (vs.getD 3 0) (vs.getD 4 0) ∧ Kn r (cpm u' (vs.getD 0 0) (vs.getD 1 0) (vs.getD 2 0) (vs.getD 3 0) (vs.getD 4 0))) r u)
theorem cpy_d (cp : Nat) (a : XL) (ha : DecL a) : DecS (cpyP cp a) := by
  intro ga nL nx9 lb gb rt cs ga' cs' cc hc hD
  simp only [cpyP] at hc
  split at hc
  case h_2 => cases hc
  rename_i h0
  split at hc
  case h_2 => cases hc
  rename_i h1
  split at hc
  case isFalse => cases hc
  cases hc
  exact (nx_ok h1 (ha _ _ _ _ _ _ h0 hD)).2.2
theorem cpy_ok (ow cp : Nat) (hf : CpyAt ow cp) (a : XL) (ha : SndL ow a) : SndS ow (cpyP cp a) := by
  intro p l e R s m args below meth c cc nL G Qf cl hX hC ga nx9 lb gb rt cs ga' cs' hc hD r u H locs cells slots ls Kn Kb Kr hL hA hw hn hb hr hx9
  simp only [cpyP] at hc hw
  split at hc
  case h_2 => cases hc
  rename_i ts cs1 h0
  split at hc
  case h_2 => cases hc
  rename_i cs2 h1
  split at hc
  case isFalse => cases hc
  rename_i hcond
  obtain ⟨rfl, hk9⟩ := hcond
  cases hc
  refine ha p l e R s m args below meth c cc nL G Qf cl hX hC ga 0 cs _ cs1 h0 hD r u H locs cells slots ls [] _ hL hA (Nat.le_refl _) hw ?_
  intro vs u' H' locs' cells' slots' hv hA' hq hD1
  obtain ⟨g1, g2, g3⟩ := nx_ok h1 hD1
  match vs, hv with
  | [v0, v1, v2, v3, v4], _ =>
    obtain ⟨hok, hq⟩ := hq
    have e0 : (encA G.1 [2, 0, 2, 0, 0] [v0, v1, v2, v3, v4]).reverse ++ [] = [.int (Int32.ofInt v4), .int (Int32.ofInt v3), .ref (G.1 v2), .int (Int32.ofInt v1), .ref (G.1 v0)] := by
      have a0 : v0 ≠ 0 := by have : 0 < v0 := hok.1.1; omega
      have a2 : v2 ≠ 0 := by have : 0 < v2 := hok.2.1.1; omega
      simp only [encA, enc_2 _ a0, enc_2 _ a2, enc_0]
      rfl
    rw [e0]
    refine copy_row hX hL.1.1 hf.1 hf.2.1 hf.2.2.1 hf.2.2.2 g1 hA' hok (fun H2 locs2 hA2 => ?_)
    rw [← g2]
    exact okt_W hk9 hX.1 hX.2.1 g3 (hn r _ H2 locs2 _ _ ls hL hA2 hq)
def cpy {ow cp : Nat} (hf : CpyAt ow cp) (a : LX ow) : SX ow := ⟨cpyP cp a.1, cpy_ok ow cp hf a.1 a.2.1, cpy_d cp a.1 a.2.2⟩

