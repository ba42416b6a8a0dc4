/-! trees of statements: stores, ends, calls -/
theorem rel_wr {G : Geo} {u : Sto} {H H' : Heap} {U : State} (h : Rel G u H) (hK : KOK G U) {a : Int} {k j : Nat} (hl : live u a k) (h1 : 1 ≤ k) (hj : (j : Int) < klen a) {v : Int} (hv : okv (ety k j) v) {cell : Cell} (hc : H[G.1 a]? = some cell) (e1 : H'[G.1 a]? = some (cell.setSlot (G.2.2.1 k j) (enc G.1 (ety k j) v))) (e2 : H'.size = H.size) (e3 : ∀ q, q ≠ G.1 a → H'[q]? = H[q]?) : Rel G (wr u (ety k j) a j v) H' := by
  obtain ⟨r1, r2, r3, r4, r5⟩ := h
  obtain ⟨l1, l2, l3⟩ := hl
  have hs : stn (wr u (ety k j) a j v) = stn u := by unfold wr; split <;> rfl
  have hx : sex (wr u (ety k j) a j v) = sex u := by unfold wr; split <;> rfl
  have h18 := (kl_18 a).1
  rw [l3] at h18
  have inj : ∀ j' : Nat, (j' : Int) < klen a → j' ≠ j → G.2.2.1 k j' ≠ G.2.2.1 k j := by
    intro j' hj' hne
    by_cases h13 : k ≤ 13
    · rw [kl_obj l3 h1 h13] at hj hj'
      exact hK.2.2.1 k j' j h1 h13 (by omega) (by omega) hne
    · by_cases h14 : 14 ≤ k
      · rw [hK.2.2.2.2.1 k j' h14, hK.2.2.2.2.1 k j h14]; exact hne
      · omega
  refine ⟨fun b b1 b2 b3 => ?_, fun b b1 b2 i hi ht => ?_, by rw [hs]; exact r3, by rw [hs, e2]; exact r4, by rw [hs, hx, e2]; exact r5⟩
  · rw [hs] at b2
    obtain ⟨cl', q1, q2, q3, q4, q5⟩ := r1 b b1 b2 b3
    by_cases hba : b = a
    · subst hba
      rw [l3] at q3 q4 q5
      cases hc.symm.trans q1
      have hlt : G.2.2.1 k j < cell.slots.size := k2_hasslot (q5 j hj)
      refine ⟨_, e1, q2, by rw [l3]; exact q3, ?_, ?_⟩
      · rw [l3]
        intro h14
        show (cell.slots.setIfInBounds _ _).size = _
        rw [Array.size_setIfInBounds]
        exact q4 h14
      · intro j' hj'
        rw [l3]
        by_cases hjj : j' = j
        · subst hjj
          rw [Cell.slots_setSlot_self _ hlt]
          congr 2
          unfold rd wr upm
          by_cases ht : ety k j' = 2
          · simp [ht]
          · simp [ht]
        · rw [slot_ne _ _ (Ne.symm (inj j' hj' hjj)), q5 j' hj']
          congr 2
          have hji : ¬ ((j' : Int) = (j : Int)) := by omega
          unfold rd wr upm
          by_cases ht : ety k j = 2 <;> by_cases ht' : ety k j' = 2 <;> simp [ht, ht', hji]
    · have hne : G.1 b ≠ G.1 a := by
        rw [hK.1 b b1, hK.1 a l1]; omega
      refine ⟨cl', by rw [e3 _ hne]; exact q1, q2, q3, q4, fun j' hj' => ?_⟩
      rw [q5 j' hj']
      congr 2
      unfold rd wr upm
      by_cases ht : ety k j = 2 <;> by_cases ht' : ety (kcls b) j' = 2 <;> simp [ht, ht', hba]
  · rw [hs] at b2
    have := r2 b b1 b2 i hi ht
    unfold wr upm
    by_cases ht2 : ety k j = 2
    · simp only [ht2, if_true]; exact this
    · simp only [ht2, if_false]
      by_cases hba : b = a ∧ (i : Int) = j
      · rw [if_pos hba]
        obtain ⟨rfl, hij⟩ := hba
        have : i = j := by omega
        subst this
        rw [l3]; exact hv
      · rw [if_neg hba]; exact this
theorem wr_t (u : Sto) (t : Nat) (a j v : Int) : stn (wr u t a j v) = stn u ∧ sex (wr u t a j v) = sex u ∧ sbc (wr u t a j v) = sbc u ∧ sbw (wr u t a j v) = sbw u := by
  unfold wr; split <;> exact ⟨rfl, rfl, rfl, rfl⟩
theorem at_put {G : Geo} {R : Room} {H0 H H' : Heap} {u u' : Sto} {locs : List Loc} {cells slots A i : Nat} (hA : At G R H0 u H locs cells slots) (hr : Rel G u' H') (e2 : H'.size = H.size) (e3 : ∀ q, q ≠ A → H'[q]? = H[q]?) (hA2 : G.2.2.2 ≤ A) (h1 : sbc u' = sbc u) (h2 : sbw u' = sbw u) : At G R H0 u' H' (locs ++ [⟨A, i⟩]) cells slots := by
  obtain ⟨a1, ⟨a2, a3, a4⟩, a5, a6⟩ := hA
  refine ⟨hr, ⟨by omega, fun q hq => (e3 q (by omega)).trans (a3 q hq), fun q hq => ?_⟩, by rw [h1]; exact a5, by rw [h2]; exact a6⟩
  rcases List.mem_append.mp hq with h | h
  · exact a4 q h
  · cases List.mem_singleton.mp h; exact hA2
theorem al_ge {G : Geo} {U : State} (hK : KOK G U) {a : Int} (h : 0 < a) : G.2.2.2 ≤ G.1 a := by rw [hK.1 a h]; omega
section PR
variable {p : Program} {l : Launch} {e : Env} {R : Room} {s : State} {m : MethodId} {args : Array Value} {below : List Frame} {meth : Method} {c : Code} {cc : ByteArray} {nL ow cp k j : Nat} {G : Geo} {H : Heap} {locs : List Loc} {cells slots : Nat} {Q : State → Prop} {pc : Nat} {ls : Array Slot} {st : List Value} {u : Sto} {a v : Int}
theorem put_row (hX : MX p R s m args c cc nL ow G) (hf : FldAt ow cp k j) (hnf : (kF k j).2.2.2 = false) (hd : decode cc pc = .ok (.putfield cp, 3)) (hA : At G R s.heap u H locs cells slots) (hl : live u a k) (hv : okv (ety k j) v)
    (kk : ∀ (H' : Heap) (locs' : List Loc), At G R s.heap (wr u (ety k j) a j v) H' locs' cells slots → W p l e R s m args below meth c H' locs' cells slots Q (F0 m (pc + 3) ls st)) :
    W p l e R s m args below meth c H locs cells slots Q (F0 m pc ls (enc G.1 (ety k j) v :: .ref (G.1 a) :: st)) := by
  obtain ⟨f1, f2, f3, f4, f5, f6, f7⟩ := hf
  have hj : (j : Int) < klen a := by rw [kl_obj hl.2.2 f3 f4]; exact_mod_cast f5
  obtain ⟨cell, q1, q2, q3, q4, q5⟩ := hA.1.1 a hl.1 hl.2.1 (by rw [hl.2.2]; omega)
  rw [hl.2.2] at q3 q5
  have hts := hX.2.2.2.2.1
  have hK := hX.2.2.2.2.2.1
  obtain ⟨hS, hfc, kC', hkC, hkind⟩ := hK.2.1 k f3 f4
  obtain ⟨cf, kf, fi, f, hi, hsl⟩ := hS j f5
  have hlay := hts _ f2
  have hst := (u_facts hfc hkC (u_lay1 hlay) hi).1
  unfold u_lay at hlay
  rw [if_neg (by rw [hnf]; decide)] at hlay
  have h6 := u_store hfc hkC hkind hlay hi f6 (f7 G.1 v hv).1 (f7 G.1 v hv).2
  refine W.putK hX.1 hX.2.1 (f := f) ⟨hX.2.2.2.1, hts _ f1, ⟨_, _, _, hi⟩, hst⟩ (by rw [q3]; exact h6) q1 q2 (by rw [hsl]; exact k2_hasslot (q5 j hj)) rfl rfl hd fun H' e1 e2 e3 => ?_
  rw [hsl] at e1
  have t4 := wr_t u (ety k j) a j v
  exact kk H' _ (at_put hA (rel_wr hA.1 hK hl f3 hj hv q1 e1 e2 e3) e2 e3 (al_ge hK hl.1) t4.2.2.1 t4.2.2.2)
def AstR (K : Nat) (ins : Instr) : Prop := ∀ (p : Program) (l : Launch) (e : Env) (R : Room) (s : State) (m : MethodId) (args : Array Value) (below : List Frame) (meth : Method) (c : Code) (cc : ByteArray) (H : Heap) (locs : List Loc) (cells slots : Nat) (Q : State → Prop) (pc : Nat) (ls : Array Slot) (rest : List Value) (a : Nat) (cell : Cell) (j : Int32) (v : Int) (al : Int → Nat), p.tables.exec = Jvm.exec → c.code = cc → decode cc pc = .ok (ins, 1) →
  H[a]? = some cell → s.isArrayOf cell (aT K) → cell.vm ≠ .unknown → ¬ (j < 0 ∨ cell.slots.size ≤ j.toNatClampNeg) → okv (ety K 0) v →
  (∀ H' : Heap, H'[a]? = some (cell.setSlot j.toNatClampNeg (enc al (ety K 0) v)) → H'.size = H.size → (∀ q, q ≠ a → H'[q]? = H[q]?) → W p l e R s m args below meth c H' (locs ++ [⟨a, j.toNatClampNeg⟩]) cells slots Q (F0 m (pc + 1) ls rest)) → W p l e R s m args below meth c H locs cells slots Q (F0 m pc ls (enc al (ety K 0) v :: .int j :: .ref a :: rest))
theorem asti_r : AstR 14 .iastore := fun p l e R s m args below meth c cc H locs cells slots Q pc ls rest a cell j v al hx hb hd h1 h2 h3 h4 h5 k => W.iast hx hb h1 h2 h3 h4 rfl rfl hd k
theorem astj_r : AstR 15 .lastore := fun p l e R s m args below meth c cc H locs cells slots Q pc ls rest a cell j v al hx hb hd h1 h2 h3 h4 h5 k => W.last hx hb h1 h2 h3 h4 rfl rfl hd k
theorem astz_r : AstR 16 .bastore := fun p l e R s m args below meth c cc H locs cells slots Q pc ls rest a cell j v al hx hb hd h1 h2 h3 h4 h5 k => W.zast hx hb h1 h2 h3 h4 rfl rfl hd (fun H' e1 e2 e3 => k H' (by
  have h5 : 0 ≤ v ∧ v ≤ 1 := h5
  have : v = 0 ∨ v = 1 := by omega
  rcases this with rfl | rfl <;> exact e1) e2 e3)
theorem nar_c {v : Int} (h : 0 ≤ v ∧ v < 65536) : narrow .char (.int (Int32.ofInt v)) = .int (Int32.ofInt v) := by
  obtain ⟨n, rfl⟩ := Int.eq_ofNat_of_zero_le h.1
  exact (pk_charN (q := n) (by omega)).1
theorem astc_r : AstR 17 .castore := fun p l e R s m args below meth c cc H locs cells slots Q pc ls rest a cell j v al hx hb hd h1 h2 h3 h4 h5 k => W.cast hx hb h1 h2 h3 h4 rfl rfl hd (fun H' e1 e2 e3 => k H' (by
  rw [nar_c h5] at e1
  exact e1) e2 e3)
theorem ast_row {K : Nat} {ins : Instr} {i : Int} (hX : MX p R s m args c cc nL ow G) (h14 : 14 ≤ K) (h18 : K ≤ 18) (hrow : AstR K ins) (hd : decode cc pc = .ok (ins, 1)) (hA : At G R s.heap u H locs cells slots) (hl : inb u a K i) (hv : okv (ety K 0) v)
    (kk : ∀ (H' : Heap) (locs' : List Loc), At G R s.heap (wr u (ety K 0) a i v) H' locs' cells slots → W p l e R s m args below meth c H' locs' cells slots Q (F0 m (pc + 1) ls st)) :
    W p l e R s m args below meth c H locs cells slots Q (F0 m pc ls (enc G.1 (ety K 0) v :: .int (Int32.ofInt i) :: .ref (G.1 a) :: st)) := by
  have hK := hX.2.2.2.2.2.1
  obtain ⟨cell, q1, q2, q3, q4, q5, q6, q7, -⟩ := arr_at hA.1 hK hl h14 h18
  refine hrow p l e R s m args below meth c cc H locs cells slots Q pc ls st _ cell _ v G.1 hX.1 hX.2.1 hd q1 q2 (by rw [q3]; exact fun h => by cases h) q4 hv (fun H' e1 e2 e3 => ?_)
  rw [q5] at e1
  have t4 := wr_t u (ety K 0) a i v
  have e0 : ((i.toNat : Nat) : Int) = i := Int.toNat_of_nonneg hl.2.1
  refine kk H' _ (at_put hA ?_ e2 e3 (al_ge hK hl.1.1) t4.2.2.1 t4.2.2.2)
  have := rel_wr (j := i.toNat) (v := v) (H' := H') hA.1 hK hl.1 (by omega) (by have := hl.2.2; omega) (by rw [ety_arr h14 h18]; exact hv) q1 (by rw [hK.2.2.2.2.1 K _ h14, ety_arr h14 h18]; exact e1) e2 e3
  rw [ety_arr h14 h18, e0] at this
  exact this
end PR
def FldPut (ow cp k j : Nat) : Prop := FldAt ow cp k j ∧ (kF k j).2.2.2 = false
/-- what a field of that type asks of a value that fits the stack -/
def tyq (t : Nat) (v : Int) : Prop := (t = 3 → 0 ≤ v ∧ v ≤ 1) ∧ (t = 4 → 0 ≤ v ∧ v < 65536)
theorem okv_q {t : Nat} {v : Int} (h : okv (gty t) v) (hq : tyq t v) : okv t v := by
  unfold okv gty at *
  by_cases h1 : t = 1
  · simp only [h1] at *; exact h
  · by_cases h2 : t = 2
    · simp [h2]
    · simp only [h1, h2, if_false] at *
      by_cases h3 : t = 3
      · simp only [h3, if_true]; exact hq.1 h3
      · by_cases h4 : t = 4
        · simp only [h4, if_true]; simpa using hq.2 h4
        · simp only [h3, h4, if_false]; simpa using h
theorem tyq_0 (v : Int) : tyq 0 v := ⟨(fun h => absurd h (by decide)), (fun h => absurd h (by decide))⟩
theorem tyq_1 (v : Int) : tyq 1 v := ⟨(fun h => absurd h (by decide)), (fun h => absurd h (by decide))⟩
theorem tyq_2 (v : Int) : tyq 2 v := ⟨(fun h => absurd h (by decide)), (fun h => absurd h (by decide))⟩
def putP (cp k j : Nat) (a b : XE) : XS := (fun ga _ nx9 _ _ _ cs => match a.1 ga 0 cs with
    | some (2, cs1) => match b.1 ga 1 cs1 with
      | some (t, cs2) => match nx (.putfield cp) 3 cs2 with
        | some cs3 => if okt nx9 cs3 = true ∧ t = gty (ety k j) then some (ga, cs3) else none
        | _ => none
      | _ => none
    | _ => none, fun cl Kn _ _ r u => a.2 cl (fun o u' => b.2 cl (fun v u2 => live u2 o k ∧ tyq (ety k j) v ∧ Kn r (wr u2 (ety k j) o j v)) r u') r u)
theorem put_d (cp k j : Nat) (a b : XE) (ha : DecE a) (hb : DecE b) : DecS (putP cp k j a b) := by
  intro ga nL nx9 lb gb rt cs ga' cs' cc hc hD
  simp only [putP] at hc
  split at hc
  case h_2 => cases hc
  rename_i h0
  split at hc
  case h_2 => cases hc
  rename_i h1
  split at hc
  case h_2 => cases hc
  rename_i h2
  split at hc
  case isFalse => cases hc
  cases hc
  exact (nx_ok h2 (hb _ _ _ _ _ _ h1 (ha _ _ _ _ _ _ h0 hD))).2.2
theorem put_ok (ow cp k j : Nat) (hf : FldPut ow cp k j) (a b : XE) (ha : SndE ow a) (hb0 : SndE ow b) : SndS ow (putP cp k j a b) := by
  intro p l e R s m args below meth c cc nL G Qf cl hX hC ga nx9 lb gb rt cs ga' cs' hc hD r u H locs cells slots ls Kn Kb Kr hL hA hw hn hb hr hx9
  simp only [putP] at hc hw
  split at hc
  case h_2 => cases hc
  rename_i cs1 h0
  split at hc
  case h_2 => cases hc
  rename_i t cs2 h1
  split at hc
  case h_2 => cases hc
  rename_i cs3 h2
  split at hc
  case isFalse => cases hc
  rename_i hcond
  obtain ⟨hk9, rfl⟩ := hcond
  cases hc
  refine ha p l e R s m args below meth c cc nL G Qf cl hX hC ga 0 cs 2 cs1 h0 hD r u H locs cells slots ls [] _ hL hA (Nat.le_refl _) hw ?_
  intro o u' H' locs' cells' slots' ho hA' hq hD1
  refine hb0 p l e R s m args below meth c cc nL G Qf cl hX hC ga 1 cs1 _ cs2 h1 hD1 r u' H' locs' cells' slots' ls _ _ hL hA' ?_ hq ?_
  · rw [cats_cons, cat_enc]; simp [cats]
  intro v u2 H2 locs2 cells2 slots2 hv hA2 hq2 hD2
  obtain ⟨g1, g2, g3⟩ := nx_ok h2 hD2
  obtain ⟨hl, htq, hq2⟩ := hq2
  rw [enc_g, enc_2 _ (by have := hl.1; omega)]
  refine put_row hX hf.1 hf.2 g1 hA2 hl (okv_q hv htq) (fun H3 locs3 hA3 => ?_)
  rw [← g2]
  exact okt_W hk9 hX.1 hX.2.1 g3 (hn r _ H3 locs3 _ _ ls hL hA3 hq2)
def put {ow : Nat} {cp k j : Nat} (hf : FldPut ow cp k j) (a b : EX ow) : SX ow := ⟨putP cp k j a.1 b.1, put_ok ow cp k j hf a.1 b.1 a.2.1 b.2.1, put_d cp k j a.1 b.1 a.2.2 b.2.2⟩
/-- x.f op= e: the row of the binary instruction is handed in -/
def popP (ins : Instr) (f : Int → Int → Int) (cp k j : Nat) (a b : XE) : XS := (fun ga _ nx9 _ _ _ cs => match a.1 ga 0 cs with
    | some (2, cs1) => match nx .dup 1 cs1 with
      | some cs2 => match nx (.getfield cp) 3 cs2 with
        | some cs3 => match b.1 ga 2 cs3 with
          | some (0, cs4) => match nx ins 1 cs4 with
            | some cs5 => match nx (.putfield cp) 3 cs5 with
              | some cs6 => if okt nx9 cs6 = true ∧ ety k j = 0 then some (ga, cs6) else none
              | _ => none
            | _ => none
          | _ => none
        | _ => none
      | _ => none
    | _ => none, fun cl Kn _ _ r u => a.2 cl (fun o u' => live u' o k ∧ b.2 cl (fun v u2 => live u2 o k ∧ Kn r (wr u2 (ety k j) o j (f (rd u' (ety k j) o j) v))) r u') r u)
theorem pop_d (ins : Instr) (f : Int → Int → Int) (cp k j : Nat) (a b : XE) (ha : DecE a) (hb : DecE b) : DecS (popP ins f cp k j a b) := by
  intro ga nL nx9 lb gb rt cs ga' cs' cc hc hD
  simp only [popP] at hc
  split at hc
  case h_2 => cases hc
  rename_i h0
  split at hc
  case h_2 => cases hc
  rename_i h1
  split at hc
  case h_2 => cases hc
  rename_i h2
  split at hc
  case h_2 => cases hc
  rename_i h3
  split at hc
  case h_2 => cases hc
  rename_i h4
  split at hc
  case h_2 => cases hc
  rename_i h5
  split at hc
  case isFalse => cases hc
  cases hc
  exact (nx_ok h5 (nx_ok h4 (hb _ _ _ _ _ _ h3 (nx_ok h2 (nx_ok h1 (ha _ _ _ _ _ _ h0 hD)).2.2).2.2)).2.2).2.2
theorem pop_ok (ow : Nat) (ins : Instr) (f : Int → Int → Int) (ok : Int → Prop) (g : Int32 → Int32 → Int32) (hrow : BinR ins g ok) (hok : ∀ y, ok y) (hfi : ∀ x y, inI (f x y)) (hg : ∀ x y, inI x → inI y → Int32.ofInt (f x y) = g (Int32.ofInt x) (Int32.ofInt y)) (cp k j : Nat) (hf : FldPut ow cp k j) (a b : XE) (ha : SndE ow a) (hb0 : SndE ow b) : SndS ow (popP ins f cp k j a b) := by
  intro p l e R s m args below meth c cc nL G Qf cl hX hC ga nx9 lb gb rt cs ga' cs' hc hD r u H locs cells slots ls Kn Kb Kr hL hA hw hn hb hr hx9
  simp only [popP] at hc hw
  split at hc
  case h_2 => cases hc
  rename_i cs1 h0
  split at hc
  case h_2 => cases hc
  rename_i cs2 h1
  split at hc
  case h_2 => cases hc
  rename_i cs3 h2
  split at hc
  case h_2 => cases hc
  rename_i cs4 h3
  split at hc
  case h_2 => cases hc
  rename_i cs5 h4
  split at hc
  case h_2 => cases hc
  rename_i cs6 h5
  split at hc
  case isFalse => cases hc
  rename_i hcond
  obtain ⟨hk9, ht0⟩ := hcond
  cases hc
  refine ha p l e R s m args below meth c cc nL G Qf cl hX hC ga 0 cs 2 cs1 h0 hD r u H locs cells slots ls [] _ hL hA (Nat.le_refl _) hw ?_
  intro o u' H' locs' cells' slots' ho hA' hq hD1
  obtain ⟨hl, hq⟩ := hq
  obtain ⟨a1, a2, a3⟩ := nx_ok h1 hD1
  obtain ⟨b1, b2, b3⟩ := nx_ok h2 a3
  rw [enc_2 _ (by have := hl.1; omega)]
  refine lv_dup hX.1 hX.2.1 a1 rfl ?_
  rw [← a2]
  have hff := hf
  obtain ⟨⟨f1, f2, f3, f4, f5, f6, f7⟩, hnf⟩ := hff
  have hj : (j : Int) < klen o := by rw [kl_obj hl.2.2 f3 f4]; exact_mod_cast f5
  obtain ⟨cell, q1, q2, q3, q4, q5⟩ := hA'.1.1 o hl.1 hl.2.1 (by rw [hl.2.2]; omega)
  have hts := hX.2.2.2.2.1
  obtain ⟨hS, hfc, kC', hkC, hkind⟩ := hX.2.2.2.2.2.1.2.1 k f3 f4
  obtain ⟨cf, kf, fi, fd, hi, hsl⟩ := hS j f5
  refine W.getf hX.1 hX.2.1 hX.2.2.2.1 (hts _ f1) hi (u_facts hfc hkC (u_lay1 (hts _ f2)) hi).1 q1 (by rw [q2]; exact fun h => by cases h) (v := enc G.1 (ety k j) (rd u' (ety k j) o j)) ?_ rfl rfl b1 ?_
  · rw [hsl]
    have := q5 j hj
    rw [hl.2.2] at this
    exact this
  have hx9 : inI (rd u' (ety k j) o j) := by
    have := rd_ok hA'.1 hl hj
    rw [ht0] at this ⊢
    exact this
  show W p l e R s m args below meth c H' locs' cells' slots' Qf (F0 m (pcOf cs2 + 3) ls (enc G.1 (ety k j) (rd u' (ety k j) o j) :: .ref (G.1 o) :: []))
  rw [← b2, ht0, enc_0]
  rw [ht0] at hx9 hq
  refine hb0 p l e R s m args below meth c cc nL G Qf cl hX hC ga 2 cs3 _ cs4 h3 b3 r u' H' locs' cells' slots' ls _ _ hL hA' ?_ hq ?_
  · exact Nat.le_refl _
  intro v u2 H2 locs2 cells2 slots2 hv hA2 hq2 hD2
  obtain ⟨c1, c2, c3⟩ := nx_ok h4 hD2
  obtain ⟨d1, d2, d3⟩ := nx_ok h5 c3
  have hv : inI v := hv
  rw [enc_0]
  refine hrow p l e R s m args below meth c cc H2 locs2 cells2 slots2 Qf (pcOf cs4) ls _ _ v hX.1 hX.2.1 c1 (hok v) hv ?_
  rw [← c2, ← hg _ _ hx9 hv]
  have := put_row (l := l) (e := e) (below := below) (meth := meth) (Q := Qf) (ls := ls) (st := []) (v := f (rd u' 0 o j) v) hX hf.1 hf.2 d1 hA2 hq2.1 (by rw [ht0]; exact hfi _ _) (fun H3 locs3 hA3 => by
    rw [← d2]
    rw [ht0] at hA3
    exact okt_W hk9 hX.1 hX.2.1 d3 (hn r _ H3 locs3 _ _ ls hL hA3 hq2.2))
  rw [ht0, enc_0] at this
  exact this

def popadd {ow : Nat} {cp k j : Nat} (hf : FldPut ow cp k j) (a b : EX ow) : SX ow := ⟨popP .iadd (fun a b => w32 (a + b)) cp k j a.1 b.1, pop_ok ow _ _ _ _ add_r (fun _ => trivial) (fun _ _ => w32_in _) (fun x y _ _ => by rw [ofI_bmod, Int32.ofInt_add]) cp k j hf a.1 b.1 a.2.1 b.2.1, pop_d _ _ cp k j a.1 b.1 a.2.2 b.2.2⟩
def popsub {ow : Nat} {cp k j : Nat} (hf : FldPut ow cp k j) (a b : EX ow) : SX ow := ⟨popP .isub (fun a b => w32 (a - b)) cp k j a.1 b.1, pop_ok ow _ _ _ _ sub_r (fun _ => trivial) (fun _ _ => w32_in _) (fun x y _ _ => by rw [ofI_bmod, Int32.ofInt_sub]) cp k j hf a.1 b.1 a.2.1 b.2.1, pop_d _ _ cp k j a.1 b.1 a.2.2 b.2.2⟩
def popor {ow : Nat} {cp k j : Nat} (hf : FldPut ow cp k j) (a b : EX ow) : SX ow := ⟨popP .ior ior cp k j a.1 b.1, pop_ok ow _ _ _ _ bor_r (fun _ => trivial) (fun _ _ => toInt_in _) (fun x y _ _ => Int32.ofInt_toInt _) cp k j hf a.1 b.1 a.2.1 b.2.1, pop_d _ _ cp k j a.1 b.1 a.2.2 b.2.2⟩
def popand {ow : Nat} {cp k j : Nat} (hf : FldPut ow cp k j) (a b : EX ow) : SX ow := ⟨popP .iand iand cp k j a.1 b.1, pop_ok ow _ _ _ _ ban_r (fun _ => trivial) (fun _ _ => toInt_in _) (fun x y _ _ => Int32.ofInt_toInt _) cp k j hf a.1 b.1 a.2.1 b.2.1, pop_d _ _ cp k j a.1 b.1 a.2.2 b.2.2⟩
def astP (K : Nat) (ins : Instr) (a b v : XE) : XS := (fun ga _ nx9 _ _ _ cs => match a.1 ga 0 cs with
    | some (2, cs1) => match b.1 ga 1 cs1 with
      | some (0, cs2) => match v.1 ga 2 cs2 with
        | some (t, cs3) => match nx ins 1 cs3 with
          | some cs4 => if okt nx9 cs4 = true ∧ t = gty (ety K 0) then some (ga, cs4) else none
          | _ => none
        | _ => none
      | _ => none
    | _ => none, fun cl Kn _ _ r u => a.2 cl (fun o u' => b.2 cl (fun i u2 => v.2 cl (fun x u3 => inb u3 o K i ∧ tyq (ety K 0) x ∧ Kn r (wr u3 (ety K 0) o i x)) r u2) r u') r u)
theorem ast_d (K : Nat) (ins : Instr) (a b v : XE) (ha : DecE a) (hb : DecE b) (hv : DecE v) : DecS (astP K ins a b v) := by
  intro ga nL nx9 lb gb rt cs ga' cs' cc hc hD
  simp only [astP] at hc
  split at hc
  case h_2 => cases hc
  rename_i h0
  split at hc
  case h_2 => cases hc
  rename_i h1
  split at hc
  case h_2 => cases hc
  rename_i h2
  split at hc
  case h_2 => cases hc
  rename_i h3
  split at hc
  case isFalse => cases hc
  cases hc
  exact (nx_ok h3 (hv _ _ _ _ _ _ h2 (hb _ _ _ _ _ _ h1 (ha _ _ _ _ _ _ h0 hD)))).2.2
theorem ast_ok (ow K : Nat) (h14 : 14 ≤ K) (h18 : K ≤ 18) (ins : Instr) (hrow : AstR K ins) (a b v0 : XE) (ha : SndE ow a) (hb0 : SndE ow b) (hv0 : SndE ow v0) : SndS ow (astP K ins a b v0) := by
  intro p l e R s m args below meth c cc nL G Qf cl hX hC ga nx9 lb gb rt cs ga' cs' hc hD r u H locs cells slots ls Kn Kb Kr hL hA hw hn hb hr hx9
  simp only [astP] at hc hw
  split at hc
  case h_2 => cases hc
  rename_i cs1 h0
  split at hc
  case h_2 => cases hc
  rename_i cs2 h1
  split at hc
  case h_2 => cases hc
  rename_i t cs3 h2
  split at hc
  case h_2 => cases hc
  rename_i cs4 h3
  split at hc
  case isFalse => cases hc
  rename_i hcond
  obtain ⟨hk9, rfl⟩ := hcond
  cases hc
  refine ha p l e R s m args below meth c cc nL G Qf cl hX hC ga 0 cs 2 cs1 h0 hD r u H locs cells slots ls [] _ hL hA (Nat.le_refl _) hw ?_
  intro o u' H' locs' cells' slots' ho hA' hq hD1
  refine hb0 p l e R s m args below meth c cc nL G Qf cl hX hC ga 1 cs1 _ cs2 h1 hD1 r u' H' locs' cells' slots' ls _ _ hL hA' ?_ hq ?_
  · rw [cats_cons, cat_enc]; simp [cats]
  intro i u2 H2 locs2 cells2 slots2 hi hA2 hq2 hD2
  refine hv0 p l e R s m args below meth c cc nL G Qf cl hX hC ga 2 cs2 _ cs3 h2 hD2 r u2 H2 locs2 cells2 slots2 ls _ _ hL hA2 ?_ hq2 ?_
  · rw [cats_cons, cats_cons, cat_enc, cat_enc]; simp [cats]
  intro v u3 H3 locs3 cells3 slots3 hv hA3 hq3 hD3
  obtain ⟨g1, g2, g3⟩ := nx_ok h3 hD3
  obtain ⟨hl, htq, hq3⟩ := hq3
  rw [enc_g, enc_0, enc_2 _ (by have := hl.1.1; omega)]
  refine ast_row hX h14 h18 hrow g1 hA3 hl (okv_q hv htq) (fun H4 locs4 hA4 => ?_)
  rw [← g2]
  exact okt_W hk9 hX.1 hX.2.1 g3 (hn r _ H4 locs4 _ _ ls hL hA4 hq3)

def asti {ow : Nat} (a b v : EX ow) : SX ow := ⟨astP 14 .iastore a.1 b.1 v.1, ast_ok ow 14 (by decide) (by decide) .iastore asti_r a.1 b.1 v.1 a.2.1 b.2.1 v.2.1, ast_d _ _ a.1 b.1 v.1 a.2.2 b.2.2 v.2.2⟩
def astj {ow : Nat} (a b v : EX ow) : SX ow := ⟨astP 15 .lastore a.1 b.1 v.1, ast_ok ow 15 (by decide) (by decide) .lastore astj_r a.1 b.1 v.1 a.2.1 b.2.1 v.2.1, ast_d _ _ a.1 b.1 v.1 a.2.2 b.2.2 v.2.2⟩
def astz {ow : Nat} (a b v : EX ow) : SX ow := ⟨astP 16 .bastore a.1 b.1 v.1, ast_ok ow 16 (by decide) (by decide) .bastore astz_r a.1 b.1 v.1 a.2.1 b.2.1 v.2.1, ast_d _ _ a.1 b.1 v.1 a.2.2 b.2.2 v.2.2⟩
def astc {ow : Nat} (a b v : EX ow) : SX ow := ⟨astP 17 .castore a.1 b.1 v.1, ast_ok ow 17 (by decide) (by decide) .castore astc_r a.1 b.1 v.1 a.2.1 b.2.1 v.2.1, ast_d _ _ a.1 b.1 v.1 a.2.2 b.2.2 v.2.2⟩
def aopP (ins : Instr) (f : Int → Int → Int) (a b v : XE) : XS := (fun ga _ nx9 _ _ _ cs => match a.1 ga 0 cs with
    | some (2, cs1) => match b.1 ga 1 cs1 with
      | some (0, cs2) => match nx .dup2 1 cs2 with
        | some cs3 => match nx .iaload 1 cs3 with
          | some cs4 => match v.1 ga 3 cs4 with
            | some (0, cs5) => match nx ins 1 cs5 with
              | some cs6 => match nx .iastore 1 cs6 with
                | some cs7 => if okt nx9 cs7 = true then some (ga, cs7) else none
                | _ => none
              | _ => none
            | _ => none
          | _ => none
        | _ => none
      | _ => none
    | _ => none, fun cl Kn _ _ r u => a.2 cl (fun o u' => b.2 cl (fun i u2 => inb u2 o 14 i ∧ v.2 cl (fun x u3 => inb u3 o 14 i ∧ Kn r (wr u3 (ety 14 0) o i (f (rd u2 (ety 14 0) o i) x))) r u2) r u') r u)
theorem aop_d (ins : Instr) (f : Int → Int → Int) (a b v : XE) (ha : DecE a) (hb : DecE b) (hv : DecE v) : DecS (aopP ins f a b v) := by
  intro ga nL nx9 lb gb rt cs ga' cs' cc hc hD
  simp only [aopP] at hc
  split at hc
  case h_2 => cases hc
  rename_i h0
  split at hc
  case h_2 => cases hc
  rename_i h1
  split at hc
  case h_2 => cases hc
  rename_i h2
  split at hc
  case h_2 => cases hc
  rename_i h3
  split at hc
  case h_2 => cases hc
  rename_i h4
  split at hc
  case h_2 => cases hc
  rename_i h5
  split at hc
  case h_2 => cases hc
  rename_i h6
  split at hc
  case isFalse => cases hc
  cases hc
  exact (nx_ok h6 (nx_ok h5 (hv _ _ _ _ _ _ h4 (nx_ok h3 (nx_ok h2 (hb _ _ _ _ _ _ h1 (ha _ _ _ _ _ _ h0 hD))).2.2).2.2)).2.2).2.2
theorem aop_ok (ow : Nat) (ins : Instr) (f : Int → Int → Int) (ok : Int → Prop) (g : Int32 → Int32 → Int32) (hrow : BinR ins g ok) (hok : ∀ y, ok y) (hfi : ∀ x y, inI (f x y)) (hg : ∀ x y, inI x → inI y → Int32.ofInt (f x y) = g (Int32.ofInt x) (Int32.ofInt y)) (a b v0 : XE) (ha : SndE ow a) (hb0 : SndE ow b) (hv0 : SndE ow v0) : SndS ow (aopP ins f a b v0) := by
  intro p l e R s m args below meth c cc nL G Qf cl hX hC ga nx9 lb gb rt cs ga' cs' hc hD r u H locs cells slots ls Kn Kb Kr hL hA hw hn hb hr hx9
  simp only [aopP] at hc hw
  split at hc
  case h_2 => cases hc
  rename_i cs1 h0
  split at hc
  case h_2 => cases hc
  rename_i cs2 h1
  split at hc
  case h_2 => cases hc
  rename_i cs3 h2
  split at hc
  case h_2 => cases hc
  rename_i cs4 h3
  split at hc
  case h_2 => cases hc
  rename_i cs5 h4
  split at hc
  case h_2 => cases hc
  rename_i cs6 h5
  split at hc
  case h_2 => cases hc
  rename_i cs7 h6
  split at hc
  case isFalse => cases hc
  rename_i hk9
  cases hc
  refine ha p l e R s m args below meth c cc nL G Qf cl hX hC ga 0 cs 2 cs1 h0 hD r u H locs cells slots ls [] _ hL hA (Nat.le_refl _) hw ?_
  intro o u' H' locs' cells' slots' ho hA' hq hD1
  refine hb0 p l e R s m args below meth c cc nL G Qf cl hX hC ga 1 cs1 _ cs2 h1 hD1 r u' H' locs' cells' slots' ls _ _ hL hA' ?_ hq ?_
  · rw [cats_cons, cat_enc]; simp [cats]
  intro i u2 H2 locs2 cells2 slots2 hi hA2 hq2 hD2
  obtain ⟨hl, hq2⟩ := hq2
  obtain ⟨a1, a2, a3⟩ := nx_ok h2 hD2
  obtain ⟨b1, b2, b3⟩ := nx_ok h3 a3
  rw [enc_0, enc_2 _ (by have := hl.1.1; omega)]
  refine lv_dup2_11 hX.1 hX.2.1 a1 rfl rfl ?_
  rw [← a2]
  obtain ⟨cell, q1, q2, q3, q4, q5, q6, q7, -⟩ := arr_at hA2.1 hX.2.2.2.2.2.1 hl (by decide) (by decide)
  refine aldi_r p l e R s m args below meth c cc H2 locs2 cells2 slots2 Qf (pcOf cs3) ls _ _ cell _ _ hX.1 hX.2.1 b1 q1 q2 (by rw [q3]; exact fun h => by cases h) q4 (by rw [q5]; exact q6) ?_
  have hx9 : inI (rd u2 (ety 14 0) o i) := q7
  rw [← b2]
  refine hv0 p l e R s m args below meth c cc nL G Qf cl hX hC ga 3 cs4 _ cs5 h4 b3 r u2 H2 locs2 cells2 slots2 ls _ _ hL hA2 ?_ hq2 ?_
  · exact Nat.le_refl _
  intro v u3 H3 locs3 cells3 slots3 hv hA3 hq3 hD3
  obtain ⟨c1, c2, c3⟩ := nx_ok h5 hD3
  obtain ⟨d1, d2, d3⟩ := nx_ok h6 c3
  have hv : inI v := hv
  refine hrow p l e R s m args below meth c cc H3 locs3 cells3 slots3 Qf (pcOf cs5) ls _ _ v hX.1 hX.2.1 c1 (hok v) hv ?_
  rw [← c2, ← hg _ _ hx9 hv]
  exact ast_row (K := 14) (v := f (rd u2 (ety 14 0) o i) v) hX (by decide) (by decide) asti_r d1 hA3 hq3.1 (hfi _ _) (fun H4 locs4 hA4 => by
    rw [← d2]
    exact okt_W hk9 hX.1 hX.2.1 d3 (hn r _ H4 locs4 _ _ ls hL hA4 hq3.2))

def aopadd {ow : Nat} (a b v : EX ow) : SX ow := ⟨aopP .iadd (fun a b => w32 (a + b)) a.1 b.1 v.1, aop_ok ow _ _ _ _ add_r (fun _ => trivial) (fun _ _ => w32_in _) (fun x y _ _ => by rw [ofI_bmod, Int32.ofInt_add]) a.1 b.1 v.1 a.2.1 b.2.1 v.2.1, aop_d _ _ a.1 b.1 v.1 a.2.2 b.2.2 v.2.2⟩
def aopsub {ow : Nat} (a b v : EX ow) : SX ow := ⟨aopP .isub (fun a b => w32 (a - b)) a.1 b.1 v.1, aop_ok ow _ _ _ _ sub_r (fun _ => trivial) (fun _ _ => w32_in _) (fun x y _ _ => by rw [ofI_bmod, Int32.ofInt_sub]) a.1 b.1 v.1 a.2.1 b.2.1 v.2.1, aop_d _ _ a.1 b.1 v.1 a.2.2 b.2.2 v.2.2⟩
/-- the end, with a value of type t -/
def retP (t : Nat) (a : XE) : XS := (fun ga _ _ _ _ rt cs => match a.1 ga 0 cs with
    | some (t1, cs1) => if t1 = gty t ∧ rt % 20 = t ∧ t ≠ 9 then (nxe (retI t) 1 cs1).map (fun x => (ga, x)) else none
    | _ => none, fun cl _ _ Kr r u => a.2 cl (fun v u' => tyq t v ∧ Kr v u') r u)
theorem ret_d (t : Nat) (a : XE) (ha : DecE a) : DecS (retP t a) := by
  intro ga nL nx9 lb gb rt cs ga' cs' cc hc hD
  simp only [retP] at hc
  split at hc
  case h_2 => cases hc
  rename_i h0
  split at hc
  case isFalse => cases hc
  obtain ⟨x, hx, e1⟩ := Option.map_eq_some_iff.mp hc
  cases e1
  exact (nxe_ok hx (ha _ _ _ _ _ _ h0 hD)).2
theorem ret_ok (ow t : Nat) (a : XE) (ha : SndE ow a) : SndS ow (retP t a) := by
  intro p l e R s m args below meth c cc nL G Qf cl hX hC ga nx9 lb gb rt cs ga' cs' hc hD r u H locs cells slots ls Kn Kb Kr hL hA hw hn hb hr hx9
  simp only [retP] at hc hw
  split at hc
  case h_2 => cases hc
  rename_i t1 cs1 h0
  split at hc
  case isFalse => cases hc
  rename_i hcond
  obtain ⟨rfl, rfl, h9⟩ := hcond
  obtain ⟨x, hx, e1⟩ := Option.map_eq_some_iff.mp hc
  cases e1
  refine ha p l e R s m args below meth c cc nL G Qf cl hX hC ga 0 cs _ cs1 h0 hD r u H locs cells slots ls [] _ hL hA (Nat.le_refl _) hw ?_
  intro v u' H' locs' cells' slots' hv hA' hq hD1
  have := hr v u' H' locs' cells' slots' ls (pcOf cs1) (okv_q hv hq.1) hA' hq.2 (nxe_ok hx hD1).1
  rw [encR_g h9] at this
  exact this
def rets {ow : Nat} (t : Nat) (a : EX ow) : SX ow := ⟨retP t a.1, ret_ok ow t a.1 a.2.1, ret_d t a.1 a.2.2⟩
def rtvP : XS := (fun ga _ _ _ _ rt cs => if rt % 20 = 9 then (nxe .return_ 1 cs).map (fun x => (ga, x)) else none, fun _ _ _ Kr _ u => Kr 0 u)
theorem rtv_ok (ow : Nat) : SndS ow rtvP := by
  intro p l e R s m args below meth c cc nL G Qf cl hX hC ga nx9 lb gb rt cs ga' cs' hc hD r u H locs cells slots ls Kn Kb Kr hL hA hw hn hb hr hx9
  simp only [rtvP] at hc hw
  split at hc
  case isFalse => cases hc
  rename_i hcond
  obtain ⟨x, hx, e1⟩ := Option.map_eq_some_iff.mp hc
  cases e1
  rw [hcond] at hr
  exact hr 0 u H locs cells slots ls (pcOf cs) inI_0 hA hw (nxe_ok hx hD).1
def rtv {ow : Nat} : SX ow := ⟨rtvP, rtv_ok ow, by
  intro ga nL nx9 lb gb rt cs ga' cs' cc hc hD
  simp only [rtvP] at hc
  split at hc
  case isFalse => cases hc
  obtain ⟨x, hx, e1⟩ := Option.map_eq_some_iff.mp hc
  cases e1
  exact (nxe_ok hx hD).2⟩
/-- throw new, of the one kind -/
def thrP (ik ic : Nat) : XS := (fun ga _ _ _ _ rt cs => if 20 ≤ rt then match nx (.new ik) 3 cs with
    | some cs1 => match nx .dup 1 cs1 with
      | some cs2 => match nx (.invokespecial ic) 3 cs2 with
        | some cs3 => (nxe .athrow 1 cs3).map (fun x => (ga, x))
        | _ => none
      | _ => none
    | _ => none
  else none, fun _ _ _ Kr _ u => Kr XV u)
theorem thr_d (ik ic : Nat) : DecS (thrP ik ic) := by
  intro ga nL nx9 lb gb rt cs ga' cs' cc hc hD
  simp only [thrP] at hc
  split at hc
  case isFalse => cases hc
  split at hc
  case h_2 => cases hc
  rename_i h1
  split at hc
  case h_2 => cases hc
  rename_i h2
  split at hc
  case h_2 => cases hc
  rename_i h3
  obtain ⟨x, hx, e1⟩ := Option.map_eq_some_iff.mp hc
  cases e1
  exact (nxe_ok hx (nx_ok h3 (nx_ok h2 (nx_ok h1 hD).2.2).2.2).2.2).2
theorem thr_ok (ow ik ic : Nat) : SndS ow (thrP ik ic) := by
  intro p l e R s m args below meth c cc nL G Qf cl hX hC ga nx9 lb gb rt cs ga' cs' hc hD r u H locs cells slots ls Kn Kb Kr hL hA hw hn hb hr hx9
  simp only [thrP] at hc hw
  split at hc
  case isFalse => cases hc
  rename_i hrt
  split at hc
  case h_2 => cases hc
  rename_i cs1 h1
  split at hc
  case h_2 => cases hc
  rename_i cs2 h2
  split at hc
  case h_2 => cases hc
  rename_i cs3 h3
  obtain ⟨x, hx, e1⟩ := Option.map_eq_some_iff.mp hc
  cases e1
  obtain ⟨a1, a2, a3⟩ := nx_ok h1 hD
  obtain ⟨b1, b2, b3⟩ := nx_ok h2 a3
  obtain ⟨c1, c2, c3⟩ := nx_ok h3 b3
  obtain ⟨d1, -⟩ := nxe_ok hx c3
  rw [a2] at b1
  rw [b2, a2] at c1
  rw [c2, b2, a2] at d1
  exact hx9 hrt u H locs cells slots ls (pcOf cs) ik ic hL.1.1 hA hw a1 b1 c1 d1
def thr {ow : Nat} (ik ic : Nat) : SX ow := ⟨thrP ik ic, thr_ok ow ik ic, thr_d ik ic⟩
/-- a value that nobody wants -/
def exsP (a : XE) : XS := (fun ga _ nx9 _ _ _ cs => match a.1 ga 0 cs with
    | some (0, cs1) => match nx .pop 1 cs1 with
      | some cs2 => if okt nx9 cs2 = true then some (ga, cs2) else none
      | _ => none
    | _ => none, fun cl Kn _ _ r u => a.2 cl (fun _ u' => Kn r u') r u)
theorem exs_d (a : XE) (ha : DecE a) : DecS (exsP a) := by
  intro ga nL nx9 lb gb rt cs ga' cs' cc hc hD
  simp only [exsP] at hc
  split at hc
  case h_2 => cases hc
  rename_i h0
  split at hc
  case h_2 => cases hc
  rename_i h1
  split at hc
  case isFalse => cases hc
  cases hc
  exact (nx_ok h1 (ha _ _ _ _ _ _ h0 hD)).2.2
theorem exs_ok (ow : Nat) (a : XE) (ha : SndE ow a) : SndS ow (exsP a) := by
  intro p l e R s m args below meth c cc nL G Qf cl hX hC ga nx9 lb gb rt cs ga' cs' hc hD r u H locs cells slots ls Kn Kb Kr hL hA hw hn hb hr hx9
  simp only [exsP] at hc hw
  split at hc
  case h_2 => cases hc
  rename_i cs1 h0
  split at hc
  case h_2 => cases hc
  rename_i cs2 h1
  split at hc
  case isFalse => cases hc
  rename_i hk9
  cases hc
  refine ha p l e R s m args below meth c cc nL G Qf cl hX hC ga 0 cs 0 cs1 h0 hD r u H locs cells slots ls [] _ hL hA (Nat.le_refl _) hw ?_
  intro v u' H' locs' cells' slots' hv hA' hq hD1
  obtain ⟨g1, g2, g3⟩ := nx_ok h1 hD1
  refine lv_pop hX.1 hX.2.1 g1 rfl ?_
  rw [← g2]
  exact okt_W hk9 hX.1 hX.2.1 g3 (hn r u' H' locs' cells' slots' ls hL hA' hq)
def exs {ow : Nat} (a : EX ow) : SX ow := ⟨exsP a.1, exs_ok ow a.1 a.2.1, exs_d a.1 a.2.2⟩
/-- a call that answers nothing -/
def cvvP (cp K kk : Nat) (a : XL) : XS := (fun ga _ nx9 _ _ _ cs => match a.1 ga 0 cs with
    | some (ts, cs1) => match nx (.invokevirtual cp) 3 cs1 with
      | some cs2 => if ts = mArg K ∧ mRty K = 9 ∧ okt nx9 cs2 = true then some (ga, cs2) else none
      | _ => none
    | _ => none, fun cl Kn _ _ r u => a.2 cl (fun vs u' => hdl vs u' kk ∧ wcl cl K (fun _ u2 => Kn r u2) vs u') r u)
theorem cvv_d (cp K kk : Nat) (a : XL) (ha : DecL a) : DecS (cvvP cp K kk a) := by
  intro ga nL nx9 lb gb rt cs ga' cs' cc hc hD
  simp only [cvvP] at hc
  split at hc
  case h_2 => cases hc
  rename_i h0
  split at hc
  case h_2 => cases hc
  rename_i h1
  split at hc
  case isFalse => cases hc
  cases hc
  exact (nx_ok h1 (ha _ _ _ _ _ _ h0 hD)).2.2
theorem cvv_ok (ow cp K kk : Nat) (hf : VirtAt ow cp K kk) (a : XL) (ha : SndL ow a) : SndS ow (cvvP cp K kk a) := by
  intro p l e R s m args below meth c cc nL G Qf cl hX hC ga nx9 lb gb rt cs ga' cs' hc hD r u H locs cells slots ls Kn Kb Kr hL hA hw hn hb hr hx9
  simp only [cvvP] at hc hw
  split at hc
  case h_2 => cases hc
  rename_i ts cs1 h0
  split at hc
  case h_2 => cases hc
  rename_i cs2 h1
  split at hc
  case isFalse => cases hc
  rename_i hcond
  obtain ⟨rfl, h9, hk9⟩ := hcond
  cases hc
  refine ha p l e R s m args below meth c cc nL G Qf cl hX hC ga 0 cs _ cs1 h0 hD r u H locs cells slots ls [] _ hL hA (Nat.le_refl _) hw ?_
  intro vs u' H' locs' cells' slots' hv hA' hq hD1
  obtain ⟨g1, g2, g3⟩ := nx_ok h1 hD1
  refine call_virt hX hC hf g1 hA' hv (Nat.zero_le _) (hdl_v hq.1) hL.1.1 hq.2.1 hq.2.2 ?_
  intro w u2 H2 locs2 hw2 hQ2 hA2
  rw [← g2, h9]
  exact okt_W hk9 hX.1 hX.2.1 g3 (hn r _ H2 locs2 _ _ ls hL hA2 hQ2)
def cvv {ow : Nat} {cp K kk : Nat} (hf : VirtAt ow cp K kk) (a : LX ow) : SX ow := ⟨cvvP cp K kk a.1, cvv_ok ow cp K kk hf a.1 a.2.1, cvv_d cp K kk a.1 a.2.2⟩
/-- a call of a method of the class that answers nothing -/
def csvP (cp K : Nat) (a : XL) : XS := (fun ga _ nx9 _ _ _ cs => match a.1 ga 0 cs with
    | some (ts, cs1) => match nx (.invokestatic cp) 3 cs1 with
      | some cs2 => if ts = mArg K ∧ mRty K = 9 ∧ okt nx9 cs2 = true then some (ga, cs2) else none
      | _ => none
    | _ => none, fun cl Kn _ _ r u => a.2 cl (fun vs u' => wcl cl K (fun _ u2 => Kn r u2) vs u') r u)
theorem csv_d (cp K : Nat) (a : XL) (ha : DecL a) : DecS (csvP cp K a) := by
  intro ga nL nx9 lb gb rt cs ga' cs' cc hc hD
  simp only [csvP] at hc
  split at hc
  case h_2 => cases hc
  rename_i h0
  split at hc
  case h_2 => cases hc
  rename_i h1
  split at hc
  case isFalse => cases hc
  cases hc
  exact (nx_ok h1 (ha _ _ _ _ _ _ h0 hD)).2.2
theorem csv_ok (ow cp K : Nat) (hf : StatAt ow cp K) (a : XL) (ha : SndL ow a) : SndS ow (csvP cp K a) := by
  intro p l e R s m args below meth c cc nL G Qf cl hX hC ga nx9 lb gb rt cs ga' cs' hc hD r u H locs cells slots ls Kn Kb Kr hL hA hw hn hb hr hx9
  simp only [csvP] at hc hw
  split at hc
  case h_2 => cases hc
  rename_i ts cs1 h0
  split at hc
  case h_2 => cases hc
  rename_i cs2 h1
  split at hc
  case isFalse => cases hc
  rename_i hcond
  obtain ⟨rfl, h9, hk9⟩ := hcond
  cases hc
  refine ha p l e R s m args below meth c cc nL G Qf cl hX hC ga 0 cs _ cs1 h0 hD r u H locs cells slots ls [] _ hL hA (Nat.le_refl _) hw ?_
  intro vs u' H' locs' cells' slots' hv hA' hq hD1
  obtain ⟨g1, g2, g3⟩ := nx_ok h1 hD1
  refine call_stat hX hC hf g1 hA' hv (Nat.zero_le _) hL.1.1 hq.1 hq.2 ?_
  intro w u2 H2 locs2 hw2 hQ2 hA2
  rw [← g2, h9]
  exact okt_W hk9 hX.1 hX.2.1 g3 (hn r _ H2 locs2 _ _ ls hL hA2 hQ2)
def csv {ow : Nat} {cp K : Nat} (hf : StatAt ow cp K) (a : LX ow) : SX ow := ⟨csvP cp K a.1, csv_ok ow cp K hf a.1 a.2.1, csv_d cp K a.1 a.2.2⟩

