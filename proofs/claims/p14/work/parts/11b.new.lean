/-! trees: new -/
def dfl : Nat → FieldType → Bool
  | 0, .int => true
  | 1, .long => true
  | 2, .object _ => true
  | 2, .array _ => true
  | 3, .boolean => true
  | _, _ => false
theorem dfl_ok {t : Nat} {ft : FieldType} (h : dfl t ft = true) (al : Int → Nat) : defaultValue ft = enc al t 0 := by
  unfold dfl at h
  split at h <;> first | rfl | cases h
def KlsAt (k : Nat) : Prop := (∀ w ∈ u_ws (kC k) (kF k) (kN k), w ∈ gTbl) ∧ (∀ j, j < kN k → parseFieldDescriptor (kF k j).2.2.1 = some (kT k j)) ∧ (∀ j, j < kN k → dfl (ety k j) (kT k j) = true)
def NewAt (ow cp k : Nat) : Prop := Cond.classLink (kC ow) cp (kC k) ∈ gTbl ∧ Cond.instantiable (kC k) (kN k) ∈ gTbl ∧ Cond.initialized (kC k) ∈ gTbl ∧ 1 ≤ k ∧ k ≤ 13 ∧ KlsAt k
def SpecAt (ow cp K : Nat) : Prop := MthOK K ∧ (Cond.methodLink (kC ow) cp (mNam K) ∈ gTbl ∨ ∃ host, Cond.methodLinkNest (kC ow) cp (mNam K) host ∈ gTbl) ∧ Cond.instanceMethod (mNam K) ∈ gTbl ∧ (mNam K).name = "<init>" ∧ mRet K = none ∧ mRty K = 9 ∧
  (parseMethodDescriptor (mNam K).desc).map (fun d => d.parameters.length + 1) = some (mArg K).length ∧ (mArg K).head? = some 2
section CI
variable {p : Program} {l : Launch} {e : Env} {R : Room} {s : State} {m : MethodId} {args : Array Value} {below : List Frame} {meth : Method} {c : Code} {cc : ByteArray} {nL ow cp K : Nat} {G : Geo} {H : Heap} {locs : List Loc} {cells slots : Nat} {Q : State → Prop} {pc : Nat} {ls : Array Slot} {st : List Value} {cl : ClT} {u : Sto} {vs : List Int} {Q' : Int → Sto → Prop}
theorem call_init (hX : MX p R s m args c cc nL ow G) (hC : ClOK l R G cl) (hv : SpecAt ow cp K) (hd : decode cc pc = .ok (.invokespecial cp, 3)) (hA : At G R s.heap u H locs cells slots) (hok : okA (mArg K) vs) (hcat : cats st ≤ 8) (hlive : ∀ v, vs.head? = some v → v ≠ 0) (hls : ls.size = nL) (hb : mCel K ≤ sbc u ∧ mSlo K ≤ sbw u) (hcl : cl K vs Q' (bud u (mCel K) (mSlo K)))
    (k : ∀ (v : Int) (u' : Sto) (H' : Heap) (locs' : List Loc), Q' v u' → At G R s.heap (bud u' (sbc u - mCel K) (sbw u - mSlo K)) H' locs' (cells + mCel K) (slots + mSlo K) → W p l e R s m args below meth c H' locs' (cells + mCel K) (slots + mSlo K) Q (F0 m (pc + 3) ls st)) :
    W p l e R s m args below meth c H locs cells slots Q (F0 m pc ls ((encA G.1 (mArg K) vs).reverse ++ st)) := by
  obtain ⟨g1, g2, g3, g4, g5, g6, g8, g9⟩ := hv
  have hts := hX.2.2.2.2.1
  obtain ⟨rm, r1, r2, r3, r20, hM⟩ := hC K vs Q' _ hcl (Nat.le_refl _) (Nat.le_refl _)
  have r4 : 8 + (mMax K + 11) + rm.locals ≤ R.locals := by omega
  have k9 : ∀ (v : Int) (u' : Sto) (H' : Heap) (locs' : List Loc), okv (mRty K) v → Q' v u' → At G R s.heap (bud u' (sbc u - mCel K) (sbw u - mSlo K)) H' locs' (cells + mCel K) (slots + mSlo K) → W p l e R s m args below meth c H' locs' (cells + mCel K) (slots + mSlo K) Q (F0 m (pc + 3) ls ((encR G.1 (mRty K) v).toList ++ st)) := fun v u' H' locs' _ hq hA' => by
    rw [g6]; exact k v u' H' locs' hq hA'
  match hm : mArg K, vs, hok with
  | [], _, _ => rw [hm] at g9; cases g9
  | t :: ts, [], hok => exact hok.elim
  | t :: ts, v0 :: vt, hok' =>
    rw [hm] at g9 g8
    cases g9
    have hv0 : v0 ≠ 0 := hlive v0 rfl
    have e0 : encA G.1 (2 :: ts) (v0 :: vt) = .ref (G.1 v0) :: encA G.1 ts vt := by simp only [encA]; rw [enc_2 _ hv0]
    have hp := pc_pre (K := K) (vs := v0 :: vt) hX hA (by rw [hm]; exact hok') (mCel K) (mSlo K)
    rw [hm, e0] at hp
    have hn : ∀ sig, parseMethodDescriptor (mNam K).desc = some sig → ts.length = sig.parameters.length := fun sig h => by
      rw [h] at g8; simp at g8; omega
    rw [e0, List.reverse_cons, List.append_assoc]
    rcases g2 with g2 | ⟨host, g2⟩
    · have hB := callB_at (l := l) hX g1 g2 hn r1 r2 r3 r4
      rw [g5] at hB
      exact run_on (u := u) (va_runI (As := encA G.1 ts vt) (rest := st) (b := G.1 v0) (n := ts.length) (Ts := gTbl) (own := kC ow) ⟨hX.1, hX.2.1, hX.2.2.1, hX.2.2.2.1, hts⟩ hM ⟨hB, g4, hts _ g3⟩
        ⟨pc_blind G K _ _, hp⟩ rfl (encA_len _ _ _ hok'.2) hls rfl (lv_room hcat) hd ⟨by have := hA.2.2.1; omega, by have := hA.2.2.2; omega⟩) hA hb k9
    · obtain ⟨m1, m2, m3⟩ := id g1
      have hws : ∀ w ∈ wsOf K, ∀ (a' : Array Value) (U : State), s.WarmedH U.vm → w.before a' U = true := fun w hw => by
        rcases List.mem_cons.mp hw with rfl | hw
        · exact gt_pay hts _ m1
        · exact gt_pay hts _ hw
      have hcode := hts _ m1
      have hin9 : mWor K ∈ wsOf K := List.mem_cons_self
      unfold mWor at hcode hin9
      rw [g5] at hcode hin9
      exact run_on (u := u) (va_runIN (As := encA G.1 ts vt) (rest := st) (b := G.1 v0) (n := ts.length) (Ts := gTbl) (own := kC ow) (host := host) ⟨hX.1, hX.2.1, hX.2.2.1, hX.2.2.2.1, hts⟩ hM ⟨⟨⟨r1, r2, r3, r4, hws, hin9⟩, hcode, hts _ m2, m3, hn, hts _ g2⟩, g4, hts _ g3⟩
        ⟨pc_blind G K _ _, hp⟩ rfl (encA_len _ _ _ hok'.2) hls rfl (lv_room hcat) hd ⟨by have := hA.2.2.1; omega, by have := hA.2.2.2; omega⟩) hA hb k9
end CI
def nwoP (cp cp2 k K : Nat) (a : XL) : XE := (fun ga d cs => match nx (.new cp) 3 cs with
    | some cs1 => match nx .dup 1 cs1 with
      | some cs2 => match a.1 ga (d + 2) cs2 with
        | some (ts, cs3) => if 2 :: ts = mArg K ∧ d ≤ 7 then (nx (.invokespecial cp2) 3 cs3).map (fun x => (2, x)) else none
        | _ => none
      | _ => none
    | _ => none, fun cl Q r u => alcok u k (kN k) ∧ a.2 cl (fun vs u2 => wcl cl K (fun _ u3 => Q (stn u) u3) (stn u :: vs) u2) r (alc u (kN k)))
theorem nwo_d (cp cp2 k K : Nat) (a : XL) (ha : DecL a) : DecE (nwoP cp cp2 k K a) := by
  intro ga d cs t cs' cc hc hD
  simp only [nwoP] at hc
  split at hc
  case h_2 => cases hc
  rename_i h0
  split at hc
  case h_2 => cases hc
  rename_i h1
  split at hc
  case h_2 => cases hc
  rename_i h2
  split at hc
  case isFalse => cases hc
  exact map_nx hc (ha _ _ _ _ _ _ h2 (nx_ok h1 (nx_ok h0 hD).2.2).2.2)
theorem nwo_ok (ow cp cp2 k K : Nat) (hf : NewAt ow cp k) (hf2 : SpecAt ow cp2 K) (a : XL) (ha : SndL ow a) : SndE ow (nwoP cp cp2 k K a) := by
  intro p l e R s m args below meth c cc nL G Qf cl hX hC ga d cs t cs' hc hD r u H locs cells slots ls st Q hL hA hs hw kz
  simp only [nwoP] at hc hw
  split at hc
  case h_2 => cases hc
  rename_i cs1 h0
  split at hc
  case h_2 => cases hc
  rename_i cs2 h1
  split at hc
  case h_2 => cases hc
  rename_i ts cs3 h2
  split at hc
  case isFalse => cases hc
  rename_i hcond
  obtain ⟨hts9, hd7⟩ := hcond
  obtain ⟨x, hx, e1⟩ := Option.map_eq_some_iff.mp hc
  cases e1
  obtain ⟨a1, a2, a3⟩ := nx_ok h0 hD
  obtain ⟨b1, b2, b3⟩ := nx_ok h1 a3
  obtain ⟨hok, hw⟩ := hw
  obtain ⟨f1, f2, f3, f4, f5, f6, f7, f8⟩ := hf
  have hts := hX.2.2.2.2.1
  have hK := hX.2.2.2.2.2.1
  have hkn := hK.2.1 k f4 f5
  have hfc : s.vm.findClass (kC k) = some (G.2.1 k) := hkn.2.1
  have hpos : 0 < stn u := by have := hA.1.2.2.1; omega
  refine W.newcK hX.1 hX.2.1 hX.2.2.2.1 (hts _ f1) (hts _ f2) (hts _ f3) rfl a1 (by have := hA.2.2.1; have := hok.2.2.1; omega) (by have := hA.2.2.2; have := hok.2.2.2; omega) hfc rfl ?_
  intro H1 kCl e1 e2 e3 e4
  obtain ⟨cell, q1, q2, q3, q4⟩ := u_born (kT k) hts f6 hkn e1 e2 f7
  obtain ⟨hA1, ha1, hl1⟩ := at_alc (U := s) hA hK hok f4 q1 e3 e4 q3 q2 (fun h => by omega) (fun j hj => by
    rw [kl_obj hok.1 f4 f5] at hj
    rw [q4 j (by omega)]
    exact congrArg some (dfl_ok (f8 j (by omega)) G.1)) (Nat.le_trans hX.2.2.2.2.2.2.1 hA.2.1.1)
  show W p l e R s m args below meth c H1 locs (cells + 1) (slots + kN k) Qf (F0 m (pcOf cs + 3) ls (.ref H.size :: st))
  rw [← a2, ← ha1]
  refine lv_dup hX.1 hX.2.1 b1 rfl ?_
  rw [← b2]
  refine ha p l e R s m args below meth c cc nL G Qf cl hX hC ga (d + 2) cs2 ts cs3 h2 b3 r (alc u (kN k)) H1 locs (cells + 1) (slots + kN k) ls (.ref (G.1 (stn u)) :: .ref (G.1 (stn u)) :: st) _ hL hA1 ?_ hw ?_
  · rw [cats_cons, cats_cons]; show 1 + (1 + cats st) ≤ d + 2; omega
  intro vs u2 H2 locs2 cells2 slots2 hv hA2 hq2 hD2
  obtain ⟨c1, c2, c3⟩ := nx_ok hx hD2
  have e9 : (encA G.1 ts vs).reverse ++ (Value.ref (G.1 (stn u)) :: Value.ref (G.1 (stn u)) :: st) = (encA G.1 (mArg K) (stn u :: vs)).reverse ++ (Value.ref (G.1 (stn u)) :: st) := by
    rw [← hts9]
    simp only [encA, List.reverse_cons, List.append_assoc]
    rw [enc_2 _ (by omega)]
    rfl
  rw [e9]
  refine call_init hX hC hf2 c1 hA2 (by rw [← hts9]; exact ⟨trivial, hv⟩) (by rw [cats_cons]; show 1 + cats st ≤ 8; omega) (fun v hv => by cases hv; omega) hL.1.1 hq2.1 hq2.2 ?_
  intro v u3 H3 locs3 hQ3 hA3
  have k' := kz (stn u) _ H3 locs3 _ _ trivial hA3 hQ3 c3
  rw [c2, enc_2 _ (by omega)] at k'
  exact k'
def nwo {ow cp cp2 k K : Nat} (hf : NewAt ow cp k) (hf2 : SpecAt ow cp2 K) (a : LX ow) : EX ow := ⟨nwoP cp cp2 k K a.1, nwo_ok ow cp cp2 k K hf hf2 a.1 a.2.1, nwo_d cp cp2 k K a.1 a.2.2⟩

