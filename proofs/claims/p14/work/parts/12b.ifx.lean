/-! an if whose way past it was fixed at the place behind it -/
def ifxP (X : Nat) (c : XC) (a : XS) : XS := (fun ga nL nx9 lb gb rt cs => match c.1 ga 0 true X cs with
    | some cs1 => match a.1 ga nL nx9 lb gb rt cs1 with
      | some (ga1, cs2) => if pcOf cs2 = X ∧ okt nx9 cs2 = true then some (int9 ga ga1, cs2) else none
      | _ => none
    | _ => none, fun cl Kn Kb Kr r u => c.2 cl (fun u' => a.2 cl Kn Kb Kr r u') (fun u' => Kn r u') r u)
theorem ifx_d (X : Nat) (c : XC) (a : XS) (hc0 : DecC c) (ha : DecS a) : DecS (ifxP X c a) := by
  intro ga nL nx9 lb gb rt cs ga' cs' cc hc hD
  simp only [ifxP] at hc
  split at hc
  case h_2 => cases hc
  rename_i h0
  split at hc
  case h_2 => cases hc
  rename_i h1
  split at hc
  case isFalse => cases hc
  cases hc
  exact ha _ _ _ _ _ _ _ _ _ _ h1 (hc0 _ _ _ _ _ _ _ h0 hD)
theorem ifx_ok (ow X : Nat) (c0 : XC) (a : XS) (hc0 : SndC ow c0) (ha : SndS ow a) (dc : DecC c0) (da : DecS a) : SndS ow (ifxP X c0 a) := by
  intro p l e R s m args below meth c cc nL G Qf cl hX hC ga nx9 lb gb rt cs ga' cs' hc hD r u H locs cells slots ls Kn Kb Kr hL hA hw hn hb hr hx9
  simp only [ifxP] at hc hw
  split at hc
  case h_2 => cases hc
  rename_i cs1 h0
  split at hc
  case h_2 => cases hc
  rename_i ga1 cs2 h1
  split at hc
  case isFalse => cases hc
  rename_i hcond
  cases hc
  have D2 := da _ _ _ _ _ _ _ _ _ _ h1 (dc _ _ _ _ _ _ _ h0 hD)
  refine hc0 p l e R s m args below meth c cc nL G Qf cl hX hC ga 0 true X cs cs1 h0 hD r u H locs cells slots ls [] _ _ hL hA (Nat.le_refl _) hw ?_ ?_
  · intro u' H' locs' cells' slots' hA' hq D1
    exact ha p l e R s m args below meth c cc nL G Qf cl hX hC ga nx9 lb gb rt cs1 ga1 cs' h1 D1 r u' H' locs' cells' slots' ls Kn Kb Kr hL hA' hq (fun r' u2 H2 locs2 cells2 slots2 ls2 hL2 hA2 hq2 => hn r' u2 H2 locs2 cells2 slots2 ls2 (hL2.sub int9_r) hA2 hq2) hb hr hx9
  · intro u' H' locs' cells' slots' hA' hq D1
    simp only [if_true]
    rw [← hcond.1]
    exact okt_W hcond.2 hX.1 hX.2.1 D2 (hn r u' H' locs' cells' slots' ls (hL.sub int9_l) hA' hq)
def ifx {ow : Nat} (X : Nat) (c : CX ow) (a : SX ow) : SX ow := ⟨ifxP X c.1 a.1, ifx_ok ow X c.1 a.1 c.2.1 a.2.1 c.2.2 a.2.2, ifx_d X c.1 a.1 c.2.2 a.2.2⟩
