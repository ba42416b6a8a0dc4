/-! what both sides see of one who holds a pot -/
theorem QEp {L a : Int} {m m1 : Mem} (h : QE L m m1) (a0 : 0 ≤ a) (a1 : a < m 8 3) : m1 258 (15 + 7 * a) = m 19 a := by
  have e := h.2.2.2.1.2.1 3 a (by decide) (by decide) a0 a1
  rw [c_3 m ⟨a0, by have := h.1.2.2; omega⟩, r_3 m1 ⟨a0, by have := h.1.2.2; omega⟩] at e
  exact e.symm
theorem QEt {L b : Int} {m m1 : Mem} (h : QE L m m1) (b0 : 0 ≤ b) (b1 : b < m 8 2) : m1 258 (3 * b) = m 16 b := by
  have e := h.2.2.2.1.1 0 b (by decide) (by decide) b0 b1
  rw [c_0 m ⟨b0, by have := h.1.1.2; omega⟩, r_0 m1 ⟨b0, by have := h.1.1.2; omega⟩] at e
  exact e.symm
theorem QEl {L a : Int} {m m1 : Mem} (h : QE L m m1) (a0 : 0 ≤ a) (a1 : a < m 8 3) : -1 ≤ m 23 a ∧ m 23 a < m 8 2 := by
  have z := (h.2.1.1 a a0 a1).1
  rw [c_8 m ⟨a0, by have := h.1.2.2; omega⟩] at z
  exact z
/-! dinners on both sides -/
theorem two_151 {n : Nat} {a b c f : Int} {m : Mem} (h : JJ (n + 1) m) : Cl 230 151 [1, a, b, c, f] (fun v u => ∃ m1, u = S9 0 m1 ∧ Cl 230 275 [249, a, b, c, f] (fun w u' => ∃ m2, u' = S9 0 m2 ∧ JJ n m2 ∧ w = v) (S9 0 m1)) (S9 0 m) := by
  obtain ⟨tc, pl, hC, hR, hX, hB, R, hG⟩ := h
  have hs := JC_s (BC_g 0 hC)
  have hr := JR_s (BR_g 0 hR)
  obtain ⟨⟨kv1, kv2, kv3⟩, ⟨hI, hD, hS, hO, hN⟩, ⟨⟨u1, u2, u3, u4, u5⟩, -⟩, -, hRc, hRr⟩ := id hG
  obtain ⟨k3, k4, k5, k6, k7⟩ := hX.2.1
  have eP : ((m 8 2).toNat : Int) = m 8 2 := by omega
  have eH : ((m 8 3).toNat : Int) = m 8 3 := by omega
  have hKB : KB m := ⟨fun p p0 p1 => by have z := kv3 p p0 p1; unfold inI; omega, fun q q0 q1 => (kv2 q q0 q1).2⟩
  have hop : m 258 50 = m 15 10 := by have z := hS.2.2.1; rw [c_op, r_op] at z; exact z.symm
  have hKv : KVs m := ⟨kv1, kv2, kv3⟩
  refine f_151 (d := 222) (g := gC 3 m) (R := R) (L := m 8 0) (BC_g 3 hC) hI (Int.le_refl _) hKB hRc (WYC_of (BC_g 0 hC) (BR_g 0 hR) k4 hKv) (fun v m1 h1 fC hv => ⟨m1, rfl, ?_⟩)
  have c1 := FC_of h1
  have ch : ∀ x j, 249 ≤ x → m1 x j = m x j := fun x j q => c1 x j (Or.inl q)
  have e58 : asR m1 258 0 = asR m 258 0 := asR_fr (fun y _ _ => ch 258 y (by decide)) (fun y _ _ => ch 249 y (by decide))
  have q4 : m1 249 4 = m 8 1 := (ch 249 4 (by decide)).trans k4
  have q5 : m1 249 5 = m 8 2 := (ch 249 5 (by decide)).trans k5
  have q6 : m1 249 6 = m 8 3 := (ch 249 6 (by decide)).trans k6
  have hIS : IV (m 8 0) (m 8 2) (m 8 3) (asR m 258 0) := IV_SE hI hS
  have hIR : IV (m 8 0) (m1 249 5) (m1 249 6) (asR m1 258 0) := by rw [q5, q6, e58]; exact hIS
  have hIx : IV (m 8 0) (m 8 2) (m 8 3) (x0C m) := IV_SE hI (SE_sy (x0_SE m))
  have hSx : SE (m 8 2) (m 8 3) (x0C m) (asR m 258 0) := SE_tr (x0_SE m) hS
  have hOx : DB (m 8 1) (x0C m 10 0) := by rw [x0C_o]; exact hO
  have hNx : BN (m 8 2) (m 8 3) (x0C m) := BN_SE hN (SE_sy (x0_SE m))
  have hRm : BR tc pl m1 := BR_tr hR (fun x j q _ => ch x j q)
  have hK2 : KR2 m1 := ⟨fun p p0 p1 => by rw [q6] at p1; rw [ch 257 p (by decide), (kv3 p p0 p1).1]; exact hKB.1 p p0 p1, fun q q0 q1 => by rw [q5] at q1; rw [ch 256 q (by decide), (kv2 q q0 q1).1]; exact hKB.2 q q0 q1⟩
  have hR2 : RuR m1 R := RuR_fr hRr (ch 249 32 (by decide)) (fun j => ch 265 j (by decide))
  have hQ : QE (m 8 0) m m1 := ⟨⟨by omega, by omega⟩, hI, hN, by rw [e58]; exact hS, ⟨q5, q6⟩, fun p p0 p1 => (ch 257 p (by decide)).trans (kv3 p p0 p1).1, fun q q0 q1 => ⟨(ch 256 q (by decide)).trans (kv2 q q0 q1).1, (kv2 q q0 q1).2⟩⟩
  have q3 : m1 249 3 = m 8 0 := (ch 249 3 (by decide)).trans k3
  refine f_275 (d := 220) (g := gR 3 m1) (pl := pl) (R := R) (BR_g 3 hRm) (by rw [q3]; exact hIR) hK2 hR2 (fun w m2 h2 fR hw => ?_)
  refine ⟨m2, rfl, ⟨tc, pl, ?_, ?_, ?_, ?_, R, ?_⟩, ?_⟩
  · exact BC_tr (BC_of h1) (fun x j q => FR_of h2 x j (Or.inl q))
  · exact BR_of h2
  · exact RX_fr (Int.le_refl _) (fun x j q => FC_of h1 x j (frC_le (by decide) q)) (fun x j q => FR_of h2 x j (frR_le (by decide) q)) hX
  · exact RB_fr (Nat.le_succ n) ((FR_of h2 1 12 (Or.inl (by decide))).trans (FC_of h1 1 12 (by unfold frC; omega))) ((FR_of h2 249 7 (by unfold frR; omega)).trans (FC_of h1 249 7 (Or.inl (by decide)))) (fun j => (FR_of h2 285 j (by unfold frR; omega)).trans (FC_of h1 285 j (Or.inl (by decide)))) (fun j => (FR_of h2 286 j (by unfold frR; omega)).trans (FC_of h1 286 j (Or.inl (by decide)))) hB
  · exact GS_fr (by omega) (by omega) (fun x j q => (fR x j (by unfold GCl at q; omega)).trans (fC x j (by unfold GCl at q; omega) (by unfold GCl at q; omega) (by unfold GCl at q; omega) (by unfold GCl at q; omega) (by unfold GCl at q; omega))) hG
  · rw [hv, hw, q6, q3]
    symm
    refine if_e ⟨fun z => ⟨⟨z.1.1, z.1.2.1, by have k := QEh hQ z.1.1 z.1.2.1; rw [k.1]; exact k.2.1 z.1.2.2⟩, z.2⟩, fun z => ⟨⟨z.1.1, z.1.2.1, by have k := QEh hQ z.1.1 z.1.2.1; rw [k.1] at z; exact k.2.2 z.1.2.2⟩, z.2⟩⟩ (fun z => ?_)
    have k := QEh hQ z.1.1 z.1.2.1
    have kl := QEl hQ z.1.1 z.1.2.1
    have k0 := k.2.1 z.1.2.2
    rw [k.1, QEp hQ z.1.1 z.1.2.1, QEt hQ k0 kl.2, ap_e ch k3 k4 hop (by omega) hKv]
    refine if_e Iff.rfl (fun z2 => ?_)
    refine (dC_e ?_ (fun v _ _ => (HAR hQ z.1.1 z.1.2.1 k0 kl.2).symm) _ _ _)
    have h0 := (hI.2.2.1 (m 23 a) k0 kl.2).1
    rw [c_0 m ⟨k0, by omega⟩] at h0
    exact h0
