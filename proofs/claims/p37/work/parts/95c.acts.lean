/-! the acts on both sides -/
theorem x0C_o (m : Mem) : x0C m 10 0 = m 15 10 := by
  unfold x0C; rw [asU_f _ _ _ _ (by decide), asU_f _ _ _ _ (by decide), asU_f _ _ _ _ (by decide), c_op]
theorem two_57 {n : Nat} {a b : Int} {m : Mem} (h : JJ (n + 1) m) : Cl 230 57 [1, a, b] (fun v u => ∃ m1, u = S9 0 m1 ∧ Cl 230 214 [249, a, b] (fun w u' => ∃ m2, u' = S9 0 m2 ∧ JJ n m2) (S9 0 m1)) (S9 0 m) := by
  obtain ⟨tc, pl, hC, hR, hX, hB, R, hG⟩ := h
  have hs := JC_s (BC_g 0 hC)
  have hr := JR_s (BR_g 0 hR)
  obtain ⟨⟨kv1, kv2, kv3⟩, ⟨hI, hD, hS, hO, hN⟩, ⟨⟨u1, u2, u3, u4, u5⟩, -⟩, -, hRc, hRr⟩ := id hG
  obtain ⟨k3, k4, k5, k6, k7⟩ := hX.2.1
  refine f_57 (d := 226) (g := gC 3 m) (L := m 8 0) (BC_g 3 hC) hI hD ⟨u1, u2⟩ ⟨u3, u4⟩ (fun v m1 h1 a1 e1 hD1 => ⟨m1, rfl, ?_⟩)
  have c1 := FC_of h1
  have ch : ∀ x j, 249 ≤ x → m1 x j = m x j := fun x j q => c1 x j (Or.inl q)
  have e58 : asR m1 258 0 = asR m 258 0 := asR_fr (fun y _ _ => ch 258 y (by decide)) (fun y _ _ => ch 249 y (by decide))
  have q4 : m1 249 4 = m 8 1 := (ch 249 4 (by decide)).trans k4
  have q5 : m1 249 5 = m 8 2 := (ch 249 5 (by decide)).trans k5
  have q6 : m1 249 6 = m 8 3 := (ch 249 6 (by decide)).trans k6
  have hIS : IV (m 8 0) (m 8 2) (m 8 3) (asR m 258 0) := IV_SE hI hS
  have hIR : IV (m 8 0) (m1 249 5) (m1 249 6) (asR m1 258 0) := by rw [q5, q6, e58]; exact hIS
  have hIx : IV (m 8 0) (m 8 2) (m 8 3) (x0C m) := IV_SE hI (SE_sy (x0_SE m))
  have hSx : SE (m 8 2) (m 8 3) (x0C m) (asR m 258 0) := SE_tr (x0_SE m) hS
  have hOx : DB (m 8 1) (x0C m 10 0) := by rw [x0C_o]; exact hO
  have hNx : BN (m 8 2) (m 8 3) (x0C m) := BN_SE hN (SE_sy (x0_SE m))
  have hRm : BR tc pl m1 := BR_tr hR (fun x j q _ => ch x j q)
  refine f_214 (d := 225) (g := gR 3 m1) (pl := pl) (L := m 8 0) (BR_g 3 hRm) hIR (fun w m2 h2 a2 e2 => ?_)
  rw [q5, q6, e58] at e2
  have hE : AF (m 8 2) (m 8 3) (aTake (m 8 2) (m 8 3) (x0C m) a b) (aTake (m 8 2) (m 8 3) (asR m 258 0) a b) := take_f hIx hSx
  have hw : w = v := by
    have z := hE.1
    rw [← e1, ← e2] at z
    exact z.symm
  subst hw
  refine ⟨m2, rfl, ⟨tc, pl, ?_, ?_, ?_, ?_, R, ?_⟩⟩
  · exact BC_tr (BC_of h1) (fun x j q => FR_of h2 x j (Or.inl q))
  · exact BR_of h2
  · exact RX_fr (Int.le_refl _) (fun x j q => FC_of h1 x j (frC_le (by decide) q)) (fun x j q => FR_of h2 x j (frR_le (by decide) q)) hX
  · exact RB_fr (Nat.le_succ n) ((FR_of h2 1 12 (Or.inl (by decide))).trans (FC_of h1 1 12 (by unfold frC; omega))) ((FR_of h2 249 7 (by unfold frR; omega)).trans (FC_of h1 249 7 (Or.inl (by decide)))) (fun j => (FR_of h2 285 j (by unfold frR; omega)).trans (FC_of h1 285 j (Or.inl (by decide)))) (fun j => (FR_of h2 286 j (by unfold frR; omega)).trans (FC_of h1 286 j (Or.inl (by decide)))) hB
  · exact GS_two (by omega) (by omega) hG a1 a2 (congrArg Prod.snd e1) (congrArg Prod.snd e2) (take_i hIx) (by have z := hD1; rw [show asC m1 15 = _ from congrArg Prod.snd e1] at z; exact z) hE.2 (by rw [take_o]; exact hOx) (take_b hNx)

theorem two_65 {n : Nat} {a : Int} {m : Mem} (h : JJ (n + 1) m) : Cl 230 65 [1, a] (fun v u => ∃ m1, u = S9 0 m1 ∧ Cl 230 219 [249, a] (fun w u' => ∃ m2, u' = S9 0 m2 ∧ JJ n m2) (S9 0 m1)) (S9 0 m) := by
  obtain ⟨tc, pl, hC, hR, hX, hB, R, hG⟩ := h
  have hs := JC_s (BC_g 0 hC)
  have hr := JR_s (BR_g 0 hR)
  obtain ⟨⟨kv1, kv2, kv3⟩, ⟨hI, hD, hS, hO, hN⟩, ⟨⟨u1, u2, u3, u4, u5⟩, -⟩, -, hRc, hRr⟩ := id hG
  obtain ⟨k3, k4, k5, k6, k7⟩ := hX.2.1
  refine f_65 (d := 226) (g := gC 3 m) (L := m 8 0) (BC_g 3 hC) hI hD ⟨u1, u2⟩ ⟨u3, u4⟩ (Int.le_refl _) (fun v m1 h1 a1 e1 hD1 => ⟨m1, rfl, ?_⟩)
  have c1 := FC_of h1
  have ch : ∀ x j, 249 ≤ x → m1 x j = m x j := fun x j q => c1 x j (Or.inl q)
  have e58 : asR m1 258 0 = asR m 258 0 := asR_fr (fun y _ _ => ch 258 y (by decide)) (fun y _ _ => ch 249 y (by decide))
  have q4 : m1 249 4 = m 8 1 := (ch 249 4 (by decide)).trans k4
  have q5 : m1 249 5 = m 8 2 := (ch 249 5 (by decide)).trans k5
  have q6 : m1 249 6 = m 8 3 := (ch 249 6 (by decide)).trans k6
  have hIS : IV (m 8 0) (m 8 2) (m 8 3) (asR m 258 0) := IV_SE hI hS
  have hIR : IV (m 8 0) (m1 249 5) (m1 249 6) (asR m1 258 0) := by rw [q5, q6, e58]; exact hIS
  have hIx : IV (m 8 0) (m 8 2) (m 8 3) (x0C m) := IV_SE hI (SE_sy (x0_SE m))
  have hSx : SE (m 8 2) (m 8 3) (x0C m) (asR m 258 0) := SE_tr (x0_SE m) hS
  have hOx : DB (m 8 1) (x0C m 10 0) := by rw [x0C_o]; exact hO
  have hNx : BN (m 8 2) (m 8 3) (x0C m) := BN_SE hN (SE_sy (x0_SE m))
  have hRm : BR tc pl m1 := BR_tr hR (fun x j q _ => ch x j q)
  have hk1 : ∀ p, 0 ≤ p → p < m 8 0 → m 9 p = m1 251 p := fun p p0 p1 => ((ch 251 p (by decide)).trans (k7 p p0 p1)).symm
  refine f_219 (d := 225) (g := gR 3 m1) (pl := pl) (L := m 8 0) (BR_g 3 hRm) hIR (fun w m2 h2 a2 e2 => ?_)
  rw [q6, e58] at e2
  have hE : AF (m 8 2) (m 8 3) (aDown (m 8 3) (m 9) (x0C m) a) (aDown (m 8 3) (m1 251) (asR m 258 0) a) := down_f hIx hSx hk1
  have hw : w = v := by
    have z := hE.1
    rw [← e1, ← e2] at z
    exact z.symm
  subst hw
  refine ⟨m2, rfl, ⟨tc, pl, ?_, ?_, ?_, ?_, R, ?_⟩⟩
  · exact BC_tr (BC_of h1) (fun x j q => FR_of h2 x j (Or.inl q))
  · exact BR_of h2
  · exact RX_fr (Int.le_refl _) (fun x j q => FC_of h1 x j (frC_le (by decide) q)) (fun x j q => FR_of h2 x j (frR_le (by decide) q)) hX
  · exact RB_fr (Nat.le_succ n) ((FR_of h2 1 12 (Or.inl (by decide))).trans (FC_of h1 1 12 (by unfold frC; omega))) ((FR_of h2 249 7 (by unfold frR; omega)).trans (FC_of h1 249 7 (Or.inl (by decide)))) (fun j => (FR_of h2 285 j (by unfold frR; omega)).trans (FC_of h1 285 j (Or.inl (by decide)))) (fun j => (FR_of h2 286 j (by unfold frR; omega)).trans (FC_of h1 286 j (Or.inl (by decide)))) hB
  · exact GS_two (by omega) (by omega) hG a1 a2 (congrArg Prod.snd e1) (congrArg Prod.snd e2) (down_i hIx) (by have z := hD1; rw [show asC m1 15 = _ from congrArg Prod.snd e1] at z; exact z) hE.2 (by rw [down_o]; exact hOx) (down_b hNx)

theorem two_87 {n : Nat} {a : Int} {m : Mem} (h : JJ (n + 1) m) : Cl 230 87 [1, a] (fun v u => ∃ m1, u = S9 0 m1 ∧ Cl 230 228 [249, a] (fun w u' => ∃ m2, u' = S9 0 m2 ∧ JJ n m2) (S9 0 m1)) (S9 0 m) := by
  obtain ⟨tc, pl, hC, hR, hX, hB, R, hG⟩ := h
  have hs := JC_s (BC_g 0 hC)
  have hr := JR_s (BR_g 0 hR)
  obtain ⟨⟨kv1, kv2, kv3⟩, ⟨hI, hD, hS, hO, hN⟩, ⟨⟨u1, u2, u3, u4, u5⟩, -⟩, -, hRc, hRr⟩ := id hG
  obtain ⟨k3, k4, k5, k6, k7⟩ := hX.2.1
  refine f_87 (d := 226) (g := gC 3 m) (L := m 8 0) (BC_g 3 hC) hI hD ⟨u1, u2⟩ ⟨u3, u4⟩ (fun v m1 h1 a1 e1 hD1 => ⟨m1, rfl, ?_⟩)
  have c1 := FC_of h1
  have ch : ∀ x j, 249 ≤ x → m1 x j = m x j := fun x j q => c1 x j (Or.inl q)
  have e58 : asR m1 258 0 = asR m 258 0 := asR_fr (fun y _ _ => ch 258 y (by decide)) (fun y _ _ => ch 249 y (by decide))
  have q4 : m1 249 4 = m 8 1 := (ch 249 4 (by decide)).trans k4
  have q5 : m1 249 5 = m 8 2 := (ch 249 5 (by decide)).trans k5
  have q6 : m1 249 6 = m 8 3 := (ch 249 6 (by decide)).trans k6
  have hIS : IV (m 8 0) (m 8 2) (m 8 3) (asR m 258 0) := IV_SE hI hS
  have hIR : IV (m 8 0) (m1 249 5) (m1 249 6) (asR m1 258 0) := by rw [q5, q6, e58]; exact hIS
  have hIx : IV (m 8 0) (m 8 2) (m 8 3) (x0C m) := IV_SE hI (SE_sy (x0_SE m))
  have hSx : SE (m 8 2) (m 8 3) (x0C m) (asR m 258 0) := SE_tr (x0_SE m) hS
  have hOx : DB (m 8 1) (x0C m 10 0) := by rw [x0C_o]; exact hO
  have hNx : BN (m 8 2) (m 8 3) (x0C m) := BN_SE hN (SE_sy (x0_SE m))
  have hRm : BR tc pl m1 := BR_tr hR (fun x j q _ => ch x j q)
  refine f_228 (d := 225) (g := gR 3 m1) (pl := pl) (L := m 8 0) (BR_g 3 hRm) hIR (fun w m2 h2 a2 e2 => ?_)
  rw [q6, e58] at e2
  have hE : AF (m 8 2) (m 8 3) (aChange (m 8 3) (x0C m) a) (aChange (m 8 3) (asR m 258 0) a) := change_f hSx
  have hw : w = v := by
    have z := hE.1
    rw [← e1, ← e2] at z
    exact z.symm
  subst hw
  refine ⟨m2, rfl, ⟨tc, pl, ?_, ?_, ?_, ?_, R, ?_⟩⟩
  · exact BC_tr (BC_of h1) (fun x j q => FR_of h2 x j (Or.inl q))
  · exact BR_of h2
  · exact RX_fr (Int.le_refl _) (fun x j q => FC_of h1 x j (frC_le (by decide) q)) (fun x j q => FR_of h2 x j (frR_le (by decide) q)) hX
  · exact RB_fr (Nat.le_succ n) ((FR_of h2 1 12 (Or.inl (by decide))).trans (FC_of h1 1 12 (by unfold frC; omega))) ((FR_of h2 249 7 (by unfold frR; omega)).trans (FC_of h1 249 7 (Or.inl (by decide)))) (fun j => (FR_of h2 285 j (by unfold frR; omega)).trans (FC_of h1 285 j (Or.inl (by decide)))) (fun j => (FR_of h2 286 j (by unfold frR; omega)).trans (FC_of h1 286 j (Or.inl (by decide)))) hB
  · exact GS_two (by omega) (by omega) hG a1 a2 (congrArg Prod.snd e1) (congrArg Prod.snd e2) (change_i hIx) (by have z := hD1; rw [show asC m1 15 = _ from congrArg Prod.snd e1] at z; exact z) hE.2 (by rw [change_o]; exact hOx) (change_b hNx)

theorem two_89 {n : Nat} {a b : Int} {m : Mem} (h : JJ (n + 1) m) : Cl 230 89 [1, a, b] (fun v u => ∃ m1, u = S9 0 m1 ∧ Cl 230 230 [249, a, b] (fun w u' => ∃ m2, u' = S9 0 m2 ∧ JJ n m2) (S9 0 m1)) (S9 0 m) := by
  obtain ⟨tc, pl, hC, hR, hX, hB, R, hG⟩ := h
  have hs := JC_s (BC_g 0 hC)
  have hr := JR_s (BR_g 0 hR)
  obtain ⟨⟨kv1, kv2, kv3⟩, ⟨hI, hD, hS, hO, hN⟩, ⟨⟨u1, u2, u3, u4, u5⟩, -⟩, -, hRc, hRr⟩ := id hG
  obtain ⟨k3, k4, k5, k6, k7⟩ := hX.2.1
  refine f_89 (d := 226) (g := gC 3 m) (L := m 8 0) (BC_g 3 hC) hI hD ⟨u1, u2⟩ ⟨u3, u4⟩ (fun v m1 h1 a1 e1 hD1 => ⟨m1, rfl, ?_⟩)
  have c1 := FC_of h1
  have ch : ∀ x j, 249 ≤ x → m1 x j = m x j := fun x j q => c1 x j (Or.inl q)
  have e58 : asR m1 258 0 = asR m 258 0 := asR_fr (fun y _ _ => ch 258 y (by decide)) (fun y _ _ => ch 249 y (by decide))
  have q4 : m1 249 4 = m 8 1 := (ch 249 4 (by decide)).trans k4
  have q5 : m1 249 5 = m 8 2 := (ch 249 5 (by decide)).trans k5
  have q6 : m1 249 6 = m 8 3 := (ch 249 6 (by decide)).trans k6
  have hIS : IV (m 8 0) (m 8 2) (m 8 3) (asR m 258 0) := IV_SE hI hS
  have hIR : IV (m 8 0) (m1 249 5) (m1 249 6) (asR m1 258 0) := by rw [q5, q6, e58]; exact hIS
  have hIx : IV (m 8 0) (m 8 2) (m 8 3) (x0C m) := IV_SE hI (SE_sy (x0_SE m))
  have hSx : SE (m 8 2) (m 8 3) (x0C m) (asR m 258 0) := SE_tr (x0_SE m) hS
  have hOx : DB (m 8 1) (x0C m 10 0) := by rw [x0C_o]; exact hO
  have hNx : BN (m 8 2) (m 8 3) (x0C m) := BN_SE hN (SE_sy (x0_SE m))
  have hRm : BR tc pl m1 := BR_tr hR (fun x j q _ => ch x j q)
  refine f_230 (d := 225) (g := gR 3 m1) (pl := pl) (L := m 8 0) (BR_g 3 hRm) hIR (fun w m2 h2 a2 e2 => ?_)
  rw [q6, e58] at e2
  have hE : AF (m 8 2) (m 8 3) (aGive (m 8 3) (x0C m) a b) (aGive (m 8 3) (asR m 258 0) a b) := give_f hSx
  have hw : w = v := by
    have z := hE.1
    rw [← e1, ← e2] at z
    exact z.symm
  subst hw
  refine ⟨m2, rfl, ⟨tc, pl, ?_, ?_, ?_, ?_, R, ?_⟩⟩
  · exact BC_tr (BC_of h1) (fun x j q => FR_of h2 x j (Or.inl q))
  · exact BR_of h2
  · exact RX_fr (Int.le_refl _) (fun x j q => FC_of h1 x j (frC_le (by decide) q)) (fun x j q => FR_of h2 x j (frR_le (by decide) q)) hX
  · exact RB_fr (Nat.le_succ n) ((FR_of h2 1 12 (Or.inl (by decide))).trans (FC_of h1 1 12 (by unfold frC; omega))) ((FR_of h2 249 7 (by unfold frR; omega)).trans (FC_of h1 249 7 (Or.inl (by decide)))) (fun j => (FR_of h2 285 j (by unfold frR; omega)).trans (FC_of h1 285 j (Or.inl (by decide)))) (fun j => (FR_of h2 286 j (by unfold frR; omega)).trans (FC_of h1 286 j (Or.inl (by decide)))) hB
  · exact GS_two (by omega) (by omega) hG a1 a2 (congrArg Prod.snd e1) (congrArg Prod.snd e2) (give_i hIx) (by have z := hD1; rw [show asC m1 15 = _ from congrArg Prod.snd e1] at z; exact z) hE.2 (by rw [give_o]; exact hOx) (give_b hNx)

theorem two_91 {n : Nat} {a b : Int} {m : Mem} (h : JJ (n + 1) m) : Cl 230 91 [1, a, b] (fun v u => ∃ m1, u = S9 0 m1 ∧ Cl 230 232 [249, a, b] (fun w u' => ∃ m2, u' = S9 0 m2 ∧ JJ n m2) (S9 0 m1)) (S9 0 m) := by
  obtain ⟨tc, pl, hC, hR, hX, hB, R, hG⟩ := h
  have hs := JC_s (BC_g 0 hC)
  have hr := JR_s (BR_g 0 hR)
  obtain ⟨⟨kv1, kv2, kv3⟩, ⟨hI, hD, hS, hO, hN⟩, ⟨⟨u1, u2, u3, u4, u5⟩, -⟩, -, hRc, hRr⟩ := id hG
  obtain ⟨k3, k4, k5, k6, k7⟩ := hX.2.1
  refine f_91 (d := 226) (g := gC 3 m) (L := m 8 0) (BC_g 3 hC) hI hD ⟨u1, u2⟩ ⟨u3, u4⟩ (fun v m1 h1 a1 e1 hD1 => ⟨m1, rfl, ?_⟩)
  have c1 := FC_of h1
  have ch : ∀ x j, 249 ≤ x → m1 x j = m x j := fun x j q => c1 x j (Or.inl q)
  have e58 : asR m1 258 0 = asR m 258 0 := asR_fr (fun y _ _ => ch 258 y (by decide)) (fun y _ _ => ch 249 y (by decide))
  have q4 : m1 249 4 = m 8 1 := (ch 249 4 (by decide)).trans k4
  have q5 : m1 249 5 = m 8 2 := (ch 249 5 (by decide)).trans k5
  have q6 : m1 249 6 = m 8 3 := (ch 249 6 (by decide)).trans k6
  have hIS : IV (m 8 0) (m 8 2) (m 8 3) (asR m 258 0) := IV_SE hI hS
  have hIR : IV (m 8 0) (m1 249 5) (m1 249 6) (asR m1 258 0) := by rw [q5, q6, e58]; exact hIS
  have hIx : IV (m 8 0) (m 8 2) (m 8 3) (x0C m) := IV_SE hI (SE_sy (x0_SE m))
  have hSx : SE (m 8 2) (m 8 3) (x0C m) (asR m 258 0) := SE_tr (x0_SE m) hS
  have hOx : DB (m 8 1) (x0C m 10 0) := by rw [x0C_o]; exact hO
  have hNx : BN (m 8 2) (m 8 3) (x0C m) := BN_SE hN (SE_sy (x0_SE m))
  have hRm : BR tc pl m1 := BR_tr hR (fun x j q _ => ch x j q)
  refine f_232 (d := 227) (g := gR 3 m1) (pl := pl) (L := m 8 0) (BR_g 3 hRm) hIR (fun w m2 h2 a2 e2 => ?_)
  rw [q6, e58] at e2
  have hE : AF (m 8 2) (m 8 3) (aFold (m 8 3) (x0C m) a b) (aFold (m 8 3) (asR m 258 0) a b) := fold_f hSx
  have hw : w = v := by
    have z := hE.1
    rw [← e1, ← e2] at z
    exact z.symm
  subst hw
  refine ⟨m2, rfl, ⟨tc, pl, ?_, ?_, ?_, ?_, R, ?_⟩⟩
  · exact BC_tr (BC_of h1) (fun x j q => FR_of h2 x j (Or.inl q))
  · exact BR_of h2
  · exact RX_fr (Int.le_refl _) (fun x j q => FC_of h1 x j (frC_le (by decide) q)) (fun x j q => FR_of h2 x j (frR_le (by decide) q)) hX
  · exact RB_fr (Nat.le_succ n) ((FR_of h2 1 12 (Or.inl (by decide))).trans (FC_of h1 1 12 (by unfold frC; omega))) ((FR_of h2 249 7 (by unfold frR; omega)).trans (FC_of h1 249 7 (Or.inl (by decide)))) (fun j => (FR_of h2 285 j (by unfold frR; omega)).trans (FC_of h1 285 j (Or.inl (by decide)))) (fun j => (FR_of h2 286 j (by unfold frR; omega)).trans (FC_of h1 286 j (Or.inl (by decide)))) hB
  · exact GS_two (by omega) (by omega) hG a1 a2 (congrArg Prod.snd e1) (congrArg Prod.snd e2) (fold_i hIx) (by have z := hD1; rw [show asC m1 15 = _ from congrArg Prod.snd e1] at z; exact z) hE.2 (by rw [fold_o]; exact hOx) (fold_b hNx)

theorem two_93 {n : Nat} {a b : Int} {m : Mem} (h : JJ (n + 1) m) : Cl 230 93 [1, a, b] (fun v u => ∃ m1, u = S9 0 m1 ∧ Cl 230 233 [249, a, b] (fun w u' => ∃ m2, u' = S9 0 m2 ∧ JJ n m2) (S9 0 m1)) (S9 0 m) := by
  obtain ⟨tc, pl, hC, hR, hX, hB, R, hG⟩ := h
  have hs := JC_s (BC_g 0 hC)
  have hr := JR_s (BR_g 0 hR)
  obtain ⟨⟨kv1, kv2, kv3⟩, ⟨hI, hD, hS, hO, hN⟩, ⟨⟨u1, u2, u3, u4, u5⟩, -⟩, -, hRc, hRr⟩ := id hG
  obtain ⟨k3, k4, k5, k6, k7⟩ := hX.2.1
  refine f_93 (d := 226) (g := gC 3 m) (L := m 8 0) (BC_g 3 hC) hI hD ⟨u1, u2⟩ ⟨u3, u4⟩ (fun v m1 h1 a1 e1 hD1 => ⟨m1, rfl, ?_⟩)
  have c1 := FC_of h1
  have ch : ∀ x j, 249 ≤ x → m1 x j = m x j := fun x j q => c1 x j (Or.inl q)
  have e58 : asR m1 258 0 = asR m 258 0 := asR_fr (fun y _ _ => ch 258 y (by decide)) (fun y _ _ => ch 249 y (by decide))
  have q4 : m1 249 4 = m 8 1 := (ch 249 4 (by decide)).trans k4
  have q5 : m1 249 5 = m 8 2 := (ch 249 5 (by decide)).trans k5
  have q6 : m1 249 6 = m 8 3 := (ch 249 6 (by decide)).trans k6
  have hIS : IV (m 8 0) (m 8 2) (m 8 3) (asR m 258 0) := IV_SE hI hS
  have hIR : IV (m 8 0) (m1 249 5) (m1 249 6) (asR m1 258 0) := by rw [q5, q6, e58]; exact hIS
  have hIx : IV (m 8 0) (m 8 2) (m 8 3) (x0C m) := IV_SE hI (SE_sy (x0_SE m))
  have hSx : SE (m 8 2) (m 8 3) (x0C m) (asR m 258 0) := SE_tr (x0_SE m) hS
  have hOx : DB (m 8 1) (x0C m 10 0) := by rw [x0C_o]; exact hO
  have hNx : BN (m 8 2) (m 8 3) (x0C m) := BN_SE hN (SE_sy (x0_SE m))
  have hRm : BR tc pl m1 := BR_tr hR (fun x j q _ => ch x j q)
  have hkd : ∀ p, 0 ≤ p → p < m 8 1 → (iand (ishr (m 8 8) p) 1 ≠ 0 ↔ m1 255 p ≠ 0) := fun p p0 p1 => by rw [ch 255 p (by decide), (kv1 p p0 p1).2.2.2.1]
  refine f_233 (d := 225) (g := gR 3 m1) (pl := pl) (L := m 8 0) (BR_g 3 hRm) hIR (fun w m2 h2 a2 e2 => ?_)
  rw [q4, e58] at e2
  have hE : AF (m 8 2) (m 8 3) (aDoor bcf (m 8 1) (fun w => iand (ishr (m 8 8) w) 1) (x0C m) a b) (aDoor bcf (m 8 1) (m1 255) (asR m 258 0) a b) := door_f hSx hkd
  have hw : w = v := by
    have z := hE.1
    rw [← e1, ← e2] at z
    exact z.symm
  subst hw
  refine ⟨m2, rfl, ⟨tc, pl, ?_, ?_, ?_, ?_, R, ?_⟩⟩
  · exact BC_tr (BC_of h1) (fun x j q => FR_of h2 x j (Or.inl q))
  · exact BR_of h2
  · exact RX_fr (Int.le_refl _) (fun x j q => FC_of h1 x j (frC_le (by decide) q)) (fun x j q => FR_of h2 x j (frR_le (by decide) q)) hX
  · exact RB_fr (Nat.le_succ n) ((FR_of h2 1 12 (Or.inl (by decide))).trans (FC_of h1 1 12 (by unfold frC; omega))) ((FR_of h2 249 7 (by unfold frR; omega)).trans (FC_of h1 249 7 (Or.inl (by decide)))) (fun j => (FR_of h2 285 j (by unfold frR; omega)).trans (FC_of h1 285 j (Or.inl (by decide)))) (fun j => (FR_of h2 286 j (by unfold frR; omega)).trans (FC_of h1 286 j (Or.inl (by decide)))) hB
  · exact GS_two (by omega) (by omega) hG a1 a2 (congrArg Prod.snd e1) (congrArg Prod.snd e2) (door_i hIx) (by have z := hD1; rw [show asC m1 15 = _ from congrArg Prod.snd e1] at z; exact z) hE.2 (door_o (by omega) hOx) (door_b hNx)

theorem two_51 {n : Nat} {a b : Int} {m : Mem} (h : JJ (n + 1) m) : Cl 230 51 [1, a, b] (fun v u => ∃ m1, u = S9 0 m1 ∧ Cl 230 210 [249, a, b] (fun w u' => ∃ m2, u' = S9 0 m2 ∧ JJ n m2) (S9 0 m1)) (S9 0 m) := by
  obtain ⟨tc, pl, hC, hR, hX, hB, R, hG⟩ := h
  have hs := JC_s (BC_g 0 hC)
  have hr := JR_s (BR_g 0 hR)
  obtain ⟨⟨kv1, kv2, kv3⟩, ⟨hI, hD, hS, hO, hN⟩, ⟨⟨u1, u2, u3, u4, u5⟩, -⟩, -, hRc, hRr⟩ := id hG
  obtain ⟨k3, k4, k5, k6, k7⟩ := hX.2.1
  refine f_51 (d := 228) (g := gC 3 m) (L := m 8 0) (BC_g 3 hC) hI hD (fun v m1 h1 fC hD1 e1 => ⟨m1, rfl, ?_⟩)
  have c1 := FC_of h1
  have ch : ∀ x j, 249 ≤ x → m1 x j = m x j := fun x j q => c1 x j (Or.inl q)
  have e58 : asR m1 258 0 = asR m 258 0 := asR_fr (fun y _ _ => ch 258 y (by decide)) (fun y _ _ => ch 249 y (by decide))
  have q4 : m1 249 4 = m 8 1 := (ch 249 4 (by decide)).trans k4
  have q5 : m1 249 5 = m 8 2 := (ch 249 5 (by decide)).trans k5
  have q6 : m1 249 6 = m 8 3 := (ch 249 6 (by decide)).trans k6
  have hIS : IV (m 8 0) (m 8 2) (m 8 3) (asR m 258 0) := IV_SE hI hS
  have hIR : IV (m 8 0) (m1 249 5) (m1 249 6) (asR m1 258 0) := by rw [q5, q6, e58]; exact hIS
  have hIx : IV (m 8 0) (m 8 2) (m 8 3) (x0C m) := IV_SE hI (SE_sy (x0_SE m))
  have hSx : SE (m 8 2) (m 8 3) (x0C m) (asR m 258 0) := SE_tr (x0_SE m) hS
  have hOx : DB (m 8 1) (x0C m 10 0) := by rw [x0C_o]; exact hO
  have hNx : BN (m 8 2) (m 8 3) (x0C m) := BN_SE hN (SE_sy (x0_SE m))
  have hRm : BR tc pl m1 := BR_tr hR (fun x j q _ => ch x j q)
  refine f_210 (d := 226) (g := gR 3 m1) (pl := pl) (L := m 8 0) (BR_g 3 hRm) hIR (fun w m2 h2 fR e2 => ?_)
  rw [q5, e58] at e2
  have hE : AF (m 8 2) (m 8 3) (aHeat (m 8 2) (asC m 15) a b) (aHeat (m 8 2) (asR m 258 0) a b) := heat_f hS
  have hw : w = v := by
    have z := hE.1
    rw [← e1, ← e2] at z
    exact z.symm
  subst hw
  refine ⟨m2, rfl, ⟨tc, pl, ?_, ?_, ?_, ?_, R, ?_⟩⟩
  · exact BC_tr (BC_of h1) (fun x j q => FR_of h2 x j (Or.inl q))
  · exact BR_of h2
  · exact RX_fr (Int.le_refl _) (fun x j q => FC_of h1 x j (frC_le (by decide) q)) (fun x j q => FR_of h2 x j (frR_le (by decide) q)) hX
  · exact RB_fr (Nat.le_succ n) ((FR_of h2 1 12 (Or.inl (by decide))).trans (FC_of h1 1 12 (by unfold frC; omega))) ((FR_of h2 249 7 (by unfold frR; omega)).trans (FC_of h1 249 7 (Or.inl (by decide)))) (fun j => (FR_of h2 285 j (by unfold frR; omega)).trans (FC_of h1 285 j (Or.inl (by decide)))) (fun j => (FR_of h2 286 j (by unfold frR; omega)).trans (FC_of h1 286 j (Or.inl (by decide)))) hB
  · exact GS_two0 (by omega) (by omega) hG (fun x j q => fC x j (q)) (fun x j q => fR x j (by omega)) (congrArg Prod.snd e1) (congrArg Prod.snd e2) (heat_i hI) (by have z := hD1; rw [show asC m1 15 = _ from congrArg Prod.snd e1] at z; exact z) hE.2 (by rw [heat_o, c_op]; exact hO) (heat_b hN)

theorem sheet_8 {P : Nat} {kd n f st : Int} {x : AS} (j : Int) : (aSheet P x kd n f st).2 8 j = x 8 j := by
  unfold aSheet
  split
  · rfl
  · split
    · rfl
    · exact shS_f (by decide) P
theorem two_54 {n : Nat} {a b c f : Int} {m : Mem} (hy : inI c) (h : JJ (n + 1) m) : Cl 230 54 [1, a, b, c, f] (fun v u => ∃ m1, u = S9 0 m1 ∧ Cl 230 212 [249, a, b, c, f] (fun w u' => ∃ m2, u' = S9 0 m2 ∧ JJ n m2) (S9 0 m1)) (S9 0 m) := by
  obtain ⟨tc, pl, hC, hR, hX, hB, R, hG⟩ := h
  have hs := JC_s (BC_g 0 hC)
  have hr := JR_s (BR_g 0 hR)
  obtain ⟨⟨kv1, kv2, kv3⟩, ⟨hI, hD, hS, hO, hN⟩, ⟨⟨u1, u2, u3, u4, u5⟩, -⟩, -, hRc, hRr⟩ := id hG
  obtain ⟨k3, k4, k5, k6, k7⟩ := hX.2.1
  refine f_54 (d := 226) (g := gC 3 m) (BC_g 3 hC) (fun v m1 h1 fC e1 => ⟨m1, rfl, ?_⟩)
  have c1 := FC_of h1
  have ch : ∀ x j, 249 ≤ x → m1 x j = m x j := fun x j q => c1 x j (Or.inl q)
  have e58 : asR m1 258 0 = asR m 258 0 := asR_fr (fun y _ _ => ch 258 y (by decide)) (fun y _ _ => ch 249 y (by decide))
  have q4 : m1 249 4 = m 8 1 := (ch 249 4 (by decide)).trans k4
  have q5 : m1 249 5 = m 8 2 := (ch 249 5 (by decide)).trans k5
  have q6 : m1 249 6 = m 8 3 := (ch 249 6 (by decide)).trans k6
  have hIS : IV (m 8 0) (m 8 2) (m 8 3) (asR m 258 0) := IV_SE hI hS
  have hIR : IV (m 8 0) (m1 249 5) (m1 249 6) (asR m1 258 0) := by rw [q5, q6, e58]; exact hIS
  have hIx : IV (m 8 0) (m 8 2) (m 8 3) (x0C m) := IV_SE hI (SE_sy (x0_SE m))
  have hSx : SE (m 8 2) (m 8 3) (x0C m) (asR m 258 0) := SE_tr (x0_SE m) hS
  have hOx : DB (m 8 1) (x0C m 10 0) := by rw [x0C_o]; exact hO
  have hNx : BN (m 8 2) (m 8 3) (x0C m) := BN_SE hN (SE_sy (x0_SE m))
  have hRm : BR tc pl m1 := BR_tr hR (fun x j q _ => ch x j q)
  refine f_212 (d := 225) (g := gR 3 m1) (pl := pl) (BR_g 3 hRm) hy (fun w m2 h2 fR e2 => ?_)
  rw [q5, e58] at e2
  have hE : AF (m 8 2) (m 8 3) (aSheet (m 8 2).toNat (asC m 15) a b c f) (aSheet (m 8 2).toNat (asR m 258 0) a b c f) := by have z := sheet_f (P := (m 8 2).toNat) (H := m 8 3) (kd := a) (n := b) (f := c) (st := f) (x := asC m 15) (y := asR m 258 0) (by rw [show ((m 8 2).toNat : Int) = m 8 2 by omega]; exact hS); rw [show ((m 8 2).toNat : Int) = m 8 2 by omega] at z; exact z
  have hw : w = v := by
    have z := hE.1
    rw [← e1, ← e2] at z
    exact z.symm
  subst hw
  have hD1 : HD (m 8 2) (m 8 3) (asC m1 15) (m1 18) := by
    have z : ∀ j, asC m1 15 8 j = asC m 15 8 j := fun j => by rw [show asC m1 15 = _ from congrArg Prod.snd e1]; exact sheet_8 j
    exact HD_e2 hD (fun j _ _ => z j) (fun j _ _ => fC 18 j (by decide))
  refine ⟨m2, rfl, ⟨tc, pl, ?_, ?_, ?_, ?_, R, ?_⟩⟩
  · exact BC_tr (BC_of h1) (fun x j q => FR_of h2 x j (Or.inl q))
  · exact BR_of h2
  · exact RX_fr (Int.le_refl _) (fun x j q => FC_of h1 x j (frC_le (by decide) q)) (fun x j q => FR_of h2 x j (frR_le (by decide) q)) hX
  · exact RB_fr (Nat.le_succ n) ((FR_of h2 1 12 (Or.inl (by decide))).trans (FC_of h1 1 12 (by unfold frC; omega))) ((FR_of h2 249 7 (by unfold frR; omega)).trans (FC_of h1 249 7 (Or.inl (by decide)))) (fun j => (FR_of h2 285 j (by unfold frR; omega)).trans (FC_of h1 285 j (Or.inl (by decide)))) (fun j => (FR_of h2 286 j (by unfold frR; omega)).trans (FC_of h1 286 j (Or.inl (by decide)))) hB
  · exact GS_two0 (by omega) (by omega) hG (fun x j q => fC x j (by omega)) (fun x j q => fR x j (by omega) (by omega)) (congrArg Prod.snd e1) (congrArg Prod.snd e2) ((by have z := sheet_i (P := (m 8 2).toNat) (L := m 8 0) (H := m 8 3) (kd := a) (n := b) (f := c) (st := f) (x := asC m 15) (by rw [show ((m 8 2).toNat : Int) = m 8 2 by omega]; exact hI); rw [show ((m 8 2).toNat : Int) = m 8 2 by omega] at z; exact z)) (by have z := hD1; rw [show asC m1 15 = _ from congrArg Prod.snd e1] at z; exact z) hE.2 (by rw [sheet_o, c_op]; exact hO) (sheet_b hN)

theorem two_67 {n : Nat} {a b : Int} {m : Mem} (h : JJ (n + 1) m) : Cl 230 67 [1, a, b] (fun v u => ∃ m1, u = S9 0 m1 ∧ Cl 230 221 [249, a, b] (fun w u' => ∃ m2, u' = S9 0 m2 ∧ JJ n m2) (S9 0 m1)) (S9 0 m) := by
  obtain ⟨tc, pl, hC, hR, hX, hB, R, hG⟩ := h
  have hs := JC_s (BC_g 0 hC)
  have hr := JR_s (BR_g 0 hR)
  obtain ⟨⟨kv1, kv2, kv3⟩, ⟨hI, hD, hS, hO, hN⟩, ⟨⟨u1, u2, u3, u4, u5⟩, -⟩, -, hRc, hRr⟩ := id hG
  obtain ⟨k3, k4, k5, k6, k7⟩ := hX.2.1
  have eP : ((m 8 2).toNat : Int) = m 8 2 := by omega
  have eH : ((m 8 3).toNat : Int) = m 8 3 := by omega
  have hKB : KB m := ⟨fun p p0 p1 => by have z := kv3 p p0 p1; unfold inI; omega, fun q q0 q1 => (kv2 q q0 q1).2⟩
  refine f_67 (d := 222) (g := gC 3 m) (R := R) (L := m 8 0) (BC_g 3 hC) hI hD hKB hRc ⟨u1, u2⟩ ⟨u3, u4⟩ (fun v m1 h1 a1 e1 hD1 => ⟨m1, rfl, ?_⟩)
  have c1 := FC_of h1
  have ch : ∀ x j, 249 ≤ x → m1 x j = m x j := fun x j q => c1 x j (Or.inl q)
  have e58 : asR m1 258 0 = asR m 258 0 := asR_fr (fun y _ _ => ch 258 y (by decide)) (fun y _ _ => ch 249 y (by decide))
  have q4 : m1 249 4 = m 8 1 := (ch 249 4 (by decide)).trans k4
  have q5 : m1 249 5 = m 8 2 := (ch 249 5 (by decide)).trans k5
  have q6 : m1 249 6 = m 8 3 := (ch 249 6 (by decide)).trans k6
  have hIS : IV (m 8 0) (m 8 2) (m 8 3) (asR m 258 0) := IV_SE hI hS
  have hIR : IV (m 8 0) (m1 249 5) (m1 249 6) (asR m1 258 0) := by rw [q5, q6, e58]; exact hIS
  have hIx : IV (m 8 0) (m 8 2) (m 8 3) (x0C m) := IV_SE hI (SE_sy (x0_SE m))
  have hSx : SE (m 8 2) (m 8 3) (x0C m) (asR m 258 0) := SE_tr (x0_SE m) hS
  have hOx : DB (m 8 1) (x0C m 10 0) := by rw [x0C_o]; exact hO
  have hNx : BN (m 8 2) (m 8 3) (x0C m) := BN_SE hN (SE_sy (x0_SE m))
  have hRm : BR tc pl m1 := BR_tr hR (fun x j q _ => ch x j q)
  have hK2 : KR2 m1 := ⟨fun p p0 p1 => by rw [q6] at p1; rw [ch 257 p (by decide), (kv3 p p0 p1).1]; exact hKB.1 p p0 p1, fun q q0 q1 => by rw [q5] at q1; rw [ch 256 q (by decide), (kv2 q q0 q1).1]; exact hKB.2 q q0 q1⟩
  have hR2 : RuR m1 R := RuR_fr hRr (ch 249 32 (by decide)) (fun j => ch 265 j (by decide))
  have hx1 : x0R m1 = x0R m := by unfold x0R; rw [e58]
  have hSR : SE (m 8 2) (m 8 3) (x0C m) (x0R m) := SE_tr hSx (SE_sy (x0R_SE m))
  have hbe : ∀ p : Int, 0 ≤ p → p < (m 8 3).toNat → m 14 p = m1 257 p := fun p p0 p1 => ((ch 257 p (by decide)).trans (kv3 p p0 (by omega)).1).symm
  have hce : ∀ q : Int, 0 ≤ q → q < (m 8 2).toNat → m 13 q = m1 256 q := fun q q0 q1 => ((ch 256 q (by decide)).trans (kv2 q q0 (by omega)).1).symm
  have hck : ∀ q : Int, 0 ≤ q → q < (m 8 2).toNat → 0 ≤ m 13 q ∧ m 13 q ≤ 9 := fun q q0 q1 => hKB.2 q q0 (by omega)
  have hIn : IV (m 8 0) (m 8 2).toNat (m 8 3).toNat (x0C m) := by rw [eP, eH]; exact hIx
  have hSn : SE (m 8 2).toNat (m 8 3).toNat (x0C m) (x0R m) := by rw [eP, eH]; exact hSR
  have hNn : BN (m 8 2).toNat (m 8 3).toNat (x0C m) := by rw [eP, eH]; exact hNx
  have hwe : ∀ w, 0 ≤ w → w < m 8 1 → m 10 w = m1 252 w ∧ m 11 w = m1 253 w ∧ m 12 w = m1 254 w ∧ (iand (ishr (m 8 8) w) 1 = 0 ↔ m1 255 w = 0) := fun w w0 w1 => by
    obtain ⟨z1, z2, z3, z4, -⟩ := kv1 w w0 w1
    rw [ch 252 w (by decide), ch 253 w (by decide), ch 254 w (by decide), ch 255 w (by decide)]
    refine ⟨z1.symm, z2.symm, z3.symm, ?_⟩
    rw [z4]
  have hwl : ∀ w, 0 ≤ w → w < m 8 1 → (0 ≤ m 10 w ∧ m 10 w < m 8 0) ∧ (0 ≤ m 11 w ∧ m 11 w < m 8 0) := fun w w0 w1 => ⟨(kv1 w w0 w1).2.2.2.2.1, (kv1 w w0 w1).2.2.2.2.2.1⟩
  refine f_221 (d := 222) (g := gR 3 m1) (pl := pl) (R := R) (L := m 8 0) (BR_g 3 hRm) hIR hK2 hR2 (fun w m2 h2 a2 e2 => ?_)
  rw [q4, q5, q6, hx1] at e2
  have hE : AE (m 8 2).toNat (m 8 3).toNat (aWalk R (m 14) (m 13) (m 8 2).toNat (m 8 3).toNat (m 8 1) (m 10) (m 11) (m 12) (fun w => iand (ishr (m 8 8) w) 1) (x0C m) a b) (aWalk R (m1 257) (m1 256) (m 8 2).toNat (m 8 3).toNat (m 8 1) (m1 252) (m1 253) (m1 254) (m1 255) (x0R m) a b) := walk_e hIn hSn x0_SN hbe hce hck hwe
  have hw : w = v := by
    have z := hE.1
    rw [← e1, ← e2] at z
    exact z.symm
  subst hw
  have hE2 := hE.2.1
  rw [eP, eH] at hE2
  refine ⟨m2, rfl, ⟨tc, pl, ?_, ?_, ?_, ?_, R, ?_⟩⟩
  · exact BC_tr (BC_of h1) (fun x j q => FR_of h2 x j (Or.inl q))
  · exact BR_of h2
  · exact RX_fr (Int.le_refl _) (fun x j q => FC_of h1 x j (frC_le (by decide) q)) (fun x j q => FR_of h2 x j (frR_le (by decide) q)) hX
  · exact RB_fr (Nat.le_succ n) ((FR_of h2 1 12 (Or.inl (by decide))).trans (FC_of h1 1 12 (by unfold frC; omega))) ((FR_of h2 249 7 (by unfold frR; omega)).trans (FC_of h1 249 7 (Or.inl (by decide)))) (fun j => (FR_of h2 285 j (by unfold frR; omega)).trans (FC_of h1 285 j (Or.inl (by decide)))) (fun j => (FR_of h2 286 j (by unfold frR; omega)).trans (FC_of h1 286 j (Or.inl (by decide)))) hB
  · exact GS_two (by omega) (by omega) hG a1 a2 (congrArg Prod.snd e1) (congrArg Prod.snd e2) (by rw [← eP, ← eH]; exact walk_i hIn hck hwl) (by have z := hD1; rw [show asC m1 15 = _ from congrArg Prod.snd e1] at z; exact z) hE2 (by rw [walk_o hIn hck]; exact hOx) (by rw [← eP, ← eH]; exact walk_b hIn hNn (by omega) hck)

theorem two_85 {n : Nat} {a : Int} {m : Mem} (h : JJ (n + 1) m) : Cl 230 85 [1, a] (fun v u => ∃ m1, u = S9 0 m1 ∧ Cl 230 226 [249, a] (fun w u' => ∃ m2, u' = S9 0 m2 ∧ JJ n m2) (S9 0 m1)) (S9 0 m) := by
  obtain ⟨tc, pl, hC, hR, hX, hB, R, hG⟩ := h
  have hs := JC_s (BC_g 0 hC)
  have hr := JR_s (BR_g 0 hR)
  obtain ⟨⟨kv1, kv2, kv3⟩, ⟨hI, hD, hS, hO, hN⟩, ⟨⟨u1, u2, u3, u4, u5⟩, -⟩, -, hRc, hRr⟩ := id hG
  obtain ⟨k3, k4, k5, k6, k7⟩ := hX.2.1
  have eP : ((m 8 2).toNat : Int) = m 8 2 := by omega
  have eH : ((m 8 3).toNat : Int) = m 8 3 := by omega
  have hKB : KB m := ⟨fun p p0 p1 => by have z := kv3 p p0 p1; unfold inI; omega, fun q q0 q1 => (kv2 q q0 q1).2⟩
  refine f_85 (d := 222) (g := gC 3 m) (R := R) (L := m 8 0) (BC_g 3 hC) hI hD hKB hRc ⟨u1, u2⟩ ⟨u3, u4⟩ (fun v m1 h1 a1 e1 hD1 => ⟨m1, rfl, ?_⟩)
  have c1 := FC_of h1
  have ch : ∀ x j, 249 ≤ x → m1 x j = m x j := fun x j q => c1 x j (Or.inl q)
  have e58 : asR m1 258 0 = asR m 258 0 := asR_fr (fun y _ _ => ch 258 y (by decide)) (fun y _ _ => ch 249 y (by decide))
  have q4 : m1 249 4 = m 8 1 := (ch 249 4 (by decide)).trans k4
  have q5 : m1 249 5 = m 8 2 := (ch 249 5 (by decide)).trans k5
  have q6 : m1 249 6 = m 8 3 := (ch 249 6 (by decide)).trans k6
  have hIS : IV (m 8 0) (m 8 2) (m 8 3) (asR m 258 0) := IV_SE hI hS
  have hIR : IV (m 8 0) (m1 249 5) (m1 249 6) (asR m1 258 0) := by rw [q5, q6, e58]; exact hIS
  have hIx : IV (m 8 0) (m 8 2) (m 8 3) (x0C m) := IV_SE hI (SE_sy (x0_SE m))
  have hSx : SE (m 8 2) (m 8 3) (x0C m) (asR m 258 0) := SE_tr (x0_SE m) hS
  have hOx : DB (m 8 1) (x0C m 10 0) := by rw [x0C_o]; exact hO
  have hNx : BN (m 8 2) (m 8 3) (x0C m) := BN_SE hN (SE_sy (x0_SE m))
  have hRm : BR tc pl m1 := BR_tr hR (fun x j q _ => ch x j q)
  have hK2 : KR2 m1 := ⟨fun p p0 p1 => by rw [q6] at p1; rw [ch 257 p (by decide), (kv3 p p0 p1).1]; exact hKB.1 p p0 p1, fun q q0 q1 => by rw [q5] at q1; rw [ch 256 q (by decide), (kv2 q q0 q1).1]; exact hKB.2 q q0 q1⟩
  have hR2 : RuR m1 R := RuR_fr hRr (ch 249 32 (by decide)) (fun j => ch 265 j (by decide))
  have hx1 : x0R m1 = x0R m := by unfold x0R; rw [e58]
  have hSR : SE (m 8 2) (m 8 3) (x0C m) (x0R m) := SE_tr hSx (SE_sy (x0R_SE m))
  have hbe : ∀ p : Int, 0 ≤ p → p < (m 8 3).toNat → m 14 p = m1 257 p := fun p p0 p1 => ((ch 257 p (by decide)).trans (kv3 p p0 (by omega)).1).symm
  have hce : ∀ q : Int, 0 ≤ q → q < (m 8 2).toNat → m 13 q = m1 256 q := fun q q0 q1 => ((ch 256 q (by decide)).trans (kv2 q q0 (by omega)).1).symm
  have hck : ∀ q : Int, 0 ≤ q → q < (m 8 2).toNat → 0 ≤ m 13 q ∧ m 13 q ≤ 9 := fun q q0 q1 => hKB.2 q q0 (by omega)
  have hIn : IV (m 8 0) (m 8 2).toNat (m 8 3).toNat (x0C m) := by rw [eP, eH]; exact hIx
  have hSn : SE (m 8 2).toNat (m 8 3).toNat (x0C m) (x0R m) := by rw [eP, eH]; exact hSR
  have hNn : BN (m 8 2).toNat (m 8 3).toNat (x0C m) := by rw [eP, eH]; exact hNx
  have hwe : ∀ w, 0 ≤ w → w < m 8 1 → m 10 w = m1 252 w ∧ m 11 w = m1 253 w ∧ m 12 w = m1 254 w ∧ (iand (ishr (m 8 8) w) 1 = 0 ↔ m1 255 w = 0) := fun w w0 w1 => by
    obtain ⟨z1, z2, z3, z4, -⟩ := kv1 w w0 w1
    rw [ch 252 w (by decide), ch 253 w (by decide), ch 254 w (by decide), ch 255 w (by decide)]
    refine ⟨z1.symm, z2.symm, z3.symm, ?_⟩
    rw [z4]
  have hwl : ∀ w, 0 ≤ w → w < m 8 1 → (0 ≤ m 10 w ∧ m 10 w < m 8 0) ∧ (0 ≤ m 11 w ∧ m 11 w < m 8 0) := fun w w0 w1 => ⟨(kv1 w w0 w1).2.2.2.2.1, (kv1 w w0 w1).2.2.2.2.2.1⟩
  refine f_226 (d := 222) (g := gR 3 m1) (pl := pl) (R := R) (L := m 8 0) (BR_g 3 hRm) hIR hK2 hR2 (fun w m2 h2 a2 e2 => ?_)
  rw [q5, q6, hx1] at e2
  have hE : AE (m 8 2).toNat (m 8 3).toNat (aPass R (m 14) (m 13) (m 8 2).toNat (m 8 3).toNat (x0C m) a) (aPass R (m1 257) (m1 256) (m 8 2).toNat (m 8 3).toNat (x0R m) a) := pass_e hIn hSn x0_SN hbe hce hck
  have hw : w = v := by
    have z := hE.1
    rw [← e1, ← e2] at z
    exact z.symm
  subst hw
  have hE2 := hE.2.1
  rw [eP, eH] at hE2
  refine ⟨m2, rfl, ⟨tc, pl, ?_, ?_, ?_, ?_, R, ?_⟩⟩
  · exact BC_tr (BC_of h1) (fun x j q => FR_of h2 x j (Or.inl q))
  · exact BR_of h2
  · exact RX_fr (Int.le_refl _) (fun x j q => FC_of h1 x j (frC_le (by decide) q)) (fun x j q => FR_of h2 x j (frR_le (by decide) q)) hX
  · exact RB_fr (Nat.le_succ n) ((FR_of h2 1 12 (Or.inl (by decide))).trans (FC_of h1 1 12 (by unfold frC; omega))) ((FR_of h2 249 7 (by unfold frR; omega)).trans (FC_of h1 249 7 (Or.inl (by decide)))) (fun j => (FR_of h2 285 j (by unfold frR; omega)).trans (FC_of h1 285 j (Or.inl (by decide)))) (fun j => (FR_of h2 286 j (by unfold frR; omega)).trans (FC_of h1 286 j (Or.inl (by decide)))) hB
  · exact GS_two (by omega) (by omega) hG a1 a2 (congrArg Prod.snd e1) (congrArg Prod.snd e2) (by rw [← eP, ← eH]; exact pass_i hIn hck) (by have z := hD1; rw [show asC m1 15 = _ from congrArg Prod.snd e1] at z; exact z) hE2 (by rw [pass_o hIn hck]; exact hOx) (by rw [← eP, ← eH]; exact pass_b hIn hNn (by omega) hck)

theorem two_96 {n : Nat} {m : Mem} (h : JJ (n + 1) m) : Cl 230 96 [1] (fun v u => ∃ m1, u = S9 0 m1 ∧ Cl 230 235 [249] (fun w u' => ∃ m2, u' = S9 0 m2 ∧ JJ n m2) (S9 0 m1)) (S9 0 m) := by
  obtain ⟨tc, pl, hC, hR, hX, hB, R, hG⟩ := h
  have hs := JC_s (BC_g 0 hC)
  have hr := JR_s (BR_g 0 hR)
  obtain ⟨⟨kv1, kv2, kv3⟩, ⟨hI, hD, hS, hO, hN⟩, ⟨⟨u1, u2, u3, u4, u5⟩, -⟩, -, hRc, hRr⟩ := id hG
  obtain ⟨k3, k4, k5, k6, k7⟩ := hX.2.1
  have eP : ((m 8 2).toNat : Int) = m 8 2 := by omega
  have eH : ((m 8 3).toNat : Int) = m 8 3 := by omega
  have hKB : KB m := ⟨fun p p0 p1 => by have z := kv3 p p0 p1; unfold inI; omega, fun q q0 q1 => (kv2 q q0 q1).2⟩
  have hWB : WB (m 8 0) m := fun w w0 w1 => ⟨(kv1 w w0 w1).2.2.2.2.1, (kv1 w w0 w1).2.2.2.2.2.1⟩
  have hDF : DF (m 260) tc = DF (m 3) tc := DF_e hX.1.1
  have hDN : DN (m 260) tc = DN (m 3) tc := DN_e hX.1.1
  refine f_96 (d := 220) (g := gC 3 m) (R := R) (L := m 8 0) hX.1.2.1 (BC_g 3 hC) hI hD hKB hRc hWB (Int.le_refl _) ⟨u1, u2⟩ ⟨u3, u4⟩ (fun hf m1 h1 f1 => ⟨m1, rfl, ?_⟩) (fun hf v m1 h1 hv a1 e1 hD1 => ⟨m1, rfl, ?_⟩)
  all_goals
    have c1 := FC_of h1
    have ch : ∀ x j, 249 ≤ x → m1 x j = m x j := fun x j q => c1 x j (Or.inl q)
    have e60 : m1 260 = m 260 := by funext j; exact ch 260 j (by decide)
  · have hRm : BR tc pl m1 := BR_tr hR (fun x j q _ => ch x j q)
    have e58 : asR m1 258 0 = asR m 258 0 := asR_fr (fun y _ _ => ch 258 y (by decide)) (fun y _ _ => ch 249 y (by decide))
    have q4 : m1 249 4 = m 8 1 := (ch 249 4 (by decide)).trans k4
    have q5 : m1 249 5 = m 8 2 := (ch 249 5 (by decide)).trans k5
    have q6 : m1 249 6 = m 8 3 := (ch 249 6 (by decide)).trans k6
    have hIR : IV (m 8 0) (m1 249 5) (m1 249 6) (asR m1 258 0) := by rw [q5, q6, e58]; exact IV_SE hI hS
    have hK2 : KR2 m1 := ⟨fun p p0 p1 => by rw [q6] at p1; rw [ch 257 p (by decide), (kv3 p p0 p1).1]; exact hKB.1 p p0 p1, fun q q0 q1 => by rw [q5] at q1; rw [ch 256 q (by decide), (kv2 q q0 q1).1]; exact hKB.2 q q0 q1⟩
    have hR2 : RuR m1 R := RuR_fr hRr (ch 249 32 (by decide)) (fun j => ch 265 j (by decide))
    have hW2 : WBR (m 8 0) m1 := fun w w0 w1 => by rw [q4] at w1; rw [ch 252 w (by decide), ch 253 w (by decide), (kv1 w w0 w1).1, (kv1 w w0 w1).2.1]; exact hWB w w0 w1
    refine f_235 (d := 220) (g := gR 3 m1) (pl := pl) (R := R) (L := m 8 0) (BR_g 3 hRm) hIR hK2 hR2 hW2 (fun hf2 m2 h2 f2 => ?_) (fun hf2 => absurd hf2 (by rw [e60, hDF]; omega))
    refine ⟨m2, rfl, ⟨0, pl, ?_, ?_, ?_, ?_, R, ?_⟩⟩
    · exact BC_tr (BC_of h1) (fun x j q => FR_of h2 x j (Or.inl q))
    · exact BR_of h2
    · exact RX_fr hC.1.1 (fun x j q => FC_of h1 x j (frC_le (by decide) q)) (fun x j q => FR_of h2 x j (frR_le (by decide) q)) hX
    · exact RB_fr (Nat.le_succ n) ((FR_of h2 1 12 (Or.inl (by decide))).trans (FC_of h1 1 12 (by unfold frC; omega))) ((FR_of h2 249 7 (by unfold frR; omega)).trans (FC_of h1 249 7 (Or.inl (by decide)))) (fun j => (FR_of h2 285 j (by unfold frR; omega)).trans (FC_of h1 285 j (Or.inl (by decide)))) (fun j => (FR_of h2 286 j (by unfold frR; omega)).trans (FC_of h1 286 j (Or.inl (by decide)))) hB
    · exact GS_fr (by omega) (by omega) (fun x j q => (f2 x j (by unfold GCl at q; omega) (by unfold GCl at q; omega)).trans (f1 x j (by unfold GCl at q; omega) (by unfold GCl at q; omega))) hG
  · have e58 : asR m1 258 0 = asR m 258 0 := asR_fr (fun y _ _ => ch 258 y (by decide)) (fun y _ _ => ch 249 y (by decide))
    have q4 : m1 249 4 = m 8 1 := (ch 249 4 (by decide)).trans k4
    have q5 : m1 249 5 = m 8 2 := (ch 249 5 (by decide)).trans k5
    have q6 : m1 249 6 = m 8 3 := (ch 249 6 (by decide)).trans k6
    have hIS : IV (m 8 0) (m 8 2) (m 8 3) (asR m 258 0) := IV_SE hI hS
    have hIR : IV (m 8 0) (m1 249 5) (m1 249 6) (asR m1 258 0) := by rw [q5, q6, e58]; exact hIS
    have hIx : IV (m 8 0) (m 8 2) (m 8 3) (x0C m) := IV_SE hI (SE_sy (x0_SE m))
    have hSx : SE (m 8 2) (m 8 3) (x0C m) (asR m 258 0) := SE_tr (x0_SE m) hS
    have hOx : DB (m 8 1) (x0C m 10 0) := by rw [x0C_o]; exact hO
    have hNx : BN (m 8 2) (m 8 3) (x0C m) := BN_SE hN (SE_sy (x0_SE m))
    have hRm : BR tc pl m1 := BR_tr hR (fun x j q _ => ch x j q)
    have hK2 : KR2 m1 := ⟨fun p p0 p1 => by rw [q6] at p1; rw [ch 257 p (by decide), (kv3 p p0 p1).1]; exact hKB.1 p p0 p1, fun q q0 q1 => by rw [q5] at q1; rw [ch 256 q (by decide), (kv2 q q0 q1).1]; exact hKB.2 q q0 q1⟩
    have hR2 : RuR m1 R := RuR_fr hRr (ch 249 32 (by decide)) (fun j => ch 265 j (by decide))
    have hx1 : x0R m1 = x0R m := by unfold x0R; rw [e58]
    have hSR : SE (m 8 2) (m 8 3) (x0C m) (x0R m) := SE_tr hSx (SE_sy (x0R_SE m))
    have hbe : ∀ p : Int, 0 ≤ p → p < (m 8 3).toNat → m 14 p = m1 257 p := fun p p0 p1 => ((ch 257 p (by decide)).trans (kv3 p p0 (by omega)).1).symm
    have hce : ∀ q : Int, 0 ≤ q → q < (m 8 2).toNat → m 13 q = m1 256 q := fun q q0 q1 => ((ch 256 q (by decide)).trans (kv2 q q0 (by omega)).1).symm
    have hck : ∀ q : Int, 0 ≤ q → q < (m 8 2).toNat → 0 ≤ m 13 q ∧ m 13 q ≤ 9 := fun q q0 q1 => hKB.2 q q0 (by omega)
    have hIn : IV (m 8 0) (m 8 2).toNat (m 8 3).toNat (x0C m) := by rw [eP, eH]; exact hIx
    have hSn : SE (m 8 2).toNat (m 8 3).toNat (x0C m) (x0R m) := by rw [eP, eH]; exact hSR
    have hNn : BN (m 8 2).toNat (m 8 3).toNat (x0C m) := by rw [eP, eH]; exact hNx
    have hwe : ∀ w, 0 ≤ w → w < m 8 1 → m 10 w = m1 252 w ∧ m 11 w = m1 253 w ∧ m 12 w = m1 254 w ∧ (iand (ishr (m 8 8) w) 1 = 0 ↔ m1 255 w = 0) := fun w w0 w1 => by
      obtain ⟨z1, z2, z3, z4, -⟩ := kv1 w w0 w1
      rw [ch 252 w (by decide), ch 253 w (by decide), ch 254 w (by decide), ch 255 w (by decide)]
      refine ⟨z1.symm, z2.symm, z3.symm, ?_⟩
      rw [z4]
    have hwl : ∀ w, 0 ≤ w → w < m 8 1 → (0 ≤ m 10 w ∧ m 10 w < m 8 0) ∧ (0 ≤ m 11 w ∧ m 11 w < m 8 0) := fun w w0 w1 => ⟨(kv1 w w0 w1).2.2.2.2.1, (kv1 w w0 w1).2.2.2.2.2.1⟩
    have hW2 : WBR (m 8 0) m1 := fun w w0 w1 => by rw [q4] at w1; rw [ch 252 w (by decide), ch 253 w (by decide), (kv1 w w0 w1).1, (kv1 w w0 w1).2.1]; exact hWB w w0 w1
    have hk1 : ∀ p, 0 ≤ p → p < m 8 0 → m 9 p = m1 251 p := fun p p0 p1 => ((ch 251 p (by decide)).trans (k7 p p0 p1)).symm
    have hce' : ∀ q : Int, 0 ≤ q → q < (m 8 2).toNat → 0 ≤ m1 256 q ∧ m1 256 q ≤ 9 := fun q q0 q1 => by rw [← hce q q0 q1]; exact hck q q0 q1
    refine f_235 (d := 220) (g := gR 3 m1) (pl := pl) (R := R) (L := m 8 0) (BR_g 3 hRm) hIR hK2 hR2 hW2 (fun hf2 => absurd hf2 (by rw [e60, hDF]; omega)) (fun hf2 w m2 h2 hw2 a2 e2 => ?_)
    rw [e60, hDN, hx1] at hw2 e2
    have hdo : doR m1 R = doA R (m1 257) (m1 256) (m 8 2).toNat (m 8 3).toNat (m 8 1) (m1 252) (m1 253) (m1 254) (m1 255) (m1 251) := by unfold doR; rw [q4, q5, q6]
    rw [hdo] at hw2 e2
    have hE := runs_e (f := doC m R) (f' := doA R (m1 257) (m1 256) (m 8 2).toNat (m 8 3).toNat (m 8 1) (m1 252) (m1 253) (m1 254) (m1 255) (m1 251)) (L := m 8 0) (P := (m 8 2).toNat) (H := (m 8 3).toNat) (fun ac x y hi he hn => doA_e hi he hn hbe hce hck hwe hk1) (fun ac x hi => doA_i hi hck hwl) (DN (m 3) tc).2.2 (x0C m) (x0R m) hIn hSn x0_SN
    have hw : w = v := by rw [hw2, hv]; exact hE.1.symm
    subst hw
    have hE2 := hE.2.1
    rw [eP, eH] at hE2
    have hir := runs_i (f := doC m R) (L := m 8 0) (P := (m 8 2).toNat) (H := (m 8 3).toNat) (fun ac x hi => doA_i hi hck hwl) (DN (m 3) tc).2.2 (x0C m) hIn
    rw [eP, eH] at hir
    have hbr := runs_b (f := doC m R) (L := m 8 0) (P := (m 8 2).toNat) (H := (m 8 3).toNat) (fun ac x hi => doA_i hi hck hwl) (fun ac x hi hb => doA_b hi hb (by omega) hck) (DN (m 3) tc).2.2 (x0C m) hIn hNn
    rw [eP, eH] at hbr
    refine ⟨m2, rfl, ⟨0, pl, ?_, ?_, ?_, ?_, R, ?_⟩⟩
    · exact BC_tr (BC_of h1) (fun x j q => FR_of h2 x j (Or.inl q))
    · exact BR_of h2
    · exact RX_fr hC.1.1 (fun x j q => FC_of h1 x j (frC_le (by decide) q)) (fun x j q => FR_of h2 x j (frR_le (by decide) q)) hX
    · exact RB_fr (Nat.le_succ n) ((FR_of h2 1 12 (Or.inl (by decide))).trans (FC_of h1 1 12 (by unfold frC; omega))) ((FR_of h2 249 7 (by unfold frR; omega)).trans (FC_of h1 249 7 (Or.inl (by decide)))) (fun j => (FR_of h2 285 j (by unfold frR; omega)).trans (FC_of h1 285 j (Or.inl (by decide)))) (fun j => (FR_of h2 286 j (by unfold frR; omega)).trans (FC_of h1 286 j (Or.inl (by decide)))) hB
    · exact GS_two (by omega) (by omega) hG a1 a2 e1 e2 hir (by rw [← e1]; exact hD1) hE2 (runs_o (fun ac x hi => doA_i hi hck hwl) (fun ac x hi hd => doA_o (by omega) hi hck hd) _ _ hIn hOx) hbr

theorem JR_bk {g : Fg} {tc pl i u : Int} {m : Mem} (hi : i = 269 ∨ i = 287) (h : JR 3 g tc pl m) : JR 3 g tc pl (cpf m i (52 * u) 258 0 52) := by
  refine ⟨⟨h.1.1, h.1.2.1, fun x j q => ?_, BdR_cpf h.1.2.2.2 (fun y y0 y1 => ?_)⟩, ?_⟩
  · have z := JR_l h _ _ q
    rw [cpf_n (by rintro rfl; unfold frR at z; omega)]
    exact h.1.2.2.1 x j q
  · rcases hi with rfl | rfl
    · exact BdR_n (by simp) (rb_eq (JB_n (JR_1 h) 269 _ (by simp)) (by omega))
    · exact BdR_n (by simp) (rb_eq (JB_n (JR_1 h) 287 _ (by simp)) (by omega))
  · have z := h.2
    unfold JS at z ⊢
    rw [cpf_n (by decide), cpf_n (by decide), cpf_n (by decide)]
    exact z
theorem JR_kp {l : Nat} {g : Fg} {tc pl u : Int} {m : Mem} (h : JR l g tc pl m) (hg : ∀ x j, g.1 x j → x ≠ 287) : JR l g tc pl (cpf m 258 0 287 (52 * u) 52) := by
  refine ⟨⟨h.1.1, h.1.2.1, fun x j q => ?_, BdR_cpf h.1.2.2.2 (fun y y0 y1 => ?_)⟩, ?_⟩
  · rw [cpf_n (hg x j q)]
    exact h.1.2.2.1 x j q
  · exact BdR_n (by simp) (rb_eq (JB_n h.1 258 _ (by simp)) (by omega))
  · have z := h.2
    unfold JS at z ⊢
    rw [cpf_n (by decide), cpf_n (by decide), cpf_n (by decide)]
    exact z
theorem cpf_at {m : Mem} {a i b j y : Int} (h0 : 0 ≤ y) (h1 : y < 52) : cpf m a i b j 52 b (j + y) = m a (i + y) := by
  unfold cpf
  rw [if_pos ⟨rfl, by omega, by omega⟩]
  congr 1; omega
theorem two_101 {n : Nat} {m : Mem} (h : JJ (n + 1) m) : Cl 230 101 [1] (fun v u => ∃ m1, u = S9 0 m1 ∧ Cl 230 213 [249] (fun w u' => ∃ m2, u' = S9 0 m2 ∧ JJ n m2) (S9 0 m1)) (S9 0 m) := by
  obtain ⟨tc, pl, hC, hR, hX, hB, R, hG⟩ := h
  have hs := JC_s (BC_g 0 hC)
  have hr := JR_s (BR_g 0 hR)
  obtain ⟨⟨kv1, kv2, kv3⟩, ⟨hI, hD, hS, hO, hN⟩, ⟨⟨u1, u2, u3, u4, u5⟩, -⟩, -, hRc, hRr⟩ := id hG
  obtain ⟨k3, k4, k5, k6, k7⟩ := hX.2.1
  refine f_101 (d := 226) (g := gC 3 m) (BC_g 3 hC) ⟨u1, u2⟩ ⟨u3, u4⟩ (fun z => ⟨m, rfl, ?_⟩) (fun m1 z h1 f1 => ⟨m1, rfl, ?_⟩)
  · refine p_213x (d := 229) (by omega) (fun z2 => ⟨_, rfl, ⟨tc, pl, BC_hi hC (by decide), BR_0 hR, ⟨RT_fr (fun x j q => upm_a _ _ _ _ _ _ (by omega)) hX.1, RKM_fr (fun x j q => by rw [upm_app, if_neg (by omega)]) hX.2⟩, RB_fr (Nat.le_succ n) (upm_a _ _ _ _ _ _ (by decide)) (upm_k (by decide)) (fun j => upm_a _ _ _ _ _ _ (by decide)) (fun j => upm_a _ _ _ _ _ _ (by decide)) hB, R, GS_fr (by omega) (by omega) (fun x j q => by rw [upm_app, if_neg (by unfold GCl at q; omega)]) hG⟩⟩) (fun z2 => absurd z2 (by omega))
  · have c1 := FC_of h1
    have ch : ∀ x j, 249 ≤ x → m1 x j = m x j := fun x j q => c1 x j (Or.inl q)
    have e0 : ∀ x j, (x < 15 ∨ 24 < x) → ¬ (x = 26 ∧ j = 9) → m1 x j = m x j := fun x j q q2 => by rw [f1.1 x j (by omega), upm_app, if_neg q2]
    have e9 : m1 26 9 = m 26 9 - 1 := by rw [f1.1 26 9 (by omega), upm_v]
    have e39 := ch 249 39 (by decide)
    have hRm : BR tc pl m1 := BR_tr hR (fun x j q _ => ch x j q)
    have hJR := BR_g 3 hRm
    have h2 : JR 3 (gR 3 m1) tc pl (cpf (upm (upm m1 249 0 0) 249 39 (m1 249 39 - 1)) 269 (52 * (m1 249 39 - 1)) 258 0 52) := JR_bk (Or.inl rfl) (JR_up (JR_up hJR (by unfold frR; omega) (by simp [frc]) (by simp [BdR])) (by unfold frR; omega) (by simp [frc]) (by simp [BdR]; omega))
    have r0 : ∀ x j, x ≠ 258 → ¬ (x = 249 ∧ (j = 0 ∨ j = 39)) → cpf (upm (upm m1 249 0 0) 249 39 (m1 249 39 - 1)) 269 (52 * (m1 249 39 - 1)) 258 0 52 x j = m1 x j := fun x j q q2 => by rw [cpf_n q, upm_app, if_neg (by omega), upm_app, if_neg (by omega)]
    refine p_213x (d := 229) (by rw [e39]; omega) (fun z2 => absurd z2 (by omega)) (fun z2 => ⟨_, rfl, ⟨tc, pl, ?_, ?_, ?_, ?_, R, ?_⟩⟩)
    · exact BC_tr (BC_of h1) (fun x j q => FR_of h2 x j (Or.inl q))
    · exact BR_of h2
    · exact RX_fr (Int.le_refl _) (fun x j q => FC_of h1 x j (frC_le (by decide) q)) (fun x j q => FR_of h2 x j (frR_le (by decide) q)) hX
    · exact RB_fr (Nat.le_succ n) ((FR_of h2 1 12 (Or.inl (by decide))).trans (FC_of h1 1 12 (by unfold frC; omega))) ((FR_of h2 249 7 (by unfold frR; omega)).trans (FC_of h1 249 7 (Or.inl (by decide)))) (fun j => (FR_of h2 285 j (by unfold frR; omega)).trans (FC_of h1 285 j (Or.inl (by decide)))) (fun j => (FR_of h2 286 j (by unfold frR; omega)).trans (FC_of h1 286 j (Or.inl (by decide)))) hB
    · refine GS_undo (by omega) (by omega) hG (fun x j q => ?_) z (fun x j q => ?_) ?_ ?_ ⟨?_, fun j j0 j1 => ?_⟩ (fun y y0 y1 => ?_)
      · unfold KCl at q; rw [r0 x j (by omega) (by omega)]; exact e0 x j (by omega) (by omega)
      · rw [r0 x j (by omega) (by omega)]; exact e0 x j (by omega) (by omega)
      · rw [r0 26 9 (by decide) (by decide)]; exact e9
      · rw [cpf_n (by decide), upm_v, e39]
      · have q := CPY_SE f1
        refine SE_tr (SE_st (m := m1) (fun x j x0 x1 => r0 x j (by omega) (by omega))) (SE_tr q (SE_st (fun x j x0 x1 => by rw [upm_app, if_neg (by omega)])))
      · have q := CPY_hold f1 j0 j1
        rw [r0 18 j (by decide) (by omega)]
        exact q.trans (by rw [upm_app, if_neg (by omega)])
      · have q := cpf_at (m := upm (upm m1 249 0 0) 249 39 (m1 249 39 - 1)) (a := 269) (i := 52 * (m1 249 39 - 1)) (b := 258) (j := 0) y0 y1
        rw [Int.zero_add] at q
        rw [q, upm_app, if_neg (by omega), upm_app, if_neg (by omega), e39]
        exact ch 269 _ (by decide)

theorem two_153 {n : Nat} {a : Int} {m : Mem} (h : JJ (n + 1) m) : Cl 230 153 [1, a] (fun v u => ∃ m1, u = S9 0 m1 ∧ Cl 230 277 [249, a] (fun w u' => ∃ m2, u' = S9 0 m2 ∧ JJ n m2) (S9 0 m1)) (S9 0 m) := by
  obtain ⟨tc, pl, hC, hR, hX, hB, R, hG⟩ := h
  have hs := JC_s (BC_g 0 hC)
  have hr := JR_s (BR_g 0 hR)
  obtain ⟨⟨kv1, kv2, kv3⟩, ⟨hI, hD, hS, hO, hN⟩, ⟨⟨u1, u2, u3, u4, u5⟩, -⟩, -, hRc, hRr⟩ := id hG
  obtain ⟨k3, k4, k5, k6, k7⟩ := hX.2.1
  have hka : 0 ≤ a → a < 3 → (iand (ishr (m 1 12) a) 1 ≠ 0 ↔ m 285 a ≠ 0 ∧ m 286 a = m 249 7) := fun a0 a1 => by
    obtain ⟨-, z1, z2⟩ := hB.2 a a0 a1
    exact ⟨z1, z2⟩
  refine f_153 (d := 227) (g := gC 3 m) (BC_g 3 hC) (fun z => ⟨m, rfl, ?_⟩) (fun z m1 h0 f1 h1 => ⟨_, rfl, ?_⟩)
  · refine p_277x (d := 228) (fun z2 => ⟨_, rfl, ⟨tc, pl, BC_hi hC (by decide), BR_0 hR, ⟨RT_fr (fun x j q => upm_a _ _ _ _ _ _ (by omega)) hX.1, RKM_fr (fun x j q => by rw [upm_app, if_neg (by omega)]) hX.2⟩, RB_fr (Nat.le_succ n) (upm_a _ _ _ _ _ _ (by decide)) (upm_k (by decide)) (fun j => upm_a _ _ _ _ _ _ (by decide)) (fun j => upm_a _ _ _ _ _ _ (by decide)) hB, R, GS_fr (by omega) (by omega) (fun x j q => by rw [upm_app, if_neg (by unfold GCl at q; omega)]) hG⟩⟩) (fun z2 => absurd ⟨z2.1, z2.2.1, (hka z2.1 z2.2.1).2 z2.2.2⟩ z)
  · have c1 := FC_of h1
    have ch : ∀ x j, 249 ≤ x → upm m1 26 9 0 x j = m x j := fun x j q => c1 x j (Or.inl q)
    have e0 : ∀ x j, (x < 15 ∨ 24 < x) → ¬ (x = 26 ∧ j = 9) → upm m1 26 9 0 x j = m x j := fun x j q q2 => by rw [upm_app, if_neg q2]; exact f1.1 x j (by omega)
    generalize hm1 : upm m1 26 9 0 = m9 at *
    have hRm : BR tc pl m9 := BR_tr hR (fun x j q _ => ch x j q)
    have hJR := BR_g 3 hRm
    have h2 : JR 3 (gR 3 m9) tc pl (upm (cpf (upm m9 249 0 0) 287 (52 * a) 258 0 52) 249 39 0) := JR_up (JR_bk (Or.inr rfl) (JR_up hJR (by unfold frR; omega) (by simp [frc]) (by simp [BdR]))) (by unfold frR; omega) (by simp [frc]) (by simp [BdR])
    have r0 : ∀ x j, x ≠ 258 → ¬ (x = 249 ∧ (j = 0 ∨ j = 39)) → upm (cpf (upm m9 249 0 0) 287 (52 * a) 258 0 52) 249 39 0 x j = m9 x j := fun x j q q2 => by rw [upm_app, if_neg (by omega), cpf_n q, upm_app, if_neg (by omega)]
    have zz : m9 285 a ≠ 0 ∧ m9 286 a = m9 249 7 := by rw [ch 285 a (by decide), ch 286 a (by decide), ch 249 7 (by decide)]; exact (hka z.1 z.2.1).1 z.2.2
    refine p_277x (d := 228) (fun z2 => absurd ⟨z.1, z.2.1, zz⟩ z2) (fun z2 => ⟨_, rfl, ⟨tc, pl, ?_, ?_, ?_, ?_, R, ?_⟩⟩)
    · exact BC_tr (BC_of h1) (fun x j q => FR_of h2 x j (Or.inl q))
    · exact BR_of h2
    · exact RX_fr (Int.le_refl _) (fun x j q => FC_of h1 x j (frC_le (by decide) q)) (fun x j q => FR_of h2 x j (frR_le (by decide) q)) hX
    · exact RB_fr (Nat.le_succ n) ((FR_of h2 1 12 (Or.inl (by decide))).trans (FC_of h1 1 12 (by unfold frC; omega))) ((FR_of h2 249 7 (by unfold frR; omega)).trans (FC_of h1 249 7 (Or.inl (by decide)))) (fun j => (FR_of h2 285 j (by unfold frR; omega)).trans (FC_of h1 285 j (Or.inl (by decide)))) (fun j => (FR_of h2 286 j (by unfold frR; omega)).trans (FC_of h1 286 j (Or.inl (by decide)))) hB
    · refine GS_again (a := a) (by omega) (by omega) hG (fun x j q => ?_) ⟨z.1, z.2.1⟩ z.2.2 ?_ ?_ ?_ ⟨?_, fun j j0 j1 => ?_⟩ (fun y y0 y1 => ?_)
      · unfold KCl at q; rw [r0 x j (by omega) (by omega)]; exact e0 x j (by omega) (by omega)
      · rw [r0 26 8 (by decide) (by decide)]; exact e0 26 8 (by decide) (by decide)
      · rw [r0 26 9 (by decide) (by decide), ← hm1, upm_v]
      · rw [upm_v]
      · refine SE_tr (SE_st (m := m1) (fun x j x0 x1 => ?_)) (CPY_SE f1)
        rw [r0 x j (by omega) (by omega), ← hm1, upm_app, if_neg (by omega)]
      · rw [r0 18 j (by decide) (by omega), ← hm1, upm_app, if_neg (by omega)]
        exact CPY_hold f1 j0 j1
      · have q := cpf_at (m := upm m9 249 0 0) (a := 287) (i := 52 * a) (b := 258) (j := 0) y0 y1
        rw [Int.zero_add] at q
        rw [upm_app, if_neg (by omega), q, upm_app, if_neg (by omega)]
        exact ch 287 _ (by decide)

theorem two_152 {n : Nat} {a : Int} {m : Mem} (h : JJ (n + 1) m) : Cl 230 152 [1, a] (fun v u => ∃ m1, u = S9 0 m1 ∧ Cl 230 276 [249, a] (fun w u' => ∃ m2, u' = S9 0 m2 ∧ JJ n m2) (S9 0 m1)) (S9 0 m) := by
  obtain ⟨tc, pl, hC, hR, hX, hB, R, hG⟩ := h
  have hs := JC_s (BC_g 0 hC)
  have hr := JR_s (BR_g 0 hR)
  obtain ⟨⟨kv1, kv2, kv3⟩, ⟨hI, hD, hS, hO, hN⟩, ⟨⟨u1, u2, u3, u4, u5⟩, -⟩, -, hRc, hRr⟩ := id hG
  obtain ⟨k3, k4, k5, k6, k7⟩ := hX.2.1
  refine f_152 (d := 227) (g := gC 2 m) (BC_g 2 hC) (fun z => ⟨m, rfl, ?_⟩) (fun z m1 h0 f1 h1 => ⟨_, rfl, ?_⟩)
  · refine p_276x (d := 228) (fun z2 => ⟨_, rfl, ⟨tc, pl, BC_hi hC (by decide), BR_0 hR, ⟨RT_fr (fun x j q => upm_a _ _ _ _ _ _ (by omega)) hX.1, RKM_fr (fun x j q => by rw [upm_app, if_neg (by omega)]) hX.2⟩, RB_fr (Nat.le_succ n) (upm_a _ _ _ _ _ _ (by decide)) (upm_k (by decide)) (fun j => upm_a _ _ _ _ _ _ (by decide)) (fun j => upm_a _ _ _ _ _ _ (by decide)) hB, R, GS_fr (by omega) (by omega) (fun x j q => by rw [upm_app, if_neg (by unfold GCl at q; omega)]) hG⟩⟩) (fun z2 => absurd z2 z)
  · have c1 := FC_of h1
    have ch : ∀ x j, 249 ≤ x → upm m1 1 12 (ior (m 1 12) (ishl 1 a)) x j = m x j := fun x j q => c1 x j (Or.inl q)
    have e0 : ∀ x j, (x < 219 + 10 * a ∨ 219 + 10 * a + 9 < x) → ¬ (x = 1 ∧ j = 12) → upm m1 1 12 (ior (m 1 12) (ishl 1 a)) x j = m x j := fun x j q q2 => by rw [upm_app, if_neg q2]; exact f1.1 x j q
    generalize hm1 : upm m1 1 12 (ior (m 1 12) (ishl 1 a)) = m9 at *
    have hRm : BR tc pl m9 := BR_tr hR (fun x j q _ => ch x j q)
    have hJR := BR_g 2 hRm
    have h2 : JR 2 (gR 2 m9) tc pl (cpf (upm (upm (upm m9 249 0 0) 285 a 1) 286 a (m9 249 7)) 258 0 287 (52 * a) 52) := JR_kp (JR_up (JR_up (JR_up hJR (by unfold frR; omega) (by simp [frc]) (by simp [BdR])) (by unfold frR; omega) (by simp [frc]) (by simp [BdR])) (by unfold frR; omega) (by simp [frc]) (by simp [BdR])) (fun x j q => by have q : frR 2 x j := q; unfold frR at q; omega)
    have r0 : ∀ x j, x ≠ 287 → x ≠ 285 → x ≠ 286 → ¬ (x = 249 ∧ j = 0) → cpf (upm (upm (upm m9 249 0 0) 285 a 1) 286 a (m9 249 7)) 258 0 287 (52 * a) 52 x j = m9 x j := fun x j q q1 q2 q3 => by rw [cpf_n q, upm_app, if_neg (by omega), upm_app, if_neg (by omega), upm_app, if_neg (by omega)]
    refine p_276x (d := 228) (fun z2 => absurd z z2) (fun z2 => ⟨_, rfl, ⟨tc, pl, ?_, ?_, ?_, ?_, R, ?_⟩⟩)
    · exact BC_tr (BC_of h1) (fun x j q => FR_of h2 x j (Or.inl q))
    · exact BR_of h2
    · exact RX_fr (Int.le_refl _) (fun x j q => FC_of h1 x j (frC_le (by decide) q)) (fun x j q => FR_of h2 x j (frR_le (by decide) q)) hX
    · refine RB_keep z ?_ ?_ (fun j => ?_) (fun j => ?_) hB
      · rw [r0 1 12 (by decide) (by decide) (by decide) (by decide), ← hm1, upm_v]
      · rw [r0 249 7 (by decide) (by decide) (by decide) (by decide)]; exact ch 249 7 (by decide)
      · rw [cpf_n (by decide), upm_f _ _ _ _ _ (by decide), upm_app, upm_f _ _ _ _ _ (by decide), ch 285 j (by decide)]; simp
      · rw [cpf_n (by decide), upm_app, upm_f _ _ _ _ _ (by decide), upm_f _ _ _ _ _ (by decide), ch 286 j (by decide), ch 249 7 (by decide)]; simp
    · refine GS_keep (a := a) (by omega) (by omega) hG (fun x j q q1 q2 q3 => ?_) z (fun i i0 i1 q => ?_) ⟨?_, fun j j0 j1 => ?_⟩ (fun i i0 i1 q x j x0 x1 => ?_) (fun y y0 y1 => ?_) (fun y q => ?_)
      · unfold GCl at q; rw [r0 x j (by omega) (by omega) (by omega) (by omega)]; exact e0 x j (by omega) (by omega)
      · rw [r0 1 12 (by decide) (by decide) (by decide) (by decide), ← hm1, upm_v, bit_or ⟨z.1, by omega⟩ ⟨i0, by omega⟩] at q
        by_cases y : i = a
        · exact Or.inl y
        · rw [if_neg y] at q; exact Or.inr q
      · refine SE_tr (SE_st (m := m1) (fun x j x0 x1 => ?_)) (CPY_SE f1)
        rw [r0 x j (by omega) (by omega) (by omega) (by omega), ← hm1, upm_app, if_neg (by omega)]
      · rw [r0 _ j (by omega) (by omega) (by omega) (by omega), ← hm1, upm_app, if_neg (by omega)]
        exact CPY_hold f1 j0 j1
      · rw [r0 x j (by omega) (by omega) (by omega) (by omega)]; exact e0 x j (by omega) (by omega)
      · have q := cpf_at (m := upm (upm (upm m9 249 0 0) 285 a 1) 286 a (m9 249 7)) (a := 258) (i := 0) (b := 287) (j := 52 * a) y0 y1
        rw [Int.zero_add] at q
        rw [q, upm_app, if_neg (by omega), upm_app, if_neg (by omega), upm_app, if_neg (by omega)]
        exact ch 258 _ (by decide)
      · rw [cpf_hi (by omega), upm_app, if_neg (by omega), upm_app, if_neg (by omega), upm_app, if_neg (by omega)]
        exact ch 287 _ (by decide)

/-- what THE RULE's text leaves alone on both sides -/
theorem e41 {m m1 m2 : Mem} (c : ∀ x j, frC 3 x j → m1 x j = m x j) (p1 : ∀ x j, Kp4 x j → m1 x j = m x j) (r : ∀ x j, frR 3 x j → m2 x j = m1 x j) (p2 : ∀ x j, Kp4R x j → m2 x j = m1 x j) {x j : Int} (h : GCl x j) (hn : ¬ (x = 5 ∨ (x = 4 ∧ j = 1) ∨ x = 265 ∨ (x = 249 ∧ j = 32))) : m2 x j = m x j := by
  unfold GCl at h
  have lo : x < 249 → m2 x j = m1 x j := fun q => r x j (Or.inl q)
  have hi : 249 ≤ x → m1 x j = m x j := fun q => c x j (Or.inl q)
  rcases h with h | h | h | h | h | h | h | h | h | h | h | h | h
  · exact (lo (by omega)).trans (c x j (Or.inr (Or.inr (Or.inl ⟨by decide, h⟩))))
  · exact (lo (by omega)).trans (p1 x j (Or.inl h))
  · exact (lo (by omega)).trans (p1 x j (Or.inr (Or.inl ⟨h.1, by omega⟩)))
  · exact (lo (by omega)).trans (p1 x j (Or.inr (Or.inr (Or.inl h))))
  · exact (lo (by omega)).trans (p1 x j (Or.inr (Or.inr (Or.inr ⟨by omega, by omega, by omega⟩))))
  · exact (lo (by omega)).trans (c x j (Or.inr (Or.inr (Or.inr (Or.inl ⟨by decide, h⟩)))))
  · exact absurd (Or.inl h) hn
  · exact absurd (Or.inr (Or.inl h)) hn
  · obtain ⟨h1, h2 | h2⟩ := h
    · exact absurd (Or.inr (Or.inr (Or.inr ⟨h1, h2⟩))) hn
    · exact (p2 x j (Or.inr (Or.inr (Or.inr ⟨h1, h2⟩)))).trans (hi (by omega))
  · by_cases z : x = 258
    · exact (p2 x j (Or.inl z)).trans (hi (by omega))
    · exact (r x j (Or.inr (Or.inr (Or.inr (Or.inl ⟨by decide, Or.inl ⟨by omega, by omega⟩⟩))))).trans (hi (by omega))
  · exact absurd (Or.inr (Or.inr (Or.inl h))) hn
  · exact (p2 x j (Or.inr (Or.inl h))).trans (hi (by omega))
  · exact (p2 x j (Or.inr (Or.inr (Or.inl h)))).trans (hi (by omega))
theorem Co_pos {st : ENV → Int → List Int → List Int} {A : Int → Int} {j : Int} {f : DEN} (h : Co st A 0 j f) : 0 < j := by
  by_cases z : 0 < j
  · exact z
  · have q := h.2 (fun _ => 0) (fun _ => inI_0) []
    rw [rn_z (by omega)] at q
    exact absurd q (by simp)
set_option maxHeartbeats 8000000 in
theorem two_41 {n : Nat} {m : Mem} (h : JJ (n + 1) m) : Cl 230 41 [1] (fun v u => ∃ m1, u = S9 0 m1 ∧ Cl 230 189 [249] (fun w u' => ∃ m2, u' = S9 0 m2 ∧ JJ n m2) (S9 0 m1)) (S9 0 m) := by
  obtain ⟨tc, pl, hC, hR, hX, hB, R, hG⟩ := h
  have hs := JC_s (BC_g 0 hC)
  have hr := JR_s (BR_g 0 hR)
  obtain ⟨⟨kv1, kv2, kv3⟩, ⟨hI, hD, hS, hO, hN⟩, ⟨⟨u1, u2, u3, u4, u5⟩, -⟩, -, hRc, hRr⟩ := id hG
  obtain ⟨k3, k4, k5, k6, k7⟩ := hX.2.1
  refine f_41 (d := 200) (g := gC 3 m) hX.1.2.1 (BC_g 3 hC) (fun v m1 h1 p1 => ⟨m1, rfl, ?_⟩)
  have e60 : m1 260 = m 260 := by funext j; exact FC_of h1 260 j (Or.inl (by decide))
  refine f_189 (d := 15) (g := gR 3 m1) (by rw [e60]; exact hX.1.2.2) (BR_g 3 (BR_tr hR (fun x j q _ => FC_of h1 x j (Or.inl q)))) (fun w m2 h2 p2 => ⟨m2, rfl, ⟨0, pl, ?_, ?_, ?_, ?_, ?_⟩⟩)
  · exact BC_tr (BC_of h1) (fun x j q => FR_of h2 x j (Or.inl q))
  · exact BR_of h2
  · exact RX_fr hC.1.1 (fun x j q => FC_of h1 x j (frC_le (by decide) q)) (fun x j q => FR_of h2 x j (frR_le (by decide) q)) hX
  · exact RB_fr (Nat.le_succ n) ((FR_of h2 1 12 (Or.inl (by decide))).trans (FC_of h1 1 12 (by unfold frC; omega))) ((FR_of h2 249 7 (by unfold frR; omega)).trans (FC_of h1 249 7 (Or.inl (by decide)))) (fun j => (FR_of h2 285 j (by unfold frR; omega)).trans (FC_of h1 285 j (Or.inl (by decide)))) (fun j => (FR_of h2 286 j (by unfold frR; omega)).trans (FC_of h1 286 j (Or.inl (by decide)))) hB
  · obtain ⟨p1v, p1c, p1f⟩ := p1
    obtain ⟨p2v, p2c, p2f⟩ := p2
    have hv : v = w := by rw [p1v, p2v, e60]; exact (RV_e hX.1.1).symm
    subst hv
    have ch : ∀ x j, 249 ≤ x → m1 x j = m x j := fun x j q => FC_of h1 x j (Or.inl q)
    have lo : ∀ x j, x < 249 → m2 x j = m1 x j := fun x j q => FR_of h2 x j (Or.inl q)
    have eG : ∀ x j, GCl x j → ¬ (x = 5 ∨ (x = 4 ∧ j = 1) ∨ x = 265 ∨ (x = 249 ∧ j = 32)) → m2 x j = m x j := fun x j q q2 => e41 (FC_of h1) p1f (FR_of h2) p2f q q2
    have hnew : ∀ R', RuC m2 R' → RuR m2 R' → GS R' m2 := fun R' hc hr => by
      have hGm : GS R (fun x j => if x = 5 ∨ (x = 4 ∧ j = 1) ∨ x = 265 ∨ (x = 249 ∧ j = 32) then m x j else m2 x j) := GS_fr (by omega) (by omega) (fun x j q => by
        by_cases z : x = 5 ∨ (x = 4 ∧ j = 1) ∨ x = 265 ∨ (x = 249 ∧ j = 32)
        · exact if_pos z
        · show (if _ then _ else _) = _
          rw [if_neg z]; exact eG x j q z) hG
      obtain ⟨g1, ⟨g21, g22, g23, g24, g25⟩, ⟨g3, g4⟩, g5, -, -⟩ := hGm
      have c : ∀ x j, ¬ (x = 5 ∨ (x = 4 ∧ j = 1) ∨ x = 265 ∨ (x = 249 ∧ j = 32)) → (fun x j => if x = 5 ∨ (x = 4 ∧ j = 1) ∨ x = 265 ∨ (x = 249 ∧ j = 32) then m x j else m2 x j) x j = m2 x j := fun x j z => if_neg z
      have e8 : ∀ j, m2 8 j = m 8 j := fun j => eG 8 j (by unfold GCl; omega) (by omega)
      have tr : ∀ s i b, (s = 15 ∨ 31 ≤ s) → s ≤ 239 → (i = 258 ∨ i = 269 ∨ i = 287) → OKS (m2 8 0) (m2 8 1) (m2 8 2) (m2 8 3) (fun x j => if x = 5 ∨ (x = 4 ∧ j = 1) ∨ x = 265 ∨ (x = 249 ∧ j = 32) then m x j else m2 x j) s i b → OKS (m2 8 0) (m2 8 1) (m2 8 2) (m2 8 3) m2 s i b := fun s i b q q2 q3 ho =>
        OKS_tr (by rw [e8]; omega) (by rw [e8]; omega) ho (SE_st (fun x j x0 x1 => (c x j (by omega)).symm)) (fun j _ _ => (c _ j (by omega)).symm) (SE_rw (fun y _ _ => (c i _ (by omega)).symm))
      exact ⟨g1, tr 15 258 0 (Or.inl rfl) (by decide) (Or.inl rfl) ⟨g21, g22, g23, g24, g25⟩, ⟨g3, fun i i0 i1 => tr _ _ _ (by omega) (by omega) (by omega) (g4 i i0 i1)⟩, fun i i0 i1 hb => tr _ _ _ (by omega) (by omega) (by omega) (g5 i i0 i1 hb), hc, hr⟩
    have l5 : m2 5 = m1 5 := by funext j; exact lo 5 j (by decide)
    have l41 : m2 4 1 = m1 4 1 := lo 4 1 (by decide)
    rcases p1c with ⟨b1, b2, b3⟩ | ⟨b1, b2, b3⟩ | ⟨b1, b2, b3⟩
    · rcases p2c with ⟨d1, d2, d3⟩ | ⟨d1, -⟩ | ⟨d1, -⟩
      · exact ⟨R, hnew R (RuC_fr hRc (l41.trans b3) (fun j => by rw [l5, b2])) (RuR_fr hRr (d3.trans (ch 249 32 (by decide))) (fun j => by rw [d2]; exact ch 265 j (by decide)))⟩
      · exact absurd d1 b1
      · exact absurd d1 b1
    · rcases p2c with ⟨d1, -⟩ | ⟨d1, d2, d3⟩ | ⟨d1, d2, d3⟩
      · exact absurd b1 d1
      · exact ⟨rl0, hnew rl0 (Or.inl ⟨l41.trans b3, rfl⟩) (Or.inl ⟨d3, rfl⟩)⟩
      · omega
    · rcases p2c with ⟨d1, -⟩ | ⟨d1, d2, d3⟩ | ⟨d1, d2, d3⟩
      · exact absurd b1 d1
      · omega
      · have hX9 : EXp (m1 260) (min tc 40) 4 0 = EXp (m 3) (min tc 40) 4 0 := by rw [e60]; exact EX_e (fun j j0 j1 => hX.1.1 j j0 (by omega)) 4 0 (by decide)
        rw [hX9] at d3
        exact ⟨rlD (EXp (m 3) (min tc 40) 4 0).2.2, hnew _ (Or.inr ⟨by rw [l41]; exact Co_pos b3, _, by rw [l5, l41]; exact b3, rfl⟩) (Or.inr ⟨Co_pos d3, _, d3, rfl⟩)⟩

