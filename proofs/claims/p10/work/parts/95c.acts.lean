/-! the acts on both sides -/
theorem x0C_o (m : Mem) : x0C m 10 0 = m 15 10 := by
  unfold x0C; rw [asU_f _ _ _ _ (by decide), asU_f _ _ _ _ (by decide), asU_f _ _ _ _ (by decide), c_op]
theorem two_57 {n : Nat} {a b : Int} {m : Mem} (h : JJ (n + 1) m) : Cl 230 57 [1, a, b] (fun v u => ∃ m1, u = S9 0 m1 ∧ Cl 230 214 [249, a, b] (fun w u' => ∃ m2, u' = S9 0 m2 ∧ JJ n m2) (S9 0 m1)) (S9 0 m) := by
  obtain ⟨tc, pl, hC, hR, hX, hB, R, hG⟩ := h
  have hs := JC_s (BC_g 0 hC)
  have hr := JR_s (BR_g 0 hR)
  obtain ⟨⟨kv1, kv2, kv3⟩, ⟨hI, hD, hS, hO, hN⟩, ⟨⟨u1, u2, u3, u4, u5⟩, -⟩, -, hRc, hRr⟩ := id hG
  obtain ⟨k3, k4, k5, k6, k7⟩ := hX.2.1
  refine f_57 (d := 226) (g := gC 3 m) (L := m 8 0) (BC_g 3 hC) hI hD ⟨u1, u2⟩ ⟨u3, u4⟩ (fun v m1 h1 a1 e1 hD1 => ⟨m1, rfl, ?_⟩)
  have c1 := FC_of h1
  have ch : ∀ x j, 249 ≤ x → m1 x j = m x j := fun x j q => c1 x j (Or.inl q)
  have e58 : asR m1 258 0 = asR m 258 0 := asR_fr (fun y _ _ => ch 258 y (by decide)) (fun y _ _ => ch 249 y (by decide))
  have q4 : m1 249 4 = m 8 1 := (ch 249 4 (by decide)).trans k4
  have q5 : m1 249 5 = m 8 2 := (ch 249 5 (by decide)).trans k5
  have q6 : m1 249 6 = m 8 3 := (ch 249 6 (by decide)).trans k6
  have hIS : IV (m 8 0) (m 8 2) (m 8 3) (asR m 258 0) := IV_SE hI hS
  have hIR : IV (m 8 0) (m1 249 5) (m1 249 6) (asR m1 258 0) := by rw [q5, q6, e58]; exact hIS
  have hIx : IV (m 8 0) (m 8 2) (m 8 3) (x0C m) := IV_SE hI (SE_sy (x0_SE m))
  have hSx : SE (m 8 2) (m 8 3) (x0C m) (asR m 258 0) := SE_tr (x0_SE m) hS
  have hOx : DB (m 8 1) (x0C m 10 0) := by rw [x0C_o]; exact hO
  have hNx : BN (m 8 2) (m 8 3) (x0C m) := BN_SE hN (SE_sy (x0_SE m))
  have hRm : BR tc pl m1 := BR_tr hR (fun x j q _ => ch x j q)
  refine f_214 (d := 225) (g := gR 3 m1) (pl := pl) (L := m 8 0) (BR_g 3 hRm) hIR (fun w m2 h2 a2 e2 => ?_)
  rw [q5, q6, e58] at e2
  have hE : AF (m 8 2) (m 8 3) (aTake (m 8 2) (m 8 3) (x0C m) a b) (aTake (m 8 2) (m 8 3) (asR m 258 0) a b) := take_f hIx hSx
  have hw : w = v := by
    have z := hE.1
    rw [← e1, ← e2] at z
    exact z.symm
  subst hw
  refine ⟨m2, rfl, ⟨tc, pl, ?_, ?_, ?_, ?_, R, ?_⟩⟩
  · exact BC_tr (BC_of h1) (fun x j q => FR_of h2 x j (Or.inl q))
  · exact BR_of h2
  · exact RX_fr (Int.le_refl _) (fun x j q => FC_of h1 x j (frC_le (by decide) q)) (fun x j q => FR_of h2 x j (frR_le (by decide) q)) hX
  · exact RB_fr (Nat.le_succ n) ((FR_of h2 1 12 (Or.inl (by decide))).trans (FC_of h1 1 12 (by unfold frC; omega))) ((FR_of h2 249 7 (by unfold frR; omega)).trans (FC_of h1 249 7 (Or.inl (by decide)))) (fun j => (FR_of h2 285 j (by unfold frR; omega)).trans (FC_of h1 285 j (Or.inl (by decide)))) (fun j => (FR_of h2 286 j (by unfold frR; omega)).trans (FC_of h1 286 j (Or.inl (by decide)))) hB
  · exact GS_two (by omega) (by omega) hG a1 a2 (congrArg Prod.snd e1) (congrArg Prod.snd e2) (take_i hIx) (by have z := hD1; rw [show asC m1 15 = _ from congrArg Prod.snd e1] at z; exact z) hE.2 (by rw [take_o]; exact hOx) (take_b hNx)

theorem two_87 {n : Nat} {a : Int} {m : Mem} (h : JJ (n + 1) m) : Cl 230 87 [1, a] (fun v u => ∃ m1, u = S9 0 m1 ∧ Cl 230 228 [249, a] (fun w u' => ∃ m2, u' = S9 0 m2 ∧ JJ n m2) (S9 0 m1)) (S9 0 m) := by
  obtain ⟨tc, pl, hC, hR, hX, hB, R, hG⟩ := h
  have hs := JC_s (BC_g 0 hC)
  have hr := JR_s (BR_g 0 hR)
  obtain ⟨⟨kv1, kv2, kv3⟩, ⟨hI, hD, hS, hO, hN⟩, ⟨⟨u1, u2, u3, u4, u5⟩, -⟩, -, hRc, hRr⟩ := id hG
  obtain ⟨k3, k4, k5, k6, k7⟩ := hX.2.1
  refine f_87 (d := 226) (g := gC 3 m) (L := m 8 0) (BC_g 3 hC) hI hD ⟨u1, u2⟩ ⟨u3, u4⟩ (fun v m1 h1 a1 e1 hD1 => ⟨m1, rfl, ?_⟩)
  have c1 := FC_of h1
  have ch : ∀ x j, 249 ≤ x → m1 x j = m x j := fun x j q => c1 x j (Or.inl q)
  have e58 : asR m1 258 0 = asR m 258 0 := asR_fr (fun y _ _ => ch 258 y (by decide)) (fun y _ _ => ch 249 y (by decide))
  have q4 : m1 249 4 = m 8 1 := (ch 249 4 (by decide)).trans k4
  have q5 : m1 249 5 = m 8 2 := (ch 249 5 (by decide)).trans k5
  have q6 : m1 249 6 = m 8 3 := (ch 249 6 (by decide)).trans k6
  have hIS : IV (m 8 0) (m 8 2) (m 8 3) (asR m 258 0) := IV_SE hI hS
  have hIR : IV (m 8 0) (m1 249 5) (m1 249 6) (asR m1 258 0) := by rw [q5, q6, e58]; exact hIS
  have hIx : IV (m 8 0) (m 8 2) (m 8 3) (x0C m) := IV_SE hI (SE_sy (x0_SE m))
  have hSx : SE (m 8 2) (m 8 3) (x0C m) (asR m 258 0) := SE_tr (x0_SE m) hS
  have hOx : DB (m 8 1) (x0C m 10 0) := by rw [x0C_o]; exact hO
  have hNx : BN (m 8 2) (m 8 3) (x0C m) := BN_SE hN (SE_sy (x0_SE m))
  have hRm : BR tc pl m1 := BR_tr hR (fun x j q _ => ch x j q)
  refine f_228 (d := 225) (g := gR 3 m1) (pl := pl) (L := m 8 0) (BR_g 3 hRm) hIR (fun w m2 h2 a2 e2 => ?_)
  rw [q6, e58] at e2
  have hE : AF (m 8 2) (m 8 3) (aChange (m 8 3) (x0C m) a) (aChange (m 8 3) (asR m 258 0) a) := change_f hSx
  have hw : w = v := by
    have z := hE.1
    rw [← e1, ← e2] at z
    exact z.symm
  subst hw
  refine ⟨m2, rfl, ⟨tc, pl, ?_, ?_, ?_, ?_, R, ?_⟩⟩
  · exact BC_tr (BC_of h1) (fun x j q => FR_of h2 x j (Or.inl q))
  · exact BR_of h2
  · exact RX_fr (Int.le_refl _) (fun x j q => FC_of h1 x j (frC_le (by decide) q)) (fun x j q => FR_of h2 x j (frR_le (by decide) q)) hX
  · exact RB_fr (Nat.le_succ n) ((FR_of h2 1 12 (Or.inl (by decide))).trans (FC_of h1 1 12 (by unfold frC; omega))) ((FR_of h2 249 7 (by unfold frR; omega)).trans (FC_of h1 249 7 (Or.inl (by decide)))) (fun j => (FR_of h2 285 j (by unfold frR; omega)).trans (FC_of h1 285 j (Or.inl (by decide)))) (fun j => (FR_of h2 286 j (by unfold frR; omega)).trans (FC_of h1 286 j (Or.inl (by decide)))) hB
  · exact GS_two (by omega) (by omega) hG a1 a2 (congrArg Prod.snd e1) (congrArg Prod.snd e2) (change_i hIx) (by have z := hD1; rw [show asC m1 15 = _ from congrArg Prod.snd e1] at z; exact z) hE.2 (by rw [change_o]; exact hOx) (change_b hNx)

theorem two_89 {n : Nat} {a b : Int} {m : Mem} (h : JJ (n + 1) m) : Cl 230 89 [1, a, b] (fun v u => ∃ m1, u = S9 0 m1 ∧ Cl 230 230 [249, a, b] (fun w u' => ∃ m2, u' = S9 0 m2 ∧ JJ n m2) (S9 0 m1)) (S9 0 m) := by
  obtain ⟨tc, pl, hC, hR, hX, hB, R, hG⟩ := h
  have hs := JC_s (BC_g 0 hC)
  have hr := JR_s (BR_g 0 hR)
  obtain ⟨⟨kv1, kv2, kv3⟩, ⟨hI, hD, hS, hO, hN⟩, ⟨⟨u1, u2, u3, u4, u5⟩, -⟩, -, hRc, hRr⟩ := id hG
  obtain ⟨k3, k4, k5, k6, k7⟩ := hX.2.1
  refine f_89 (d := 226) (g := gC 3 m) (L := m 8 0) (BC_g 3 hC) hI hD ⟨u1, u2⟩ ⟨u3, u4⟩ (fun v m1 h1 a1 e1 hD1 => ⟨m1, rfl, ?_⟩)
  have c1 := FC_of h1
  have ch : ∀ x j, 249 ≤ x → m1 x j = m x j := fun x j q => c1 x j (Or.inl q)
  have e58 : asR m1 258 0 = asR m 258 0 := asR_fr (fun y _ _ => ch 258 y (by decide)) (fun y _ _ => ch 249 y (by decide))
  have q4 : m1 249 4 = m 8 1 := (ch 249 4 (by decide)).trans k4
  have q5 : m1 249 5 = m 8 2 := (ch 249 5 (by decide)).trans k5
  have q6 : m1 249 6 = m 8 3 := (ch 249 6 (by decide)).trans k6
  have hIS : IV (m 8 0) (m 8 2) (m 8 3) (asR m 258 0) := IV_SE hI hS
  have hIR : IV (m 8 0) (m1 249 5) (m1 249 6) (asR m1 258 0) := by rw [q5, q6, e58]; exact hIS
  have hIx : IV (m 8 0) (m 8 2) (m 8 3) (x0C m) := IV_SE hI (SE_sy (x0_SE m))
  have hSx : SE (m 8 2) (m 8 3) (x0C m) (asR m 258 0) := SE_tr (x0_SE m) hS
  have hOx : DB (m 8 1) (x0C m 10 0) := by rw [x0C_o]; exact hO
  have hNx : BN (m 8 2) (m 8 3) (x0C m) := BN_SE hN (SE_sy (x0_SE m))
  have hRm : BR tc pl m1 := BR_tr hR (fun x j q _ => ch x j q)
  refine f_230 (d := 225) (g := gR 3 m1) (pl := pl) (L := m 8 0) (BR_g 3 hRm) hIR (fun w m2 h2 a2 e2 => ?_)
  rw [q6, e58] at e2
  have hE : AF (m 8 2) (m 8 3) (aGive (m 8 3) (x0C m) a b) (aGive (m 8 3) (asR m 258 0) a b) := give_f hSx
  have hw : w = v := by
    have z := hE.1
    rw [← e1, ← e2] at z
    exact z.symm
  subst hw
  refine ⟨m2, rfl, ⟨tc, pl, ?_, ?_, ?_, ?_, R, ?_⟩⟩
  · exact BC_tr (BC_of h1) (fun x j q => FR_of h2 x j (Or.inl q))
  · exact BR_of h2
  · exact RX_fr (Int.le_refl _) (fun x j q => FC_of h1 x j (frC_le (by decide) q)) (fun x j q => FR_of h2 x j (frR_le (by decide) q)) hX
  · exact RB_fr (Nat.le_succ n) ((FR_of h2 1 12 (Or.inl (by decide))).trans (FC_of h1 1 12 (by unfold frC; omega))) ((FR_of h2 249 7 (by unfold frR; omega)).trans (FC_of h1 249 7 (Or.inl (by decide)))) (fun j => (FR_of h2 285 j (by unfold frR; omega)).trans (FC_of h1 285 j (Or.inl (by decide)))) (fun j => (FR_of h2 286 j (by unfold frR; omega)).trans (FC_of h1 286 j (Or.inl (by decide)))) hB
  · exact GS_two (by omega) (by omega) hG a1 a2 (congrArg Prod.snd e1) (congrArg Prod.snd e2) (give_i hIx) (by have z := hD1; rw [show asC m1 15 = _ from congrArg Prod.snd e1] at z; exact z) hE.2 (by rw [give_o]; exact hOx) (give_b hNx)

theorem two_91 {n : Nat} {a b : Int} {m : Mem} (h : JJ (n + 1) m) : Cl 230 91 [1, a, b] (fun v u => ∃ m1, u = S9 0 m1 ∧ Cl 230 232 [249, a, b] (fun w u' => ∃ m2, u' = S9 0 m2 ∧ JJ n m2) (S9 0 m1)) (S9 0 m) := by
  obtain ⟨tc, pl, hC, hR, hX, hB, R, hG⟩ := h
  have hs := JC_s (BC_g 0 hC)
  have hr := JR_s (BR_g 0 hR)
  obtain ⟨⟨kv1, kv2, kv3⟩, ⟨hI, hD, hS, hO, hN⟩, ⟨⟨u1, u2, u3, u4, u5⟩, -⟩, -, hRc, hRr⟩ := id hG
  obtain ⟨k3, k4, k5, k6, k7⟩ := hX.2.1
  refine f_91 (d := 226) (g := gC 3 m) (L := m 8 0) (BC_g 3 hC) hI hD ⟨u1, u2⟩ ⟨u3, u4⟩ (fun v m1 h1 a1 e1 hD1 => ⟨m1, rfl, ?_⟩)
  have c1 := FC_of h1
  have ch : ∀ x j, 249 ≤ x → m1 x j = m x j := fun x j q => c1 x j (Or.inl q)
  have e58 : asR m1 258 0 = asR m 258 0 := asR_fr (fun y _ _ => ch 258 y (by decide)) (fun y _ _ => ch 249 y (by decide))
  have q4 : m1 249 4 = m 8 1 := (ch 249 4 (by decide)).trans k4
  have q5 : m1 249 5 = m 8 2 := (ch 249 5 (by decide)).trans k5
  have q6 : m1 249 6 = m 8 3 := (ch 249 6 (by decide)).trans k6
  have hIS : IV (m 8 0) (m 8 2) (m 8 3) (asR m 258 0) := IV_SE hI hS
  have hIR : IV (m 8 0) (m1 249 5) (m1 249 6) (asR m1 258 0) := by rw [q5, q6, e58]; exact hIS
  have hIx : IV (m 8 0) (m 8 2) (m 8 3) (x0C m) := IV_SE hI (SE_sy (x0_SE m))
  have hSx : SE (m 8 2) (m 8 3) (x0C m) (asR m 258 0) := SE_tr (x0_SE m) hS
  have hOx : DB (m 8 1) (x0C m 10 0) := by rw [x0C_o]; exact hO
  have hNx : BN (m 8 2) (m 8 3) (x0C m) := BN_SE hN (SE_sy (x0_SE m))
  have hRm : BR tc pl m1 := BR_tr hR (fun x j q _ => ch x j q)
  refine f_232 (d := 227) (g := gR 3 m1) (pl := pl) (L := m 8 0) (BR_g 3 hRm) hIR (fun w m2 h2 a2 e2 => ?_)
  rw [q6, e58] at e2
  have hE : AF (m 8 2) (m 8 3) (aFold (m 8 3) (x0C m) a b) (aFold (m 8 3) (asR m 258 0) a b) := fold_f hSx
  have hw : w = v := by
    have z := hE.1
    rw [← e1, ← e2] at z
    exact z.symm
  subst hw
  refine ⟨m2, rfl, ⟨tc, pl, ?_, ?_, ?_, ?_, R, ?_⟩⟩
  · exact BC_tr (BC_of h1) (fun x j q => FR_of h2 x j (Or.inl q))
  · exact BR_of h2
  · exact RX_fr (Int.le_refl _) (fun x j q => FC_of h1 x j (frC_le (by decide) q)) (fun x j q => FR_of h2 x j (frR_le (by decide) q)) hX
  · exact RB_fr (Nat.le_succ n) ((FR_of h2 1 12 (Or.inl (by decide))).trans (FC_of h1 1 12 (by unfold frC; omega))) ((FR_of h2 249 7 (by unfold frR; omega)).trans (FC_of h1 249 7 (Or.inl (by decide)))) (fun j => (FR_of h2 285 j (by unfold frR; omega)).trans (FC_of h1 285 j (Or.inl (by decide)))) (fun j => (FR_of h2 286 j (by unfold frR; omega)).trans (FC_of h1 286 j (Or.inl (by decide)))) hB
  · exact GS_two (by omega) (by omega) hG a1 a2 (congrArg Prod.snd e1) (congrArg Prod.snd e2) (fold_i hIx) (by have z := hD1; rw [show asC m1 15 = _ from congrArg Prod.snd e1] at z; exact z) hE.2 (by rw [fold_o]; exact hOx) (fold_b hNx)

theorem two_93 {n : Nat} {a b : Int} {m : Mem} (h : JJ (n + 1) m) : Cl 230 93 [1, a, b] (fun v u => ∃ m1, u = S9 0 m1 ∧ Cl 230 233 [249, a, b] (fun w u' => ∃ m2, u' = S9 0 m2 ∧ JJ n m2) (S9 0 m1)) (S9 0 m) := by
  obtain ⟨tc, pl, hC, hR, hX, hB, R, hG⟩ := h
  have hs := JC_s (BC_g 0 hC)
  have hr := JR_s (BR_g 0 hR)
  obtain ⟨⟨kv1, kv2, kv3⟩, ⟨hI, hD, hS, hO, hN⟩, ⟨⟨u1, u2, u3, u4, u5⟩, -⟩, -, hRc, hRr⟩ := id hG
  obtain ⟨k3, k4, k5, k6, k7⟩ := hX.2.1
  refine f_93 (d := 226) (g := gC 3 m) (L := m 8 0) (BC_g 3 hC) hI hD ⟨u1, u2⟩ ⟨u3, u4⟩ (fun v m1 h1 a1 e1 hD1 => ⟨m1, rfl, ?_⟩)
  have c1 := FC_of h1
  have ch : ∀ x j, 249 ≤ x → m1 x j = m x j := fun x j q => c1 x j (Or.inl q)
  have e58 : asR m1 258 0 = asR m 258 0 := asR_fr (fun y _ _ => ch 258 y (by decide)) (fun y _ _ => ch 249 y (by decide))
  have q4 : m1 249 4 = m 8 1 := (ch 249 4 (by decide)).trans k4
  have q5 : m1 249 5 = m 8 2 := (ch 249 5 (by decide)).trans k5
  have q6 : m1 249 6 = m 8 3 := (ch 249 6 (by decide)).trans k6
  have hIS : IV (m 8 0) (m 8 2) (m 8 3) (asR m 258 0) := IV_SE hI hS
  have hIR : IV (m 8 0) (m1 249 5) (m1 249 6) (asR m1 258 0) := by rw [q5, q6, e58]; exact hIS
  have hIx : IV (m 8 0) (m 8 2) (m 8 3) (x0C m) := IV_SE hI (SE_sy (x0_SE m))
  have hSx : SE (m 8 2) (m 8 3) (x0C m) (asR m 258 0) := SE_tr (x0_SE m) hS
  have hOx : DB (m 8 1) (x0C m 10 0) := by rw [x0C_o]; exact hO
  have hNx : BN (m 8 2) (m 8 3) (x0C m) := BN_SE hN (SE_sy (x0_SE m))
  have hRm : BR tc pl m1 := BR_tr hR (fun x j q _ => ch x j q)
  have hkd : ∀ p, 0 ≤ p → p < m 8 1 → (iand (ishr (m 8 8) p) 1 ≠ 0 ↔ m1 255 p ≠ 0) := fun p p0 p1 => by rw [ch 255 p (by decide), (kv1 p p0 p1).2.2.2.1]
  refine f_233 (d := 225) (g := gR 3 m1) (pl := pl) (L := m 8 0) (BR_g 3 hRm) hIR (fun w m2 h2 a2 e2 => ?_)
  rw [q4, e58] at e2
  have hE : AF (m 8 2) (m 8 3) (aDoor bcf (m 8 1) (fun w => iand (ishr (m 8 8) w) 1) (x0C m) a b) (aDoor bcf (m 8 1) (m1 255) (asR m 258 0) a b) := door_f hSx hkd
  have hw : w = v := by
    have z := hE.1
    rw [← e1, ← e2] at z
    exact z.symm
  subst hw
  refine ⟨m2, rfl, ⟨tc, pl, ?_, ?_, ?_, ?_, R, ?_⟩⟩
  · exact BC_tr (BC_of h1) (fun x j q => FR_of h2 x j (Or.inl q))
  · exact BR_of h2
  · exact RX_fr (Int.le_refl _) (fun x j q => FC_of h1 x j (frC_le (by decide) q)) (fun x j q => FR_of h2 x j (frR_le (by decide) q)) hX
  · exact RB_fr (Nat.le_succ n) ((FR_of h2 1 12 (Or.inl (by decide))).trans (FC_of h1 1 12 (by unfold frC; omega))) ((FR_of h2 249 7 (by unfold frR; omega)).trans (FC_of h1 249 7 (Or.inl (by decide)))) (fun j => (FR_of h2 285 j (by unfold frR; omega)).trans (FC_of h1 285 j (Or.inl (by decide)))) (fun j => (FR_of h2 286 j (by unfold frR; omega)).trans (FC_of h1 286 j (Or.inl (by decide)))) hB
  · exact GS_two (by omega) (by omega) hG a1 a2 (congrArg Prod.snd e1) (congrArg Prod.snd e2) (door_i hIx) (by have z := hD1; rw [show asC m1 15 = _ from congrArg Prod.snd e1] at z; exact z) hE.2 (door_o (by omega) hOx) (door_b hNx)

theorem two_51 {n : Nat} {a b : Int} {m : Mem} (h : JJ (n + 1) m) : Cl 230 51 [1, a, b] (fun v u => ∃ m1, u = S9 0 m1 ∧ Cl 230 210 [249, a, b] (fun w u' => ∃ m2, u' = S9 0 m2 ∧ JJ n m2 ∧ w = v) (S9 0 m1)) (S9 0 m) := by
  obtain ⟨tc, pl, hC, hR, hX, hB, R, hG⟩ := h
  have hs := JC_s (BC_g 0 hC)
  have hr := JR_s (BR_g 0 hR)
  obtain ⟨⟨kv1, kv2, kv3⟩, ⟨hI, hD, hS, hO, hN⟩, ⟨⟨u1, u2, u3, u4, u5⟩, -⟩, -, hRc, hRr⟩ := id hG
  obtain ⟨k3, k4, k5, k6, k7⟩ := hX.2.1
  refine f_51 (d := 228) (g := gC 3 m) (L := m 8 0) (BC_g 3 hC) hI hD (fun v m1 h1 fC hD1 e1 => ⟨m1, rfl, ?_⟩)
  have c1 := FC_of h1
  have ch : ∀ x j, 249 ≤ x → m1 x j = m x j := fun x j q => c1 x j (Or.inl q)
  have e58 : asR m1 258 0 = asR m 258 0 := asR_fr (fun y _ _ => ch 258 y (by decide)) (fun y _ _ => ch 249 y (by decide))
  have q4 : m1 249 4 = m 8 1 := (ch 249 4 (by decide)).trans k4
  have q5 : m1 249 5 = m 8 2 := (ch 249 5 (by decide)).trans k5
  have q6 : m1 249 6 = m 8 3 := (ch 249 6 (by decide)).trans k6
  have hIS : IV (m 8 0) (m 8 2) (m 8 3) (asR m 258 0) := IV_SE hI hS
  have hIR : IV (m 8 0) (m1 249 5) (m1 249 6) (asR m1 258 0) := by rw [q5, q6, e58]; exact hIS
  have hIx : IV (m 8 0) (m 8 2) (m 8 3) (x0C m) := IV_SE hI (SE_sy (x0_SE m))
  have hSx : SE (m 8 2) (m 8 3) (x0C m) (asR m 258 0) := SE_tr (x0_SE m) hS
  have hOx : DB (m 8 1) (x0C m 10 0) := by rw [x0C_o]; exact hO
  have hNx : BN (m 8 2) (m 8 3) (x0C m) := BN_SE hN (SE_sy (x0_SE m))
  have hRm : BR tc pl m1 := BR_tr hR (fun x j q _ => ch x j q)
  refine f_210 (d := 226) (g := gR 3 m1) (pl := pl) (L := m 8 0) (BR_g 3 hRm) hIR (fun w m2 h2 fR e2 => ?_)
  rw [q5, e58] at e2
  have hE : AF (m 8 2) (m 8 3) (aHeat (m 8 2) (asC m 15) a b) (aHeat (m 8 2) (asR m 258 0) a b) := heat_f hS
  have hw : w = v := by
    have z := hE.1
    rw [← e1, ← e2] at z
    exact z.symm
  subst hw
  refine ⟨m2, rfl, ⟨tc, pl, ?_, ?_, ?_, ?_, R, ?_⟩, rfl⟩
  · exact BC_tr (BC_of h1) (fun x j q => FR_of h2 x j (Or.inl q))
  · exact BR_of h2
  · exact RX_fr (Int.le_refl _) (fun x j q => FC_of h1 x j (frC_le (by decide) q)) (fun x j q => FR_of h2 x j (frR_le (by decide) q)) hX
  · exact RB_fr (Nat.le_succ n) ((FR_of h2 1 12 (Or.inl (by decide))).trans (FC_of h1 1 12 (by unfold frC; omega))) ((FR_of h2 249 7 (by unfold frR; omega)).trans (FC_of h1 249 7 (Or.inl (by decide)))) (fun j => (FR_of h2 285 j (by unfold frR; omega)).trans (FC_of h1 285 j (Or.inl (by decide)))) (fun j => (FR_of h2 286 j (by unfold frR; omega)).trans (FC_of h1 286 j (Or.inl (by decide)))) hB
  · exact GS_two0 (by omega) (by omega) hG (fun x j q => fC x j (q)) (fun x j q => fR x j (by omega)) (congrArg Prod.snd e1) (congrArg Prod.snd e2) (heat_i hI) (by have z := hD1; rw [show asC m1 15 = _ from congrArg Prod.snd e1] at z; exact z) hE.2 (by rw [heat_o, c_op]; exact hO) (heat_b hN)

theorem sheet_8 {P : Nat} {kd n f st : Int} {x : AS} (j : Int) : (aSheet P x kd n f st).2 8 j = x 8 j := by
  unfold aSheet
  split
  · rfl
  · split
    · rfl
    · exact shS_f (by decide) P
theorem two_67 {n : Nat} {a b : Int} {m : Mem} (h : JJ (n + 1) m) : Cl 230 67 [1, a, b] (fun v u => ∃ m1, u = S9 0 m1 ∧ Cl 230 221 [249, a, b] (fun w u' => ∃ m2, u' = S9 0 m2 ∧ JJ n m2) (S9 0 m1)) (S9 0 m) := by
  obtain ⟨tc, pl, hC, hR, hX, hB, R, hG⟩ := h
  have hs := JC_s (BC_g 0 hC)
  have hr := JR_s (BR_g 0 hR)
  obtain ⟨⟨kv1, kv2, kv3⟩, ⟨hI, hD, hS, hO, hN⟩, ⟨⟨u1, u2, u3, u4, u5⟩, -⟩, -, hRc, hRr⟩ := id hG
  obtain ⟨k3, k4, k5, k6, k7⟩ := hX.2.1
  have eP : ((m 8 2).toNat : Int) = m 8 2 := by omega
  have eH : ((m 8 3).toNat : Int) = m 8 3 := by omega
  have hKB : KB m := ⟨fun p p0 p1 => by have z := kv3 p p0 p1; unfold inI; omega, fun q q0 q1 => (kv2 q q0 q1).2⟩
  refine f_67 (d := 222) (g := gC 3 m) (R := R) (L := m 8 0) (BC_g 3 hC) hI hD hKB hRc ⟨u1, u2⟩ ⟨u3, u4⟩ (fun v m1 h1 a1 e1 hD1 => ⟨m1, rfl, ?_⟩)
  have c1 := FC_of h1
  have ch : ∀ x j, 249 ≤ x → m1 x j = m x j := fun x j q => c1 x j (Or.inl q)
  have e58 : asR m1 258 0 = asR m 258 0 := asR_fr (fun y _ _ => ch 258 y (by decide)) (fun y _ _ => ch 249 y (by decide))
  have q4 : m1 249 4 = m 8 1 := (ch 249 4 (by decide)).trans k4
  have q5 : m1 249 5 = m 8 2 := (ch 249 5 (by decide)).trans k5
  have q6 : m1 249 6 = m 8 3 := (ch 249 6 (by decide)).trans k6
  have hIS : IV (m 8 0) (m 8 2) (m 8 3) (asR m 258 0) := IV_SE hI hS
  have hIR : IV (m 8 0) (m1 249 5) (m1 249 6) (asR m1 258 0) := by rw [q5, q6, e58]; exact hIS
  have hIx : IV (m 8 0) (m 8 2) (m 8 3) (x0C m) := IV_SE hI (SE_sy (x0_SE m))
  have hSx : SE (m 8 2) (m 8 3) (x0C m) (asR m 258 0) := SE_tr (x0_SE m) hS
  have hOx : DB (m 8 1) (x0C m 10 0) := by rw [x0C_o]; exact hO
  have hNx : BN (m 8 2) (m 8 3) (x0C m) := BN_SE hN (SE_sy (x0_SE m))
  have hRm : BR tc pl m1 := BR_tr hR (fun x j q _ => ch x j q)
  have hK2 : KR2 m1 := ⟨fun p p0 p1 => by rw [q6] at p1; rw [ch 257 p (by decide), (kv3 p p0 p1).1]; exact hKB.1 p p0 p1, fun q q0 q1 => by rw [q5] at q1; rw [ch 256 q (by decide), (kv2 q q0 q1).1]; exact hKB.2 q q0 q1⟩
  have hR2 : RuR m1 R := RuR_fr hRr (ch 249 32 (by decide)) (fun j => ch 265 j (by decide))
  have hx1 : x0R m1 = x0R m := by unfold x0R; rw [e58]
  have hSR : SE (m 8 2) (m 8 3) (x0C m) (x0R m) := SE_tr hSx (SE_sy (x0R_SE m))
  have hbe : ∀ p : Int, 0 ≤ p → p < (m 8 3).toNat → m 14 p = m1 257 p := fun p p0 p1 => ((ch 257 p (by decide)).trans (kv3 p p0 (by omega)).1).symm
  have hce : ∀ q : Int, 0 ≤ q → q < (m 8 2).toNat → m 13 q = m1 256 q := fun q q0 q1 => ((ch 256 q (by decide)).trans (kv2 q q0 (by omega)).1).symm
  have hck : ∀ q : Int, 0 ≤ q → q < (m 8 2).toNat → 0 ≤ m 13 q ∧ m 13 q ≤ 9 := fun q q0 q1 => hKB.2 q q0 (by omega)
  have hIn : IV (m 8 0) (m 8 2).toNat (m 8 3).toNat (x0C m) := by rw [eP, eH]; exact hIx
  have hSn : SE (m 8 2).toNat (m 8 3).toNat (x0C m) (x0R m) := by rw [eP, eH]; exact hSR
  have hNn : BN (m 8 2).toNat (m 8 3).toNat (x0C m) := by rw [eP, eH]; exact hNx
  have hwe : ∀ w, 0 ≤ w → w < m 8 1 → m 10 w = m1 252 w ∧ m 11 w = m1 253 w ∧ m 12 w = m1 254 w ∧ (iand (ishr (m 8 8) w) 1 = 0 ↔ m1 255 w = 0) := fun w w0 w1 => by
    obtain ⟨z1, z2, z3, z4, -⟩ := kv1 w w0 w1
    rw [ch 252 w (by decide), ch 253 w (by decide), ch 254 w (by decide), ch 255 w (by decide)]
    refine ⟨z1.symm, z2.symm, z3.symm, ?_⟩
    rw [z4]
  have hwl : ∀ w, 0 ≤ w → w < m 8 1 → (0 ≤ m 10 w ∧ m 10 w < m 8 0) ∧ (0 ≤ m 11 w ∧ m 11 w < m 8 0) := fun w w0 w1 => ⟨(kv1 w w0 w1).2.2.2.2.1, (kv1 w w0 w1).2.2.2.2.2.1⟩
  refine f_221 (d := 222) (g := gR 3 m1) (pl := pl) (R := R) (L := m 8 0) (BR_g 3 hRm) hIR hK2 hR2 (fun w m2 h2 a2 e2 => ?_)
  rw [q4, q5, q6, hx1] at e2
  have hE : AE (m 8 2).toNat (m 8 3).toNat (aWalk R (m 14) (m 13) (m 8 2).toNat (m 8 3).toNat (m 8 1) (m 10) (m 11) (m 12) (fun w => iand (ishr (m 8 8) w) 1) (x0C m) a b) (aWalk R (m1 257) (m1 256) (m 8 2).toNat (m 8 3).toNat (m 8 1) (m1 252) (m1 253) (m1 254) (m1 255) (x0R m) a b) := walk_e hIn hSn x0_SN hbe hce hck hwe
  have hw : w = v := by
    have z := hE.1
    rw [← e1, ← e2] at z
    exact z.symm
  subst hw
  have hE2 := hE.2.1
  rw [eP, eH] at hE2
  refine ⟨m2, rfl, ⟨tc, pl, ?_, ?_, ?_, ?_, R, ?_⟩⟩
  · exact BC_tr (BC_of h1) (fun x j q => FR_of h2 x j (Or.inl q))
  · exact BR_of h2
  · exact RX_fr (Int.le_refl _) (fun x j q => FC_of h1 x j (frC_le (by decide) q)) (fun x j q => FR_of h2 x j (frR_le (by decide) q)) hX
  · exact RB_fr (Nat.le_succ n) ((FR_of h2 1 12 (Or.inl (by decide))).trans (FC_of h1 1 12 (by unfold frC; omega))) ((FR_of h2 249 7 (by unfold frR; omega)).trans (FC_of h1 249 7 (Or.inl (by decide)))) (fun j => (FR_of h2 285 j (by unfold frR; omega)).trans (FC_of h1 285 j (Or.inl (by decide)))) (fun j => (FR_of h2 286 j (by unfold frR; omega)).trans (FC_of h1 286 j (Or.inl (by decide)))) hB
  · exact GS_two (by omega) (by omega) hG a1 a2 (congrArg Prod.snd e1) (congrArg Prod.snd e2) (by rw [← eP, ← eH]; exact walk_i hIn hck hwl) (by have z := hD1; rw [show asC m1 15 = _ from congrArg Prod.snd e1] at z; exact z) hE2 (by rw [walk_o hIn hck]; exact hOx) (by rw [← eP, ← eH]; exact walk_b hIn hNn (by omega) hck)

theorem two_85 {n : Nat} {a : Int} {m : Mem} (h : JJ (n + 1) m) : Cl 230 85 [1, a] (fun v u => ∃ m1, u = S9 0 m1 ∧ Cl 230 226 [249, a] (fun w u' => ∃ m2, u' = S9 0 m2 ∧ JJ n m2) (S9 0 m1)) (S9 0 m) := by
  obtain ⟨tc, pl, hC, hR, hX, hB, R, hG⟩ := h
  have hs := JC_s (BC_g 0 hC)
  have hr := JR_s (BR_g 0 hR)
  obtain ⟨⟨kv1, kv2, kv3⟩, ⟨hI, hD, hS, hO, hN⟩, ⟨⟨u1, u2, u3, u4, u5⟩, -⟩, -, hRc, hRr⟩ := id hG
  obtain ⟨k3, k4, k5, k6, k7⟩ := hX.2.1
  have eP : ((m 8 2).toNat : Int) = m 8 2 := by omega
  have eH : ((m 8 3).toNat : Int) = m 8 3 := by omega
  have hKB : KB m := ⟨fun p p0 p1 => by have z := kv3 p p0 p1; unfold inI; omega, fun q q0 q1 => (kv2 q q0 q1).2⟩
  refine f_85 (d := 222) (g := gC 3 m) (R := R) (L := m 8 0) (BC_g 3 hC) hI hD hKB hRc ⟨u1, u2⟩ ⟨u3, u4⟩ (fun v m1 h1 a1 e1 hD1 => ⟨m1, rfl, ?_⟩)
  have c1 := FC_of h1
  have ch : ∀ x j, 249 ≤ x → m1 x j = m x j := fun x j q => c1 x j (Or.inl q)
  have e58 : asR m1 258 0 = asR m 258 0 := asR_fr (fun y _ _ => ch 258 y (by decide)) (fun y _ _ => ch 249 y (by decide))
  have q4 : m1 249 4 = m 8 1 := (ch 249 4 (by decide)).trans k4
  have q5 : m1 249 5 = m 8 2 := (ch 249 5 (by decide)).trans k5
  have q6 : m1 249 6 = m 8 3 := (ch 249 6 (by decide)).trans k6
  have hIS : IV (m 8 0) (m 8 2) (m 8 3) (asR m 258 0) := IV_SE hI hS
  have hIR : IV (m 8 0) (m1 249 5) (m1 249 6) (asR m1 258 0) := by rw [q5, q6, e58]; exact hIS
  have hIx : IV (m 8 0) (m 8 2) (m 8 3) (x0C m) := IV_SE hI (SE_sy (x0_SE m))
  have hSx : SE (m 8 2) (m 8 3) (x0C m) (asR m 258 0) := SE_tr (x0_SE m) hS
  have hOx : DB (m 8 1) (x0C m 10 0) := by rw [x0C_o]; exact hO
  have hNx : BN (m 8 2) (m 8 3) (x0C m) := BN_SE hN (SE_sy (x0_SE m))
  have hRm : BR tc pl m1 := BR_tr hR (fun x j q _ => ch x j q)
  have hK2 : KR2 m1 := ⟨fun p p0 p1 => by rw [q6] at p1; rw [ch 257 p (by decide), (kv3 p p0 p1).1]; exact hKB.1 p p0 p1, fun q q0 q1 => by rw [q5] at q1; rw [ch 256 q (by decide), (kv2 q q0 q1).1]; exact hKB.2 q q0 q1⟩
  have hR2 : RuR m1 R := RuR_fr hRr (ch 249 32 (by decide)) (fun j => ch 265 j (by decide))
  have hx1 : x0R m1 = x0R m := by unfold x0R; rw [e58]
  have hSR : SE (m 8 2) (m 8 3) (x0C m) (x0R m) := SE_tr hSx (SE_sy (x0R_SE m))
  have hbe : ∀ p : Int, 0 ≤ p → p < (m 8 3).toNat → m 14 p = m1 257 p := fun p p0 p1 => ((ch 257 p (by decide)).trans (kv3 p p0 (by omega)).1).symm
  have hce : ∀ q : Int, 0 ≤ q → q < (m 8 2).toNat → m 13 q = m1 256 q := fun q q0 q1 => ((ch 256 q (by decide)).trans (kv2 q q0 (by omega)).1).symm
  have hck : ∀ q : Int, 0 ≤ q → q < (m 8 2).toNat → 0 ≤ m 13 q ∧ m 13 q ≤ 9 := fun q q0 q1 => hKB.2 q q0 (by omega)
  have hIn : IV (m 8 0) (m 8 2).toNat (m 8 3).toNat (x0C m) := by rw [eP, eH]; exact hIx
  have hSn : SE (m 8 2).toNat (m 8 3).toNat (x0C m) (x0R m) := by rw [eP, eH]; exact hSR
  have hNn : BN (m 8 2).toNat (m 8 3).toNat (x0C m) := by rw [eP, eH]; exact hNx
  have hwe : ∀ w, 0 ≤ w → w < m 8 1 → m 10 w = m1 252 w ∧ m 11 w = m1 253 w ∧ m 12 w = m1 254 w ∧ (iand (ishr (m 8 8) w) 1 = 0 ↔ m1 255 w = 0) := fun w w0 w1 => by
    obtain ⟨z1, z2, z3, z4, -⟩ := kv1 w w0 w1
    rw [ch 252 w (by decide), ch 253 w (by decide), ch 254 w (by decide), ch 255 w (by decide)]
    refine ⟨z1.symm, z2.symm, z3.symm, ?_⟩
    rw [z4]
  have hwl : ∀ w, 0 ≤ w → w < m 8 1 → (0 ≤ m 10 w ∧ m 10 w < m 8 0) ∧ (0 ≤ m 11 w ∧ m 11 w < m 8 0) := fun w w0 w1 => ⟨(kv1 w w0 w1).2.2.2.2.1, (kv1 w w0 w1).2.2.2.2.2.1⟩
  refine f_226 (d := 222) (g := gR 3 m1) (pl := pl) (R := R) (L := m 8 0) (BR_g 3 hRm) hIR hK2 hR2 (fun w m2 h2 a2 e2 => ?_)
  rw [q5, q6, hx1] at e2
  have hE : AE (m 8 2).toNat (m 8 3).toNat (aPass R (m 14) (m 13) (m 8 2).toNat (m 8 3).toNat (x0C m) a) (aPass R (m1 257) (m1 256) (m 8 2).toNat (m 8 3).toNat (x0R m) a) := pass_e hIn hSn x0_SN hbe hce hck
  have hw : w = v := by
    have z := hE.1
    rw [← e1, ← e2] at z
    exact z.symm
  subst hw
  have hE2 := hE.2.1
  rw [eP, eH] at hE2
  refine ⟨m2, rfl, ⟨tc, pl, ?_, ?_, ?_, ?_, R, ?_⟩⟩
  · exact BC_tr (BC_of h1) (fun x j q => FR_of h2 x j (Or.inl q))
  · exact BR_of h2
  · exact RX_fr (Int.le_refl _) (fun x j q => FC_of h1 x j (frC_le (by decide) q)) (fun x j q => FR_of h2 x j (frR_le (by decide) q)) hX
  · exact RB_fr (Nat.le_succ n) ((FR_of h2 1 12 (Or.inl (by decide))).trans (FC_of h1 1 12 (by unfold frC; omega))) ((FR_of h2 249 7 (by unfold frR; omega)).trans (FC_of h1 249 7 (Or.inl (by decide)))) (fun j => (FR_of h2 285 j (by unfold frR; omega)).trans (FC_of h1 285 j (Or.inl (by decide)))) (fun j => (FR_of h2 286 j (by unfold frR; omega)).trans (FC_of h1 286 j (Or.inl (by decide)))) hB
  · exact GS_two (by omega) (by omega) hG a1 a2 (congrArg Prod.snd e1) (congrArg Prod.snd e2) (by rw [← eP, ← eH]; exact pass_i hIn hck) (by have z := hD1; rw [show asC m1 15 = _ from congrArg Prod.snd e1] at z; exact z) hE2 (by rw [pass_o hIn hck]; exact hOx) (by rw [← eP, ← eH]; exact pass_b hIn hNn (by omega) hck)

theorem JR_bk {g : Fg} {tc pl i u : Int} {m : Mem} (hi : i = 269 ∨ i = 287) (h : JR 3 g tc pl m) : JR 3 g tc pl (cpf m i (52 * u) 258 0 52) := by
  refine ⟨⟨h.1.1, h.1.2.1, fun x j q => ?_, BdR_cpf h.1.2.2.2 (fun y y0 y1 => ?_)⟩, ?_⟩
  · have z := JR_l h _ _ q
    rw [cpf_n (by rintro rfl; unfold frR at z; omega)]
    exact h.1.2.2.1 x j q
  · rcases hi with rfl | rfl
    · exact BdR_n (by simp) (rb_eq (JB_n (JR_1 h) 269 _ (by simp)) (by omega))
    · exact BdR_n (by simp) (rb_eq (JB_n (JR_1 h) 287 _ (by simp)) (by omega))
  · have z := h.2
    unfold JS at z ⊢
    rw [cpf_n (by decide), cpf_n (by decide), cpf_n (by decide)]
    exact z
theorem JR_kp {l : Nat} {g : Fg} {tc pl u : Int} {m : Mem} (h : JR l g tc pl m) (hg : ∀ x j, g.1 x j → x ≠ 287) : JR l g tc pl (cpf m 258 0 287 (52 * u) 52) := by
  refine ⟨⟨h.1.1, h.1.2.1, fun x j q => ?_, BdR_cpf h.1.2.2.2 (fun y y0 y1 => ?_)⟩, ?_⟩
  · rw [cpf_n (hg x j q)]
    exact h.1.2.2.1 x j q
  · exact BdR_n (by simp) (rb_eq (JB_n h.1 258 _ (by simp)) (by omega))
  · have z := h.2
    unfold JS at z ⊢
    rw [cpf_n (by decide), cpf_n (by decide), cpf_n (by decide)]
    exact z
theorem cpf_at {m : Mem} {a i b j y : Int} (h0 : 0 ≤ y) (h1 : y < 52) : cpf m a i b j 52 b (j + y) = m a (i + y) := by
  unfold cpf
  rw [if_pos ⟨rfl, by omega, by omega⟩]
  congr 1; omega
