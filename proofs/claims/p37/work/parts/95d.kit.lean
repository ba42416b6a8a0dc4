/-! kitchen on both sides -/
theorem two_16 {n : Nat} {m : Mem} (h : JJ (n + 1) m) : Cl 230 16 [1] (fun v u => ∃ m1, u = S9 0 m1 ∧ Cl 230 170 [249] (fun w u' => ∃ m2, u' = S9 0 m2 ∧ JJ n m2) (S9 0 m1)) (S9 0 m) := by
  obtain ⟨tc, pl, hC, hR, hX, hB, R, hG⟩ := h
  have hs := JC_s (BC_g 0 hC)
  have hr := JR_s (BR_g 0 hR)
  have hOB : OB m := fun w w0 w1 => hG.2.1.2.2.2.1 w w0 w1
  refine f_16 (d := 223) (g := gC 1 m) hX.1.2.1 hOB (BC_g 1 hC) (fun v m1 h1 k1 => ⟨m1, rfl, ?_⟩)
  have c1 : ∀ x j, frC 1 x j → m1 x j = m x j := fun x j q => h1.2.1 x j q
  have hhi : ∀ x j, 249 ≤ x → m1 x j = m x j := fun x j q => c1 x j (Or.inl q)
  have e260 : m1 260 = m 260 := by funext j; exact hhi 260 j (by decide)
  refine f_170 (d := 219) (g := gR 1 m1) (by rw [e260]; exact hX.1.2.2) (BR_g 1 (BR_tr hR (fun x j q _ => hhi x j q))) (fun w m2 pl2 h2 k2 => ⟨m2, rfl, ?_⟩)
  have r2 : ∀ x j, frR 1 x j → m2 x j = m1 x j := fun x j q => h2.1.2.2.1 x j q
  have hlo : ∀ x j, x < 249 → m2 x j = m1 x j := fun x j q => r2 x j (Or.inl q)
  have hC2 : BC 0 m2 := BC_tr (BC_of h1) hlo
  have hs2 := JC_s (BC_g 0 hC2)
  obtain ⟨⟨kR, kG⟩, kB⟩ := GS_kit (by omega) (by omega) hX.1.1 hX.2.1 hG k1 k2 hlo hhi
  refine ⟨0, pl2, hC2, BR_of h2, ⟨⟨fun j h0 h1 => absurd h0 (by omega), fun j => ?_, fun j => ?_⟩, kR, ?_⟩, ?_, R, kG⟩
  · rw [hlo 3 j (by decide), c1 3 j (by unfold frC; omega)]; exact hX.1.2.1 j
  · rw [r2 260 j (by unfold frR; omega), e260]; exact hX.1.2.2 j
  · show m2 249 62 = m2 211 4
    rw [r2 249 62 (by unfold frR; omega), hlo 211 4 (by decide), hhi 249 62 (by decide), c1 211 4 (by unfold frC; omega)]
    exact hX.2.2
  · have b85 : ∀ j, m2 285 j = m 285 j := fun j => by rw [k2.2.1]; exact hhi 285 j (by decide)
    have b86 : ∀ j, m2 286 j = m 286 j := fun j => by rw [k2.2.2.1]; exact hhi 286 j (by decide)
    rcases kB with ⟨-, a, b⟩ | ⟨a, b⟩
    · exact RB_kit a b b85 b86 hB
    · exact RB_fr (Nat.le_succ n) a b b85 b86 hB
