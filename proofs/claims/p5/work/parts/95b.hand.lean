/-! sign, end, kitchen, mark, wipe on both sides -/
theorem BC_up {tc a j v : Int} {m : Mem} (h : BC tc m) (ha : a < 249) (hv : BdC tc a j v) : BC tc (upm m a j v) := BC_of (JC_up (BC_g 0 h) (by unfold frC; omega) hv)
theorem BC_hi {tc a j v : Int} {m : Mem} (h : BC tc m) (ha : 249 ≤ a) : BC tc (upm m a j v) := BC_tr h (fun x y hx => upm_a _ _ _ _ _ _ (by omega))
theorem BR_up {tc pl a j v : Int} {m : Mem} (h : BR tc pl m) (ha : 249 ≤ a ∧ a < 288) (hf : frc a j) (hv : BdR tc pl a j v) : BR tc pl (upm m a j v) := BR_of (JR_up (BR_g 0 h) (by unfold frR; omega) hf hv)
theorem BR_lo {tc pl a j v : Int} {m : Mem} (h : BR tc pl m) (ha : a < 249) : BR tc pl (upm m a j v) := BR_tr h (fun x y hx _ => upm_a _ _ _ _ _ _ (by omega))
theorem BR_0 {tc pl : Int} {m : Mem} (h : BR tc pl m) : BR tc pl (upm m 249 0 0) := BR_up h (by decide) (by first | decide | simp [frc]) (by simp [BdR])
/-- THE KITCHEN and the marks' number stand where their cells stand -/
theorem RKM_fr {m m' : Mem} (e : ∀ x j, (x = 8 ∨ x = 9 ∨ x = 211 ∨ x = 251 ∨ (x = 249 ∧ (3 ≤ j ∧ j ≤ 6 ∨ j = 62))) → m' x j = m x j) (h : RK m ∧ RM m) : RK m' ∧ RM m' := by
  obtain ⟨⟨k1, k2, k3, k4, k5⟩, hm⟩ := h
  refine ⟨⟨?_, ?_, ?_, ?_, fun j h0 h1 => ?_⟩, ?_⟩
  · rw [e 249 3 (by omega), e 8 0 (by omega)]; exact k1
  · rw [e 249 4 (by omega), e 8 1 (by omega)]; exact k2
  · rw [e 249 5 (by omega), e 8 2 (by omega)]; exact k3
  · rw [e 249 6 (by omega), e 8 3 (by omega)]; exact k4
  · rw [e 8 0 (by omega)] at h1
    rw [e 251 j (by omega), e 9 j (by omega)]; exact k5 j h0 h1
  · show m' 249 62 = m' 211 4
    rw [e 249 62 (by omega), e 211 4 (by omega)]; exact hm
theorem RT_fr {tc : Int} {m m' : Mem} (e : ∀ x j, (x = 3 ∨ x = 260) → m' x j = m x j) (h : RT tc m) : RT tc m' :=
  ⟨fun j h0 h1 => by rw [e _ _ (Or.inr rfl), e _ _ (Or.inl rfl)]; exact h.1 j h0 h1, fun j => by rw [e _ _ (Or.inl rfl)]; exact h.2.1 j, fun j => by rw [e _ _ (Or.inr rfl)]; exact h.2.2 j⟩
theorem BC_len {tc v : Int} {m : Mem} (h : BC tc m) (h0 : 0 ≤ v) (h1 : v ≤ 80) : BC v (upm m 2 1 v) := BC_of (JC_len (BC_g 0 h) h0 h1)
theorem BR_len {tc pl v : Int} {m : Mem} (h : BR tc pl m) (h0 : 0 ≤ v) (h1 : v ≤ 80) : BR v pl (upm m 249 18 v) := BR_of (JR_len (BR_g 0 h) h0 h1)
theorem BC_3 {tc : Int} {m m' : Mem} (h : BC tc m) (e : ∀ x j, x < 249 → x ≠ 3 → m' x j = m x j) : BC tc m' := by
  refine ⟨h.1, fun a j => ?_⟩
  by_cases ha : a < 249
  · by_cases h3 : a = 3
    · subst h3; simp [BdC, hnd]
    · rw [e a j ha h3]; exact h.2 a j
  · exact BdC_out (by omega)
theorem BR_260 {tc pl : Int} {m m' : Mem} (h : BR tc pl m) (e : ∀ x j, 249 ≤ x → x < 288 → x ≠ 260 → m' x j = m x j) : BR tc pl m' := by
  have e5 : m' 265 = m 265 := by funext y; exact e 265 y (by decide) (by decide) (by decide)
  refine ⟨⟨h.1.1, h.1.2.1, fun a j => ?_⟩, ?_, fun w h0 h1 => ?_, ?_⟩
  · by_cases ha : 249 ≤ a ∧ a < 288
    · by_cases h3 : a = 260
      · subst h3; simp [BdR]
      · rw [e a j ha.1 ha.2 h3]; exact h.1.2.2 a j
    · exact BdR_out (by omega)
  · rw [e 249 3 (by decide) (by decide) (by decide)]; exact h.2.1
  · rw [e 254 w (by decide) (by decide) (by decide)]
    rw [e 249 4 (by decide) (by decide) (by decide)] at h1
    exact h.2.2.1 w h0 h1
  · rw [e5, e 249 32 (by decide) (by decide) (by decide)]; exact h.2.2.2
theorem two_12 {a : Int} {n : Nat} {m : Mem} (h : JJ (n + 1) m) : Cl 230 12 [1, a] (fun v u => ∃ m1, u = S9 0 m1 ∧ Cl 230 167 [249, a] (fun w u' => ∃ m2, u' = S9 0 m2 ∧ JJ n m2) (S9 0 m1)) (S9 0 m) := by
  obtain ⟨tc, pl, hC, hR, hX, hB⟩ := h
  have hs := JC_s (BC_g 0 hC)
  have hr := JR_s (BR_g 0 hR)
  have e0 : ∀ m9 : Mem, ∀ x j, ¬ (x = 249 ∧ j = 0) → upm m9 249 0 0 x j = m9 x j := fun m9 x j q => by unfold upm; rw [if_neg q]
  refine t_sign (d := 228) (by omega) (by omega) ⟨fun h => ⟨m, rfl, t_signM (by omega) (by omega) ⟨fun h' => ⟨_, rfl, ⟨tc, pl, BC_hi hC (by decide), BR_0 hR, ⟨RT_fr (fun x j q => e0 _ _ _ (by omega)) hX.1, RKM_fr (fun x j q => e0 _ _ _ (by omega)) hX.2⟩, RB_fr (Nat.le_succ n) (e0 _ _ _ (by omega)) (e0 _ _ _ (by omega)) (fun j => e0 _ _ _ (by omega)) (fun j => e0 _ _ _ (by omega)) hB⟩⟩, fun h' => absurd h' (by omega)⟩⟩, fun h m1 g => ⟨m1, rfl, ?_⟩⟩
  obtain ⟨g1, g2, g3⟩ := g
  rw [hs.1] at g1 g2 g3
  have e18 : m1 249 18 = tc := by rw [g1 _ _ (by omega) (by omega)]; exact hr.1
  refine t_signM (by omega) (by omega) ⟨fun h' => absurd h' (by omega), fun _ m2 k => ⟨m2, rfl, ?_⟩⟩
  obtain ⟨k1, k2, k3⟩ := k
  rw [e18] at k1 k2 k3
  have c : ∀ x j, x < 249 → ¬ (x = 3 ∧ tc ≤ j ∧ j < tc + 4) → ¬ (x = 2 ∧ j = 1) → m2 x j = m x j := fun x j hx h1 h2 => by rw [k1 x j (by omega) (by omega), e0 _ _ _ (by omega), g1 x j h1 h2]
  have r : ∀ x j, 249 ≤ x → ¬ (x = 260 ∧ tc ≤ j ∧ j < tc + 4) → ¬ (x = 249 ∧ j = 18) → ¬ (x = 249 ∧ j = 0) → m2 x j = m x j := fun x j hx h1 h2 h3 => by rw [k1 x j h1 h2, e0 _ _ _ h3, g1 x j (by omega) (by omega)]
  have m23 : ∀ j, m2 3 j = m1 3 j := fun j => by rw [k1 3 j (by omega) (by omega), e0 _ _ _ (by omega)]
  refine ⟨tc + 4, pl, ?_, ?_, ⟨⟨fun j h0 h1 => ?_, fun j => ?_, fun j => ?_⟩, RKM_fr (m := m) (fun x j q => ?_) hX.2⟩, RB_fr (Nat.le_succ n) (c 1 12 (by decide) (by omega) (by omega)) (r 249 7 (by decide) (by omega) (by omega) (by omega)) (fun j => r 285 j (by decide) (by omega) (by omega) (by omega)) (fun j => r 286 j (by decide) (by omega) (by omega) (by omega)) hB⟩
  · refine BC_3 (BC_len hC (v := tc + 4) (by omega) (by omega)) (fun x j hx h3 => ?_)
    by_cases q : x = 2 ∧ j = 1
    · obtain ⟨rfl, rfl⟩ := q
      rw [upm_v, k1 2 1 (by omega) (by omega), e0 _ _ _ (by omega), g3]
    · rw [c x j hx (by omega) q]; unfold upm; rw [if_neg q]
  · refine BR_260 (BR_len (BR_0 hR) (v := tc + 4) (by omega) (by omega)) (fun x j h0 h1 h3 => ?_)
    by_cases q : x = 249 ∧ j = 18
    · obtain ⟨rfl, rfl⟩ := q
      rw [upm_v, k3]
    · rw [k1 x j (by omega) q]
      by_cases q0 : x = 249 ∧ j = 0
      · obtain ⟨rfl, rfl⟩ := q0
        rw [upm_v, upm_k (by decide), upm_v]
      · rw [e0 _ _ _ q0, g1 x j (by omega) (by omega)]
        unfold upm; rw [if_neg q, if_neg q0]
  · rw [m23]
    by_cases hj : j < tc
    · rw [r 260 j (by decide) (by omega) (by omega) (by omega), g1 3 j (by omega) (by omega)]
      exact hX.1.1 j h0 hj
    · have e1 := g2 (j - tc) (by omega) (by omega)
      have e2 := k2 (j - tc) (by omega) (by omega)
      rw [show tc + (j - tc) = j by omega] at e1 e2
      rw [e1, e2]
  · rw [m23]
    by_cases hj : tc ≤ j ∧ j < tc + 4
    · have e1 := g2 (j - tc) (by omega) (by omega)
      rw [show tc + (j - tc) = j by omega] at e1
      rw [e1]; exact and255 _
    · rw [g1 3 j (by omega) (by omega)]; exact hX.1.2.1 j
  · by_cases hj : tc ≤ j ∧ j < tc + 4
    · have e1 := k2 (j - tc) (by omega) (by omega)
      rw [show tc + (j - tc) = j by omega] at e1
      rw [e1]; exact and255 _
    · rw [r 260 j (by decide) (by omega) (by omega) (by omega)]; exact hX.1.2.2 j
  · by_cases hx : x < 249
    · exact c x j hx (by omega) (by omega)
    · exact r x j (by omega) (by omega) (by omega) (by omega)
theorem two_14 {a : Int} {n : Nat} {m : Mem} (h : JJ (n + 1) m) : Cl 230 14 [1, a] (fun v u => ∃ m1, u = S9 0 m1 ∧ Cl 230 168 [249, a] (fun w u' => ∃ m2, u' = S9 0 m2 ∧ JJ n m2) (S9 0 m1)) (S9 0 m) := by
  obtain ⟨tc, pl, hC, hR, hX, hB⟩ := h
  have hs := JC_s (BC_g 0 hC)
  have hr := JR_s (BR_g 0 hR)
  refine s_14 (d := 228) (g := gC 4 m) (BC_g 4 hC) (fun v m1 tc1 h1 p1 => ⟨m1, rfl, ?_⟩)
  refine s_168 (d := 228) (g := gR 4 m1) (JW_mk (BR_g 4 (BR_tr hR (fun x j q _ => h1.2.1 x j (Or.inl q))))) (fun w m2 tc2 h2 p2 => ?_)
  have et : tc2 = tc1 := by omega
  subst et
  refine ⟨m2, rfl, ⟨tc2, pl, ?_, ?_, ?_, ?_⟩⟩
  · exact BC_tr (BC_of h1) (fun x j q => (JW_1 h2).1.2.2.1 x j (Or.inl q))
  · exact BR_of (JW_1 h2)
  · exact RX_fr (by omega) (fun x j q => h1.2.1 x j (frC_le (by decide) q)) (fun x j q => (JW_1 h2).1.2.2.1 x j (frR_le (by decide) q)) hX
  · exact RB_fr (Nat.le_succ n) (((JW_1 h2).1.2.2.1 1 12 (Or.inl (by decide))).trans (h1.2.1 1 12 (by show frC 4 1 12; unfold frC; omega))) (((JW_1 h2).1.2.2.1 249 7 (by show frR 4 249 7; unfold frR; omega)).trans (h1.2.1 249 7 (Or.inl (by decide)))) (fun j => ((JW_1 h2).1.2.2.1 285 j (by show frR 4 285 j; unfold frR; omega)).trans (h1.2.1 285 j (Or.inl (by decide)))) (fun j => ((JW_1 h2).1.2.2.1 286 j (by show frR 4 286 j; unfold frR; omega)).trans (h1.2.1 286 j (Or.inl (by decide)))) hB
theorem two_16 {n : Nat} {m : Mem} (h : JJ (n + 1) m) : Cl 230 16 [1] (fun v u => ∃ m1, u = S9 0 m1 ∧ Cl 230 170 [249] (fun w u' => ∃ m2, u' = S9 0 m2 ∧ JJ n m2) (S9 0 m1)) (S9 0 m) := by
  obtain ⟨tc, pl, hC, hR, hX, hB⟩ := h
  have hs := JC_s (BC_g 0 hC)
  have hr := JR_s (BR_g 0 hR)
  refine f_16 (d := 223) (g := gC 1 m) hX.1.2.1 (BC_g 1 hC) (fun v m1 h1 k1 => ⟨m1, rfl, ?_⟩)
  have c1 : ∀ x j, frC 1 x j → m1 x j = m x j := fun x j q => h1.2.1 x j q
  have e260 : m1 260 = m 260 := by funext j; exact c1 260 j (Or.inl (by decide))
  have e251 : m1 251 = m 251 := by funext j; exact c1 251 j (Or.inl (by decide))
  have e3 : m1 3 = m 3 := by funext j; exact c1 3 j (by unfold frC; omega)
  have eK : sK m1 = sK m := by
    unfold sK
    rw [e251, c1 249 3 (Or.inl (by decide)), c1 249 4 (Or.inl (by decide)), c1 249 5 (Or.inl (by decide)), c1 249 6 (Or.inl (by decide))]
  refine f_170 (d := 219) (g := gR 1 m1) (by rw [e260]; exact hX.1.2.2) (BR_g 1 (BR_tr hR (fun x j q _ => c1 x j (Or.inl q)))) (fun w m2 pl2 h2 k2 => ⟨m2, rfl, 0, pl2, ?_, ?_, ?HH⟩)
  · exact BC_tr (BC_of h1) (fun x j q => h2.1.2.2.1 x j (Or.inl q))
  · exact BR_of h2
  show RX 0 m2 ∧ RB n m2
  have r2 : ∀ x j, frR 1 x j → m2 x j = m1 x j := fun x j q => h2.1.2.2.1 x j q
  have hKE : KE (sC m) (sK m) := hX.2.1
  have hk := kit_e (T := m 3) (T' := m 260) (tc := tc) hX.1.1 hKE
  obtain ⟨k2, k85, k86⟩ := k2
  rw [e260, eK] at k2
  have d8 : ∀ j, m2 8 j = m1 8 j := fun j => r2 8 j (Or.inl (by decide))
  have d9 : m2 9 = m1 9 := by funext j; exact r2 9 j (Or.inl (by decide))
  have eC : sC m2 = sC m1 := by unfold sC; rw [d8, d8, d8, d8, d9]
  refine And.intro (a := RX 0 m2) (b := RB n m2) ?_ ?_
  rotate_left
  next =>
    have d1 : m2 1 12 = m1 1 12 := r2 1 12 (Or.inl (by decide))
    have b7 : m1 249 7 = m 249 7 := c1 249 7 (Or.inl (by decide))
    have b85 : ∀ j, m2 285 j = m 285 j := fun j => by rw [k85]; exact c1 285 j (Or.inl (by decide))
    have b86 : ∀ j, m2 286 j = m 286 j := fun j => by rw [k86]; exact c1 286 j (Or.inl (by decide))
    rcases k1 with ⟨t1, q1, q9⟩ | ⟨q1, q2, q9⟩
    · rcases k2 with ⟨t2, ⟨r, y1, y2⟩, y9⟩ | ⟨y1, -, y9⟩
      · exact RB_kit (d1.trans q9) (by rw [y9, b7]) b85 b86 hB
      · rcases hk with ⟨z1, -⟩ | ⟨r1, r2, z1, z2, z3⟩
        · rw [q1] at z1; exact absurd z1 (by simp)
        · rcases y1 with y1 | y1
          · exact absurd y1 (by omega)
          · rw [y1] at z2; exact absurd z2 (by simp)
    · rcases k2 with ⟨t2, ⟨r, y1, y2⟩, y9⟩ | ⟨y1, -, y9⟩
      · rcases hk with ⟨-, z1⟩ | ⟨r1, r2, z1, z2, z3⟩
        · rw [y1] at z1; exact absurd z1 (by simp)
        · rcases q1 with q1 | q1
          · exact absurd q1 (by omega)
          · rw [q1] at z1; exact absurd z1 (by simp)
      · exact RB_fr (Nat.le_succ n) (d1.trans q9) (y9.trans b7) b85 b86 hB
  refine ⟨⟨fun j h0 h1 => absurd h0 (by omega), fun j => ?_, fun j => ?_⟩, ?_, ?_⟩
  · rw [r2 3 j (Or.inl (by decide)), e3]; exact hX.1.2.1 j
  · rw [r2 260 j (by unfold frR; omega), e260]; exact hX.1.2.2 j
  · show KE (sC m2) (sK m2)
    rw [eC]
    rcases k1 with ⟨t1, q1, -⟩ | ⟨q1, q2, -⟩
    · rcases k2 with ⟨t2, ⟨r, y1, y2⟩, -⟩ | ⟨y1, -, -⟩
      · rcases hk with ⟨z1, -⟩ | ⟨r1, r2, z1, z2, z3⟩
        · rw [q1] at z1; exact absurd z1 (by simp)
        · rw [q1] at z1
          rw [y1] at z2
          rw [← Option.some.inj z1, ← Option.some.inj z2] at z3
          exact KE_tr z3 y2
      · rcases hk with ⟨z1, -⟩ | ⟨r1, r2, z1, z2, z3⟩
        · rw [q1] at z1; exact absurd z1 (by simp)
        · rcases y1 with y1 | y1
          · exact absurd y1 (by omega)
          · rw [y1] at z2; exact absurd z2 (by simp)
    · rcases k2 with ⟨t2, ⟨r, y1, y2⟩, -⟩ | ⟨-, ⟨y3, y4, y5, y6, y7⟩, -⟩
      · rcases hk with ⟨-, z1⟩ | ⟨r1, r2, z1, z2, z3⟩
        · rw [y1] at z1; exact absurd z1 (by simp)
        · rcases q1 with q1 | q1
          · exact absurd q1 (by omega)
          · rw [q1] at z1; exact absurd z1 (by simp)
      · obtain ⟨x1, x2, x3, x4, x5⟩ := q2
        obtain ⟨w1, w2, w3, w4, w5⟩ := hKE
        rw [c1 249 3 (Or.inl (by decide))] at y3 y7
        rw [c1 249 4 (Or.inl (by decide))] at y4
        rw [c1 249 5 (Or.inl (by decide))] at y5
        rw [c1 249 6 (Or.inl (by decide))] at y6
        unfold sC sK at w1 w2 w3 w4 w5
        simp only at w1 w2 w3 w4 w5
        refine ⟨?_, ?_, ?_, ?_, fun j h0 h1 => ?_⟩
        · show m2 249 3 = m1 8 0; omega
        · show m2 249 4 = m1 8 1; omega
        · show m2 249 5 = m1 8 2; omega
        · show m2 249 6 = m1 8 3; omega
        · have h1 : j < m1 8 0 := h1
          show m2 251 j = m1 9 j
          rw [y7 j h0 (by omega), e251, x5 j (by omega)]
          exact w5 j h0 (by omega)
  · show m2 249 62 = m2 211 4
    rw [r2 249 62 (by unfold frR; omega), r2 211 4 (Or.inl (by decide)), c1 249 62 (Or.inl (by decide)), c1 211 4 (by unfold frC; omega)]
    exact hX.2.2
theorem two_143 {a b : Int} {n : Nat} {m : Mem} (h : JJ (n + 1) m) : Cl 230 143 [1, a, b] (fun v u => ∃ m1, u = S9 0 m1 ∧ Cl 230 269 [249, a, b] (fun w u' => ∃ m2, u' = S9 0 m2 ∧ JJ n m2) (S9 0 m1)) (S9 0 m) := by
  obtain ⟨tc, pl, hC, hR, hX, hB⟩ := h
  have hs := JC_s (BC_g 0 hC)
  have hr := JR_s (BR_g 0 hR)
  have hm : m 249 62 = m 211 4 := hX.2.2
  have h8 : m 249 3 = m 8 0 := hX.2.1.1
  have hb := hC.2 211 4
  simp [BdC] at hb
  have c0 : ∀ m9 : Mem, ∀ x j, x ≠ 249 → upm m9 249 0 0 x j = m9 x j := fun m9 x j q => upm_a _ _ _ _ _ _ q
  refine p_143x (d := 227) (by omega) (by omega) (fun v ok hv => ⟨_, rfl, ?_⟩) (fun no => ⟨m, rfl, ?_⟩)
  · have r1 : ∀ x j, 249 ≤ x → upm (upm (upm m 212 (m 211 4) a) 213 (m 211 4) b) 211 4 v x j = m x j := fun x j q => by rw [upm_a _ _ _ _ _ _ (by omega), upm_a _ _ _ _ _ _ (by omega), upm_a _ _ _ _ _ _ (by omega)]
    refine p_269x (d := 227) (by rw [r1 _ _ (by decide)]; omega) (by rw [r1 _ _ (by decide)]; omega) (fun w ok2 hw => ?_) (fun no => absurd ?_ no)
    · rw [r1 _ _ (by decide)] at hw ⊢
      rw [r1 _ _ (by decide)] at ok2
      refine ⟨_, rfl, ⟨tc, pl, ?_, ?_, ⟨RT_fr (m := m) (fun x j q => ?_) hX.1, ?_, ?_⟩, RB_fr (Nat.le_succ n) ?_ ?_ (fun j => ?_) (fun j => ?_) hB⟩⟩
      · refine BC_hi (BC_hi (BC_hi (BC_hi (BC_up (BC_up (BC_up hC (by decide) ?_) (by decide) ?_) (by decide) ?_) (by decide)) (by decide)) (by decide)) (by decide)
        · simp [BdC]; omega
        · simp [BdC, hnd]
        · simp [BdC]; omega
      · refine BR_up (BR_up (BR_up (BR_0 (BR_lo (BR_lo (BR_lo hR (by decide)) (by decide)) (by decide))) (by decide) ?_ ?_) (by decide) ?_ ?_) (by decide) ?_ ?_
        · first | decide | simp [frc]
        · simp [BdR]
        · first | decide | simp [frc]
        · simp [BdR]
        · first | decide | simp [frc]
        · simp [BdR]; omega
      · rcases q with rfl | rfl <;> simp only [upm_f, Int.reduceEq, Int.reduceNe, ne_eq, not_false_eq_true]
      · obtain ⟨k1, k2, k3, k4, k5⟩ := hX.2.1
        refine ⟨?_, ?_, ?_, ?_, fun j h0 h1 => ?_⟩
        · simp only [upm_f, upm_app, Int.reduceEq, Int.reduceNe, ne_eq, not_false_eq_true, and_false, if_false]; exact k1
        · simp only [upm_f, upm_app, Int.reduceEq, Int.reduceNe, ne_eq, not_false_eq_true, and_false, if_false]; exact k2
        · simp only [upm_f, upm_app, Int.reduceEq, Int.reduceNe, ne_eq, not_false_eq_true, and_false, if_false]; exact k3
        · simp only [upm_f, upm_app, Int.reduceEq, Int.reduceNe, ne_eq, not_false_eq_true, and_false, if_false]; exact k4
        · simp only [upm_f, Int.reduceEq, Int.reduceNe, ne_eq, not_false_eq_true] at h1 ⊢; exact k5 j h0 h1
      · show upm _ 249 62 w 249 62 = _
        rw [upm_v]
        simp only [upm_f, upm_app, Int.reduceEq, Int.reduceNe, ne_eq, not_false_eq_true, and_self, and_true, and_false, false_and, true_and, if_true, if_false]
        omega
      · simp only [upm_f, upm_app, Int.reduceEq, Int.reduceNe, ne_eq, not_false_eq_true, and_false, false_and, if_false]
      · simp only [upm_f, upm_app, Int.reduceEq, Int.reduceNe, ne_eq, not_false_eq_true, and_false, false_and, if_false]
      · simp only [upm_f, upm_app, Int.reduceEq, Int.reduceNe, ne_eq, not_false_eq_true, and_false, false_and, if_false]
      · simp only [upm_f, upm_app, Int.reduceEq, Int.reduceNe, ne_eq, not_false_eq_true, and_false, false_and, if_false]
    · rw [r1 _ _ (by decide), r1 _ _ (by decide)]; omega
  · refine p_269x (d := 227) (by omega) (by omega) (fun w ok2 hw => absurd ?_ no) (fun no2 => ?_)
    · omega
    · exact ⟨_, rfl, ⟨tc, pl, BC_hi hC (by decide), BR_0 hR, ⟨RT_fr (fun x j q => c0 _ _ _ (by omega)) hX.1, RKM_fr (fun x j q => by unfold upm; rw [if_neg (by omega)]) hX.2⟩, RB_fr (Nat.le_succ n) (c0 _ _ _ (by omega)) (upm_k (by decide)) (fun j => c0 _ _ _ (by omega)) (fun j => c0 _ _ _ (by omega)) hB⟩⟩
theorem two_145 {n : Nat} {m : Mem} (h : JJ (n + 1) m) : Cl 230 145 [1] (fun v u => ∃ m1, u = S9 0 m1 ∧ Cl 230 270 [249] (fun w u' => ∃ m2, u' = S9 0 m2 ∧ JJ n m2) (S9 0 m1)) (S9 0 m) := by
  obtain ⟨tc, pl, hC, hR, hX, hB⟩ := h
  have hs := JC_s (BC_g 0 hC)
  have hr := JR_s (BR_g 0 hR)
  have hm : m 249 62 = m 211 4 := hX.2.2
  refine p_145x (d := 229) ⟨_, rfl, p_270x (d := 229) ?_⟩
  refine ⟨_, rfl, ⟨tc, pl, BC_hi (BC_hi (BC_up hC (by decide) (by simp [BdC])) (by decide)) (by decide), BR_up (BR_0 (BR_lo hR (by decide))) (by decide) (by first | decide | simp [frc]) (by simp [BdR]), ⟨RT_fr (m := m) (fun x j q => ?_) hX.1, ?_, ?_⟩, RB_fr (Nat.le_succ n) ?_ ?_ (fun j => ?_) (fun j => ?_) hB⟩⟩
  · rcases q with rfl | rfl <;> simp only [upm_f, Int.reduceEq, Int.reduceNe, ne_eq, not_false_eq_true]
  · obtain ⟨k1, k2, k3, k4, k5⟩ := hX.2.1
    refine ⟨?_, ?_, ?_, ?_, fun j h0 h1 => ?_⟩
    · simp only [upm_f, upm_app, Int.reduceEq, Int.reduceNe, ne_eq, not_false_eq_true, and_false, if_false]; exact k1
    · simp only [upm_f, upm_app, Int.reduceEq, Int.reduceNe, ne_eq, not_false_eq_true, and_false, if_false]; exact k2
    · simp only [upm_f, upm_app, Int.reduceEq, Int.reduceNe, ne_eq, not_false_eq_true, and_false, if_false]; exact k3
    · simp only [upm_f, upm_app, Int.reduceEq, Int.reduceNe, ne_eq, not_false_eq_true, and_false, if_false]; exact k4
    · simp only [upm_f, Int.reduceEq, Int.reduceNe, ne_eq, not_false_eq_true] at h1 ⊢; exact k5 j h0 h1
  · show upm _ 249 62 0 249 62 = _
    rw [upm_v]
    simp only [upm_f, upm_app, Int.reduceEq, Int.reduceNe, ne_eq, not_false_eq_true, and_self, and_true, and_false, false_and, true_and, if_true, if_false]
  · simp only [upm_f, upm_app, Int.reduceEq, Int.reduceNe, ne_eq, not_false_eq_true, and_false, false_and, if_false]
  · simp only [upm_f, upm_app, Int.reduceEq, Int.reduceNe, ne_eq, not_false_eq_true, and_false, false_and, if_false]
  · simp only [upm_f, upm_app, Int.reduceEq, Int.reduceNe, ne_eq, not_false_eq_true, and_false, false_and, if_false]
  · simp only [upm_f, upm_app, Int.reduceEq, Int.reduceNe, ne_eq, not_false_eq_true, and_false, false_and, if_false]
theorem two_152 {a : Int} {n : Nat} {m : Mem} (h : JJ (n + 1) m) : Cl 230 152 [1, a] (fun v u => ∃ m1, u = S9 0 m1 ∧ Cl 230 276 [249, a] (fun w u' => ∃ m2, u' = S9 0 m2 ∧ JJ n m2) (S9 0 m1)) (S9 0 m) := by
  obtain ⟨tc, pl, hC, hR, hX, hB⟩ := h
  refine s_152x (d := 227) (g := gC 2 m) (BC_g 2 hC) (fun v m1 h1 p1 => ⟨m1, rfl, ?_⟩)
  refine s_276x (d := 228) (g := gR 2 m1) (JW_mk (BR_g 2 (BR_tr hR (fun x j q _ => FC_of h1 x j (Or.inl q))))) (fun w m2 h2 p2 => ⟨m2, rfl, ⟨tc, pl, ?_, ?_, ?_, ?_⟩⟩)
  · exact BC_tr (BC_of h1) (fun x j q => FR_of (JW_1 h2) x j (Or.inl q))
  · exact BR_of (JW_1 h2)
  · exact RX_fr (Int.le_refl _) (fun x j q => FC_of h1 x j (frC_le (by decide) q)) (fun x j q => FR_of (JW_1 h2) x j (frR_le (by decide) q)) hX
  · have d1 : m2 1 12 = m1 1 12 := FR_of (JW_1 h2) 1 12 (Or.inl (by decide))
    have b7 : m1 249 7 = m 249 7 := FC_of h1 249 7 (Or.inl (by decide))
    have b85 : ∀ j, m1 285 j = m 285 j := fun j => FC_of h1 285 j (Or.inl (by decide))
    have b86 : ∀ j, m1 286 j = m 286 j := fun j => FC_of h1 286 j (Or.inl (by decide))
    obtain ⟨p2, e7⟩ := p2
    rcases p1 with ⟨a0, a1, -, e1⟩ | ⟨a0, -, e1⟩
    · rcases p2 with ⟨-, -, -, e85, e86⟩ | ⟨b0, -, -, -⟩
      · refine RB_keep ⟨a0, a1⟩ (d1.trans e1) (e7.trans b7) (fun j => ?_) (fun j => ?_) hB
        · rw [e85, upm_app, b85]; simp
        · rw [e86, upm_app, b86, b7]; simp
      · exact absurd b0 (by omega)
    · rcases p2 with ⟨b0, b1, -, -, -⟩ | ⟨-, -, e85, e86⟩
      · exact absurd a0 (by omega)
      · exact RB_fr (Nat.le_succ n) (d1.trans e1) (e7.trans b7) (fun j => by rw [e85]; exact b85 j) (fun j => by rw [e86]; exact b86 j) hB
theorem two_41 {n : Nat} {m : Mem} (h : JJ (n + 1) m) : Cl 230 41 [1] (fun v u => ∃ m1, u = S9 0 m1 ∧ Cl 230 189 [249] (fun w u' => ∃ m2, u' = S9 0 m2 ∧ JJ n m2 ∧ w = v) (S9 0 m1)) (S9 0 m) := by
  obtain ⟨tc, pl, hC, hR, hX, hB⟩ := h
  refine f_41 (d := 200) (g := gC 3 m) hX.1.2.1 (BC_g 3 hC) (fun v m1 h1 p1 => ⟨m1, rfl, ?_⟩)
  have e60 : m1 260 = m 260 := by funext j; exact FC_of h1 260 j (Or.inl (by decide))
  refine f_189 (d := 15) (g := gR 3 m1) (by rw [e60]; exact hX.1.2.2) (BR_g 3 (BR_tr hR (fun x j q _ => FC_of h1 x j (Or.inl q)))) (fun w m2 h2 p2 => ⟨m2, rfl, ⟨0, pl, ?_, ?_, ?_, ?_⟩, ?_⟩)
  · exact BC_tr (BC_of h1) (fun x j q => FR_of h2 x j (Or.inl q))
  · exact BR_of h2
  · exact RX_fr hC.1.1 (fun x j q => FC_of h1 x j (frC_le (by decide) q)) (fun x j q => FR_of h2 x j (frR_le (by decide) q)) hX
  · exact RB_fr (Nat.le_succ n) ((FR_of h2 1 12 (Or.inl (by decide))).trans (FC_of h1 1 12 (by unfold frC; omega))) ((FR_of h2 249 7 (by unfold frR; omega)).trans (FC_of h1 249 7 (Or.inl (by decide)))) (fun j => (FR_of h2 285 j (by unfold frR; omega)).trans (FC_of h1 285 j (Or.inl (by decide)))) (fun j => (FR_of h2 286 j (by unfold frR; omega)).trans (FC_of h1 286 j (Or.inl (by decide)))) hB
  · rw [p1, p2, e60]; exact RV_e hX.1.1
