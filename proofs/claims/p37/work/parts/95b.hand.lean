/-! sign, end, kitchen, mark, wipe on both sides -/
theorem BC_up {tc a j v : Int} {m : Mem} (h : BC tc m) (ha : a < 249) (hv : BdC tc a j v) : BC tc (upm m a j v) := BC_of (JC_up (BC_g 0 h) (by unfold frC; omega) hv)
theorem BC_hi {tc a j v : Int} {m : Mem} (h : BC tc m) (ha : 249 ≤ a) : BC tc (upm m a j v) := BC_tr h (fun x y hx => upm_a _ _ _ _ _ _ (by omega))
theorem BR_up {tc pl a j v : Int} {m : Mem} (h : BR tc pl m) (ha : 249 ≤ a ∧ a < 288) (hf : frc a j) (hv : BdR tc pl a j v) : BR tc pl (upm m a j v) := BR_of (JR_up (BR_g 0 h) (by unfold frR; omega) hf hv)
theorem BR_lo {tc pl a j v : Int} {m : Mem} (h : BR tc pl m) (ha : a < 249) : BR tc pl (upm m a j v) := BR_tr h (fun x y hx _ => upm_a _ _ _ _ _ _ (by omega))
theorem BR_0 {tc pl : Int} {m : Mem} (h : BR tc pl m) : BR tc pl (upm m 249 0 0) := BR_up h (by decide) (by first | decide | simp [frc]) (by simp [BdR])
/-- THE KITCHEN and the marks' number stand where their cells stand -/
theorem RKM_fr {m m' : Mem} (e : ∀ x j, (x = 8 ∨ x = 9 ∨ x = 211 ∨ x = 251 ∨ (x = 249 ∧ (3 ≤ j ∧ j ≤ 6 ∨ j = 62))) → m' x j = m x j) (h : RK m ∧ RM m) : RK m' ∧ RM m' := by
  obtain ⟨⟨k1, k2, k3, k4, k5⟩, hm⟩ := h
  refine ⟨⟨?_, ?_, ?_, ?_, fun j h0 h1 => ?_⟩, ?_⟩
  · rw [e 249 3 (by omega), e 8 0 (by omega)]; exact k1
  · rw [e 249 4 (by omega), e 8 1 (by omega)]; exact k2
  · rw [e 249 5 (by omega), e 8 2 (by omega)]; exact k3
  · rw [e 249 6 (by omega), e 8 3 (by omega)]; exact k4
  · rw [e 8 0 (by omega)] at h1
    rw [e 251 j (by omega), e 9 j (by omega)]; exact k5 j h0 h1
  · show m' 249 62 = m' 211 4
    rw [e 249 62 (by omega), e 211 4 (by omega)]; exact hm
theorem RT_fr {tc : Int} {m m' : Mem} (e : ∀ x j, (x = 3 ∨ x = 260) → m' x j = m x j) (h : RT tc m) : RT tc m' :=
  ⟨fun j h0 h1 => by rw [e _ _ (Or.inr rfl), e _ _ (Or.inl rfl)]; exact h.1 j h0 h1, fun j => by rw [e _ _ (Or.inl rfl)]; exact h.2.1 j, fun j => by rw [e _ _ (Or.inr rfl)]; exact h.2.2 j⟩
theorem BC_len {tc v : Int} {m : Mem} (h : BC tc m) (h0 : 0 ≤ v) (h1 : v ≤ 80) : BC v (upm m 2 1 v) := BC_of (JC_len (BC_g 0 h) h0 h1)
theorem BR_len {tc pl v : Int} {m : Mem} (h : BR tc pl m) (h0 : 0 ≤ v) (h1 : v ≤ 80) : BR v pl (upm m 249 18 v) := BR_of (JR_len (BR_g 0 h) h0 h1)
theorem BC_3 {tc : Int} {m m' : Mem} (h : BC tc m) (e : ∀ x j, x < 249 → x ≠ 3 → m' x j = m x j) : BC tc m' := by
  refine ⟨h.1, fun a j => ?_⟩
  by_cases ha : a < 249
  · by_cases h3 : a = 3
    · subst h3; simp [BdC, hnd]
    · rw [e a j ha h3]; exact h.2 a j
  · exact BdC_out (by omega)
theorem BR_260 {tc pl : Int} {m m' : Mem} (h : BR tc pl m) (e : ∀ x j, 249 ≤ x → x < 288 → x ≠ 260 → m' x j = m x j) : BR tc pl m' := by
  have e5 : m' 265 = m 265 := by funext y; exact e 265 y (by decide) (by decide) (by decide)
  refine ⟨⟨h.1.1, h.1.2.1, fun a j => ?_⟩, ?_, fun w h0 h1 => ?_, ?_⟩
  · by_cases ha : 249 ≤ a ∧ a < 288
    · by_cases h3 : a = 260
      · subst h3; simp [BdR]
      · rw [e a j ha.1 ha.2 h3]; exact h.1.2.2 a j
    · exact BdR_out (by omega)
  · rw [e 249 3 (by decide) (by decide) (by decide)]; exact h.2.1
  · rw [e 254 w (by decide) (by decide) (by decide)]
    rw [e 249 4 (by decide) (by decide) (by decide)] at h1
    exact h.2.2.1 w h0 h1
  · rw [e5, e 249 32 (by decide) (by decide) (by decide)]; exact h.2.2.2
theorem two_12 {a : Int} {n : Nat} {m : Mem} (h : JJ (n + 1) m) : Cl 230 12 [1, a] (fun v u => ∃ m1, u = S9 0 m1 ∧ Cl 230 167 [249, a] (fun w u' => ∃ m2, u' = S9 0 m2 ∧ JJ n m2) (S9 0 m1)) (S9 0 m) := by
  obtain ⟨tc, pl, hC, hR, hX, hB, hG⟩ := h
  have hs := JC_s (BC_g 0 hC)
  have hr := JR_s (BR_g 0 hR)
  have e0 : ∀ m9 : Mem, ∀ x j, ¬ (x = 249 ∧ j = 0) → upm m9 249 0 0 x j = m9 x j := fun m9 x j q => by unfold upm; rw [if_neg q]
  refine t_sign (d := 228) (by omega) (by omega) ⟨fun h => ⟨m, rfl, t_signM (by omega) (by omega) ⟨fun h' => ⟨_, rfl, ⟨tc, pl, BC_hi hC (by decide), BR_0 hR, ⟨RT_fr (fun x j q => e0 _ _ _ (by omega)) hX.1, RKM_fr (fun x j q => e0 _ _ _ (by omega)) hX.2⟩, RB_fr (Nat.le_succ n) (e0 _ _ _ (by omega)) (e0 _ _ _ (by omega)) (fun j => e0 _ _ _ (by omega)) (fun j => e0 _ _ _ (by omega)) hB, GSx_fr hC (fun x j q => e0 _ _ _ (fun y => GCl_n q (by omega))) hG⟩⟩, fun h' => absurd h' (by omega)⟩⟩, fun h m1 g => ⟨m1, rfl, ?_⟩⟩
  obtain ⟨g1, g2, g3⟩ := g
  rw [hs.1] at g1 g2 g3
  have e18 : m1 249 18 = tc := by rw [g1 _ _ (by omega) (by omega)]; exact hr.1
  refine t_signM (by omega) (by omega) ⟨fun h' => absurd h' (by omega), fun _ m2 k => ⟨m2, rfl, ?_⟩⟩
  obtain ⟨k1, k2, k3⟩ := k
  rw [e18] at k1 k2 k3
  have c : ∀ x j, x < 249 → ¬ (x = 3 ∧ tc ≤ j ∧ j < tc + 4) → ¬ (x = 2 ∧ j = 1) → m2 x j = m x j := fun x j hx h1 h2 => by rw [k1 x j (by omega) (by omega), e0 _ _ _ (by omega), g1 x j h1 h2]
  have r : ∀ x j, 249 ≤ x → ¬ (x = 260 ∧ tc ≤ j ∧ j < tc + 4) → ¬ (x = 249 ∧ j = 18) → ¬ (x = 249 ∧ j = 0) → m2 x j = m x j := fun x j hx h1 h2 h3 => by rw [k1 x j h1 h2, e0 _ _ _ h3, g1 x j (by omega) (by omega)]
  have m23 : ∀ j, m2 3 j = m1 3 j := fun j => by rw [k1 3 j (by omega) (by omega), e0 _ _ _ (by omega)]
  refine ⟨tc + 4, pl, ?_, ?_, ⟨⟨fun j h0 h1 => ?_, fun j => ?_, fun j => ?_⟩, RKM_fr (m := m) (fun x j q => ?_) hX.2⟩, RB_fr (Nat.le_succ n) (c 1 12 (by decide) (by omega) (by omega)) (r 249 7 (by decide) (by omega) (by omega) (by omega)) (fun j => r 285 j (by decide) (by omega) (by omega) (by omega)) (fun j => r 286 j (by decide) (by omega) (by omega) (by omega)) hB, GSx_fr hC (fun x j q => by have z := GCl_n q; by_cases hx : x < 249; exact c x j hx (by omega) (by omega); exact r x j (by omega) (by omega) (by omega) (by omega)) hG⟩
  · refine BC_3 (BC_len hC (v := tc + 4) (by omega) (by omega)) (fun x j hx h3 => ?_)
    by_cases q : x = 2 ∧ j = 1
    · obtain ⟨rfl, rfl⟩ := q
      rw [upm_v, k1 2 1 (by omega) (by omega), e0 _ _ _ (by omega), g3]
    · rw [c x j hx (by omega) q]; unfold upm; rw [if_neg q]
  · refine BR_260 (BR_len (BR_0 hR) (v := tc + 4) (by omega) (by omega)) (fun x j h0 h1 h3 => ?_)
    by_cases q : x = 249 ∧ j = 18
    · obtain ⟨rfl, rfl⟩ := q
      rw [upm_v, k3]
    · rw [k1 x j (by omega) q]
      by_cases q0 : x = 249 ∧ j = 0
      · obtain ⟨rfl, rfl⟩ := q0
        rw [upm_v, upm_k (by decide), upm_v]
      · rw [e0 _ _ _ q0, g1 x j (by omega) (by omega)]
        unfold upm; rw [if_neg q, if_neg q0]
  · rw [m23]
    by_cases hj : j < tc
    · rw [r 260 j (by decide) (by omega) (by omega) (by omega), g1 3 j (by omega) (by omega)]
      exact hX.1.1 j h0 hj
    · have e1 := g2 (j - tc) (by omega) (by omega)
      have e2 := k2 (j - tc) (by omega) (by omega)
      rw [show tc + (j - tc) = j by omega] at e1 e2
      rw [e1, e2]
  · rw [m23]
    by_cases hj : tc ≤ j ∧ j < tc + 4
    · have e1 := g2 (j - tc) (by omega) (by omega)
      rw [show tc + (j - tc) = j by omega] at e1
      rw [e1]; exact and255 _
    · rw [g1 3 j (by omega) (by omega)]; exact hX.1.2.1 j
  · by_cases hj : tc ≤ j ∧ j < tc + 4
    · have e1 := k2 (j - tc) (by omega) (by omega)
      rw [show tc + (j - tc) = j by omega] at e1
      rw [e1]; exact and255 _
    · rw [r 260 j (by decide) (by omega) (by omega) (by omega)]; exact hX.1.2.2 j
  · by_cases hx : x < 249
    · exact c x j hx (by omega) (by omega)
    · exact r x j (by omega) (by omega) (by omega) (by omega)
theorem two_14 {a : Int} {n : Nat} {m : Mem} (h : JJ (n + 1) m) : Cl 230 14 [1, a] (fun v u => ∃ m1, u = S9 0 m1 ∧ Cl 230 168 [249, a] (fun w u' => ∃ m2, u' = S9 0 m2 ∧ JJ n m2) (S9 0 m1)) (S9 0 m) := by
  obtain ⟨tc, pl, hC, hR, hX, hB, hG⟩ := h
  have hs := JC_s (BC_g 0 hC)
  have hr := JR_s (BR_g 0 hR)
  refine s_14 (d := 228) (g := gC 4 m) (BC_g 4 hC) (fun v m1 tc1 h1 p1 => ⟨m1, rfl, ?_⟩)
  refine s_168 (d := 228) (g := gR 4 m1) (JW_mk (BR_g 4 (BR_tr hR (fun x j q _ => h1.2.1 x j (Or.inl q))))) (fun w m2 tc2 h2 p2 => ?_)
  have et : tc2 = tc1 := by omega
  subst et
  refine ⟨m2, rfl, ⟨tc2, pl, ?_, ?_, ?_, ?_, ?_⟩⟩
  · exact BC_tr (BC_of h1) (fun x j q => (JW_1 h2).1.2.2.1 x j (Or.inl q))
  · exact BR_of (JW_1 h2)
  · exact RX_fr (by omega) (fun x j q => h1.2.1 x j (frC_le (by decide) q)) (fun x j q => (JW_1 h2).1.2.2.1 x j (frR_le (by decide) q)) hX
  · exact RB_fr (Nat.le_succ n) (((JW_1 h2).1.2.2.1 1 12 (Or.inl (by decide))).trans (h1.2.1 1 12 (by show frC 4 1 12; unfold frC; omega))) (((JW_1 h2).1.2.2.1 249 7 (by show frR 4 249 7; unfold frR; omega)).trans (h1.2.1 249 7 (Or.inl (by decide)))) (fun j => ((JW_1 h2).1.2.2.1 285 j (by show frR 4 285 j; unfold frR; omega)).trans (h1.2.1 285 j (Or.inl (by decide)))) (fun j => ((JW_1 h2).1.2.2.1 286 j (by show frR 4 286 j; unfold frR; omega)).trans (h1.2.1 286 j (Or.inl (by decide)))) hB
  · exact GSx_fr hC (fun x j q => ((JW_1 h2).1.2.2.1 x j (GCl_R q)).trans (h1.2.1 x j (GCl_C q))) hG
theorem two_143 {a b : Int} {n : Nat} {m : Mem} (h : JJ (n + 1) m) : Cl 230 143 [1, a, b] (fun v u => ∃ m1, u = S9 0 m1 ∧ Cl 230 269 [249, a, b] (fun w u' => ∃ m2, u' = S9 0 m2 ∧ JJ n m2) (S9 0 m1)) (S9 0 m) := by
  obtain ⟨tc, pl, hC, hR, hX, hB, hG⟩ := h
  have hs := JC_s (BC_g 0 hC)
  have hr := JR_s (BR_g 0 hR)
  have hm : m 249 62 = m 211 4 := hX.2.2
  have h8 : m 249 3 = m 8 0 := hX.2.1.1
  have hb := hC.2 211 4
  simp [BdC] at hb
  have c0 : ∀ m9 : Mem, ∀ x j, x ≠ 249 → upm m9 249 0 0 x j = m9 x j := fun m9 x j q => upm_a _ _ _ _ _ _ q
  refine p_143x (d := 227) (by omega) (by omega) (fun v ok hv => ⟨_, rfl, ?_⟩) (fun no => ⟨m, rfl, ?_⟩)
  · have r1 : ∀ x j, 249 ≤ x → upm (upm (upm m 212 (m 211 4) a) 213 (m 211 4) b) 211 4 v x j = m x j := fun x j q => by rw [upm_a _ _ _ _ _ _ (by omega), upm_a _ _ _ _ _ _ (by omega), upm_a _ _ _ _ _ _ (by omega)]
    refine p_269x (d := 227) (by rw [r1 _ _ (by decide)]; omega) (by rw [r1 _ _ (by decide)]; omega) (fun w ok2 hw => ?_) (fun no => absurd ?_ no)
    · rw [r1 _ _ (by decide)] at hw ⊢
      rw [r1 _ _ (by decide)] at ok2
      refine ⟨_, rfl, ⟨tc, pl, ?_, ?_, ⟨RT_fr (m := m) (fun x j q => ?_) hX.1, ?_, ?_⟩, RB_fr (Nat.le_succ n) ?_ ?_ (fun j => ?_) (fun j => ?_) hB, GSx_fr hC (fun x j q => by have z := GCl_n q; (repeat rw [upm_app, if_neg (by omega)])) hG⟩⟩
      · refine BC_hi (BC_hi (BC_hi (BC_hi (BC_up (BC_up (BC_up hC (by decide) ?_) (by decide) ?_) (by decide) ?_) (by decide)) (by decide)) (by decide)) (by decide)
        · simp [BdC]; omega
        · simp [BdC, hnd]
        · simp [BdC]; omega
      · refine BR_up (BR_up (BR_up (BR_0 (BR_lo (BR_lo (BR_lo hR (by decide)) (by decide)) (by decide))) (by decide) ?_ ?_) (by decide) ?_ ?_) (by decide) ?_ ?_
        · first | decide | simp [frc]
        · simp [BdR]
        · first | decide | simp [frc]
        · simp [BdR]
        · first | decide | simp [frc]
        · simp [BdR]; omega
      · rcases q with rfl | rfl <;> simp only [upm_f, Int.reduceEq, Int.reduceNe, ne_eq, not_false_eq_true]
      · obtain ⟨k1, k2, k3, k4, k5⟩ := hX.2.1
        refine ⟨?_, ?_, ?_, ?_, fun j h0 h1 => ?_⟩
        · simp only [upm_f, upm_app, Int.reduceEq, Int.reduceNe, ne_eq, not_false_eq_true, and_false, if_false]; exact k1
        · simp only [upm_f, upm_app, Int.reduceEq, Int.reduceNe, ne_eq, not_false_eq_true, and_false, if_false]; exact k2
        · simp only [upm_f, upm_app, Int.reduceEq, Int.reduceNe, ne_eq, not_false_eq_true, and_false, if_false]; exact k3
        · simp only [upm_f, upm_app, Int.reduceEq, Int.reduceNe, ne_eq, not_false_eq_true, and_false, if_false]; exact k4
        · simp only [upm_f, Int.reduceEq, Int.reduceNe, ne_eq, not_false_eq_true] at h1 ⊢; exact k5 j h0 h1
      · show upm _ 249 62 w 249 62 = _
        rw [upm_v]
        simp only [upm_f, upm_app, Int.reduceEq, Int.reduceNe, ne_eq, not_false_eq_true, and_self, and_true, and_false, false_and, true_and, if_true, if_false]
        omega
      · simp only [upm_f, upm_app, Int.reduceEq, Int.reduceNe, ne_eq, not_false_eq_true, and_false, false_and, if_false]
      · simp only [upm_f, upm_app, Int.reduceEq, Int.reduceNe, ne_eq, not_false_eq_true, and_false, false_and, if_false]
      · simp only [upm_f, upm_app, Int.reduceEq, Int.reduceNe, ne_eq, not_false_eq_true, and_false, false_and, if_false]
      · simp only [upm_f, upm_app, Int.reduceEq, Int.reduceNe, ne_eq, not_false_eq_true, and_false, false_and, if_false]
    · rw [r1 _ _ (by decide), r1 _ _ (by decide)]; omega
  · refine p_269x (d := 227) (by omega) (by omega) (fun w ok2 hw => absurd ?_ no) (fun no2 => ?_)
    · omega
    · exact ⟨_, rfl, ⟨tc, pl, BC_hi hC (by decide), BR_0 hR, ⟨RT_fr (fun x j q => c0 _ _ _ (by omega)) hX.1, RKM_fr (fun x j q => by unfold upm; rw [if_neg (by omega)]) hX.2⟩, RB_fr (Nat.le_succ n) (c0 _ _ _ (by omega)) (upm_k (by decide)) (fun j => c0 _ _ _ (by omega)) (fun j => c0 _ _ _ (by omega)) hB, GSx_fr hC (fun x j q => by have z := GCl_n q; rw [upm_app, if_neg (by omega)]) hG⟩⟩
theorem two_145 {n : Nat} {m : Mem} (h : JJ (n + 1) m) : Cl 230 145 [1] (fun v u => ∃ m1, u = S9 0 m1 ∧ Cl 230 270 [249] (fun w u' => ∃ m2, u' = S9 0 m2 ∧ JJ n m2) (S9 0 m1)) (S9 0 m) := by
  obtain ⟨tc, pl, hC, hR, hX, hB, hG⟩ := h
  have hs := JC_s (BC_g 0 hC)
  have hr := JR_s (BR_g 0 hR)
  have hm : m 249 62 = m 211 4 := hX.2.2
  refine p_145x (d := 229) ⟨_, rfl, p_270x (d := 229) ?_⟩
  refine ⟨_, rfl, ⟨tc, pl, BC_hi (BC_hi (BC_up hC (by decide) (by simp [BdC])) (by decide)) (by decide), BR_up (BR_0 (BR_lo hR (by decide))) (by decide) (by first | decide | simp [frc]) (by simp [BdR]), ⟨RT_fr (m := m) (fun x j q => ?_) hX.1, ?_, ?_⟩, RB_fr (Nat.le_succ n) ?_ ?_ (fun j => ?_) (fun j => ?_) hB, GSx_fr hC (fun x j q => by have z := GCl_n q; (repeat rw [upm_app, if_neg (by omega)])) hG⟩⟩
  · rcases q with rfl | rfl <;> simp only [upm_f, Int.reduceEq, Int.reduceNe, ne_eq, not_false_eq_true]
  · obtain ⟨k1, k2, k3, k4, k5⟩ := hX.2.1
    refine ⟨?_, ?_, ?_, ?_, fun j h0 h1 => ?_⟩
    · simp only [upm_f, upm_app, Int.reduceEq, Int.reduceNe, ne_eq, not_false_eq_true, and_false, if_false]; exact k1
    · simp only [upm_f, upm_app, Int.reduceEq, Int.reduceNe, ne_eq, not_false_eq_true, and_false, if_false]; exact k2
    · simp only [upm_f, upm_app, Int.reduceEq, Int.reduceNe, ne_eq, not_false_eq_true, and_false, if_false]; exact k3
    · simp only [upm_f, upm_app, Int.reduceEq, Int.reduceNe, ne_eq, not_false_eq_true, and_false, if_false]; exact k4
    · simp only [upm_f, Int.reduceEq, Int.reduceNe, ne_eq, not_false_eq_true] at h1 ⊢; exact k5 j h0 h1
  · show upm _ 249 62 0 249 62 = _
    rw [upm_v]
    simp only [upm_f, upm_app, Int.reduceEq, Int.reduceNe, ne_eq, not_false_eq_true, and_self, and_true, and_false, false_and, true_and, if_true, if_false]
  · simp only [upm_f, upm_app, Int.reduceEq, Int.reduceNe, ne_eq, not_false_eq_true, and_false, false_and, if_false]
  · simp only [upm_f, upm_app, Int.reduceEq, Int.reduceNe, ne_eq, not_false_eq_true, and_false, false_and, if_false]
  · simp only [upm_f, upm_app, Int.reduceEq, Int.reduceNe, ne_eq, not_false_eq_true, and_false, false_and, if_false]
  · simp only [upm_f, upm_app, Int.reduceEq, Int.reduceNe, ne_eq, not_false_eq_true, and_false, false_and, if_false]
