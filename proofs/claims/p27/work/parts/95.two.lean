section
/-! both sides of each call, under a relation of the two memories -/
/-- the text; THE KITCHEN's counts and kinds; marks; what is kept -/
def RT (tc : Int) (m : Mem) : Prop := (∀ j, 0 ≤ j → j < tc → m 260 j = m 3 j) ∧ (∀ j, 0 ≤ m 3 j ∧ m 3 j < 256) ∧ ∀ j, 0 ≤ m 260 j ∧ m 260 j < 256
def RK (m : Mem) : Prop := m 249 3 = m 8 0 ∧ m 249 4 = m 8 1 ∧ m 249 5 = m 8 2 ∧ m 249 6 = m 8 3 ∧ ∀ j, 0 ≤ j → j < m 8 0 → m 251 j = m 9 j
def RM (m : Mem) : Prop := m 249 62 = m 211 4
def RX (tc : Int) (m : Mem) : Prop := RT tc m ∧ RK m ∧ RM m
def GSx (m : Mem) : Prop := ∃ R, GS R m
theorem GSx_fr {tc : Int} {m m2 : Mem} (hC : BC tc m) (e : ∀ x j, GCl x j → m2 x j = m x j) (h : GSx m) : GSx m2 := by
  have hs := JC_s (BC_g 0 hC)
  obtain ⟨R, h⟩ := h
  exact ⟨R, GS_fr (by omega) (by omega) e h⟩
theorem GCl_C {x j : Int} (h : GCl x j) : frC 4 x j := by unfold GCl at h; unfold frC; omega
theorem GCl_R {x j : Int} (h : GCl x j) : frR 4 x j := by unfold GCl at h; unfold frR; omega
theorem GCl_n {x j : Int} (h : GCl x j) : ¬ (x = 288 ∨ x = 2 ∨ x = 3 ∨ x = 260 ∨ (x = 249 ∧ j ≠ 32 ∧ j ≠ 39) ∨ x = 211 ∨ x = 212 ∨ x = 213 ∨ x = 281 ∨ x = 282) := by unfold GCl at h; omega
theorem GS_0 : GS rl0 zM := by
  refine ⟨⟨fun w w0 w1 => absurd w1 (by rw [zM_0]; omega), fun q q0 q1 => absurd q1 (by rw [zM_0]; omega), fun p p0 p1 => absurd p1 (by rw [zM_0]; omega)⟩, ⟨⟨fun p p0 p1 => absurd p1 (by rw [zM_0]; omega), fun p q p0 p1 => absurd p1 (by rw [zM_0]; omega), fun q q0 q1 => absurd q1 (by rw [zM_0]; omega), ?_⟩, fun q q0 q1 => absurd q1 (by rw [zM_0]; omega), ⟨fun f j _ _ j0 j1 => absurd j1 (by rw [zM_0]; omega), fun f j _ _ j0 j1 => absurd j1 (by rw [zM_0]; omega), ?_, ?_⟩, fun w w0 w1 => ?_, ⟨fun p p0 p1 => absurd p1 (by rw [zM_0]; omega), by simp only [zM_0]; rfl⟩⟩, ⟨?_, fun i i0 i1 => absurd i1 (by rw [zM_0]; omega)⟩, fun i i0 i1 z => ?_, Or.inl ⟨zM_0 4 1, rfl⟩, Or.inl ⟨zM_0 249 32, rfl⟩⟩
  · rw [c_no, zM_0]; exact inI_0
  · rw [c_op, r_op, zM_0, zM_0]
  · rw [c_no, r_no, zM_0, zM_0]
  · rw [zM_0]
    exact tb_ext (iand_in _ _) inI_0 (fun i hi => by simp [tb_and, tb_0])
  · simp only [zM_0]; decide
  · rw [zM_0] at z
    exact absurd ((kbit0 i).resolve_right (by omega)) z
theorem GSx_0 : GSx zM := ⟨_, GS_0⟩
def JJ (n : Nat) (m : Mem) : Prop := ∃ tc pl, BC tc m ∧ BR tc pl m ∧ RX tc m ∧ RB n m ∧ GSx m
theorem RX_fr {tc tc' : Int} (hle : tc' ≤ tc) {m m1 m2 : Mem} (e1 : ∀ x j, frC 2 x j → m1 x j = m x j) (e2 : ∀ x j, frR 2 x j → m2 x j = m1 x j) (h : RX tc m) : RX tc' m2 := by
  have c : ∀ x j, frC 2 x j → x < 249 → m2 x j = m x j := fun x j q hx => by rw [e2 x j (Or.inl hx), e1 x j q]
  have r : ∀ x j, frR 2 x j → 249 ≤ x → m2 x j = m x j := fun x j q hx => by rw [e2 x j q, e1 x j (Or.inl hx)]
  obtain ⟨⟨t1, t2, t3⟩, ⟨k1, k2, k3, k4, k5⟩, hm⟩ := h
  refine ⟨⟨fun j h0 h1 => ?_, fun j => ?_, fun j => ?_⟩, ⟨?_, ?_, ?_, ?_, fun j h0 h1 => ?_⟩, ?_⟩
  · rw [r 260 j (by unfold frR; omega) (by decide), c 3 j (by unfold frC; omega) (by decide)]; exact t1 j h0 (by omega)
  · rw [c 3 j (by unfold frC; omega) (by decide)]; exact t2 j
  · rw [r 260 j (by unfold frR; omega) (by decide)]; exact t3 j
  · rw [r 249 3 (by unfold frR; omega) (by decide), c 8 0 (by unfold frC; omega) (by decide)]; exact k1
  · rw [r 249 4 (by unfold frR; omega) (by decide), c 8 1 (by unfold frC; omega) (by decide)]; exact k2
  · rw [r 249 5 (by unfold frR; omega) (by decide), c 8 2 (by unfold frC; omega) (by decide)]; exact k3
  · rw [r 249 6 (by unfold frR; omega) (by decide), c 8 3 (by unfold frC; omega) (by decide)]; exact k4
  · rw [c 8 0 (by unfold frC; omega) (by decide)] at h1
    rw [r 251 j (by unfold frR; omega) (by decide), c 9 j (by unfold frC; omega) (by decide)]; exact k5 j h0 h1
  · show m2 249 62 = m2 211 4
    rw [r 249 62 (by unfold frR; omega) (by decide), c 211 4 (by unfold frC; omega) (by decide)]; exact hm
theorem JJ_C4 {n : Nat} {tc tc' pl : Int} {m m1 : Mem} (hC : JC 4 (gC 4 m) tc m1) (hR : BR tc' pl m) (hX : RX tc m) (hB : RB n m) (hC0 : BC tc m) (hG : GSx m) : tc = tc' → JJ n m1 := fun e => by
  subst e
  exact ⟨tc, pl, BC_of hC, BR_tr hR (fun x j q _ => FC_of hC x j (Or.inl q)), RX_fr (Int.le_refl _) (fun x j q => FC_of hC x j (frC_le (by decide) q)) (fun _ _ _ => rfl) hX, RB_fr (Nat.le_refl n) (FC_of hC 1 12 (by unfold frC; omega)) (FC_of hC 249 7 (Or.inl (by decide))) (fun j => FC_of hC 285 j (Or.inl (by decide))) (fun j => FC_of hC 286 j (Or.inl (by decide))) hB, GSx_fr hC0 (fun x j q => FC_of hC x j (GCl_C q)) hG⟩
theorem RX_288 {tc : Int} {m : Mem} {v : Int} (h : RX tc m) : RX tc (upm m 288 0 v) := by
  have e : ∀ x j, x ≠ 288 → upm m 288 0 v x j = m x j := fun x j hx => upm_a _ _ _ _ _ _ hx
  obtain ⟨⟨t1, t2, t3⟩, ⟨k1, k2, k3, k4, k5⟩, hm⟩ := h
  refine ⟨⟨fun j h0 h1 => ?_, fun j => ?_, fun j => ?_⟩, ⟨?_, ?_, ?_, ?_, fun j h0 h1 => ?_⟩, ?_⟩
  · rw [e _ _ (by decide), e _ _ (by decide)]; exact t1 j h0 h1
  · rw [e _ _ (by decide)]; exact t2 j
  · rw [e _ _ (by decide)]; exact t3 j
  · rw [e _ _ (by decide), e _ _ (by decide)]; exact k1
  · rw [e _ _ (by decide), e _ _ (by decide)]; exact k2
  · rw [e _ _ (by decide), e _ _ (by decide)]; exact k3
  · rw [e _ _ (by decide), e _ _ (by decide)]; exact k4
  · rw [e _ _ (by decide)] at h1; rw [e _ _ (by decide), e _ _ (by decide)]; exact k5 j h0 h1
  · show upm m 288 0 v 249 62 = upm m 288 0 v 211 4
    rw [e _ _ (by decide), e _ _ (by decide)]; exact hm
theorem JJ_288 {n : Nat} {m : Mem} {v : Int} (h : JJ n m) : JJ n (upm m 288 0 v) := by
  obtain ⟨tc, pl, hC, hR, hX, hB, hG⟩ := h
  exact ⟨tc, pl, BC_tr hC (fun x j hx => upm_a _ _ _ _ _ _ (by omega)), BR_tr hR (fun x j h0 h1 => upm_a _ _ _ _ _ _ (by omega)), RX_288 hX, RB_fr (Nat.le_refl n) (upm_a _ _ _ _ _ _ (by decide)) (upm_a _ _ _ _ _ _ (by decide)) (fun j => upm_a _ _ _ _ _ _ (by decide)) (fun j => upm_a _ _ _ _ _ _ (by decide)) hB, GSx_fr hC (fun x j q => upm_a _ _ _ _ _ _ (fun z => GCl_n q (Or.inl z))) hG⟩
theorem JJ_le {n : Nat} {m : Mem} (h : JJ (n + 1) m) : JJ n m := by
  obtain ⟨tc, pl, hC, hR, hX, hB, hG⟩ := h
  exact ⟨tc, pl, hC, hR, hX, RB_fr (Nat.le_succ n) rfl rfl (fun _ => rfl) (fun _ => rfl) hB, hG⟩
theorem RB_0 : RB 512 zM := by
  refine ⟨⟨by rw [zM_0]; decide, by rw [zM_0]; decide⟩, fun i i0 i1 => ?_⟩
  rw [zM_0, zM_0, zM_0, zM_0]
  exact ⟨by decide, fun z => absurd ((kbit0 i).resolve_right (by omega)) z, fun z => absurd rfl z.1⟩
theorem JJ_0 : JJ 512 zM := by
  refine ⟨0, 1, ⟨by decide, fun a j => ?_⟩, ⟨⟨by decide, by decide, fun a j => ?_⟩, Or.inr ⟨rfl, rfl⟩, fun w h0 h1 => absurd h1 (by show ¬ w < 0; omega), fun k hk => absurd hk (by show ¬ (k : Int) < 0; omega)⟩, ⟨⟨fun _ _ _ => rfl, fun _ => (by rw [zM_0]; decide), fun _ => (by rw [zM_0]; decide)⟩, ⟨rfl, rfl, rfl, rfl, fun _ _ _ => rfl⟩, rfl⟩, RB_0, GSx_0⟩
  · rw [zM_0]; simp [BdC]
  · rw [zM_0]; simp [BdR, RBd]
theorem cB_193 {n : Nat} {a b : Int} {m1 : Mem} (h : JJ (n + 1) m1) : Cl 230 193 [249, a, b] (fun w u' => ∃ m2, u' = S9 0 m2 ∧ JJ n m2) (S9 0 m1) := by
  obtain ⟨tc, pl, hC, hR, hX, hB, hG⟩ := h
  refine s_193 (d := 227) (g := gR 4 m1) (JW_mk (BR_g 4 hR)) (fun w m2 h2 => ⟨m2, rfl, tc, pl, ?_, ?_, ?_, ?_, ?_⟩)
  · exact BC_tr hC (fun x j q => FR_of (JW_1 h2) x j (Or.inl q))
  · exact BR_of (JW_1 h2)
  · exact RX_fr (Int.le_refl _) (fun _ _ _ => rfl) (fun x j q => FR_of (JW_1 h2) x j (frR_le (by decide) q)) hX
  · exact RB_fr (Nat.le_succ n) (FR_of (JW_1 h2) 1 12 (Or.inl (by decide))) (FR_of (JW_1 h2) 249 7 (by unfold frR; omega)) (fun j => FR_of (JW_1 h2) 285 j (by unfold frR; omega)) (fun j => FR_of (JW_1 h2) 286 j (by unfold frR; omega)) hB
  · exact GSx_fr hC (fun x j q => FR_of (JW_1 h2) x j (GCl_R q)) hG
theorem cB_196 {n : Nat} {a b : Int} {m1 : Mem} (h : JJ (n + 1) m1) : Cl 230 196 [249, a, b] (fun w u' => ∃ m2, u' = S9 0 m2 ∧ JJ n m2) (S9 0 m1) := by
  obtain ⟨tc, pl, hC, hR, hX, hB, hG⟩ := h
  refine s_196 (d := 227) (g := gR 4 m1) (JW_mk (BR_g 4 hR)) (fun w m2 h2 => ⟨m2, rfl, tc, pl, ?_, ?_, ?_, ?_, ?_⟩)
  · exact BC_tr hC (fun x j q => FR_of (JW_1 h2) x j (Or.inl q))
  · exact BR_of (JW_1 h2)
  · exact RX_fr (Int.le_refl _) (fun _ _ _ => rfl) (fun x j q => FR_of (JW_1 h2) x j (frR_le (by decide) q)) hX
  · exact RB_fr (Nat.le_succ n) (FR_of (JW_1 h2) 1 12 (Or.inl (by decide))) (FR_of (JW_1 h2) 249 7 (by unfold frR; omega)) (fun j => FR_of (JW_1 h2) 285 j (by unfold frR; omega)) (fun j => FR_of (JW_1 h2) 286 j (by unfold frR; omega)) hB
  · exact GSx_fr hC (fun x j q => FR_of (JW_1 h2) x j (GCl_R q)) hG
theorem cB_200 {n : Nat} {a b : Int} {m1 : Mem} (h : JJ (n + 1) m1) : Cl 230 200 [249, a, b] (fun w u' => ∃ m2, u' = S9 0 m2 ∧ JJ n m2) (S9 0 m1) := by
  obtain ⟨tc, pl, hC, hR, hX, hB, hG⟩ := h
  refine s_200 (d := 226) (g := gR 4 m1) (JW_mk (BR_g 4 hR)) (fun w m2 h2 => ⟨m2, rfl, tc, pl, ?_, ?_, ?_, ?_, ?_⟩)
  · exact BC_tr hC (fun x j q => FR_of (JW_1 h2) x j (Or.inl q))
  · exact BR_of (JW_1 h2)
  · exact RX_fr (Int.le_refl _) (fun _ _ _ => rfl) (fun x j q => FR_of (JW_1 h2) x j (frR_le (by decide) q)) hX
  · exact RB_fr (Nat.le_succ n) (FR_of (JW_1 h2) 1 12 (Or.inl (by decide))) (FR_of (JW_1 h2) 249 7 (by unfold frR; omega)) (fun j => FR_of (JW_1 h2) 285 j (by unfold frR; omega)) (fun j => FR_of (JW_1 h2) 286 j (by unfold frR; omega)) hB
  · exact GSx_fr hC (fun x j q => FR_of (JW_1 h2) x j (GCl_R q)) hG
theorem cB_204 {n : Nat} {a b : Int} {m1 : Mem} (h : JJ (n + 1) m1) : Cl 230 204 [249, a, b] (fun w u' => ∃ m2, u' = S9 0 m2 ∧ JJ n m2) (S9 0 m1) := by
  obtain ⟨tc, pl, hC, hR, hX, hB, hG⟩ := h
  refine s_204 (d := 224) (g := gR 4 m1) (JW_mk (BR_g 4 hR)) (fun w m2 h2 => ⟨m2, rfl, tc, pl, ?_, ?_, ?_, ?_, ?_⟩)
  · exact BC_tr hC (fun x j q => FR_of (JW_1 h2) x j (Or.inl q))
  · exact BR_of (JW_1 h2)
  · exact RX_fr (Int.le_refl _) (fun _ _ _ => rfl) (fun x j q => FR_of (JW_1 h2) x j (frR_le (by decide) q)) hX
  · exact RB_fr (Nat.le_succ n) (FR_of (JW_1 h2) 1 12 (Or.inl (by decide))) (FR_of (JW_1 h2) 249 7 (by unfold frR; omega)) (fun j => FR_of (JW_1 h2) 285 j (by unfold frR; omega)) (fun j => FR_of (JW_1 h2) 286 j (by unfold frR; omega)) hB
  · exact GSx_fr hC (fun x j q => FR_of (JW_1 h2) x j (GCl_R q)) hG
theorem two_103 {n : Nat} {a : Int} {m : Mem} (h : JJ (n + 1) m) : Cl 230 103 [1, a] (fun v u => ∃ m1, u = S9 0 m1 ∧ Cl 230 238 [249, a] (fun w u' => ∃ m2, u' = S9 0 m2 ∧ JJ n m2) (S9 0 m1)) (S9 0 m) := by
  obtain ⟨tc, pl, hC, hR, hX, hB, hG⟩ := h
  refine s_103 (d := 222) (g := gC 4 m) (BC_g 4 hC) (fun v m1 h1 => ⟨m1, rfl, ?_⟩)
  refine s_238 (d := 222) (g := gR 4 m1) (JW_mk (BR_g 4 (BR_tr hR (fun x j q _ => FC_of h1 x j (Or.inl q))))) (fun w m2 h2 => ⟨m2, rfl, tc, pl, ?_, ?_, ?_, ?_, ?_⟩)
  · exact BC_tr (BC_of h1) (fun x j q => FR_of (JW_1 h2) x j (Or.inl q))
  · exact BR_of (JW_1 h2)
  · exact RX_fr (Int.le_refl _) (fun x j q => FC_of h1 x j (frC_le (by decide) q)) (fun x j q => FR_of (JW_1 h2) x j (frR_le (by decide) q)) hX
  · exact RB_fr (Nat.le_succ n) ((FR_of (JW_1 h2) 1 12 (Or.inl (by decide))).trans (FC_of h1 1 12 (by unfold frC; omega))) ((FR_of (JW_1 h2) 249 7 (by unfold frR; omega)).trans (FC_of h1 249 7 (Or.inl (by decide)))) (fun j => (FR_of (JW_1 h2) 285 j (by unfold frR; omega)).trans (FC_of h1 285 j (Or.inl (by decide)))) (fun j => (FR_of (JW_1 h2) 286 j (by unfold frR; omega)).trans (FC_of h1 286 j (Or.inl (by decide)))) hB
  · exact GSx_fr hC (fun x j q => (FR_of (JW_1 h2) x j (GCl_R q)).trans (FC_of h1 x j (GCl_C q))) hG
theorem two_108 {n : Nat} {a b : Int} {m : Mem} (h : JJ (n + 1) m) : Cl 230 108 [1, a, b] (fun v u => ∃ m1, u = S9 0 m1 ∧ Cl 230 242 [249, a, b] (fun w u' => ∃ m2, u' = S9 0 m2 ∧ JJ n m2) (S9 0 m1)) (S9 0 m) := by
  obtain ⟨tc, pl, hC, hR, hX, hB, hG⟩ := h
  refine s_108 (d := 222) (g := gC 4 m) (BC_g 4 hC) (fun v m1 h1 => ⟨m1, rfl, ?_⟩)
  refine s_242 (d := 222) (g := gR 4 m1) (JW_mk (BR_g 4 (BR_tr hR (fun x j q _ => FC_of h1 x j (Or.inl q))))) (fun w m2 h2 => ⟨m2, rfl, tc, pl, ?_, ?_, ?_, ?_, ?_⟩)
  · exact BC_tr (BC_of h1) (fun x j q => FR_of (JW_1 h2) x j (Or.inl q))
  · exact BR_of (JW_1 h2)
  · exact RX_fr (Int.le_refl _) (fun x j q => FC_of h1 x j (frC_le (by decide) q)) (fun x j q => FR_of (JW_1 h2) x j (frR_le (by decide) q)) hX
  · exact RB_fr (Nat.le_succ n) ((FR_of (JW_1 h2) 1 12 (Or.inl (by decide))).trans (FC_of h1 1 12 (by unfold frC; omega))) ((FR_of (JW_1 h2) 249 7 (by unfold frR; omega)).trans (FC_of h1 249 7 (Or.inl (by decide)))) (fun j => (FR_of (JW_1 h2) 285 j (by unfold frR; omega)).trans (FC_of h1 285 j (Or.inl (by decide)))) (fun j => (FR_of (JW_1 h2) 286 j (by unfold frR; omega)).trans (FC_of h1 286 j (Or.inl (by decide)))) hB
  · exact GSx_fr hC (fun x j q => (FR_of (JW_1 h2) x j (GCl_R q)).trans (FC_of h1 x j (GCl_C q))) hG
theorem two_109 {n : Nat} {a : Int} {m : Mem} (h : JJ (n + 1) m) : Cl 230 109 [1, a] (fun v u => ∃ m1, u = S9 0 m1 ∧ Cl 230 243 [249, a] (fun w u' => ∃ m2, u' = S9 0 m2 ∧ JJ n m2) (S9 0 m1)) (S9 0 m) := by
  obtain ⟨tc, pl, hC, hR, hX, hB, hG⟩ := h
  refine s_109 (d := 222) (g := gC 4 m) (BC_g 4 hC) (fun v m1 h1 => ⟨m1, rfl, ?_⟩)
  refine s_243 (d := 222) (g := gR 4 m1) (JW_mk (BR_g 4 (BR_tr hR (fun x j q _ => FC_of h1 x j (Or.inl q))))) (fun w m2 h2 => ⟨m2, rfl, tc, pl, ?_, ?_, ?_, ?_, ?_⟩)
  · exact BC_tr (BC_of h1) (fun x j q => FR_of (JW_1 h2) x j (Or.inl q))
  · exact BR_of (JW_1 h2)
  · exact RX_fr (Int.le_refl _) (fun x j q => FC_of h1 x j (frC_le (by decide) q)) (fun x j q => FR_of (JW_1 h2) x j (frR_le (by decide) q)) hX
  · exact RB_fr (Nat.le_succ n) ((FR_of (JW_1 h2) 1 12 (Or.inl (by decide))).trans (FC_of h1 1 12 (by unfold frC; omega))) ((FR_of (JW_1 h2) 249 7 (by unfold frR; omega)).trans (FC_of h1 249 7 (Or.inl (by decide)))) (fun j => (FR_of (JW_1 h2) 285 j (by unfold frR; omega)).trans (FC_of h1 285 j (Or.inl (by decide)))) (fun j => (FR_of (JW_1 h2) 286 j (by unfold frR; omega)).trans (FC_of h1 286 j (Or.inl (by decide)))) hB
  · exact GSx_fr hC (fun x j q => (FR_of (JW_1 h2) x j (GCl_R q)).trans (FC_of h1 x j (GCl_C q))) hG
theorem two_110 {n : Nat} {a b c : Int} {m : Mem} (h : JJ (n + 1) m) : Cl 230 110 [1, a, b, c] (fun v u => ∃ m1, u = S9 0 m1 ∧ Cl 230 244 [249, a, b, c] (fun w u' => ∃ m2, u' = S9 0 m2 ∧ JJ n m2) (S9 0 m1)) (S9 0 m) := by
  obtain ⟨tc, pl, hC, hR, hX, hB, hG⟩ := h
  refine s_110 (d := 222) (g := gC 4 m) (BC_g 4 hC) (fun v m1 h1 => ⟨m1, rfl, ?_⟩)
  refine s_244 (d := 224) (g := gR 4 m1) (JW_mk (BR_g 4 (BR_tr hR (fun x j q _ => FC_of h1 x j (Or.inl q))))) (fun w m2 h2 => ⟨m2, rfl, tc, pl, ?_, ?_, ?_, ?_, ?_⟩)
  · exact BC_tr (BC_of h1) (fun x j q => FR_of (JW_1 h2) x j (Or.inl q))
  · exact BR_of (JW_1 h2)
  · exact RX_fr (Int.le_refl _) (fun x j q => FC_of h1 x j (frC_le (by decide) q)) (fun x j q => FR_of (JW_1 h2) x j (frR_le (by decide) q)) hX
  · exact RB_fr (Nat.le_succ n) ((FR_of (JW_1 h2) 1 12 (Or.inl (by decide))).trans (FC_of h1 1 12 (by unfold frC; omega))) ((FR_of (JW_1 h2) 249 7 (by unfold frR; omega)).trans (FC_of h1 249 7 (Or.inl (by decide)))) (fun j => (FR_of (JW_1 h2) 285 j (by unfold frR; omega)).trans (FC_of h1 285 j (Or.inl (by decide)))) (fun j => (FR_of (JW_1 h2) 286 j (by unfold frR; omega)).trans (FC_of h1 286 j (Or.inl (by decide)))) hB
  · exact GSx_fr hC (fun x j q => (FR_of (JW_1 h2) x j (GCl_R q)).trans (FC_of h1 x j (GCl_C q))) hG
theorem two_113 {n : Nat} {a b c : Int} {m : Mem} (h : JJ (n + 1) m) : Cl 230 113 [1, a, b, c] (fun v u => ∃ m1, u = S9 0 m1 ∧ Cl 230 248 [249, a, b, c] (fun w u' => ∃ m2, u' = S9 0 m2 ∧ JJ n m2) (S9 0 m1)) (S9 0 m) := by
  obtain ⟨tc, pl, hC, hR, hX, hB, hG⟩ := h
  refine s_113 (d := 222) (g := gC 4 m) (BC_g 4 hC) (fun v m1 h1 => ⟨m1, rfl, ?_⟩)
  refine s_248 (d := 224) (g := gR 4 m1) (JW_mk (BR_g 4 (BR_tr hR (fun x j q _ => FC_of h1 x j (Or.inl q))))) (fun w m2 h2 => ⟨m2, rfl, tc, pl, ?_, ?_, ?_, ?_, ?_⟩)
  · exact BC_tr (BC_of h1) (fun x j q => FR_of (JW_1 h2) x j (Or.inl q))
  · exact BR_of (JW_1 h2)
  · exact RX_fr (Int.le_refl _) (fun x j q => FC_of h1 x j (frC_le (by decide) q)) (fun x j q => FR_of (JW_1 h2) x j (frR_le (by decide) q)) hX
  · exact RB_fr (Nat.le_succ n) ((FR_of (JW_1 h2) 1 12 (Or.inl (by decide))).trans (FC_of h1 1 12 (by unfold frC; omega))) ((FR_of (JW_1 h2) 249 7 (by unfold frR; omega)).trans (FC_of h1 249 7 (Or.inl (by decide)))) (fun j => (FR_of (JW_1 h2) 285 j (by unfold frR; omega)).trans (FC_of h1 285 j (Or.inl (by decide)))) (fun j => (FR_of (JW_1 h2) 286 j (by unfold frR; omega)).trans (FC_of h1 286 j (Or.inl (by decide)))) hB
  · exact GSx_fr hC (fun x j q => (FR_of (JW_1 h2) x j (GCl_R q)).trans (FC_of h1 x j (GCl_C q))) hG
theorem two_120 {n : Nat} {a b : Int} {m : Mem} (h : JJ (n + 1) m) : Cl 230 120 [1, a, b] (fun v u => ∃ m1, u = S9 0 m1 ∧ Cl 230 253 [249, a, b] (fun w u' => ∃ m2, u' = S9 0 m2 ∧ JJ n m2) (S9 0 m1)) (S9 0 m) := by
  obtain ⟨tc, pl, hC, hR, hX, hB, hG⟩ := h
  refine s_120 (d := 224) (g := gC 4 m) (BC_g 4 hC) (fun v m1 h1 => ⟨m1, rfl, ?_⟩)
  refine s_253 (d := 225) (g := gR 4 m1) (BR_g 4 (BR_tr hR (fun x j q _ => FC_of h1 x j (Or.inl q)))) (fun w m2 h2 => ⟨m2, rfl, tc, pl, ?_, ?_, ?_, ?_, ?_⟩)
  · exact BC_tr (BC_of h1) (fun x j q => FR_of h2 x j (Or.inl q))
  · exact BR_of h2
  · exact RX_fr (Int.le_refl _) (fun x j q => FC_of h1 x j (frC_le (by decide) q)) (fun x j q => FR_of h2 x j (frR_le (by decide) q)) hX
  · exact RB_fr (Nat.le_succ n) ((FR_of h2 1 12 (Or.inl (by decide))).trans (FC_of h1 1 12 (by unfold frC; omega))) ((FR_of h2 249 7 (by unfold frR; omega)).trans (FC_of h1 249 7 (Or.inl (by decide)))) (fun j => (FR_of h2 285 j (by unfold frR; omega)).trans (FC_of h1 285 j (Or.inl (by decide)))) (fun j => (FR_of h2 286 j (by unfold frR; omega)).trans (FC_of h1 286 j (Or.inl (by decide)))) hB
  · exact GSx_fr hC (fun x j q => (FR_of h2 x j (GCl_R q)).trans (FC_of h1 x j (GCl_C q))) hG
theorem two_122 {n : Nat} {a b : Int} {m : Mem} (h : JJ (n + 1) m) : Cl 230 122 [1, a, b] (fun v u => ∃ m1, u = S9 0 m1 ∧ Cl 230 254 [249, a, b] (fun w u' => ∃ m2, u' = S9 0 m2 ∧ JJ n m2) (S9 0 m1)) (S9 0 m) := by
  obtain ⟨tc, pl, hC, hR, hX, hB, hG⟩ := h
  refine s_122 (d := 222) (g := gC 4 m) (BC_g 4 hC) (fun v m1 h1 => ⟨m1, rfl, ?_⟩)
  refine s_254 (d := 223) (g := gR 4 m1) (BR_g 4 (BR_tr hR (fun x j q _ => FC_of h1 x j (Or.inl q)))) (fun w m2 h2 => ⟨m2, rfl, tc, pl, ?_, ?_, ?_, ?_, ?_⟩)
  · exact BC_tr (BC_of h1) (fun x j q => FR_of h2 x j (Or.inl q))
  · exact BR_of h2
  · exact RX_fr (Int.le_refl _) (fun x j q => FC_of h1 x j (frC_le (by decide) q)) (fun x j q => FR_of h2 x j (frR_le (by decide) q)) hX
  · exact RB_fr (Nat.le_succ n) ((FR_of h2 1 12 (Or.inl (by decide))).trans (FC_of h1 1 12 (by unfold frC; omega))) ((FR_of h2 249 7 (by unfold frR; omega)).trans (FC_of h1 249 7 (Or.inl (by decide)))) (fun j => (FR_of h2 285 j (by unfold frR; omega)).trans (FC_of h1 285 j (Or.inl (by decide)))) (fun j => (FR_of h2 286 j (by unfold frR; omega)).trans (FC_of h1 286 j (Or.inl (by decide)))) hB
  · exact GSx_fr hC (fun x j q => (FR_of h2 x j (GCl_R q)).trans (FC_of h1 x j (GCl_C q))) hG
theorem two_123 {n : Nat} {a b c : Int} {m : Mem} (h : JJ (n + 1) m) : Cl 230 123 [1, a, b, c] (fun v u => ∃ m1, u = S9 0 m1 ∧ Cl 230 256 [249, a, b, c] (fun w u' => ∃ m2, u' = S9 0 m2 ∧ JJ n m2) (S9 0 m1)) (S9 0 m) := by
  obtain ⟨tc, pl, hC, hR, hX, hB, hG⟩ := h
  refine s_123 (d := 198) (g := gC 4 m) (BC_g 4 hC) (fun v m1 h1 => ⟨m1, rfl, ?_⟩)
  refine s_256 (d := 221) (g := gR 4 m1) (BR_g 4 (BR_tr hR (fun x j q _ => FC_of h1 x j (Or.inl q)))) (fun w m2 h2 => ⟨m2, rfl, tc, pl, ?_, ?_, ?_, ?_, ?_⟩)
  · exact BC_tr (BC_of h1) (fun x j q => FR_of h2 x j (Or.inl q))
  · exact BR_of h2
  · exact RX_fr (Int.le_refl _) (fun x j q => FC_of h1 x j (frC_le (by decide) q)) (fun x j q => FR_of h2 x j (frR_le (by decide) q)) hX
  · exact RB_fr (Nat.le_succ n) ((FR_of h2 1 12 (Or.inl (by decide))).trans (FC_of h1 1 12 (by unfold frC; omega))) ((FR_of h2 249 7 (by unfold frR; omega)).trans (FC_of h1 249 7 (Or.inl (by decide)))) (fun j => (FR_of h2 285 j (by unfold frR; omega)).trans (FC_of h1 285 j (Or.inl (by decide)))) (fun j => (FR_of h2 286 j (by unfold frR; omega)).trans (FC_of h1 286 j (Or.inl (by decide)))) hB
  · exact GSx_fr hC (fun x j q => (FR_of h2 x j (GCl_R q)).trans (FC_of h1 x j (GCl_C q))) hG
theorem two_130 {n : Nat} {a b : Int} {m : Mem} (h : JJ (n + 1) m) : Cl 230 130 [1, a, b] (fun v u => ∃ m1, u = S9 0 m1 ∧ Cl 230 263 [249, a, b] (fun w u' => ∃ m2, u' = S9 0 m2 ∧ JJ n m2) (S9 0 m1)) (S9 0 m) := by
  obtain ⟨tc, pl, hC, hR, hX, hB, hG⟩ := h
  refine s_130 (d := 198) (g := gC 4 m) (BC_g 4 hC) (fun v m1 h1 => ⟨m1, rfl, ?_⟩)
  refine s_263 (d := 221) (g := gR 4 m1) (BR_g 4 (BR_tr hR (fun x j q _ => FC_of h1 x j (Or.inl q)))) (fun w m2 h2 => ⟨m2, rfl, tc, pl, ?_, ?_, ?_, ?_, ?_⟩)
  · exact BC_tr (BC_of h1) (fun x j q => FR_of h2 x j (Or.inl q))
  · exact BR_of h2
  · exact RX_fr (Int.le_refl _) (fun x j q => FC_of h1 x j (frC_le (by decide) q)) (fun x j q => FR_of h2 x j (frR_le (by decide) q)) hX
  · exact RB_fr (Nat.le_succ n) ((FR_of h2 1 12 (Or.inl (by decide))).trans (FC_of h1 1 12 (by unfold frC; omega))) ((FR_of h2 249 7 (by unfold frR; omega)).trans (FC_of h1 249 7 (Or.inl (by decide)))) (fun j => (FR_of h2 285 j (by unfold frR; omega)).trans (FC_of h1 285 j (Or.inl (by decide)))) (fun j => (FR_of h2 286 j (by unfold frR; omega)).trans (FC_of h1 286 j (Or.inl (by decide)))) hB
  · exact GSx_fr hC (fun x j q => (FR_of h2 x j (GCl_R q)).trans (FC_of h1 x j (GCl_C q))) hG
theorem two_131 {n : Nat} {a b c : Int} {m : Mem} (h : JJ (n + 1) m) : Cl 230 131 [1, a, b, c] (fun v u => ∃ m1, u = S9 0 m1 ∧ Cl 230 264 [249, a, b, c] (fun w u' => ∃ m2, u' = S9 0 m2 ∧ JJ n m2) (S9 0 m1)) (S9 0 m) := by
  obtain ⟨tc, pl, hC, hR, hX, hB, hG⟩ := h
  refine s_131 (d := 217) (g := gC 4 m) (BC_g 4 hC) (fun v m1 h1 => ⟨m1, rfl, ?_⟩)
  refine s_264 (d := 213) (g := gR 4 m1) (BR_g 4 (BR_tr hR (fun x j q _ => FC_of h1 x j (Or.inl q)))) (fun w m2 h2 => ⟨m2, rfl, tc, pl, ?_, ?_, ?_, ?_, ?_⟩)
  · exact BC_tr (BC_of h1) (fun x j q => FR_of h2 x j (Or.inl q))
  · exact BR_of h2
  · exact RX_fr (Int.le_refl _) (fun x j q => FC_of h1 x j (frC_le (by decide) q)) (fun x j q => FR_of h2 x j (frR_le (by decide) q)) hX
  · exact RB_fr (Nat.le_succ n) ((FR_of h2 1 12 (Or.inl (by decide))).trans (FC_of h1 1 12 (by unfold frC; omega))) ((FR_of h2 249 7 (by unfold frR; omega)).trans (FC_of h1 249 7 (Or.inl (by decide)))) (fun j => (FR_of h2 285 j (by unfold frR; omega)).trans (FC_of h1 285 j (Or.inl (by decide)))) (fun j => (FR_of h2 286 j (by unfold frR; omega)).trans (FC_of h1 286 j (Or.inl (by decide)))) hB
  · exact GSx_fr hC (fun x j q => (FR_of h2 x j (GCl_R q)).trans (FC_of h1 x j (GCl_C q))) hG
theorem two_136 {n : Nat} {a b c f : Int} {m : Mem} (hi : inI b) (h : JJ (n + 1) m) : Cl 230 136 [1, a, b, c, f] (fun v u => ∃ m1, u = S9 0 m1 ∧ Cl 230 266 [249, a, b, c, f] (fun w u' => ∃ m2, u' = S9 0 m2 ∧ JJ n m2) (S9 0 m1)) (S9 0 m) := by
  obtain ⟨tc, pl, hC, hR, hX, hB, hG⟩ := h
  refine s_136 (d := 215) (g := gC 4 m) hi (BC_g 4 hC) (fun v m1 h1 => ⟨m1, rfl, ?_⟩)
  refine s_266 (d := 216) (g := gR 4 m1) (BR_g 4 (BR_tr hR (fun x j q _ => FC_of h1 x j (Or.inl q)))) (fun w m2 h2 => ⟨m2, rfl, tc, pl, ?_, ?_, ?_, ?_, ?_⟩)
  · exact BC_tr (BC_of h1) (fun x j q => FR_of h2 x j (Or.inl q))
  · exact BR_of h2
  · exact RX_fr (Int.le_refl _) (fun x j q => FC_of h1 x j (frC_le (by decide) q)) (fun x j q => FR_of h2 x j (frR_le (by decide) q)) hX
  · exact RB_fr (Nat.le_succ n) ((FR_of h2 1 12 (Or.inl (by decide))).trans (FC_of h1 1 12 (by unfold frC; omega))) ((FR_of h2 249 7 (by unfold frR; omega)).trans (FC_of h1 249 7 (Or.inl (by decide)))) (fun j => (FR_of h2 285 j (by unfold frR; omega)).trans (FC_of h1 285 j (Or.inl (by decide)))) (fun j => (FR_of h2 286 j (by unfold frR; omega)).trans (FC_of h1 286 j (Or.inl (by decide)))) hB
  · exact GSx_fr hC (fun x j q => (FR_of h2 x j (GCl_R q)).trans (FC_of h1 x j (GCl_C q))) hG
theorem two_146 {n : Nat} {a b : Int} {m : Mem} (h : JJ (n + 1) m) : Cl 230 146 [1, a, b] (fun v u => ∃ m1, u = S9 0 m1 ∧ Cl 230 271 [249, a, b] (fun w u' => ∃ m2, u' = S9 0 m2 ∧ JJ n m2) (S9 0 m1)) (S9 0 m) := by
  obtain ⟨tc, pl, hC, hR, hX, hB, hG⟩ := h
  refine s_146 (d := 204) (g := gC 4 m) (BC_g 4 hC) (fun v m1 h1 => ⟨m1, rfl, ?_⟩)
  refine s_271 (d := 215) (g := gR 4 m1) (BR_g 4 (BR_tr hR (fun x j q _ => FC_of h1 x j (Or.inl q)))) (fun w m2 h2 => ⟨m2, rfl, tc, pl, ?_, ?_, ?_, ?_, ?_⟩)
  · exact BC_tr (BC_of h1) (fun x j q => FR_of h2 x j (Or.inl q))
  · exact BR_of h2
  · exact RX_fr (Int.le_refl _) (fun x j q => FC_of h1 x j (frC_le (by decide) q)) (fun x j q => FR_of h2 x j (frR_le (by decide) q)) hX
  · exact RB_fr (Nat.le_succ n) ((FR_of h2 1 12 (Or.inl (by decide))).trans (FC_of h1 1 12 (by unfold frC; omega))) ((FR_of h2 249 7 (by unfold frR; omega)).trans (FC_of h1 249 7 (Or.inl (by decide)))) (fun j => (FR_of h2 285 j (by unfold frR; omega)).trans (FC_of h1 285 j (Or.inl (by decide)))) (fun j => (FR_of h2 286 j (by unfold frR; omega)).trans (FC_of h1 286 j (Or.inl (by decide)))) hB
  · exact GSx_fr hC (fun x j q => (FR_of h2 x j (GCl_R q)).trans (FC_of h1 x j (GCl_C q))) hG
theorem two_151 {n : Nat} {a b c f : Int} {m : Mem} (h : JJ (n + 1) m) : Cl 230 151 [1, a, b, c, f] (fun v u => ∃ m1, u = S9 0 m1 ∧ Cl 230 275 [249, a, b, c, f] (fun w u' => ∃ m2, u' = S9 0 m2 ∧ JJ n m2) (S9 0 m1)) (S9 0 m) := by
  obtain ⟨tc, pl, hC, hR, hX, hB, hG⟩ := h
  refine s_151 (d := 222) (g := gC 4 m) (BC_g 4 hC) (fun v m1 h1 => ⟨m1, rfl, ?_⟩)
  refine s_275 (d := 223) (g := gR 4 m1) (BR_g 4 (BR_tr hR (fun x j q _ => FC_of h1 x j (Or.inl q)))) (fun w m2 h2 => ⟨m2, rfl, tc, pl, ?_, ?_, ?_, ?_, ?_⟩)
  · exact BC_tr (BC_of h1) (fun x j q => FR_of h2 x j (Or.inl q))
  · exact BR_of h2
  · exact RX_fr (Int.le_refl _) (fun x j q => FC_of h1 x j (frC_le (by decide) q)) (fun x j q => FR_of h2 x j (frR_le (by decide) q)) hX
  · exact RB_fr (Nat.le_succ n) ((FR_of h2 1 12 (Or.inl (by decide))).trans (FC_of h1 1 12 (by unfold frC; omega))) ((FR_of h2 249 7 (by unfold frR; omega)).trans (FC_of h1 249 7 (Or.inl (by decide)))) (fun j => (FR_of h2 285 j (by unfold frR; omega)).trans (FC_of h1 285 j (Or.inl (by decide)))) (fun j => (FR_of h2 286 j (by unfold frR; omega)).trans (FC_of h1 286 j (Or.inl (by decide)))) hB
  · exact GSx_fr hC (fun x j q => (FR_of h2 x j (GCl_R q)).trans (FC_of h1 x j (GCl_C q))) hG
theorem two_154 {n : Nat} {a : Int} {m : Mem} (h : JJ (n + 1) m) : Cl 230 154 [1, a] (fun v u => ∃ m1, u = S9 0 m1 ∧ Cl 230 278 [249, a] (fun w u' => ∃ m2, u' = S9 0 m2 ∧ JJ n m2) (S9 0 m1)) (S9 0 m) := by
  obtain ⟨tc, pl, hC, hR, hX, hB, hG⟩ := h
  refine s_154 (d := 227) (g := gC 4 m) (BC_g 4 hC) (fun v m1 h1 => ⟨m1, rfl, ?_⟩)
  refine s_278 (d := 227) (g := gR 4 m1) (JW_mk (BR_g 4 (BR_tr hR (fun x j q _ => FC_of h1 x j (Or.inl q))))) (fun w m2 h2 => ⟨m2, rfl, tc, pl, ?_, ?_, ?_, ?_, ?_⟩)
  · exact BC_tr (BC_of h1) (fun x j q => FR_of (JW_1 h2) x j (Or.inl q))
  · exact BR_of (JW_1 h2)
  · exact RX_fr (Int.le_refl _) (fun x j q => FC_of h1 x j (frC_le (by decide) q)) (fun x j q => FR_of (JW_1 h2) x j (frR_le (by decide) q)) hX
  · exact RB_fr (Nat.le_succ n) ((FR_of (JW_1 h2) 1 12 (Or.inl (by decide))).trans (FC_of h1 1 12 (by unfold frC; omega))) ((FR_of (JW_1 h2) 249 7 (by unfold frR; omega)).trans (FC_of h1 249 7 (Or.inl (by decide)))) (fun j => (FR_of (JW_1 h2) 285 j (by unfold frR; omega)).trans (FC_of h1 285 j (Or.inl (by decide)))) (fun j => (FR_of (JW_1 h2) 286 j (by unfold frR; omega)).trans (FC_of h1 286 j (Or.inl (by decide)))) hB
  · exact GSx_fr hC (fun x j q => (FR_of (JW_1 h2) x j (GCl_R q)).trans (FC_of h1 x j (GCl_C q))) hG
theorem cB_281 {n : Nat} {a : Int} {m1 : Mem} (h : JJ (n + 1) m1) : Cl 230 281 [249, a] (fun w u' => ∃ m2, u' = S9 0 m2 ∧ JJ n m2) (S9 0 m1) := by
  obtain ⟨tc, pl, hC, hR, hX, hB, hG⟩ := h
  refine s_281 (d := 228) (g := gR 4 m1) (JW_mk (BR_g 4 hR)) (fun w m2 h2 => ⟨m2, rfl, tc, pl, ?_, ?_, ?_, ?_, ?_⟩)
  · exact BC_tr hC (fun x j q => FR_of (JW_1 h2) x j (Or.inl q))
  · exact BR_of (JW_1 h2)
  · exact RX_fr (Int.le_refl _) (fun _ _ _ => rfl) (fun x j q => FR_of (JW_1 h2) x j (frR_le (by decide) q)) hX
  · exact RB_fr (Nat.le_succ n) (FR_of (JW_1 h2) 1 12 (Or.inl (by decide))) (FR_of (JW_1 h2) 249 7 (by unfold frR; omega)) (fun j => FR_of (JW_1 h2) 285 j (by unfold frR; omega)) (fun j => FR_of (JW_1 h2) 286 j (by unfold frR; omega)) hB
  · exact GSx_fr hC (fun x j q => FR_of (JW_1 h2) x j (GCl_R q)) hG
end
section
/-! sign, end, kitchen, mark, wipe on both sides -/
theorem BC_up {tc a j v : Int} {m : Mem} (h : BC tc m) (ha : a < 249) (hv : BdC tc a j v) : BC tc (upm m a j v) := BC_of (JC_up (BC_g 0 h) (by unfold frC; omega) hv)
theorem BC_hi {tc a j v : Int} {m : Mem} (h : BC tc m) (ha : 249 ≤ a) : BC tc (upm m a j v) := BC_tr h (fun x y hx => upm_a _ _ _ _ _ _ (by omega))
theorem BR_up {tc pl a j v : Int} {m : Mem} (h : BR tc pl m) (ha : 249 ≤ a ∧ a < 288) (hf : frc a j) (hv : BdR tc pl a j v) : BR tc pl (upm m a j v) := BR_of (JR_up (BR_g 0 h) (by unfold frR; omega) hf hv)
theorem BR_lo {tc pl a j v : Int} {m : Mem} (h : BR tc pl m) (ha : a < 249) : BR tc pl (upm m a j v) := BR_tr h (fun x y hx _ => upm_a _ _ _ _ _ _ (by omega))
theorem BR_0 {tc pl : Int} {m : Mem} (h : BR tc pl m) : BR tc pl (upm m 249 0 0) := BR_up h (by decide) (by first | decide | simp [frc]) (by simp [BdR])
/-- THE KITCHEN and the marks' number stand where their cells stand -/
theorem RKM_fr {m m' : Mem} (e : ∀ x j, (x = 8 ∨ x = 9 ∨ x = 211 ∨ x = 251 ∨ (x = 249 ∧ (3 ≤ j ∧ j ≤ 6 ∨ j = 62))) → m' x j = m x j) (h : RK m ∧ RM m) : RK m' ∧ RM m' := by
  obtain ⟨⟨k1, k2, k3, k4, k5⟩, hm⟩ := h
  refine ⟨⟨?_, ?_, ?_, ?_, fun j h0 h1 => ?_⟩, ?_⟩
  · rw [e 249 3 (by omega), e 8 0 (by omega)]; exact k1
  · rw [e 249 4 (by omega), e 8 1 (by omega)]; exact k2
  · rw [e 249 5 (by omega), e 8 2 (by omega)]; exact k3
  · rw [e 249 6 (by omega), e 8 3 (by omega)]; exact k4
  · rw [e 8 0 (by omega)] at h1
    rw [e 251 j (by omega), e 9 j (by omega)]; exact k5 j h0 h1
  · show m' 249 62 = m' 211 4
    rw [e 249 62 (by omega), e 211 4 (by omega)]; exact hm
theorem RT_fr {tc : Int} {m m' : Mem} (e : ∀ x j, (x = 3 ∨ x = 260) → m' x j = m x j) (h : RT tc m) : RT tc m' :=
  ⟨fun j h0 h1 => by rw [e _ _ (Or.inr rfl), e _ _ (Or.inl rfl)]; exact h.1 j h0 h1, fun j => by rw [e _ _ (Or.inl rfl)]; exact h.2.1 j, fun j => by rw [e _ _ (Or.inr rfl)]; exact h.2.2 j⟩
theorem BC_len {tc v : Int} {m : Mem} (h : BC tc m) (h0 : 0 ≤ v) (h1 : v ≤ 80) : BC v (upm m 2 1 v) := BC_of (JC_len (BC_g 0 h) h0 h1)
theorem BR_len {tc pl v : Int} {m : Mem} (h : BR tc pl m) (h0 : 0 ≤ v) (h1 : v ≤ 80) : BR v pl (upm m 249 18 v) := BR_of (JR_len (BR_g 0 h) h0 h1)
theorem BC_3 {tc : Int} {m m' : Mem} (h : BC tc m) (e : ∀ x j, x < 249 → x ≠ 3 → m' x j = m x j) : BC tc m' := by
  refine ⟨h.1, fun a j => ?_⟩
  by_cases ha : a < 249
  · by_cases h3 : a = 3
    · subst h3; simp [BdC, hnd]
    · rw [e a j ha h3]; exact h.2 a j
  · exact BdC_out (by omega)
theorem BR_260 {tc pl : Int} {m m' : Mem} (h : BR tc pl m) (e : ∀ x j, 249 ≤ x → x < 288 → x ≠ 260 → m' x j = m x j) : BR tc pl m' := by
  have e5 : m' 265 = m 265 := by funext y; exact e 265 y (by decide) (by decide) (by decide)
  refine ⟨⟨h.1.1, h.1.2.1, fun a j => ?_⟩, ?_, fun w h0 h1 => ?_, ?_⟩
  · by_cases ha : 249 ≤ a ∧ a < 288
    · by_cases h3 : a = 260
      · subst h3; simp [BdR]
      · rw [e a j ha.1 ha.2 h3]; exact h.1.2.2 a j
    · exact BdR_out (by omega)
  · rw [e 249 3 (by decide) (by decide) (by decide)]; exact h.2.1
  · rw [e 254 w (by decide) (by decide) (by decide)]
    rw [e 249 4 (by decide) (by decide) (by decide)] at h1
    exact h.2.2.1 w h0 h1
  · rw [e5, e 249 32 (by decide) (by decide) (by decide)]; exact h.2.2.2
theorem two_12 {a : Int} {n : Nat} {m : Mem} (h : JJ (n + 1) m) : Cl 230 12 [1, a] (fun v u => ∃ m1, u = S9 0 m1 ∧ Cl 230 167 [249, a] (fun w u' => ∃ m2, u' = S9 0 m2 ∧ JJ n m2) (S9 0 m1)) (S9 0 m) := by
  obtain ⟨tc, pl, hC, hR, hX, hB, hG⟩ := h
  have hs := JC_s (BC_g 0 hC)
  have hr := JR_s (BR_g 0 hR)
  have e0 : ∀ m9 : Mem, ∀ x j, ¬ (x = 249 ∧ j = 0) → upm m9 249 0 0 x j = m9 x j := fun m9 x j q => by unfold upm; rw [if_neg q]
  refine t_sign (d := 228) (by omega) (by omega) ⟨fun h => ⟨m, rfl, t_signM (by omega) (by omega) ⟨fun h' => ⟨_, rfl, ⟨tc, pl, BC_hi hC (by decide), BR_0 hR, ⟨RT_fr (fun x j q => e0 _ _ _ (by omega)) hX.1, RKM_fr (fun x j q => e0 _ _ _ (by omega)) hX.2⟩, RB_fr (Nat.le_succ n) (e0 _ _ _ (by omega)) (e0 _ _ _ (by omega)) (fun j => e0 _ _ _ (by omega)) (fun j => e0 _ _ _ (by omega)) hB, GSx_fr hC (fun x j q => e0 _ _ _ (fun y => GCl_n q (by omega))) hG⟩⟩, fun h' => absurd h' (by omega)⟩⟩, fun h m1 g => ⟨m1, rfl, ?_⟩⟩
  obtain ⟨g1, g2, g3⟩ := g
  rw [hs.1] at g1 g2 g3
  have e18 : m1 249 18 = tc := by rw [g1 _ _ (by omega) (by omega)]; exact hr.1
  refine t_signM (by omega) (by omega) ⟨fun h' => absurd h' (by omega), fun _ m2 k => ⟨m2, rfl, ?_⟩⟩
  obtain ⟨k1, k2, k3⟩ := k
  rw [e18] at k1 k2 k3
  have c : ∀ x j, x < 249 → ¬ (x = 3 ∧ tc ≤ j ∧ j < tc + 4) → ¬ (x = 2 ∧ j = 1) → m2 x j = m x j := fun x j hx h1 h2 => by rw [k1 x j (by omega) (by omega), e0 _ _ _ (by omega), g1 x j h1 h2]
  have r : ∀ x j, 249 ≤ x → ¬ (x = 260 ∧ tc ≤ j ∧ j < tc + 4) → ¬ (x = 249 ∧ j = 18) → ¬ (x = 249 ∧ j = 0) → m2 x j = m x j := fun x j hx h1 h2 h3 => by rw [k1 x j h1 h2, e0 _ _ _ h3, g1 x j (by omega) (by omega)]
  have m23 : ∀ j, m2 3 j = m1 3 j := fun j => by rw [k1 3 j (by omega) (by omega), e0 _ _ _ (by omega)]
  refine ⟨tc + 4, pl, ?_, ?_, ⟨⟨fun j h0 h1 => ?_, fun j => ?_, fun j => ?_⟩, RKM_fr (m := m) (fun x j q => ?_) hX.2⟩, RB_fr (Nat.le_succ n) (c 1 12 (by decide) (by omega) (by omega)) (r 249 7 (by decide) (by omega) (by omega) (by omega)) (fun j => r 285 j (by decide) (by omega) (by omega) (by omega)) (fun j => r 286 j (by decide) (by omega) (by omega) (by omega)) hB, GSx_fr hC (fun x j q => by have z := GCl_n q; by_cases hx : x < 249; exact c x j hx (by omega) (by omega); exact r x j (by omega) (by omega) (by omega) (by omega)) hG⟩
  · refine BC_3 (BC_len hC (v := tc + 4) (by omega) (by omega)) (fun x j hx h3 => ?_)
    by_cases q : x = 2 ∧ j = 1
    · obtain ⟨rfl, rfl⟩ := q
      rw [upm_v, k1 2 1 (by omega) (by omega), e0 _ _ _ (by omega), g3]
    · rw [c x j hx (by omega) q]; unfold upm; rw [if_neg q]
  · refine BR_260 (BR_len (BR_0 hR) (v := tc + 4) (by omega) (by omega)) (fun x j h0 h1 h3 => ?_)
    by_cases q : x = 249 ∧ j = 18
    · obtain ⟨rfl, rfl⟩ := q
      rw [upm_v, k3]
    · rw [k1 x j (by omega) q]
      by_cases q0 : x = 249 ∧ j = 0
      · obtain ⟨rfl, rfl⟩ := q0
        rw [upm_v, upm_k (by decide), upm_v]
      · rw [e0 _ _ _ q0, g1 x j (by omega) (by omega)]
        unfold upm; rw [if_neg q, if_neg q0]
  · rw [m23]
    by_cases hj : j < tc
    · rw [r 260 j (by decide) (by omega) (by omega) (by omega), g1 3 j (by omega) (by omega)]
      exact hX.1.1 j h0 hj
    · have e1 := g2 (j - tc) (by omega) (by omega)
      have e2 := k2 (j - tc) (by omega) (by omega)
      rw [show tc + (j - tc) = j by omega] at e1 e2
      rw [e1, e2]
  · rw [m23]
    by_cases hj : tc ≤ j ∧ j < tc + 4
    · have e1 := g2 (j - tc) (by omega) (by omega)
      rw [show tc + (j - tc) = j by omega] at e1
      rw [e1]; exact and255 _
    · rw [g1 3 j (by omega) (by omega)]; exact hX.1.2.1 j
  · by_cases hj : tc ≤ j ∧ j < tc + 4
    · have e1 := k2 (j - tc) (by omega) (by omega)
      rw [show tc + (j - tc) = j by omega] at e1
      rw [e1]; exact and255 _
    · rw [r 260 j (by decide) (by omega) (by omega) (by omega)]; exact hX.1.2.2 j
  · by_cases hx : x < 249
    · exact c x j hx (by omega) (by omega)
    · exact r x j (by omega) (by omega) (by omega) (by omega)
theorem two_14 {a : Int} {n : Nat} {m : Mem} (h : JJ (n + 1) m) : Cl 230 14 [1, a] (fun v u => ∃ m1, u = S9 0 m1 ∧ Cl 230 168 [249, a] (fun w u' => ∃ m2, u' = S9 0 m2 ∧ JJ n m2) (S9 0 m1)) (S9 0 m) := by
  obtain ⟨tc, pl, hC, hR, hX, hB, hG⟩ := h
  have hs := JC_s (BC_g 0 hC)
  have hr := JR_s (BR_g 0 hR)
  refine s_14 (d := 228) (g := gC 4 m) (BC_g 4 hC) (fun v m1 tc1 h1 p1 => ⟨m1, rfl, ?_⟩)
  refine s_168 (d := 228) (g := gR 4 m1) (JW_mk (BR_g 4 (BR_tr hR (fun x j q _ => h1.2.1 x j (Or.inl q))))) (fun w m2 tc2 h2 p2 => ?_)
  have et : tc2 = tc1 := by omega
  subst et
  refine ⟨m2, rfl, ⟨tc2, pl, ?_, ?_, ?_, ?_, ?_⟩⟩
  · exact BC_tr (BC_of h1) (fun x j q => (JW_1 h2).1.2.2.1 x j (Or.inl q))
  · exact BR_of (JW_1 h2)
  · exact RX_fr (by omega) (fun x j q => h1.2.1 x j (frC_le (by decide) q)) (fun x j q => (JW_1 h2).1.2.2.1 x j (frR_le (by decide) q)) hX
  · exact RB_fr (Nat.le_succ n) (((JW_1 h2).1.2.2.1 1 12 (Or.inl (by decide))).trans (h1.2.1 1 12 (by show frC 4 1 12; unfold frC; omega))) (((JW_1 h2).1.2.2.1 249 7 (by show frR 4 249 7; unfold frR; omega)).trans (h1.2.1 249 7 (Or.inl (by decide)))) (fun j => ((JW_1 h2).1.2.2.1 285 j (by show frR 4 285 j; unfold frR; omega)).trans (h1.2.1 285 j (Or.inl (by decide)))) (fun j => ((JW_1 h2).1.2.2.1 286 j (by show frR 4 286 j; unfold frR; omega)).trans (h1.2.1 286 j (Or.inl (by decide)))) hB
  · exact GSx_fr hC (fun x j q => ((JW_1 h2).1.2.2.1 x j (GCl_R q)).trans (h1.2.1 x j (GCl_C q))) hG
theorem two_143 {a b : Int} {n : Nat} {m : Mem} (h : JJ (n + 1) m) : Cl 230 143 [1, a, b] (fun v u => ∃ m1, u = S9 0 m1 ∧ Cl 230 269 [249, a, b] (fun w u' => ∃ m2, u' = S9 0 m2 ∧ JJ n m2) (S9 0 m1)) (S9 0 m) := by
  obtain ⟨tc, pl, hC, hR, hX, hB, hG⟩ := h
  have hs := JC_s (BC_g 0 hC)
  have hr := JR_s (BR_g 0 hR)
  have hm : m 249 62 = m 211 4 := hX.2.2
  have h8 : m 249 3 = m 8 0 := hX.2.1.1
  have hb := hC.2 211 4
  simp [BdC] at hb
  have c0 : ∀ m9 : Mem, ∀ x j, x ≠ 249 → upm m9 249 0 0 x j = m9 x j := fun m9 x j q => upm_a _ _ _ _ _ _ q
  refine p_143x (d := 227) (by omega) (by omega) (fun v ok hv => ⟨_, rfl, ?_⟩) (fun no => ⟨m, rfl, ?_⟩)
  · have r1 : ∀ x j, 249 ≤ x → upm (upm (upm m 212 (m 211 4) a) 213 (m 211 4) b) 211 4 v x j = m x j := fun x j q => by rw [upm_a _ _ _ _ _ _ (by omega), upm_a _ _ _ _ _ _ (by omega), upm_a _ _ _ _ _ _ (by omega)]
    refine p_269x (d := 227) (by rw [r1 _ _ (by decide)]; omega) (by rw [r1 _ _ (by decide)]; omega) (fun w ok2 hw => ?_) (fun no => absurd ?_ no)
    · rw [r1 _ _ (by decide)] at hw ⊢
      rw [r1 _ _ (by decide)] at ok2
      refine ⟨_, rfl, ⟨tc, pl, ?_, ?_, ⟨RT_fr (m := m) (fun x j q => ?_) hX.1, ?_, ?_⟩, RB_fr (Nat.le_succ n) ?_ ?_ (fun j => ?_) (fun j => ?_) hB, GSx_fr hC (fun x j q => by have z := GCl_n q; (repeat rw [upm_app, if_neg (by omega)])) hG⟩⟩
      · refine BC_hi (BC_hi (BC_hi (BC_hi (BC_up (BC_up (BC_up hC (by decide) ?_) (by decide) ?_) (by decide) ?_) (by decide)) (by decide)) (by decide)) (by decide)
        · simp [BdC]; omega
        · simp [BdC, hnd]
        · simp [BdC]; omega
      · refine BR_up (BR_up (BR_up (BR_0 (BR_lo (BR_lo (BR_lo hR (by decide)) (by decide)) (by decide))) (by decide) ?_ ?_) (by decide) ?_ ?_) (by decide) ?_ ?_
        · first | decide | simp [frc]
        · simp [BdR]
        · first | decide | simp [frc]
        · simp [BdR]
        · first | decide | simp [frc]
        · simp [BdR]; omega
      · rcases q with rfl | rfl <;> simp only [upm_f, Int.reduceEq, Int.reduceNe, ne_eq, not_false_eq_true]
      · obtain ⟨k1, k2, k3, k4, k5⟩ := hX.2.1
        refine ⟨?_, ?_, ?_, ?_, fun j h0 h1 => ?_⟩
        · simp only [upm_f, upm_app, Int.reduceEq, Int.reduceNe, ne_eq, not_false_eq_true, and_false, if_false]; exact k1
        · simp only [upm_f, upm_app, Int.reduceEq, Int.reduceNe, ne_eq, not_false_eq_true, and_false, if_false]; exact k2
        · simp only [upm_f, upm_app, Int.reduceEq, Int.reduceNe, ne_eq, not_false_eq_true, and_false, if_false]; exact k3
        · simp only [upm_f, upm_app, Int.reduceEq, Int.reduceNe, ne_eq, not_false_eq_true, and_false, if_false]; exact k4
        · simp only [upm_f, Int.reduceEq, Int.reduceNe, ne_eq, not_false_eq_true] at h1 ⊢; exact k5 j h0 h1
      · show upm _ 249 62 w 249 62 = _
        rw [upm_v]
        simp only [upm_f, upm_app, Int.reduceEq, Int.reduceNe, ne_eq, not_false_eq_true, and_self, and_true, and_false, false_and, true_and, if_true, if_false]
        omega
      · simp only [upm_f, upm_app, Int.reduceEq, Int.reduceNe, ne_eq, not_false_eq_true, and_false, false_and, if_false]
      · simp only [upm_f, upm_app, Int.reduceEq, Int.reduceNe, ne_eq, not_false_eq_true, and_false, false_and, if_false]
      · simp only [upm_f, upm_app, Int.reduceEq, Int.reduceNe, ne_eq, not_false_eq_true, and_false, false_and, if_false]
      · simp only [upm_f, upm_app, Int.reduceEq, Int.reduceNe, ne_eq, not_false_eq_true, and_false, false_and, if_false]
    · rw [r1 _ _ (by decide), r1 _ _ (by decide)]; omega
  · refine p_269x (d := 227) (by omega) (by omega) (fun w ok2 hw => absurd ?_ no) (fun no2 => ?_)
    · omega
    · exact ⟨_, rfl, ⟨tc, pl, BC_hi hC (by decide), BR_0 hR, ⟨RT_fr (fun x j q => c0 _ _ _ (by omega)) hX.1, RKM_fr (fun x j q => by unfold upm; rw [if_neg (by omega)]) hX.2⟩, RB_fr (Nat.le_succ n) (c0 _ _ _ (by omega)) (upm_k (by decide)) (fun j => c0 _ _ _ (by omega)) (fun j => c0 _ _ _ (by omega)) hB, GSx_fr hC (fun x j q => by have z := GCl_n q; rw [upm_app, if_neg (by omega)]) hG⟩⟩
theorem two_145 {n : Nat} {m : Mem} (h : JJ (n + 1) m) : Cl 230 145 [1] (fun v u => ∃ m1, u = S9 0 m1 ∧ Cl 230 270 [249] (fun w u' => ∃ m2, u' = S9 0 m2 ∧ JJ n m2) (S9 0 m1)) (S9 0 m) := by
  obtain ⟨tc, pl, hC, hR, hX, hB, hG⟩ := h
  have hs := JC_s (BC_g 0 hC)
  have hr := JR_s (BR_g 0 hR)
  have hm : m 249 62 = m 211 4 := hX.2.2
  refine p_145x (d := 229) ⟨_, rfl, p_270x (d := 229) ?_⟩
  refine ⟨_, rfl, ⟨tc, pl, BC_hi (BC_hi (BC_up hC (by decide) (by simp [BdC])) (by decide)) (by decide), BR_up (BR_0 (BR_lo hR (by decide))) (by decide) (by first | decide | simp [frc]) (by simp [BdR]), ⟨RT_fr (m := m) (fun x j q => ?_) hX.1, ?_, ?_⟩, RB_fr (Nat.le_succ n) ?_ ?_ (fun j => ?_) (fun j => ?_) hB, GSx_fr hC (fun x j q => by have z := GCl_n q; (repeat rw [upm_app, if_neg (by omega)])) hG⟩⟩
  · rcases q with rfl | rfl <;> simp only [upm_f, Int.reduceEq, Int.reduceNe, ne_eq, not_false_eq_true]
  · obtain ⟨k1, k2, k3, k4, k5⟩ := hX.2.1
    refine ⟨?_, ?_, ?_, ?_, fun j h0 h1 => ?_⟩
    · simp only [upm_f, upm_app, Int.reduceEq, Int.reduceNe, ne_eq, not_false_eq_true, and_false, if_false]; exact k1
    · simp only [upm_f, upm_app, Int.reduceEq, Int.reduceNe, ne_eq, not_false_eq_true, and_false, if_false]; exact k2
    · simp only [upm_f, upm_app, Int.reduceEq, Int.reduceNe, ne_eq, not_false_eq_true, and_false, if_false]; exact k3
    · simp only [upm_f, upm_app, Int.reduceEq, Int.reduceNe, ne_eq, not_false_eq_true, and_false, if_false]; exact k4
    · simp only [upm_f, Int.reduceEq, Int.reduceNe, ne_eq, not_false_eq_true] at h1 ⊢; exact k5 j h0 h1
  · show upm _ 249 62 0 249 62 = _
    rw [upm_v]
    simp only [upm_f, upm_app, Int.reduceEq, Int.reduceNe, ne_eq, not_false_eq_true, and_self, and_true, and_false, false_and, true_and, if_true, if_false]
  · simp only [upm_f, upm_app, Int.reduceEq, Int.reduceNe, ne_eq, not_false_eq_true, and_false, false_and, if_false]
  · simp only [upm_f, upm_app, Int.reduceEq, Int.reduceNe, ne_eq, not_false_eq_true, and_false, false_and, if_false]
  · simp only [upm_f, upm_app, Int.reduceEq, Int.reduceNe, ne_eq, not_false_eq_true, and_false, false_and, if_false]
  · simp only [upm_f, upm_app, Int.reduceEq, Int.reduceNe, ne_eq, not_false_eq_true, and_false, false_and, if_false]
end
section
/-! the acts on both sides -/
theorem x0C_o (m : Mem) : x0C m 10 0 = m 15 10 := by
  unfold x0C; rw [asU_f _ _ _ _ (by decide), asU_f _ _ _ _ (by decide), asU_f _ _ _ _ (by decide), c_op]
theorem two_57 {n : Nat} {a b : Int} {m : Mem} (h : JJ (n + 1) m) : Cl 230 57 [1, a, b] (fun v u => ∃ m1, u = S9 0 m1 ∧ Cl 230 214 [249, a, b] (fun w u' => ∃ m2, u' = S9 0 m2 ∧ JJ n m2) (S9 0 m1)) (S9 0 m) := by
  obtain ⟨tc, pl, hC, hR, hX, hB, R, hG⟩ := h
  have hs := JC_s (BC_g 0 hC)
  have hr := JR_s (BR_g 0 hR)
  obtain ⟨⟨kv1, kv2, kv3⟩, ⟨hI, hD, hS, hO, hN⟩, ⟨⟨u1, u2, u3, u4, u5⟩, -⟩, -, hRc, hRr⟩ := id hG
  obtain ⟨k3, k4, k5, k6, k7⟩ := hX.2.1
  refine f_57 (d := 226) (g := gC 3 m) (L := m 8 0) (BC_g 3 hC) hI hD ⟨u1, u2⟩ ⟨u3, u4⟩ (fun v m1 h1 a1 e1 hD1 => ⟨m1, rfl, ?_⟩)
  have c1 := FC_of h1
  have ch : ∀ x j, 249 ≤ x → m1 x j = m x j := fun x j q => c1 x j (Or.inl q)
  have e58 : asR m1 258 0 = asR m 258 0 := asR_fr (fun y _ _ => ch 258 y (by decide)) (fun y _ _ => ch 249 y (by decide))
  have q4 : m1 249 4 = m 8 1 := (ch 249 4 (by decide)).trans k4
  have q5 : m1 249 5 = m 8 2 := (ch 249 5 (by decide)).trans k5
  have q6 : m1 249 6 = m 8 3 := (ch 249 6 (by decide)).trans k6
  have hIS : IV (m 8 0) (m 8 2) (m 8 3) (asR m 258 0) := IV_SE hI hS
  have hIR : IV (m 8 0) (m1 249 5) (m1 249 6) (asR m1 258 0) := by rw [q5, q6, e58]; exact hIS
  have hIx : IV (m 8 0) (m 8 2) (m 8 3) (x0C m) := IV_SE hI (SE_sy (x0_SE m))
  have hSx : SE (m 8 2) (m 8 3) (x0C m) (asR m 258 0) := SE_tr (x0_SE m) hS
  have hOx : DB (m 8 1) (x0C m 10 0) := by rw [x0C_o]; exact hO
  have hNx : BN (m 8 2) (m 8 3) (x0C m) := BN_SE hN (SE_sy (x0_SE m))
  have hRm : BR tc pl m1 := BR_tr hR (fun x j q _ => ch x j q)
  refine f_214 (d := 225) (g := gR 3 m1) (pl := pl) (L := m 8 0) (BR_g 3 hRm) hIR (fun w m2 h2 a2 e2 => ?_)
  rw [q5, q6, e58] at e2
  have hE : AF (m 8 2) (m 8 3) (aTake (m 8 2) (m 8 3) (x0C m) a b) (aTake (m 8 2) (m 8 3) (asR m 258 0) a b) := take_f hIx hSx
  have hw : w = v := by
    have z := hE.1
    rw [← e1, ← e2] at z
    exact z.symm
  subst hw
  refine ⟨m2, rfl, ⟨tc, pl, ?_, ?_, ?_, ?_, R, ?_⟩⟩
  · exact BC_tr (BC_of h1) (fun x j q => FR_of h2 x j (Or.inl q))
  · exact BR_of h2
  · exact RX_fr (Int.le_refl _) (fun x j q => FC_of h1 x j (frC_le (by decide) q)) (fun x j q => FR_of h2 x j (frR_le (by decide) q)) hX
  · exact RB_fr (Nat.le_succ n) ((FR_of h2 1 12 (Or.inl (by decide))).trans (FC_of h1 1 12 (by unfold frC; omega))) ((FR_of h2 249 7 (by unfold frR; omega)).trans (FC_of h1 249 7 (Or.inl (by decide)))) (fun j => (FR_of h2 285 j (by unfold frR; omega)).trans (FC_of h1 285 j (Or.inl (by decide)))) (fun j => (FR_of h2 286 j (by unfold frR; omega)).trans (FC_of h1 286 j (Or.inl (by decide)))) hB
  · exact GS_two (by omega) (by omega) hG a1 a2 (congrArg Prod.snd e1) (congrArg Prod.snd e2) (take_i hIx) (by have z := hD1; rw [show asC m1 15 = _ from congrArg Prod.snd e1] at z; exact z) hE.2 (by rw [take_o]; exact hOx) (take_b hNx)

theorem two_65 {n : Nat} {a : Int} {m : Mem} (h : JJ (n + 1) m) : Cl 230 65 [1, a] (fun v u => ∃ m1, u = S9 0 m1 ∧ Cl 230 219 [249, a] (fun w u' => ∃ m2, u' = S9 0 m2 ∧ JJ n m2) (S9 0 m1)) (S9 0 m) := by
  obtain ⟨tc, pl, hC, hR, hX, hB, R, hG⟩ := h
  have hs := JC_s (BC_g 0 hC)
  have hr := JR_s (BR_g 0 hR)
  obtain ⟨⟨kv1, kv2, kv3⟩, ⟨hI, hD, hS, hO, hN⟩, ⟨⟨u1, u2, u3, u4, u5⟩, -⟩, -, hRc, hRr⟩ := id hG
  obtain ⟨k3, k4, k5, k6, k7⟩ := hX.2.1
  refine f_65 (d := 226) (g := gC 3 m) (L := m 8 0) (BC_g 3 hC) hI hD ⟨u1, u2⟩ ⟨u3, u4⟩ (Int.le_refl _) (fun v m1 h1 a1 e1 hD1 => ⟨m1, rfl, ?_⟩)
  have c1 := FC_of h1
  have ch : ∀ x j, 249 ≤ x → m1 x j = m x j := fun x j q => c1 x j (Or.inl q)
  have e58 : asR m1 258 0 = asR m 258 0 := asR_fr (fun y _ _ => ch 258 y (by decide)) (fun y _ _ => ch 249 y (by decide))
  have q4 : m1 249 4 = m 8 1 := (ch 249 4 (by decide)).trans k4
  have q5 : m1 249 5 = m 8 2 := (ch 249 5 (by decide)).trans k5
  have q6 : m1 249 6 = m 8 3 := (ch 249 6 (by decide)).trans k6
  have hIS : IV (m 8 0) (m 8 2) (m 8 3) (asR m 258 0) := IV_SE hI hS
  have hIR : IV (m 8 0) (m1 249 5) (m1 249 6) (asR m1 258 0) := by rw [q5, q6, e58]; exact hIS
  have hIx : IV (m 8 0) (m 8 2) (m 8 3) (x0C m) := IV_SE hI (SE_sy (x0_SE m))
  have hSx : SE (m 8 2) (m 8 3) (x0C m) (asR m 258 0) := SE_tr (x0_SE m) hS
  have hOx : DB (m 8 1) (x0C m 10 0) := by rw [x0C_o]; exact hO
  have hNx : BN (m 8 2) (m 8 3) (x0C m) := BN_SE hN (SE_sy (x0_SE m))
  have hRm : BR tc pl m1 := BR_tr hR (fun x j q _ => ch x j q)
  have hk1 : ∀ p, 0 ≤ p → p < m 8 0 → m 9 p = m1 251 p := fun p p0 p1 => ((ch 251 p (by decide)).trans (k7 p p0 p1)).symm
  refine f_219 (d := 225) (g := gR 3 m1) (pl := pl) (L := m 8 0) (BR_g 3 hRm) hIR (fun w m2 h2 a2 e2 => ?_)
  rw [q6, e58] at e2
  have hE : AF (m 8 2) (m 8 3) (aDown (m 8 3) (m 9) (x0C m) a) (aDown (m 8 3) (m1 251) (asR m 258 0) a) := down_f hIx hSx hk1
  have hw : w = v := by
    have z := hE.1
    rw [← e1, ← e2] at z
    exact z.symm
  subst hw
  refine ⟨m2, rfl, ⟨tc, pl, ?_, ?_, ?_, ?_, R, ?_⟩⟩
  · exact BC_tr (BC_of h1) (fun x j q => FR_of h2 x j (Or.inl q))
  · exact BR_of h2
  · exact RX_fr (Int.le_refl _) (fun x j q => FC_of h1 x j (frC_le (by decide) q)) (fun x j q => FR_of h2 x j (frR_le (by decide) q)) hX
  · exact RB_fr (Nat.le_succ n) ((FR_of h2 1 12 (Or.inl (by decide))).trans (FC_of h1 1 12 (by unfold frC; omega))) ((FR_of h2 249 7 (by unfold frR; omega)).trans (FC_of h1 249 7 (Or.inl (by decide)))) (fun j => (FR_of h2 285 j (by unfold frR; omega)).trans (FC_of h1 285 j (Or.inl (by decide)))) (fun j => (FR_of h2 286 j (by unfold frR; omega)).trans (FC_of h1 286 j (Or.inl (by decide)))) hB
  · exact GS_two (by omega) (by omega) hG a1 a2 (congrArg Prod.snd e1) (congrArg Prod.snd e2) (down_i hIx) (by have z := hD1; rw [show asC m1 15 = _ from congrArg Prod.snd e1] at z; exact z) hE.2 (by rw [down_o]; exact hOx) (down_b hNx)

theorem two_87 {n : Nat} {a : Int} {m : Mem} (h : JJ (n + 1) m) : Cl 230 87 [1, a] (fun v u => ∃ m1, u = S9 0 m1 ∧ Cl 230 228 [249, a] (fun w u' => ∃ m2, u' = S9 0 m2 ∧ JJ n m2) (S9 0 m1)) (S9 0 m) := by
  obtain ⟨tc, pl, hC, hR, hX, hB, R, hG⟩ := h
  have hs := JC_s (BC_g 0 hC)
  have hr := JR_s (BR_g 0 hR)
  obtain ⟨⟨kv1, kv2, kv3⟩, ⟨hI, hD, hS, hO, hN⟩, ⟨⟨u1, u2, u3, u4, u5⟩, -⟩, -, hRc, hRr⟩ := id hG
  obtain ⟨k3, k4, k5, k6, k7⟩ := hX.2.1
  refine f_87 (d := 226) (g := gC 3 m) (L := m 8 0) (BC_g 3 hC) hI hD ⟨u1, u2⟩ ⟨u3, u4⟩ (fun v m1 h1 a1 e1 hD1 => ⟨m1, rfl, ?_⟩)
  have c1 := FC_of h1
  have ch : ∀ x j, 249 ≤ x → m1 x j = m x j := fun x j q => c1 x j (Or.inl q)
  have e58 : asR m1 258 0 = asR m 258 0 := asR_fr (fun y _ _ => ch 258 y (by decide)) (fun y _ _ => ch 249 y (by decide))
  have q4 : m1 249 4 = m 8 1 := (ch 249 4 (by decide)).trans k4
  have q5 : m1 249 5 = m 8 2 := (ch 249 5 (by decide)).trans k5
  have q6 : m1 249 6 = m 8 3 := (ch 249 6 (by decide)).trans k6
  have hIS : IV (m 8 0) (m 8 2) (m 8 3) (asR m 258 0) := IV_SE hI hS
  have hIR : IV (m 8 0) (m1 249 5) (m1 249 6) (asR m1 258 0) := by rw [q5, q6, e58]; exact hIS
  have hIx : IV (m 8 0) (m 8 2) (m 8 3) (x0C m) := IV_SE hI (SE_sy (x0_SE m))
  have hSx : SE (m 8 2) (m 8 3) (x0C m) (asR m 258 0) := SE_tr (x0_SE m) hS
  have hOx : DB (m 8 1) (x0C m 10 0) := by rw [x0C_o]; exact hO
  have hNx : BN (m 8 2) (m 8 3) (x0C m) := BN_SE hN (SE_sy (x0_SE m))
  have hRm : BR tc pl m1 := BR_tr hR (fun x j q _ => ch x j q)
  refine f_228 (d := 225) (g := gR 3 m1) (pl := pl) (L := m 8 0) (BR_g 3 hRm) hIR (fun w m2 h2 a2 e2 => ?_)
  rw [q6, e58] at e2
  have hE : AF (m 8 2) (m 8 3) (aChange (m 8 3) (x0C m) a) (aChange (m 8 3) (asR m 258 0) a) := change_f hSx
  have hw : w = v := by
    have z := hE.1
    rw [← e1, ← e2] at z
    exact z.symm
  subst hw
  refine ⟨m2, rfl, ⟨tc, pl, ?_, ?_, ?_, ?_, R, ?_⟩⟩
  · exact BC_tr (BC_of h1) (fun x j q => FR_of h2 x j (Or.inl q))
  · exact BR_of h2
  · exact RX_fr (Int.le_refl _) (fun x j q => FC_of h1 x j (frC_le (by decide) q)) (fun x j q => FR_of h2 x j (frR_le (by decide) q)) hX
  · exact RB_fr (Nat.le_succ n) ((FR_of h2 1 12 (Or.inl (by decide))).trans (FC_of h1 1 12 (by unfold frC; omega))) ((FR_of h2 249 7 (by unfold frR; omega)).trans (FC_of h1 249 7 (Or.inl (by decide)))) (fun j => (FR_of h2 285 j (by unfold frR; omega)).trans (FC_of h1 285 j (Or.inl (by decide)))) (fun j => (FR_of h2 286 j (by unfold frR; omega)).trans (FC_of h1 286 j (Or.inl (by decide)))) hB
  · exact GS_two (by omega) (by omega) hG a1 a2 (congrArg Prod.snd e1) (congrArg Prod.snd e2) (change_i hIx) (by have z := hD1; rw [show asC m1 15 = _ from congrArg Prod.snd e1] at z; exact z) hE.2 (by rw [change_o]; exact hOx) (change_b hNx)

theorem two_89 {n : Nat} {a b : Int} {m : Mem} (h : JJ (n + 1) m) : Cl 230 89 [1, a, b] (fun v u => ∃ m1, u = S9 0 m1 ∧ Cl 230 230 [249, a, b] (fun w u' => ∃ m2, u' = S9 0 m2 ∧ JJ n m2) (S9 0 m1)) (S9 0 m) := by
  obtain ⟨tc, pl, hC, hR, hX, hB, R, hG⟩ := h
  have hs := JC_s (BC_g 0 hC)
  have hr := JR_s (BR_g 0 hR)
  obtain ⟨⟨kv1, kv2, kv3⟩, ⟨hI, hD, hS, hO, hN⟩, ⟨⟨u1, u2, u3, u4, u5⟩, -⟩, -, hRc, hRr⟩ := id hG
  obtain ⟨k3, k4, k5, k6, k7⟩ := hX.2.1
  refine f_89 (d := 226) (g := gC 3 m) (L := m 8 0) (BC_g 3 hC) hI hD ⟨u1, u2⟩ ⟨u3, u4⟩ (fun v m1 h1 a1 e1 hD1 => ⟨m1, rfl, ?_⟩)
  have c1 := FC_of h1
  have ch : ∀ x j, 249 ≤ x → m1 x j = m x j := fun x j q => c1 x j (Or.inl q)
  have e58 : asR m1 258 0 = asR m 258 0 := asR_fr (fun y _ _ => ch 258 y (by decide)) (fun y _ _ => ch 249 y (by decide))
  have q4 : m1 249 4 = m 8 1 := (ch 249 4 (by decide)).trans k4
  have q5 : m1 249 5 = m 8 2 := (ch 249 5 (by decide)).trans k5
  have q6 : m1 249 6 = m 8 3 := (ch 249 6 (by decide)).trans k6
  have hIS : IV (m 8 0) (m 8 2) (m 8 3) (asR m 258 0) := IV_SE hI hS
  have hIR : IV (m 8 0) (m1 249 5) (m1 249 6) (asR m1 258 0) := by rw [q5, q6, e58]; exact hIS
  have hIx : IV (m 8 0) (m 8 2) (m 8 3) (x0C m) := IV_SE hI (SE_sy (x0_SE m))
  have hSx : SE (m 8 2) (m 8 3) (x0C m) (asR m 258 0) := SE_tr (x0_SE m) hS
  have hOx : DB (m 8 1) (x0C m 10 0) := by rw [x0C_o]; exact hO
  have hNx : BN (m 8 2) (m 8 3) (x0C m) := BN_SE hN (SE_sy (x0_SE m))
  have hRm : BR tc pl m1 := BR_tr hR (fun x j q _ => ch x j q)
  refine f_230 (d := 225) (g := gR 3 m1) (pl := pl) (L := m 8 0) (BR_g 3 hRm) hIR (fun w m2 h2 a2 e2 => ?_)
  rw [q6, e58] at e2
  have hE : AF (m 8 2) (m 8 3) (aGive (m 8 3) (x0C m) a b) (aGive (m 8 3) (asR m 258 0) a b) := give_f hSx
  have hw : w = v := by
    have z := hE.1
    rw [← e1, ← e2] at z
    exact z.symm
  subst hw
  refine ⟨m2, rfl, ⟨tc, pl, ?_, ?_, ?_, ?_, R, ?_⟩⟩
  · exact BC_tr (BC_of h1) (fun x j q => FR_of h2 x j (Or.inl q))
  · exact BR_of h2
  · exact RX_fr (Int.le_refl _) (fun x j q => FC_of h1 x j (frC_le (by decide) q)) (fun x j q => FR_of h2 x j (frR_le (by decide) q)) hX
  · exact RB_fr (Nat.le_succ n) ((FR_of h2 1 12 (Or.inl (by decide))).trans (FC_of h1 1 12 (by unfold frC; omega))) ((FR_of h2 249 7 (by unfold frR; omega)).trans (FC_of h1 249 7 (Or.inl (by decide)))) (fun j => (FR_of h2 285 j (by unfold frR; omega)).trans (FC_of h1 285 j (Or.inl (by decide)))) (fun j => (FR_of h2 286 j (by unfold frR; omega)).trans (FC_of h1 286 j (Or.inl (by decide)))) hB
  · exact GS_two (by omega) (by omega) hG a1 a2 (congrArg Prod.snd e1) (congrArg Prod.snd e2) (give_i hIx) (by have z := hD1; rw [show asC m1 15 = _ from congrArg Prod.snd e1] at z; exact z) hE.2 (by rw [give_o]; exact hOx) (give_b hNx)

theorem two_91 {n : Nat} {a b : Int} {m : Mem} (h : JJ (n + 1) m) : Cl 230 91 [1, a, b] (fun v u => ∃ m1, u = S9 0 m1 ∧ Cl 230 232 [249, a, b] (fun w u' => ∃ m2, u' = S9 0 m2 ∧ JJ n m2) (S9 0 m1)) (S9 0 m) := by
  obtain ⟨tc, pl, hC, hR, hX, hB, R, hG⟩ := h
  have hs := JC_s (BC_g 0 hC)
  have hr := JR_s (BR_g 0 hR)
  obtain ⟨⟨kv1, kv2, kv3⟩, ⟨hI, hD, hS, hO, hN⟩, ⟨⟨u1, u2, u3, u4, u5⟩, -⟩, -, hRc, hRr⟩ := id hG
  obtain ⟨k3, k4, k5, k6, k7⟩ := hX.2.1
  refine f_91 (d := 226) (g := gC 3 m) (L := m 8 0) (BC_g 3 hC) hI hD ⟨u1, u2⟩ ⟨u3, u4⟩ (fun v m1 h1 a1 e1 hD1 => ⟨m1, rfl, ?_⟩)
  have c1 := FC_of h1
  have ch : ∀ x j, 249 ≤ x → m1 x j = m x j := fun x j q => c1 x j (Or.inl q)
  have e58 : asR m1 258 0 = asR m 258 0 := asR_fr (fun y _ _ => ch 258 y (by decide)) (fun y _ _ => ch 249 y (by decide))
  have q4 : m1 249 4 = m 8 1 := (ch 249 4 (by decide)).trans k4
  have q5 : m1 249 5 = m 8 2 := (ch 249 5 (by decide)).trans k5
  have q6 : m1 249 6 = m 8 3 := (ch 249 6 (by decide)).trans k6
  have hIS : IV (m 8 0) (m 8 2) (m 8 3) (asR m 258 0) := IV_SE hI hS
  have hIR : IV (m 8 0) (m1 249 5) (m1 249 6) (asR m1 258 0) := by rw [q5, q6, e58]; exact hIS
  have hIx : IV (m 8 0) (m 8 2) (m 8 3) (x0C m) := IV_SE hI (SE_sy (x0_SE m))
  have hSx : SE (m 8 2) (m 8 3) (x0C m) (asR m 258 0) := SE_tr (x0_SE m) hS
  have hOx : DB (m 8 1) (x0C m 10 0) := by rw [x0C_o]; exact hO
  have hNx : BN (m 8 2) (m 8 3) (x0C m) := BN_SE hN (SE_sy (x0_SE m))
  have hRm : BR tc pl m1 := BR_tr hR (fun x j q _ => ch x j q)
  refine f_232 (d := 227) (g := gR 3 m1) (pl := pl) (L := m 8 0) (BR_g 3 hRm) hIR (fun w m2 h2 a2 e2 => ?_)
  rw [q6, e58] at e2
  have hE : AF (m 8 2) (m 8 3) (aFold (m 8 3) (x0C m) a b) (aFold (m 8 3) (asR m 258 0) a b) := fold_f hSx
  have hw : w = v := by
    have z := hE.1
    rw [← e1, ← e2] at z
    exact z.symm
  subst hw
  refine ⟨m2, rfl, ⟨tc, pl, ?_, ?_, ?_, ?_, R, ?_⟩⟩
  · exact BC_tr (BC_of h1) (fun x j q => FR_of h2 x j (Or.inl q))
  · exact BR_of h2
  · exact RX_fr (Int.le_refl _) (fun x j q => FC_of h1 x j (frC_le (by decide) q)) (fun x j q => FR_of h2 x j (frR_le (by decide) q)) hX
  · exact RB_fr (Nat.le_succ n) ((FR_of h2 1 12 (Or.inl (by decide))).trans (FC_of h1 1 12 (by unfold frC; omega))) ((FR_of h2 249 7 (by unfold frR; omega)).trans (FC_of h1 249 7 (Or.inl (by decide)))) (fun j => (FR_of h2 285 j (by unfold frR; omega)).trans (FC_of h1 285 j (Or.inl (by decide)))) (fun j => (FR_of h2 286 j (by unfold frR; omega)).trans (FC_of h1 286 j (Or.inl (by decide)))) hB
  · exact GS_two (by omega) (by omega) hG a1 a2 (congrArg Prod.snd e1) (congrArg Prod.snd e2) (fold_i hIx) (by have z := hD1; rw [show asC m1 15 = _ from congrArg Prod.snd e1] at z; exact z) hE.2 (by rw [fold_o]; exact hOx) (fold_b hNx)

theorem two_93 {n : Nat} {a b : Int} {m : Mem} (h : JJ (n + 1) m) : Cl 230 93 [1, a, b] (fun v u => ∃ m1, u = S9 0 m1 ∧ Cl 230 233 [249, a, b] (fun w u' => ∃ m2, u' = S9 0 m2 ∧ JJ n m2) (S9 0 m1)) (S9 0 m) := by
  obtain ⟨tc, pl, hC, hR, hX, hB, R, hG⟩ := h
  have hs := JC_s (BC_g 0 hC)
  have hr := JR_s (BR_g 0 hR)
  obtain ⟨⟨kv1, kv2, kv3⟩, ⟨hI, hD, hS, hO, hN⟩, ⟨⟨u1, u2, u3, u4, u5⟩, -⟩, -, hRc, hRr⟩ := id hG
  obtain ⟨k3, k4, k5, k6, k7⟩ := hX.2.1
  refine f_93 (d := 226) (g := gC 3 m) (L := m 8 0) (BC_g 3 hC) hI hD ⟨u1, u2⟩ ⟨u3, u4⟩ (fun v m1 h1 a1 e1 hD1 => ⟨m1, rfl, ?_⟩)
  have c1 := FC_of h1
  have ch : ∀ x j, 249 ≤ x → m1 x j = m x j := fun x j q => c1 x j (Or.inl q)
  have e58 : asR m1 258 0 = asR m 258 0 := asR_fr (fun y _ _ => ch 258 y (by decide)) (fun y _ _ => ch 249 y (by decide))
  have q4 : m1 249 4 = m 8 1 := (ch 249 4 (by decide)).trans k4
  have q5 : m1 249 5 = m 8 2 := (ch 249 5 (by decide)).trans k5
  have q6 : m1 249 6 = m 8 3 := (ch 249 6 (by decide)).trans k6
  have hIS : IV (m 8 0) (m 8 2) (m 8 3) (asR m 258 0) := IV_SE hI hS
  have hIR : IV (m 8 0) (m1 249 5) (m1 249 6) (asR m1 258 0) := by rw [q5, q6, e58]; exact hIS
  have hIx : IV (m 8 0) (m 8 2) (m 8 3) (x0C m) := IV_SE hI (SE_sy (x0_SE m))
  have hSx : SE (m 8 2) (m 8 3) (x0C m) (asR m 258 0) := SE_tr (x0_SE m) hS
  have hOx : DB (m 8 1) (x0C m 10 0) := by rw [x0C_o]; exact hO
  have hNx : BN (m 8 2) (m 8 3) (x0C m) := BN_SE hN (SE_sy (x0_SE m))
  have hRm : BR tc pl m1 := BR_tr hR (fun x j q _ => ch x j q)
  have hkd : ∀ p, 0 ≤ p → p < m 8 1 → (iand (ishr (m 8 8) p) 1 ≠ 0 ↔ m1 255 p ≠ 0) := fun p p0 p1 => by rw [ch 255 p (by decide), (kv1 p p0 p1).2.2.2.1]
  refine f_233 (d := 225) (g := gR 3 m1) (pl := pl) (L := m 8 0) (BR_g 3 hRm) hIR (fun w m2 h2 a2 e2 => ?_)
  rw [q4, e58] at e2
  have hE : AF (m 8 2) (m 8 3) (aDoor bcf (m 8 1) (fun w => iand (ishr (m 8 8) w) 1) (x0C m) a b) (aDoor bcf (m 8 1) (m1 255) (asR m 258 0) a b) := door_f hSx hkd
  have hw : w = v := by
    have z := hE.1
    rw [← e1, ← e2] at z
    exact z.symm
  subst hw
  refine ⟨m2, rfl, ⟨tc, pl, ?_, ?_, ?_, ?_, R, ?_⟩⟩
  · exact BC_tr (BC_of h1) (fun x j q => FR_of h2 x j (Or.inl q))
  · exact BR_of h2
  · exact RX_fr (Int.le_refl _) (fun x j q => FC_of h1 x j (frC_le (by decide) q)) (fun x j q => FR_of h2 x j (frR_le (by decide) q)) hX
  · exact RB_fr (Nat.le_succ n) ((FR_of h2 1 12 (Or.inl (by decide))).trans (FC_of h1 1 12 (by unfold frC; omega))) ((FR_of h2 249 7 (by unfold frR; omega)).trans (FC_of h1 249 7 (Or.inl (by decide)))) (fun j => (FR_of h2 285 j (by unfold frR; omega)).trans (FC_of h1 285 j (Or.inl (by decide)))) (fun j => (FR_of h2 286 j (by unfold frR; omega)).trans (FC_of h1 286 j (Or.inl (by decide)))) hB
  · exact GS_two (by omega) (by omega) hG a1 a2 (congrArg Prod.snd e1) (congrArg Prod.snd e2) (door_i hIx) (by have z := hD1; rw [show asC m1 15 = _ from congrArg Prod.snd e1] at z; exact z) hE.2 (door_o (by omega) hOx) (door_b hNx)

theorem two_51 {n : Nat} {a b : Int} {m : Mem} (h : JJ (n + 1) m) : Cl 230 51 [1, a, b] (fun v u => ∃ m1, u = S9 0 m1 ∧ Cl 230 210 [249, a, b] (fun w u' => ∃ m2, u' = S9 0 m2 ∧ JJ n m2) (S9 0 m1)) (S9 0 m) := by
  obtain ⟨tc, pl, hC, hR, hX, hB, R, hG⟩ := h
  have hs := JC_s (BC_g 0 hC)
  have hr := JR_s (BR_g 0 hR)
  obtain ⟨⟨kv1, kv2, kv3⟩, ⟨hI, hD, hS, hO, hN⟩, ⟨⟨u1, u2, u3, u4, u5⟩, -⟩, -, hRc, hRr⟩ := id hG
  obtain ⟨k3, k4, k5, k6, k7⟩ := hX.2.1
  refine f_51 (d := 228) (g := gC 3 m) (L := m 8 0) (BC_g 3 hC) hI hD (fun v m1 h1 fC hD1 e1 => ⟨m1, rfl, ?_⟩)
  have c1 := FC_of h1
  have ch : ∀ x j, 249 ≤ x → m1 x j = m x j := fun x j q => c1 x j (Or.inl q)
  have e58 : asR m1 258 0 = asR m 258 0 := asR_fr (fun y _ _ => ch 258 y (by decide)) (fun y _ _ => ch 249 y (by decide))
  have q4 : m1 249 4 = m 8 1 := (ch 249 4 (by decide)).trans k4
  have q5 : m1 249 5 = m 8 2 := (ch 249 5 (by decide)).trans k5
  have q6 : m1 249 6 = m 8 3 := (ch 249 6 (by decide)).trans k6
  have hIS : IV (m 8 0) (m 8 2) (m 8 3) (asR m 258 0) := IV_SE hI hS
  have hIR : IV (m 8 0) (m1 249 5) (m1 249 6) (asR m1 258 0) := by rw [q5, q6, e58]; exact hIS
  have hIx : IV (m 8 0) (m 8 2) (m 8 3) (x0C m) := IV_SE hI (SE_sy (x0_SE m))
  have hSx : SE (m 8 2) (m 8 3) (x0C m) (asR m 258 0) := SE_tr (x0_SE m) hS
  have hOx : DB (m 8 1) (x0C m 10 0) := by rw [x0C_o]; exact hO
  have hNx : BN (m 8 2) (m 8 3) (x0C m) := BN_SE hN (SE_sy (x0_SE m))
  have hRm : BR tc pl m1 := BR_tr hR (fun x j q _ => ch x j q)
  refine f_210 (d := 226) (g := gR 3 m1) (pl := pl) (L := m 8 0) (BR_g 3 hRm) hIR (fun w m2 h2 fR e2 => ?_)
  rw [q5, e58] at e2
  have hE : AF (m 8 2) (m 8 3) (aHeat (m 8 2) (asC m 15) a b) (aHeat (m 8 2) (asR m 258 0) a b) := heat_f hS
  have hw : w = v := by
    have z := hE.1
    rw [← e1, ← e2] at z
    exact z.symm
  subst hw
  refine ⟨m2, rfl, ⟨tc, pl, ?_, ?_, ?_, ?_, R, ?_⟩⟩
  · exact BC_tr (BC_of h1) (fun x j q => FR_of h2 x j (Or.inl q))
  · exact BR_of h2
  · exact RX_fr (Int.le_refl _) (fun x j q => FC_of h1 x j (frC_le (by decide) q)) (fun x j q => FR_of h2 x j (frR_le (by decide) q)) hX
  · exact RB_fr (Nat.le_succ n) ((FR_of h2 1 12 (Or.inl (by decide))).trans (FC_of h1 1 12 (by unfold frC; omega))) ((FR_of h2 249 7 (by unfold frR; omega)).trans (FC_of h1 249 7 (Or.inl (by decide)))) (fun j => (FR_of h2 285 j (by unfold frR; omega)).trans (FC_of h1 285 j (Or.inl (by decide)))) (fun j => (FR_of h2 286 j (by unfold frR; omega)).trans (FC_of h1 286 j (Or.inl (by decide)))) hB
  · exact GS_two0 (by omega) (by omega) hG (fun x j q => fC x j (q)) (fun x j q => fR x j (by omega)) (congrArg Prod.snd e1) (congrArg Prod.snd e2) (heat_i hI) (by have z := hD1; rw [show asC m1 15 = _ from congrArg Prod.snd e1] at z; exact z) hE.2 (by rw [heat_o, c_op]; exact hO) (heat_b hN)

theorem sheet_8 {P : Nat} {kd n f st : Int} {x : AS} (j : Int) : (aSheet P x kd n f st).2 8 j = x 8 j := by
  unfold aSheet
  split
  · rfl
  · split
    · rfl
    · exact shS_f (by decide) P
theorem two_54 {n : Nat} {a b c f : Int} {m : Mem} (hy : inI c) (h : JJ (n + 1) m) : Cl 230 54 [1, a, b, c, f] (fun v u => ∃ m1, u = S9 0 m1 ∧ Cl 230 212 [249, a, b, c, f] (fun w u' => ∃ m2, u' = S9 0 m2 ∧ JJ n m2) (S9 0 m1)) (S9 0 m) := by
  obtain ⟨tc, pl, hC, hR, hX, hB, R, hG⟩ := h
  have hs := JC_s (BC_g 0 hC)
  have hr := JR_s (BR_g 0 hR)
  obtain ⟨⟨kv1, kv2, kv3⟩, ⟨hI, hD, hS, hO, hN⟩, ⟨⟨u1, u2, u3, u4, u5⟩, -⟩, -, hRc, hRr⟩ := id hG
  obtain ⟨k3, k4, k5, k6, k7⟩ := hX.2.1
  refine f_54 (d := 226) (g := gC 3 m) (BC_g 3 hC) (fun v m1 h1 fC e1 => ⟨m1, rfl, ?_⟩)
  have c1 := FC_of h1
  have ch : ∀ x j, 249 ≤ x → m1 x j = m x j := fun x j q => c1 x j (Or.inl q)
  have e58 : asR m1 258 0 = asR m 258 0 := asR_fr (fun y _ _ => ch 258 y (by decide)) (fun y _ _ => ch 249 y (by decide))
  have q4 : m1 249 4 = m 8 1 := (ch 249 4 (by decide)).trans k4
  have q5 : m1 249 5 = m 8 2 := (ch 249 5 (by decide)).trans k5
  have q6 : m1 249 6 = m 8 3 := (ch 249 6 (by decide)).trans k6
  have hIS : IV (m 8 0) (m 8 2) (m 8 3) (asR m 258 0) := IV_SE hI hS
  have hIR : IV (m 8 0) (m1 249 5) (m1 249 6) (asR m1 258 0) := by rw [q5, q6, e58]; exact hIS
  have hIx : IV (m 8 0) (m 8 2) (m 8 3) (x0C m) := IV_SE hI (SE_sy (x0_SE m))
  have hSx : SE (m 8 2) (m 8 3) (x0C m) (asR m 258 0) := SE_tr (x0_SE m) hS
  have hOx : DB (m 8 1) (x0C m 10 0) := by rw [x0C_o]; exact hO
  have hNx : BN (m 8 2) (m 8 3) (x0C m) := BN_SE hN (SE_sy (x0_SE m))
  have hRm : BR tc pl m1 := BR_tr hR (fun x j q _ => ch x j q)
  refine f_212 (d := 225) (g := gR 3 m1) (pl := pl) (BR_g 3 hRm) hy (fun w m2 h2 fR e2 => ?_)
  rw [q5, e58] at e2
  have hE : AF (m 8 2) (m 8 3) (aSheet (m 8 2).toNat (asC m 15) a b c f) (aSheet (m 8 2).toNat (asR m 258 0) a b c f) := by have z := sheet_f (P := (m 8 2).toNat) (H := m 8 3) (kd := a) (n := b) (f := c) (st := f) (x := asC m 15) (y := asR m 258 0) (by rw [show ((m 8 2).toNat : Int) = m 8 2 by omega]; exact hS); rw [show ((m 8 2).toNat : Int) = m 8 2 by omega] at z; exact z
  have hw : w = v := by
    have z := hE.1
    rw [← e1, ← e2] at z
    exact z.symm
  subst hw
  have hD1 : HD (m 8 2) (m 8 3) (asC m1 15) (m1 18) := by
    have z : ∀ j, asC m1 15 8 j = asC m 15 8 j := fun j => by rw [show asC m1 15 = _ from congrArg Prod.snd e1]; exact sheet_8 j
    exact HD_e2 hD (fun j _ _ => z j) (fun j _ _ => fC 18 j (by decide))
  refine ⟨m2, rfl, ⟨tc, pl, ?_, ?_, ?_, ?_, R, ?_⟩⟩
  · exact BC_tr (BC_of h1) (fun x j q => FR_of h2 x j (Or.inl q))
  · exact BR_of h2
  · exact RX_fr (Int.le_refl _) (fun x j q => FC_of h1 x j (frC_le (by decide) q)) (fun x j q => FR_of h2 x j (frR_le (by decide) q)) hX
  · exact RB_fr (Nat.le_succ n) ((FR_of h2 1 12 (Or.inl (by decide))).trans (FC_of h1 1 12 (by unfold frC; omega))) ((FR_of h2 249 7 (by unfold frR; omega)).trans (FC_of h1 249 7 (Or.inl (by decide)))) (fun j => (FR_of h2 285 j (by unfold frR; omega)).trans (FC_of h1 285 j (Or.inl (by decide)))) (fun j => (FR_of h2 286 j (by unfold frR; omega)).trans (FC_of h1 286 j (Or.inl (by decide)))) hB
  · exact GS_two0 (by omega) (by omega) hG (fun x j q => fC x j (by omega)) (fun x j q => fR x j (by omega) (by omega)) (congrArg Prod.snd e1) (congrArg Prod.snd e2) ((by have z := sheet_i (P := (m 8 2).toNat) (L := m 8 0) (H := m 8 3) (kd := a) (n := b) (f := c) (st := f) (x := asC m 15) (by rw [show ((m 8 2).toNat : Int) = m 8 2 by omega]; exact hI); rw [show ((m 8 2).toNat : Int) = m 8 2 by omega] at z; exact z)) (by have z := hD1; rw [show asC m1 15 = _ from congrArg Prod.snd e1] at z; exact z) hE.2 (by rw [sheet_o, c_op]; exact hO) (sheet_b hN)

theorem two_67 {n : Nat} {a b : Int} {m : Mem} (h : JJ (n + 1) m) : Cl 230 67 [1, a, b] (fun v u => ∃ m1, u = S9 0 m1 ∧ Cl 230 221 [249, a, b] (fun w u' => ∃ m2, u' = S9 0 m2 ∧ JJ n m2) (S9 0 m1)) (S9 0 m) := by
  obtain ⟨tc, pl, hC, hR, hX, hB, R, hG⟩ := h
  have hs := JC_s (BC_g 0 hC)
  have hr := JR_s (BR_g 0 hR)
  obtain ⟨⟨kv1, kv2, kv3⟩, ⟨hI, hD, hS, hO, hN⟩, ⟨⟨u1, u2, u3, u4, u5⟩, -⟩, -, hRc, hRr⟩ := id hG
  obtain ⟨k3, k4, k5, k6, k7⟩ := hX.2.1
  have eP : ((m 8 2).toNat : Int) = m 8 2 := by omega
  have eH : ((m 8 3).toNat : Int) = m 8 3 := by omega
  have hKB : KB m := ⟨fun p p0 p1 => by have z := kv3 p p0 p1; unfold inI; omega, fun q q0 q1 => (kv2 q q0 q1).2⟩
  refine f_67 (d := 222) (g := gC 3 m) (R := R) (L := m 8 0) (BC_g 3 hC) hI hD hKB hRc ⟨u1, u2⟩ ⟨u3, u4⟩ (fun v m1 h1 a1 e1 hD1 => ⟨m1, rfl, ?_⟩)
  have c1 := FC_of h1
  have ch : ∀ x j, 249 ≤ x → m1 x j = m x j := fun x j q => c1 x j (Or.inl q)
  have e58 : asR m1 258 0 = asR m 258 0 := asR_fr (fun y _ _ => ch 258 y (by decide)) (fun y _ _ => ch 249 y (by decide))
  have q4 : m1 249 4 = m 8 1 := (ch 249 4 (by decide)).trans k4
  have q5 : m1 249 5 = m 8 2 := (ch 249 5 (by decide)).trans k5
  have q6 : m1 249 6 = m 8 3 := (ch 249 6 (by decide)).trans k6
  have hIS : IV (m 8 0) (m 8 2) (m 8 3) (asR m 258 0) := IV_SE hI hS
  have hIR : IV (m 8 0) (m1 249 5) (m1 249 6) (asR m1 258 0) := by rw [q5, q6, e58]; exact hIS
  have hIx : IV (m 8 0) (m 8 2) (m 8 3) (x0C m) := IV_SE hI (SE_sy (x0_SE m))
  have hSx : SE (m 8 2) (m 8 3) (x0C m) (asR m 258 0) := SE_tr (x0_SE m) hS
  have hOx : DB (m 8 1) (x0C m 10 0) := by rw [x0C_o]; exact hO
  have hNx : BN (m 8 2) (m 8 3) (x0C m) := BN_SE hN (SE_sy (x0_SE m))
  have hRm : BR tc pl m1 := BR_tr hR (fun x j q _ => ch x j q)
  have hK2 : KR2 m1 := ⟨fun p p0 p1 => by rw [q6] at p1; rw [ch 257 p (by decide), (kv3 p p0 p1).1]; exact hKB.1 p p0 p1, fun q q0 q1 => by rw [q5] at q1; rw [ch 256 q (by decide), (kv2 q q0 q1).1]; exact hKB.2 q q0 q1⟩
  have hR2 : RuR m1 R := RuR_fr hRr (ch 249 32 (by decide)) (fun j => ch 265 j (by decide))
  have hx1 : x0R m1 = x0R m := by unfold x0R; rw [e58]
  have hSR : SE (m 8 2) (m 8 3) (x0C m) (x0R m) := SE_tr hSx (SE_sy (x0R_SE m))
  have hbe : ∀ p : Int, 0 ≤ p → p < (m 8 3).toNat → m 14 p = m1 257 p := fun p p0 p1 => ((ch 257 p (by decide)).trans (kv3 p p0 (by omega)).1).symm
  have hce : ∀ q : Int, 0 ≤ q → q < (m 8 2).toNat → m 13 q = m1 256 q := fun q q0 q1 => ((ch 256 q (by decide)).trans (kv2 q q0 (by omega)).1).symm
  have hck : ∀ q : Int, 0 ≤ q → q < (m 8 2).toNat → 0 ≤ m 13 q ∧ m 13 q ≤ 9 := fun q q0 q1 => hKB.2 q q0 (by omega)
  have hIn : IV (m 8 0) (m 8 2).toNat (m 8 3).toNat (x0C m) := by rw [eP, eH]; exact hIx
  have hSn : SE (m 8 2).toNat (m 8 3).toNat (x0C m) (x0R m) := by rw [eP, eH]; exact hSR
  have hNn : BN (m 8 2).toNat (m 8 3).toNat (x0C m) := by rw [eP, eH]; exact hNx
  have hwe : ∀ w, 0 ≤ w → w < m 8 1 → m 10 w = m1 252 w ∧ m 11 w = m1 253 w ∧ m 12 w = m1 254 w ∧ (iand (ishr (m 8 8) w) 1 = 0 ↔ m1 255 w = 0) := fun w w0 w1 => by
    obtain ⟨z1, z2, z3, z4, -⟩ := kv1 w w0 w1
    rw [ch 252 w (by decide), ch 253 w (by decide), ch 254 w (by decide), ch 255 w (by decide)]
    refine ⟨z1.symm, z2.symm, z3.symm, ?_⟩
    rw [z4]
  have hwl : ∀ w, 0 ≤ w → w < m 8 1 → (0 ≤ m 10 w ∧ m 10 w < m 8 0) ∧ (0 ≤ m 11 w ∧ m 11 w < m 8 0) := fun w w0 w1 => ⟨(kv1 w w0 w1).2.2.2.2.1, (kv1 w w0 w1).2.2.2.2.2.1⟩
  refine f_221 (d := 222) (g := gR 3 m1) (pl := pl) (R := R) (L := m 8 0) (BR_g 3 hRm) hIR hK2 hR2 (fun w m2 h2 a2 e2 => ?_)
  rw [q4, q5, q6, hx1] at e2
  have hE : AE (m 8 2).toNat (m 8 3).toNat (aWalk R (m 14) (m 13) (m 8 2).toNat (m 8 3).toNat (m 8 1) (m 10) (m 11) (m 12) (fun w => iand (ishr (m 8 8) w) 1) (x0C m) a b) (aWalk R (m1 257) (m1 256) (m 8 2).toNat (m 8 3).toNat (m 8 1) (m1 252) (m1 253) (m1 254) (m1 255) (x0R m) a b) := walk_e hIn hSn x0_SN hbe hce hck hwe
  have hw : w = v := by
    have z := hE.1
    rw [← e1, ← e2] at z
    exact z.symm
  subst hw
  have hE2 := hE.2.1
  rw [eP, eH] at hE2
  refine ⟨m2, rfl, ⟨tc, pl, ?_, ?_, ?_, ?_, R, ?_⟩⟩
  · exact BC_tr (BC_of h1) (fun x j q => FR_of h2 x j (Or.inl q))
  · exact BR_of h2
  · exact RX_fr (Int.le_refl _) (fun x j q => FC_of h1 x j (frC_le (by decide) q)) (fun x j q => FR_of h2 x j (frR_le (by decide) q)) hX
  · exact RB_fr (Nat.le_succ n) ((FR_of h2 1 12 (Or.inl (by decide))).trans (FC_of h1 1 12 (by unfold frC; omega))) ((FR_of h2 249 7 (by unfold frR; omega)).trans (FC_of h1 249 7 (Or.inl (by decide)))) (fun j => (FR_of h2 285 j (by unfold frR; omega)).trans (FC_of h1 285 j (Or.inl (by decide)))) (fun j => (FR_of h2 286 j (by unfold frR; omega)).trans (FC_of h1 286 j (Or.inl (by decide)))) hB
  · exact GS_two (by omega) (by omega) hG a1 a2 (congrArg Prod.snd e1) (congrArg Prod.snd e2) (by rw [← eP, ← eH]; exact walk_i hIn hck hwl) (by have z := hD1; rw [show asC m1 15 = _ from congrArg Prod.snd e1] at z; exact z) hE2 (by rw [walk_o hIn hck]; exact hOx) (by rw [← eP, ← eH]; exact walk_b hIn hNn (by omega) hck)

theorem two_85 {n : Nat} {a : Int} {m : Mem} (h : JJ (n + 1) m) : Cl 230 85 [1, a] (fun v u => ∃ m1, u = S9 0 m1 ∧ Cl 230 226 [249, a] (fun w u' => ∃ m2, u' = S9 0 m2 ∧ JJ n m2) (S9 0 m1)) (S9 0 m) := by
  obtain ⟨tc, pl, hC, hR, hX, hB, R, hG⟩ := h
  have hs := JC_s (BC_g 0 hC)
  have hr := JR_s (BR_g 0 hR)
  obtain ⟨⟨kv1, kv2, kv3⟩, ⟨hI, hD, hS, hO, hN⟩, ⟨⟨u1, u2, u3, u4, u5⟩, -⟩, -, hRc, hRr⟩ := id hG
  obtain ⟨k3, k4, k5, k6, k7⟩ := hX.2.1
  have eP : ((m 8 2).toNat : Int) = m 8 2 := by omega
  have eH : ((m 8 3).toNat : Int) = m 8 3 := by omega
  have hKB : KB m := ⟨fun p p0 p1 => by have z := kv3 p p0 p1; unfold inI; omega, fun q q0 q1 => (kv2 q q0 q1).2⟩
  refine f_85 (d := 222) (g := gC 3 m) (R := R) (L := m 8 0) (BC_g 3 hC) hI hD hKB hRc ⟨u1, u2⟩ ⟨u3, u4⟩ (fun v m1 h1 a1 e1 hD1 => ⟨m1, rfl, ?_⟩)
  have c1 := FC_of h1
  have ch : ∀ x j, 249 ≤ x → m1 x j = m x j := fun x j q => c1 x j (Or.inl q)
  have e58 : asR m1 258 0 = asR m 258 0 := asR_fr (fun y _ _ => ch 258 y (by decide)) (fun y _ _ => ch 249 y (by decide))
  have q4 : m1 249 4 = m 8 1 := (ch 249 4 (by decide)).trans k4
  have q5 : m1 249 5 = m 8 2 := (ch 249 5 (by decide)).trans k5
  have q6 : m1 249 6 = m 8 3 := (ch 249 6 (by decide)).trans k6
  have hIS : IV (m 8 0) (m 8 2) (m 8 3) (asR m 258 0) := IV_SE hI hS
  have hIR : IV (m 8 0) (m1 249 5) (m1 249 6) (asR m1 258 0) := by rw [q5, q6, e58]; exact hIS
  have hIx : IV (m 8 0) (m 8 2) (m 8 3) (x0C m) := IV_SE hI (SE_sy (x0_SE m))
  have hSx : SE (m 8 2) (m 8 3) (x0C m) (asR m 258 0) := SE_tr (x0_SE m) hS
  have hOx : DB (m 8 1) (x0C m 10 0) := by rw [x0C_o]; exact hO
  have hNx : BN (m 8 2) (m 8 3) (x0C m) := BN_SE hN (SE_sy (x0_SE m))
  have hRm : BR tc pl m1 := BR_tr hR (fun x j q _ => ch x j q)
  have hK2 : KR2 m1 := ⟨fun p p0 p1 => by rw [q6] at p1; rw [ch 257 p (by decide), (kv3 p p0 p1).1]; exact hKB.1 p p0 p1, fun q q0 q1 => by rw [q5] at q1; rw [ch 256 q (by decide), (kv2 q q0 q1).1]; exact hKB.2 q q0 q1⟩
  have hR2 : RuR m1 R := RuR_fr hRr (ch 249 32 (by decide)) (fun j => ch 265 j (by decide))
  have hx1 : x0R m1 = x0R m := by unfold x0R; rw [e58]
  have hSR : SE (m 8 2) (m 8 3) (x0C m) (x0R m) := SE_tr hSx (SE_sy (x0R_SE m))
  have hbe : ∀ p : Int, 0 ≤ p → p < (m 8 3).toNat → m 14 p = m1 257 p := fun p p0 p1 => ((ch 257 p (by decide)).trans (kv3 p p0 (by omega)).1).symm
  have hce : ∀ q : Int, 0 ≤ q → q < (m 8 2).toNat → m 13 q = m1 256 q := fun q q0 q1 => ((ch 256 q (by decide)).trans (kv2 q q0 (by omega)).1).symm
  have hck : ∀ q : Int, 0 ≤ q → q < (m 8 2).toNat → 0 ≤ m 13 q ∧ m 13 q ≤ 9 := fun q q0 q1 => hKB.2 q q0 (by omega)
  have hIn : IV (m 8 0) (m 8 2).toNat (m 8 3).toNat (x0C m) := by rw [eP, eH]; exact hIx
  have hSn : SE (m 8 2).toNat (m 8 3).toNat (x0C m) (x0R m) := by rw [eP, eH]; exact hSR
  have hNn : BN (m 8 2).toNat (m 8 3).toNat (x0C m) := by rw [eP, eH]; exact hNx
  have hwe : ∀ w, 0 ≤ w → w < m 8 1 → m 10 w = m1 252 w ∧ m 11 w = m1 253 w ∧ m 12 w = m1 254 w ∧ (iand (ishr (m 8 8) w) 1 = 0 ↔ m1 255 w = 0) := fun w w0 w1 => by
    obtain ⟨z1, z2, z3, z4, -⟩ := kv1 w w0 w1
    rw [ch 252 w (by decide), ch 253 w (by decide), ch 254 w (by decide), ch 255 w (by decide)]
    refine ⟨z1.symm, z2.symm, z3.symm, ?_⟩
    rw [z4]
  have hwl : ∀ w, 0 ≤ w → w < m 8 1 → (0 ≤ m 10 w ∧ m 10 w < m 8 0) ∧ (0 ≤ m 11 w ∧ m 11 w < m 8 0) := fun w w0 w1 => ⟨(kv1 w w0 w1).2.2.2.2.1, (kv1 w w0 w1).2.2.2.2.2.1⟩
  refine f_226 (d := 222) (g := gR 3 m1) (pl := pl) (R := R) (L := m 8 0) (BR_g 3 hRm) hIR hK2 hR2 (fun w m2 h2 a2 e2 => ?_)
  rw [q5, q6, hx1] at e2
  have hE : AE (m 8 2).toNat (m 8 3).toNat (aPass R (m 14) (m 13) (m 8 2).toNat (m 8 3).toNat (x0C m) a) (aPass R (m1 257) (m1 256) (m 8 2).toNat (m 8 3).toNat (x0R m) a) := pass_e hIn hSn x0_SN hbe hce hck
  have hw : w = v := by
    have z := hE.1
    rw [← e1, ← e2] at z
    exact z.symm
  subst hw
  have hE2 := hE.2.1
  rw [eP, eH] at hE2
  refine ⟨m2, rfl, ⟨tc, pl, ?_, ?_, ?_, ?_, R, ?_⟩⟩
  · exact BC_tr (BC_of h1) (fun x j q => FR_of h2 x j (Or.inl q))
  · exact BR_of h2
  · exact RX_fr (Int.le_refl _) (fun x j q => FC_of h1 x j (frC_le (by decide) q)) (fun x j q => FR_of h2 x j (frR_le (by decide) q)) hX
  · exact RB_fr (Nat.le_succ n) ((FR_of h2 1 12 (Or.inl (by decide))).trans (FC_of h1 1 12 (by unfold frC; omega))) ((FR_of h2 249 7 (by unfold frR; omega)).trans (FC_of h1 249 7 (Or.inl (by decide)))) (fun j => (FR_of h2 285 j (by unfold frR; omega)).trans (FC_of h1 285 j (Or.inl (by decide)))) (fun j => (FR_of h2 286 j (by unfold frR; omega)).trans (FC_of h1 286 j (Or.inl (by decide)))) hB
  · exact GS_two (by omega) (by omega) hG a1 a2 (congrArg Prod.snd e1) (congrArg Prod.snd e2) (by rw [← eP, ← eH]; exact pass_i hIn hck) (by have z := hD1; rw [show asC m1 15 = _ from congrArg Prod.snd e1] at z; exact z) hE2 (by rw [pass_o hIn hck]; exact hOx) (by rw [← eP, ← eH]; exact pass_b hIn hNn (by omega) hck)

theorem two_96 {n : Nat} {m : Mem} (h : JJ (n + 1) m) : Cl 230 96 [1] (fun v u => ∃ m1, u = S9 0 m1 ∧ Cl 230 235 [249] (fun w u' => ∃ m2, u' = S9 0 m2 ∧ JJ n m2) (S9 0 m1)) (S9 0 m) := by
  obtain ⟨tc, pl, hC, hR, hX, hB, R, hG⟩ := h
  have hs := JC_s (BC_g 0 hC)
  have hr := JR_s (BR_g 0 hR)
  obtain ⟨⟨kv1, kv2, kv3⟩, ⟨hI, hD, hS, hO, hN⟩, ⟨⟨u1, u2, u3, u4, u5⟩, -⟩, -, hRc, hRr⟩ := id hG
  obtain ⟨k3, k4, k5, k6, k7⟩ := hX.2.1
  have eP : ((m 8 2).toNat : Int) = m 8 2 := by omega
  have eH : ((m 8 3).toNat : Int) = m 8 3 := by omega
  have hKB : KB m := ⟨fun p p0 p1 => by have z := kv3 p p0 p1; unfold inI; omega, fun q q0 q1 => (kv2 q q0 q1).2⟩
  have hWB : WB (m 8 0) m := fun w w0 w1 => ⟨(kv1 w w0 w1).2.2.2.2.1, (kv1 w w0 w1).2.2.2.2.2.1⟩
  have hDF : DF (m 260) tc = DF (m 3) tc := DF_e hX.1.1
  have hDN : DN (m 260) tc = DN (m 3) tc := DN_e hX.1.1
  refine f_96 (d := 220) (g := gC 3 m) (R := R) (L := m 8 0) hX.1.2.1 (BC_g 3 hC) hI hD hKB hRc hWB (Int.le_refl _) ⟨u1, u2⟩ ⟨u3, u4⟩ (fun hf m1 h1 f1 => ⟨m1, rfl, ?_⟩) (fun hf v m1 h1 hv a1 e1 hD1 => ⟨m1, rfl, ?_⟩)
  all_goals
    have c1 := FC_of h1
    have ch : ∀ x j, 249 ≤ x → m1 x j = m x j := fun x j q => c1 x j (Or.inl q)
    have e60 : m1 260 = m 260 := by funext j; exact ch 260 j (by decide)
  · have hRm : BR tc pl m1 := BR_tr hR (fun x j q _ => ch x j q)
    have e58 : asR m1 258 0 = asR m 258 0 := asR_fr (fun y _ _ => ch 258 y (by decide)) (fun y _ _ => ch 249 y (by decide))
    have q4 : m1 249 4 = m 8 1 := (ch 249 4 (by decide)).trans k4
    have q5 : m1 249 5 = m 8 2 := (ch 249 5 (by decide)).trans k5
    have q6 : m1 249 6 = m 8 3 := (ch 249 6 (by decide)).trans k6
    have hIR : IV (m 8 0) (m1 249 5) (m1 249 6) (asR m1 258 0) := by rw [q5, q6, e58]; exact IV_SE hI hS
    have hK2 : KR2 m1 := ⟨fun p p0 p1 => by rw [q6] at p1; rw [ch 257 p (by decide), (kv3 p p0 p1).1]; exact hKB.1 p p0 p1, fun q q0 q1 => by rw [q5] at q1; rw [ch 256 q (by decide), (kv2 q q0 q1).1]; exact hKB.2 q q0 q1⟩
    have hR2 : RuR m1 R := RuR_fr hRr (ch 249 32 (by decide)) (fun j => ch 265 j (by decide))
    have hW2 : WBR (m 8 0) m1 := fun w w0 w1 => by rw [q4] at w1; rw [ch 252 w (by decide), ch 253 w (by decide), (kv1 w w0 w1).1, (kv1 w w0 w1).2.1]; exact hWB w w0 w1
    refine f_235 (d := 220) (g := gR 3 m1) (pl := pl) (R := R) (L := m 8 0) (BR_g 3 hRm) hIR hK2 hR2 hW2 (fun hf2 m2 h2 f2 => ?_) (fun hf2 => absurd hf2 (by rw [e60, hDF]; omega))
    refine ⟨m2, rfl, ⟨0, pl, ?_, ?_, ?_, ?_, R, ?_⟩⟩
    · exact BC_tr (BC_of h1) (fun x j q => FR_of h2 x j (Or.inl q))
    · exact BR_of h2
    · exact RX_fr hC.1.1 (fun x j q => FC_of h1 x j (frC_le (by decide) q)) (fun x j q => FR_of h2 x j (frR_le (by decide) q)) hX
    · exact RB_fr (Nat.le_succ n) ((FR_of h2 1 12 (Or.inl (by decide))).trans (FC_of h1 1 12 (by unfold frC; omega))) ((FR_of h2 249 7 (by unfold frR; omega)).trans (FC_of h1 249 7 (Or.inl (by decide)))) (fun j => (FR_of h2 285 j (by unfold frR; omega)).trans (FC_of h1 285 j (Or.inl (by decide)))) (fun j => (FR_of h2 286 j (by unfold frR; omega)).trans (FC_of h1 286 j (Or.inl (by decide)))) hB
    · exact GS_fr (by omega) (by omega) (fun x j q => (f2 x j (by unfold GCl at q; omega) (by unfold GCl at q; omega)).trans (f1 x j (by unfold GCl at q; omega) (by unfold GCl at q; omega))) hG
  · have e58 : asR m1 258 0 = asR m 258 0 := asR_fr (fun y _ _ => ch 258 y (by decide)) (fun y _ _ => ch 249 y (by decide))
    have q4 : m1 249 4 = m 8 1 := (ch 249 4 (by decide)).trans k4
    have q5 : m1 249 5 = m 8 2 := (ch 249 5 (by decide)).trans k5
    have q6 : m1 249 6 = m 8 3 := (ch 249 6 (by decide)).trans k6
    have hIS : IV (m 8 0) (m 8 2) (m 8 3) (asR m 258 0) := IV_SE hI hS
    have hIR : IV (m 8 0) (m1 249 5) (m1 249 6) (asR m1 258 0) := by rw [q5, q6, e58]; exact hIS
    have hIx : IV (m 8 0) (m 8 2) (m 8 3) (x0C m) := IV_SE hI (SE_sy (x0_SE m))
    have hSx : SE (m 8 2) (m 8 3) (x0C m) (asR m 258 0) := SE_tr (x0_SE m) hS
    have hOx : DB (m 8 1) (x0C m 10 0) := by rw [x0C_o]; exact hO
    have hNx : BN (m 8 2) (m 8 3) (x0C m) := BN_SE hN (SE_sy (x0_SE m))
    have hRm : BR tc pl m1 := BR_tr hR (fun x j q _ => ch x j q)
    have hK2 : KR2 m1 := ⟨fun p p0 p1 => by rw [q6] at p1; rw [ch 257 p (by decide), (kv3 p p0 p1).1]; exact hKB.1 p p0 p1, fun q q0 q1 => by rw [q5] at q1; rw [ch 256 q (by decide), (kv2 q q0 q1).1]; exact hKB.2 q q0 q1⟩
    have hR2 : RuR m1 R := RuR_fr hRr (ch 249 32 (by decide)) (fun j => ch 265 j (by decide))
    have hx1 : x0R m1 = x0R m := by unfold x0R; rw [e58]
    have hSR : SE (m 8 2) (m 8 3) (x0C m) (x0R m) := SE_tr hSx (SE_sy (x0R_SE m))
    have hbe : ∀ p : Int, 0 ≤ p → p < (m 8 3).toNat → m 14 p = m1 257 p := fun p p0 p1 => ((ch 257 p (by decide)).trans (kv3 p p0 (by omega)).1).symm
    have hce : ∀ q : Int, 0 ≤ q → q < (m 8 2).toNat → m 13 q = m1 256 q := fun q q0 q1 => ((ch 256 q (by decide)).trans (kv2 q q0 (by omega)).1).symm
    have hck : ∀ q : Int, 0 ≤ q → q < (m 8 2).toNat → 0 ≤ m 13 q ∧ m 13 q ≤ 9 := fun q q0 q1 => hKB.2 q q0 (by omega)
    have hIn : IV (m 8 0) (m 8 2).toNat (m 8 3).toNat (x0C m) := by rw [eP, eH]; exact hIx
    have hSn : SE (m 8 2).toNat (m 8 3).toNat (x0C m) (x0R m) := by rw [eP, eH]; exact hSR
    have hNn : BN (m 8 2).toNat (m 8 3).toNat (x0C m) := by rw [eP, eH]; exact hNx
    have hwe : ∀ w, 0 ≤ w → w < m 8 1 → m 10 w = m1 252 w ∧ m 11 w = m1 253 w ∧ m 12 w = m1 254 w ∧ (iand (ishr (m 8 8) w) 1 = 0 ↔ m1 255 w = 0) := fun w w0 w1 => by
      obtain ⟨z1, z2, z3, z4, -⟩ := kv1 w w0 w1
      rw [ch 252 w (by decide), ch 253 w (by decide), ch 254 w (by decide), ch 255 w (by decide)]
      refine ⟨z1.symm, z2.symm, z3.symm, ?_⟩
      rw [z4]
    have hwl : ∀ w, 0 ≤ w → w < m 8 1 → (0 ≤ m 10 w ∧ m 10 w < m 8 0) ∧ (0 ≤ m 11 w ∧ m 11 w < m 8 0) := fun w w0 w1 => ⟨(kv1 w w0 w1).2.2.2.2.1, (kv1 w w0 w1).2.2.2.2.2.1⟩
    have hW2 : WBR (m 8 0) m1 := fun w w0 w1 => by rw [q4] at w1; rw [ch 252 w (by decide), ch 253 w (by decide), (kv1 w w0 w1).1, (kv1 w w0 w1).2.1]; exact hWB w w0 w1
    have hk1 : ∀ p, 0 ≤ p → p < m 8 0 → m 9 p = m1 251 p := fun p p0 p1 => ((ch 251 p (by decide)).trans (k7 p p0 p1)).symm
    have hce' : ∀ q : Int, 0 ≤ q → q < (m 8 2).toNat → 0 ≤ m1 256 q ∧ m1 256 q ≤ 9 := fun q q0 q1 => by rw [← hce q q0 q1]; exact hck q q0 q1
    refine f_235 (d := 220) (g := gR 3 m1) (pl := pl) (R := R) (L := m 8 0) (BR_g 3 hRm) hIR hK2 hR2 hW2 (fun hf2 => absurd hf2 (by rw [e60, hDF]; omega)) (fun hf2 w m2 h2 hw2 a2 e2 => ?_)
    rw [e60, hDN, hx1] at hw2 e2
    have hdo : doR m1 R = doA R (m1 257) (m1 256) (m 8 2).toNat (m 8 3).toNat (m 8 1) (m1 252) (m1 253) (m1 254) (m1 255) (m1 251) := by unfold doR; rw [q4, q5, q6]
    rw [hdo] at hw2 e2
    have hE := runs_e (f := doC m R) (f' := doA R (m1 257) (m1 256) (m 8 2).toNat (m 8 3).toNat (m 8 1) (m1 252) (m1 253) (m1 254) (m1 255) (m1 251)) (L := m 8 0) (P := (m 8 2).toNat) (H := (m 8 3).toNat) (fun ac x y hi he hn => doA_e hi he hn hbe hce hck hwe hk1) (fun ac x hi => doA_i hi hck hwl) (DN (m 3) tc).2.2 (x0C m) (x0R m) hIn hSn x0_SN
    have hw : w = v := by rw [hw2, hv]; exact hE.1.symm
    subst hw
    have hE2 := hE.2.1
    rw [eP, eH] at hE2
    have hir := runs_i (f := doC m R) (L := m 8 0) (P := (m 8 2).toNat) (H := (m 8 3).toNat) (fun ac x hi => doA_i hi hck hwl) (DN (m 3) tc).2.2 (x0C m) hIn
    rw [eP, eH] at hir
    have hbr := runs_b (f := doC m R) (L := m 8 0) (P := (m 8 2).toNat) (H := (m 8 3).toNat) (fun ac x hi => doA_i hi hck hwl) (fun ac x hi hb => doA_b hi hb (by omega) hck) (DN (m 3) tc).2.2 (x0C m) hIn hNn
    rw [eP, eH] at hbr
    refine ⟨m2, rfl, ⟨0, pl, ?_, ?_, ?_, ?_, R, ?_⟩⟩
    · exact BC_tr (BC_of h1) (fun x j q => FR_of h2 x j (Or.inl q))
    · exact BR_of h2
    · exact RX_fr hC.1.1 (fun x j q => FC_of h1 x j (frC_le (by decide) q)) (fun x j q => FR_of h2 x j (frR_le (by decide) q)) hX
    · exact RB_fr (Nat.le_succ n) ((FR_of h2 1 12 (Or.inl (by decide))).trans (FC_of h1 1 12 (by unfold frC; omega))) ((FR_of h2 249 7 (by unfold frR; omega)).trans (FC_of h1 249 7 (Or.inl (by decide)))) (fun j => (FR_of h2 285 j (by unfold frR; omega)).trans (FC_of h1 285 j (Or.inl (by decide)))) (fun j => (FR_of h2 286 j (by unfold frR; omega)).trans (FC_of h1 286 j (Or.inl (by decide)))) hB
    · exact GS_two (by omega) (by omega) hG a1 a2 e1 e2 hir (by rw [← e1]; exact hD1) hE2 (runs_o (fun ac x hi => doA_i hi hck hwl) (fun ac x hi hd => doA_o (by omega) hi hck hd) _ _ hIn hOx) hbr

theorem JR_bk {g : Fg} {tc pl i u : Int} {m : Mem} (hi : i = 269 ∨ i = 287) (h : JR 3 g tc pl m) : JR 3 g tc pl (cpf m i (52 * u) 258 0 52) := by
  refine ⟨⟨h.1.1, h.1.2.1, fun x j q => ?_, BdR_cpf h.1.2.2.2 (fun y y0 y1 => ?_)⟩, ?_⟩
  · have z := JR_l h _ _ q
    rw [cpf_n (by rintro rfl; unfold frR at z; omega)]
    exact h.1.2.2.1 x j q
  · rcases hi with rfl | rfl
    · exact BdR_n (by simp) (rb_eq (JB_n (JR_1 h) 269 _ (by simp)) (by omega))
    · exact BdR_n (by simp) (rb_eq (JB_n (JR_1 h) 287 _ (by simp)) (by omega))
  · have z := h.2
    unfold JS at z ⊢
    rw [cpf_n (by decide), cpf_n (by decide), cpf_n (by decide)]
    exact z
theorem JR_kp {l : Nat} {g : Fg} {tc pl u : Int} {m : Mem} (h : JR l g tc pl m) (hg : ∀ x j, g.1 x j → x ≠ 287) : JR l g tc pl (cpf m 258 0 287 (52 * u) 52) := by
  refine ⟨⟨h.1.1, h.1.2.1, fun x j q => ?_, BdR_cpf h.1.2.2.2 (fun y y0 y1 => ?_)⟩, ?_⟩
  · rw [cpf_n (hg x j q)]
    exact h.1.2.2.1 x j q
  · exact BdR_n (by simp) (rb_eq (JB_n h.1 258 _ (by simp)) (by omega))
  · have z := h.2
    unfold JS at z ⊢
    rw [cpf_n (by decide), cpf_n (by decide), cpf_n (by decide)]
    exact z
theorem cpf_at {m : Mem} {a i b j y : Int} (h0 : 0 ≤ y) (h1 : y < 52) : cpf m a i b j 52 b (j + y) = m a (i + y) := by
  unfold cpf
  rw [if_pos ⟨rfl, by omega, by omega⟩]
  congr 1; omega
theorem two_101 {n : Nat} {m : Mem} (h : JJ (n + 1) m) : Cl 230 101 [1] (fun v u => ∃ m1, u = S9 0 m1 ∧ Cl 230 213 [249] (fun w u' => ∃ m2, u' = S9 0 m2 ∧ JJ n m2) (S9 0 m1)) (S9 0 m) := by
  obtain ⟨tc, pl, hC, hR, hX, hB, R, hG⟩ := h
  have hs := JC_s (BC_g 0 hC)
  have hr := JR_s (BR_g 0 hR)
  obtain ⟨⟨kv1, kv2, kv3⟩, ⟨hI, hD, hS, hO, hN⟩, ⟨⟨u1, u2, u3, u4, u5⟩, -⟩, -, hRc, hRr⟩ := id hG
  obtain ⟨k3, k4, k5, k6, k7⟩ := hX.2.1
  refine f_101 (d := 226) (g := gC 3 m) (BC_g 3 hC) ⟨u1, u2⟩ ⟨u3, u4⟩ (fun z => ⟨m, rfl, ?_⟩) (fun m1 z h1 f1 => ⟨m1, rfl, ?_⟩)
  · refine p_213x (d := 229) (by omega) (fun z2 => ⟨_, rfl, ⟨tc, pl, BC_hi hC (by decide), BR_0 hR, ⟨RT_fr (fun x j q => upm_a _ _ _ _ _ _ (by omega)) hX.1, RKM_fr (fun x j q => by rw [upm_app, if_neg (by omega)]) hX.2⟩, RB_fr (Nat.le_succ n) (upm_a _ _ _ _ _ _ (by decide)) (upm_k (by decide)) (fun j => upm_a _ _ _ _ _ _ (by decide)) (fun j => upm_a _ _ _ _ _ _ (by decide)) hB, R, GS_fr (by omega) (by omega) (fun x j q => by rw [upm_app, if_neg (by unfold GCl at q; omega)]) hG⟩⟩) (fun z2 => absurd z2 (by omega))
  · have c1 := FC_of h1
    have ch : ∀ x j, 249 ≤ x → m1 x j = m x j := fun x j q => c1 x j (Or.inl q)
    have e0 : ∀ x j, (x < 15 ∨ 24 < x) → ¬ (x = 26 ∧ j = 9) → m1 x j = m x j := fun x j q q2 => by rw [f1.1 x j (by omega), upm_app, if_neg q2]
    have e9 : m1 26 9 = m 26 9 - 1 := by rw [f1.1 26 9 (by omega), upm_v]
    have e39 := ch 249 39 (by decide)
    have hRm : BR tc pl m1 := BR_tr hR (fun x j q _ => ch x j q)
    have hJR := BR_g 3 hRm
    have h2 : JR 3 (gR 3 m1) tc pl (cpf (upm (upm m1 249 0 0) 249 39 (m1 249 39 - 1)) 269 (52 * (m1 249 39 - 1)) 258 0 52) := JR_bk (Or.inl rfl) (JR_up (JR_up hJR (by unfold frR; omega) (by simp [frc]) (by simp [BdR])) (by unfold frR; omega) (by simp [frc]) (by simp [BdR]; omega))
    have r0 : ∀ x j, x ≠ 258 → ¬ (x = 249 ∧ (j = 0 ∨ j = 39)) → cpf (upm (upm m1 249 0 0) 249 39 (m1 249 39 - 1)) 269 (52 * (m1 249 39 - 1)) 258 0 52 x j = m1 x j := fun x j q q2 => by rw [cpf_n q, upm_app, if_neg (by omega), upm_app, if_neg (by omega)]
    refine p_213x (d := 229) (by rw [e39]; omega) (fun z2 => absurd z2 (by omega)) (fun z2 => ⟨_, rfl, ⟨tc, pl, ?_, ?_, ?_, ?_, R, ?_⟩⟩)
    · exact BC_tr (BC_of h1) (fun x j q => FR_of h2 x j (Or.inl q))
    · exact BR_of h2
    · exact RX_fr (Int.le_refl _) (fun x j q => FC_of h1 x j (frC_le (by decide) q)) (fun x j q => FR_of h2 x j (frR_le (by decide) q)) hX
    · exact RB_fr (Nat.le_succ n) ((FR_of h2 1 12 (Or.inl (by decide))).trans (FC_of h1 1 12 (by unfold frC; omega))) ((FR_of h2 249 7 (by unfold frR; omega)).trans (FC_of h1 249 7 (Or.inl (by decide)))) (fun j => (FR_of h2 285 j (by unfold frR; omega)).trans (FC_of h1 285 j (Or.inl (by decide)))) (fun j => (FR_of h2 286 j (by unfold frR; omega)).trans (FC_of h1 286 j (Or.inl (by decide)))) hB
    · refine GS_undo (by omega) (by omega) hG (fun x j q => ?_) z (fun x j q => ?_) ?_ ?_ ⟨?_, fun j j0 j1 => ?_⟩ (fun y y0 y1 => ?_)
      · unfold KCl at q; rw [r0 x j (by omega) (by omega)]; exact e0 x j (by omega) (by omega)
      · rw [r0 x j (by omega) (by omega)]; exact e0 x j (by omega) (by omega)
      · rw [r0 26 9 (by decide) (by decide)]; exact e9
      · rw [cpf_n (by decide), upm_v, e39]
      · have q := CPY_SE f1
        refine SE_tr (SE_st (m := m1) (fun x j x0 x1 => r0 x j (by omega) (by omega))) (SE_tr q (SE_st (fun x j x0 x1 => by rw [upm_app, if_neg (by omega)])))
      · have q := CPY_hold f1 j0 j1
        rw [r0 18 j (by decide) (by omega)]
        exact q.trans (by rw [upm_app, if_neg (by omega)])
      · have q := cpf_at (m := upm (upm m1 249 0 0) 249 39 (m1 249 39 - 1)) (a := 269) (i := 52 * (m1 249 39 - 1)) (b := 258) (j := 0) y0 y1
        rw [Int.zero_add] at q
        rw [q, upm_app, if_neg (by omega), upm_app, if_neg (by omega), e39]
        exact ch 269 _ (by decide)

theorem two_153 {n : Nat} {a : Int} {m : Mem} (h : JJ (n + 1) m) : Cl 230 153 [1, a] (fun v u => ∃ m1, u = S9 0 m1 ∧ Cl 230 277 [249, a] (fun w u' => ∃ m2, u' = S9 0 m2 ∧ JJ n m2) (S9 0 m1)) (S9 0 m) := by
  obtain ⟨tc, pl, hC, hR, hX, hB, R, hG⟩ := h
  have hs := JC_s (BC_g 0 hC)
  have hr := JR_s (BR_g 0 hR)
  obtain ⟨⟨kv1, kv2, kv3⟩, ⟨hI, hD, hS, hO, hN⟩, ⟨⟨u1, u2, u3, u4, u5⟩, -⟩, -, hRc, hRr⟩ := id hG
  obtain ⟨k3, k4, k5, k6, k7⟩ := hX.2.1
  have hka : 0 ≤ a → a < 3 → (iand (ishr (m 1 12) a) 1 ≠ 0 ↔ m 285 a ≠ 0 ∧ m 286 a = m 249 7) := fun a0 a1 => by
    obtain ⟨-, z1, z2⟩ := hB.2 a a0 a1
    exact ⟨z1, z2⟩
  refine f_153 (d := 227) (g := gC 3 m) (BC_g 3 hC) (fun z => ⟨m, rfl, ?_⟩) (fun z m1 h0 f1 h1 => ⟨_, rfl, ?_⟩)
  · refine p_277x (d := 228) (fun z2 => ⟨_, rfl, ⟨tc, pl, BC_hi hC (by decide), BR_0 hR, ⟨RT_fr (fun x j q => upm_a _ _ _ _ _ _ (by omega)) hX.1, RKM_fr (fun x j q => by rw [upm_app, if_neg (by omega)]) hX.2⟩, RB_fr (Nat.le_succ n) (upm_a _ _ _ _ _ _ (by decide)) (upm_k (by decide)) (fun j => upm_a _ _ _ _ _ _ (by decide)) (fun j => upm_a _ _ _ _ _ _ (by decide)) hB, R, GS_fr (by omega) (by omega) (fun x j q => by rw [upm_app, if_neg (by unfold GCl at q; omega)]) hG⟩⟩) (fun z2 => absurd ⟨z2.1, z2.2.1, (hka z2.1 z2.2.1).2 z2.2.2⟩ z)
  · have c1 := FC_of h1
    have ch : ∀ x j, 249 ≤ x → upm m1 26 9 0 x j = m x j := fun x j q => c1 x j (Or.inl q)
    have e0 : ∀ x j, (x < 15 ∨ 24 < x) → ¬ (x = 26 ∧ j = 9) → upm m1 26 9 0 x j = m x j := fun x j q q2 => by rw [upm_app, if_neg q2]; exact f1.1 x j (by omega)
    generalize hm1 : upm m1 26 9 0 = m9 at *
    have hRm : BR tc pl m9 := BR_tr hR (fun x j q _ => ch x j q)
    have hJR := BR_g 3 hRm
    have h2 : JR 3 (gR 3 m9) tc pl (upm (cpf (upm m9 249 0 0) 287 (52 * a) 258 0 52) 249 39 0) := JR_up (JR_bk (Or.inr rfl) (JR_up hJR (by unfold frR; omega) (by simp [frc]) (by simp [BdR]))) (by unfold frR; omega) (by simp [frc]) (by simp [BdR])
    have r0 : ∀ x j, x ≠ 258 → ¬ (x = 249 ∧ (j = 0 ∨ j = 39)) → upm (cpf (upm m9 249 0 0) 287 (52 * a) 258 0 52) 249 39 0 x j = m9 x j := fun x j q q2 => by rw [upm_app, if_neg (by omega), cpf_n q, upm_app, if_neg (by omega)]
    have zz : m9 285 a ≠ 0 ∧ m9 286 a = m9 249 7 := by rw [ch 285 a (by decide), ch 286 a (by decide), ch 249 7 (by decide)]; exact (hka z.1 z.2.1).1 z.2.2
    refine p_277x (d := 228) (fun z2 => absurd ⟨z.1, z.2.1, zz⟩ z2) (fun z2 => ⟨_, rfl, ⟨tc, pl, ?_, ?_, ?_, ?_, R, ?_⟩⟩)
    · exact BC_tr (BC_of h1) (fun x j q => FR_of h2 x j (Or.inl q))
    · exact BR_of h2
    · exact RX_fr (Int.le_refl _) (fun x j q => FC_of h1 x j (frC_le (by decide) q)) (fun x j q => FR_of h2 x j (frR_le (by decide) q)) hX
    · exact RB_fr (Nat.le_succ n) ((FR_of h2 1 12 (Or.inl (by decide))).trans (FC_of h1 1 12 (by unfold frC; omega))) ((FR_of h2 249 7 (by unfold frR; omega)).trans (FC_of h1 249 7 (Or.inl (by decide)))) (fun j => (FR_of h2 285 j (by unfold frR; omega)).trans (FC_of h1 285 j (Or.inl (by decide)))) (fun j => (FR_of h2 286 j (by unfold frR; omega)).trans (FC_of h1 286 j (Or.inl (by decide)))) hB
    · refine GS_again (a := a) (by omega) (by omega) hG (fun x j q => ?_) ⟨z.1, z.2.1⟩ z.2.2 ?_ ?_ ?_ ⟨?_, fun j j0 j1 => ?_⟩ (fun y y0 y1 => ?_)
      · unfold KCl at q; rw [r0 x j (by omega) (by omega)]; exact e0 x j (by omega) (by omega)
      · rw [r0 26 8 (by decide) (by decide)]; exact e0 26 8 (by decide) (by decide)
      · rw [r0 26 9 (by decide) (by decide), ← hm1, upm_v]
      · rw [upm_v]
      · refine SE_tr (SE_st (m := m1) (fun x j x0 x1 => ?_)) (CPY_SE f1)
        rw [r0 x j (by omega) (by omega), ← hm1, upm_app, if_neg (by omega)]
      · rw [r0 18 j (by decide) (by omega), ← hm1, upm_app, if_neg (by omega)]
        exact CPY_hold f1 j0 j1
      · have q := cpf_at (m := upm m9 249 0 0) (a := 287) (i := 52 * a) (b := 258) (j := 0) y0 y1
        rw [Int.zero_add] at q
        rw [upm_app, if_neg (by omega), q, upm_app, if_neg (by omega)]
        exact ch 287 _ (by decide)

theorem two_152 {n : Nat} {a : Int} {m : Mem} (h : JJ (n + 1) m) : Cl 230 152 [1, a] (fun v u => ∃ m1, u = S9 0 m1 ∧ Cl 230 276 [249, a] (fun w u' => ∃ m2, u' = S9 0 m2 ∧ JJ n m2) (S9 0 m1)) (S9 0 m) := by
  obtain ⟨tc, pl, hC, hR, hX, hB, R, hG⟩ := h
  have hs := JC_s (BC_g 0 hC)
  have hr := JR_s (BR_g 0 hR)
  obtain ⟨⟨kv1, kv2, kv3⟩, ⟨hI, hD, hS, hO, hN⟩, ⟨⟨u1, u2, u3, u4, u5⟩, -⟩, -, hRc, hRr⟩ := id hG
  obtain ⟨k3, k4, k5, k6, k7⟩ := hX.2.1
  refine f_152 (d := 227) (g := gC 2 m) (BC_g 2 hC) (fun z => ⟨m, rfl, ?_⟩) (fun z m1 h0 f1 h1 => ⟨_, rfl, ?_⟩)
  · refine p_276x (d := 228) (fun z2 => ⟨_, rfl, ⟨tc, pl, BC_hi hC (by decide), BR_0 hR, ⟨RT_fr (fun x j q => upm_a _ _ _ _ _ _ (by omega)) hX.1, RKM_fr (fun x j q => by rw [upm_app, if_neg (by omega)]) hX.2⟩, RB_fr (Nat.le_succ n) (upm_a _ _ _ _ _ _ (by decide)) (upm_k (by decide)) (fun j => upm_a _ _ _ _ _ _ (by decide)) (fun j => upm_a _ _ _ _ _ _ (by decide)) hB, R, GS_fr (by omega) (by omega) (fun x j q => by rw [upm_app, if_neg (by unfold GCl at q; omega)]) hG⟩⟩) (fun z2 => absurd z2 z)
  · have c1 := FC_of h1
    have ch : ∀ x j, 249 ≤ x → upm m1 1 12 (ior (m 1 12) (ishl 1 a)) x j = m x j := fun x j q => c1 x j (Or.inl q)
    have e0 : ∀ x j, (x < 219 + 10 * a ∨ 219 + 10 * a + 9 < x) → ¬ (x = 1 ∧ j = 12) → upm m1 1 12 (ior (m 1 12) (ishl 1 a)) x j = m x j := fun x j q q2 => by rw [upm_app, if_neg q2]; exact f1.1 x j q
    generalize hm1 : upm m1 1 12 (ior (m 1 12) (ishl 1 a)) = m9 at *
    have hRm : BR tc pl m9 := BR_tr hR (fun x j q _ => ch x j q)
    have hJR := BR_g 2 hRm
    have h2 : JR 2 (gR 2 m9) tc pl (cpf (upm (upm (upm m9 249 0 0) 285 a 1) 286 a (m9 249 7)) 258 0 287 (52 * a) 52) := JR_kp (JR_up (JR_up (JR_up hJR (by unfold frR; omega) (by simp [frc]) (by simp [BdR])) (by unfold frR; omega) (by simp [frc]) (by simp [BdR])) (by unfold frR; omega) (by simp [frc]) (by simp [BdR])) (fun x j q => by have q : frR 2 x j := q; unfold frR at q; omega)
    have r0 : ∀ x j, x ≠ 287 → x ≠ 285 → x ≠ 286 → ¬ (x = 249 ∧ j = 0) → cpf (upm (upm (upm m9 249 0 0) 285 a 1) 286 a (m9 249 7)) 258 0 287 (52 * a) 52 x j = m9 x j := fun x j q q1 q2 q3 => by rw [cpf_n q, upm_app, if_neg (by omega), upm_app, if_neg (by omega), upm_app, if_neg (by omega)]
    refine p_276x (d := 228) (fun z2 => absurd z z2) (fun z2 => ⟨_, rfl, ⟨tc, pl, ?_, ?_, ?_, ?_, R, ?_⟩⟩)
    · exact BC_tr (BC_of h1) (fun x j q => FR_of h2 x j (Or.inl q))
    · exact BR_of h2
    · exact RX_fr (Int.le_refl _) (fun x j q => FC_of h1 x j (frC_le (by decide) q)) (fun x j q => FR_of h2 x j (frR_le (by decide) q)) hX
    · refine RB_keep z ?_ ?_ (fun j => ?_) (fun j => ?_) hB
      · rw [r0 1 12 (by decide) (by decide) (by decide) (by decide), ← hm1, upm_v]
      · rw [r0 249 7 (by decide) (by decide) (by decide) (by decide)]; exact ch 249 7 (by decide)
      · rw [cpf_n (by decide), upm_f _ _ _ _ _ (by decide), upm_app, upm_f _ _ _ _ _ (by decide), ch 285 j (by decide)]; simp
      · rw [cpf_n (by decide), upm_app, upm_f _ _ _ _ _ (by decide), upm_f _ _ _ _ _ (by decide), ch 286 j (by decide), ch 249 7 (by decide)]; simp
    · refine GS_keep (a := a) (by omega) (by omega) hG (fun x j q q1 q2 q3 => ?_) z (fun i i0 i1 q => ?_) ⟨?_, fun j j0 j1 => ?_⟩ (fun i i0 i1 q x j x0 x1 => ?_) (fun y y0 y1 => ?_) (fun y q => ?_)
      · unfold GCl at q; rw [r0 x j (by omega) (by omega) (by omega) (by omega)]; exact e0 x j (by omega) (by omega)
      · rw [r0 1 12 (by decide) (by decide) (by decide) (by decide), ← hm1, upm_v, bit_or ⟨z.1, by omega⟩ ⟨i0, by omega⟩] at q
        by_cases y : i = a
        · exact Or.inl y
        · rw [if_neg y] at q; exact Or.inr q
      · refine SE_tr (SE_st (m := m1) (fun x j x0 x1 => ?_)) (CPY_SE f1)
        rw [r0 x j (by omega) (by omega) (by omega) (by omega), ← hm1, upm_app, if_neg (by omega)]
      · rw [r0 _ j (by omega) (by omega) (by omega) (by omega), ← hm1, upm_app, if_neg (by omega)]
        exact CPY_hold f1 j0 j1
      · rw [r0 x j (by omega) (by omega) (by omega) (by omega)]; exact e0 x j (by omega) (by omega)
      · have q := cpf_at (m := upm (upm (upm m9 249 0 0) 285 a 1) 286 a (m9 249 7)) (a := 258) (i := 0) (b := 287) (j := 52 * a) y0 y1
        rw [Int.zero_add] at q
        rw [q, upm_app, if_neg (by omega), upm_app, if_neg (by omega), upm_app, if_neg (by omega)]
        exact ch 258 _ (by decide)
      · rw [cpf_hi (by omega), upm_app, if_neg (by omega), upm_app, if_neg (by omega), upm_app, if_neg (by omega)]
        exact ch 287 _ (by decide)

/-- what THE RULE's text leaves alone on both sides -/
theorem e41 {m m1 m2 : Mem} (c : ∀ x j, frC 3 x j → m1 x j = m x j) (p1 : ∀ x j, Kp4 x j → m1 x j = m x j) (r : ∀ x j, frR 3 x j → m2 x j = m1 x j) (p2 : ∀ x j, Kp4R x j → m2 x j = m1 x j) {x j : Int} (h : GCl x j) (hn : ¬ (x = 5 ∨ (x = 4 ∧ j = 1) ∨ x = 265 ∨ (x = 249 ∧ j = 32))) : m2 x j = m x j := by
  unfold GCl at h
  have lo : x < 249 → m2 x j = m1 x j := fun q => r x j (Or.inl q)
  have hi : 249 ≤ x → m1 x j = m x j := fun q => c x j (Or.inl q)
  rcases h with h | h | h | h | h | h | h | h | h | h | h | h | h
  · exact (lo (by omega)).trans (c x j (Or.inr (Or.inr (Or.inl ⟨by decide, h⟩))))
  · exact (lo (by omega)).trans (p1 x j (Or.inl h))
  · exact (lo (by omega)).trans (p1 x j (Or.inr (Or.inl ⟨h.1, by omega⟩)))
  · exact (lo (by omega)).trans (p1 x j (Or.inr (Or.inr (Or.inl h))))
  · exact (lo (by omega)).trans (p1 x j (Or.inr (Or.inr (Or.inr ⟨by omega, by omega, by omega⟩))))
  · exact (lo (by omega)).trans (c x j (Or.inr (Or.inr (Or.inr (Or.inl ⟨by decide, h⟩)))))
  · exact absurd (Or.inl h) hn
  · exact absurd (Or.inr (Or.inl h)) hn
  · obtain ⟨h1, h2 | h2⟩ := h
    · exact absurd (Or.inr (Or.inr (Or.inr ⟨h1, h2⟩))) hn
    · exact (p2 x j (Or.inr (Or.inr (Or.inr ⟨h1, h2⟩)))).trans (hi (by omega))
  · by_cases z : x = 258
    · exact (p2 x j (Or.inl z)).trans (hi (by omega))
    · exact (r x j (Or.inr (Or.inr (Or.inr (Or.inl ⟨by decide, Or.inl ⟨by omega, by omega⟩⟩))))).trans (hi (by omega))
  · exact absurd (Or.inr (Or.inr (Or.inl h))) hn
  · exact (p2 x j (Or.inr (Or.inl h))).trans (hi (by omega))
  · exact (p2 x j (Or.inr (Or.inr (Or.inl h)))).trans (hi (by omega))
theorem Co_pos {st : ENV → Int → List Int → List Int} {A : Int → Int} {j : Int} {f : DEN} (h : Co st A 0 j f) : 0 < j := by
  by_cases z : 0 < j
  · exact z
  · have q := h.2 (fun _ => 0) (fun _ => inI_0) []
    rw [rn_z (by omega)] at q
    exact absurd q (by simp)
set_option maxHeartbeats 8000000 in
theorem two_41 {n : Nat} {m : Mem} (h : JJ (n + 1) m) : Cl 230 41 [1] (fun v u => ∃ m1, u = S9 0 m1 ∧ Cl 230 189 [249] (fun w u' => ∃ m2, u' = S9 0 m2 ∧ JJ n m2) (S9 0 m1)) (S9 0 m) := by
  obtain ⟨tc, pl, hC, hR, hX, hB, R, hG⟩ := h
  have hs := JC_s (BC_g 0 hC)
  have hr := JR_s (BR_g 0 hR)
  obtain ⟨⟨kv1, kv2, kv3⟩, ⟨hI, hD, hS, hO, hN⟩, ⟨⟨u1, u2, u3, u4, u5⟩, -⟩, -, hRc, hRr⟩ := id hG
  obtain ⟨k3, k4, k5, k6, k7⟩ := hX.2.1
  refine f_41 (d := 200) (g := gC 3 m) hX.1.2.1 (BC_g 3 hC) (fun v m1 h1 p1 => ⟨m1, rfl, ?_⟩)
  have e60 : m1 260 = m 260 := by funext j; exact FC_of h1 260 j (Or.inl (by decide))
  refine f_189 (d := 15) (g := gR 3 m1) (by rw [e60]; exact hX.1.2.2) (BR_g 3 (BR_tr hR (fun x j q _ => FC_of h1 x j (Or.inl q)))) (fun w m2 h2 p2 => ⟨m2, rfl, ⟨0, pl, ?_, ?_, ?_, ?_, ?_⟩⟩)
  · exact BC_tr (BC_of h1) (fun x j q => FR_of h2 x j (Or.inl q))
  · exact BR_of h2
  · exact RX_fr hC.1.1 (fun x j q => FC_of h1 x j (frC_le (by decide) q)) (fun x j q => FR_of h2 x j (frR_le (by decide) q)) hX
  · exact RB_fr (Nat.le_succ n) ((FR_of h2 1 12 (Or.inl (by decide))).trans (FC_of h1 1 12 (by unfold frC; omega))) ((FR_of h2 249 7 (by unfold frR; omega)).trans (FC_of h1 249 7 (Or.inl (by decide)))) (fun j => (FR_of h2 285 j (by unfold frR; omega)).trans (FC_of h1 285 j (Or.inl (by decide)))) (fun j => (FR_of h2 286 j (by unfold frR; omega)).trans (FC_of h1 286 j (Or.inl (by decide)))) hB
  · obtain ⟨p1v, p1c, p1f⟩ := p1
    obtain ⟨p2v, p2c, p2f⟩ := p2
    have hv : v = w := by rw [p1v, p2v, e60]; exact (RV_e hX.1.1).symm
    subst hv
    have ch : ∀ x j, 249 ≤ x → m1 x j = m x j := fun x j q => FC_of h1 x j (Or.inl q)
    have lo : ∀ x j, x < 249 → m2 x j = m1 x j := fun x j q => FR_of h2 x j (Or.inl q)
    have eG : ∀ x j, GCl x j → ¬ (x = 5 ∨ (x = 4 ∧ j = 1) ∨ x = 265 ∨ (x = 249 ∧ j = 32)) → m2 x j = m x j := fun x j q q2 => e41 (FC_of h1) p1f (FR_of h2) p2f q q2
    have hnew : ∀ R', RuC m2 R' → RuR m2 R' → GS R' m2 := fun R' hc hr => by
      have hGm : GS R (fun x j => if x = 5 ∨ (x = 4 ∧ j = 1) ∨ x = 265 ∨ (x = 249 ∧ j = 32) then m x j else m2 x j) := GS_fr (by omega) (by omega) (fun x j q => by
        by_cases z : x = 5 ∨ (x = 4 ∧ j = 1) ∨ x = 265 ∨ (x = 249 ∧ j = 32)
        · exact if_pos z
        · show (if _ then _ else _) = _
          rw [if_neg z]; exact eG x j q z) hG
      obtain ⟨g1, ⟨g21, g22, g23, g24, g25⟩, ⟨g3, g4⟩, g5, -, -⟩ := hGm
      have c : ∀ x j, ¬ (x = 5 ∨ (x = 4 ∧ j = 1) ∨ x = 265 ∨ (x = 249 ∧ j = 32)) → (fun x j => if x = 5 ∨ (x = 4 ∧ j = 1) ∨ x = 265 ∨ (x = 249 ∧ j = 32) then m x j else m2 x j) x j = m2 x j := fun x j z => if_neg z
      have e8 : ∀ j, m2 8 j = m 8 j := fun j => eG 8 j (by unfold GCl; omega) (by omega)
      have tr : ∀ s i b, (s = 15 ∨ 31 ≤ s) → s ≤ 239 → (i = 258 ∨ i = 269 ∨ i = 287) → OKS (m2 8 0) (m2 8 1) (m2 8 2) (m2 8 3) (fun x j => if x = 5 ∨ (x = 4 ∧ j = 1) ∨ x = 265 ∨ (x = 249 ∧ j = 32) then m x j else m2 x j) s i b → OKS (m2 8 0) (m2 8 1) (m2 8 2) (m2 8 3) m2 s i b := fun s i b q q2 q3 ho =>
        OKS_tr (by rw [e8]; omega) (by rw [e8]; omega) ho (SE_st (fun x j x0 x1 => (c x j (by omega)).symm)) (fun j _ _ => (c _ j (by omega)).symm) (SE_rw (fun y _ _ => (c i _ (by omega)).symm))
      exact ⟨g1, tr 15 258 0 (Or.inl rfl) (by decide) (Or.inl rfl) ⟨g21, g22, g23, g24, g25⟩, ⟨g3, fun i i0 i1 => tr _ _ _ (by omega) (by omega) (by omega) (g4 i i0 i1)⟩, fun i i0 i1 hb => tr _ _ _ (by omega) (by omega) (by omega) (g5 i i0 i1 hb), hc, hr⟩
    have l5 : m2 5 = m1 5 := by funext j; exact lo 5 j (by decide)
    have l41 : m2 4 1 = m1 4 1 := lo 4 1 (by decide)
    rcases p1c with ⟨b1, b2, b3⟩ | ⟨b1, b2, b3⟩ | ⟨b1, b2, b3⟩
    · rcases p2c with ⟨d1, d2, d3⟩ | ⟨d1, -⟩ | ⟨d1, -⟩
      · exact ⟨R, hnew R (RuC_fr hRc (l41.trans b3) (fun j => by rw [l5, b2])) (RuR_fr hRr (d3.trans (ch 249 32 (by decide))) (fun j => by rw [d2]; exact ch 265 j (by decide)))⟩
      · exact absurd d1 b1
      · exact absurd d1 b1
    · rcases p2c with ⟨d1, -⟩ | ⟨d1, d2, d3⟩ | ⟨d1, d2, d3⟩
      · exact absurd b1 d1
      · exact ⟨rl0, hnew rl0 (Or.inl ⟨l41.trans b3, rfl⟩) (Or.inl ⟨d3, rfl⟩)⟩
      · omega
    · rcases p2c with ⟨d1, -⟩ | ⟨d1, d2, d3⟩ | ⟨d1, d2, d3⟩
      · exact absurd b1 d1
      · omega
      · have hX9 : EXp (m1 260) (min tc 40) 4 0 = EXp (m 3) (min tc 40) 4 0 := by rw [e60]; exact EX_e (fun j j0 j1 => hX.1.1 j j0 (by omega)) 4 0 (by decide)
        rw [hX9] at d3
        exact ⟨rlD (EXp (m 3) (min tc 40) 4 0).2.2, hnew _ (Or.inr ⟨by rw [l41]; exact Co_pos b3, _, by rw [l5, l41]; exact b3, rfl⟩) (Or.inr ⟨Co_pos d3, _, d3, rfl⟩)⟩
end
section
/-! THE KITCHEN's text on both sides keeps the relation (pure) -/
theorem VI_k100 {a b c d j : Int} (h0 : 0 ≤ j) (h1 : j < b) : VI a b c d (100 + j) := Or.inr (Or.inl ⟨by omega, by omega⟩)
theorem VI_k120 {a b c d j : Int} (h0 : 0 ≤ j) (h1 : j < b) : VI a b c d (120 + j) := Or.inr (Or.inr (Or.inl ⟨by omega, by omega⟩))
theorem VI_k140 {a b c d j : Int} (h0 : 0 ≤ j) (h1 : j < b) : VI a b c d (140 + j) := Or.inr (Or.inr (Or.inr (Or.inl ⟨by omega, by omega⟩)))
theorem VI_k160 {a b c d j : Int} (h0 : 0 ≤ j) (h1 : j < b) : VI a b c d (160 + j) := Or.inr (Or.inr (Or.inr (Or.inr (Or.inl ⟨by omega, by omega⟩))))
theorem VI_k200 {a b c d j : Int} (h0 : 0 ≤ j) (h1 : j < c) : VI a b c d (200 + j) := Or.inr (Or.inr (Or.inr (Or.inr (Or.inr (Or.inl ⟨by omega, by omega⟩)))))
theorem VI_k210 {a b c d j : Int} (h0 : 0 ≤ j) (h1 : j < c) : VI a b c d (210 + j) := Or.inr (Or.inr (Or.inr (Or.inr (Or.inr (Or.inr (Or.inl ⟨by omega, by omega⟩))))))
theorem VI_k220 {a b c d j : Int} (h0 : 0 ≤ j) (h1 : j < c) : VI a b c d (220 + j) := Or.inr (Or.inr (Or.inr (Or.inr (Or.inr (Or.inr (Or.inr (Or.inl ⟨by omega, by omega⟩)))))))
theorem VI_k230 {a b c d j : Int} (h0 : 0 ≤ j) (h1 : j < c) : VI a b c d (230 + j) := Or.inr (Or.inr (Or.inr (Or.inr (Or.inr (Or.inr (Or.inr (Or.inr (Or.inl ⟨by omega, by omega⟩))))))))
theorem VI_k300 {a b c d j : Int} (h0 : 0 ≤ j) (h1 : j < d) : VI a b c d (300 + j) := Or.inr (Or.inr (Or.inr (Or.inr (Or.inr (Or.inr (Or.inr (Or.inr (Or.inr (Or.inl ⟨by omega, by omega⟩)))))))))
theorem VI_k310 {a b c d j : Int} (h0 : 0 ≤ j) (h1 : j < d) : VI a b c d (310 + j) := Or.inr (Or.inr (Or.inr (Or.inr (Or.inr (Or.inr (Or.inr (Or.inr (Or.inr (Or.inr (Or.inl ⟨by omega, by omega⟩))))))))))
theorem VI_k320 {a b c d j : Int} (h0 : 0 ≤ j) (h1 : j < d) : VI a b c d (320 + j) := Or.inr (Or.inr (Or.inr (Or.inr (Or.inr (Or.inr (Or.inr (Or.inr (Or.inr (Or.inr (Or.inr (Or.inl ⟨by omega, by omega⟩)))))))))))
theorem VI_k330 {a b c d j : Int} (h0 : 0 ≤ j) (h1 : j < d) : VI a b c d (330 + j) := Or.inr (Or.inr (Or.inr (Or.inr (Or.inr (Or.inr (Or.inr (Or.inr (Or.inr (Or.inr (Or.inr (Or.inr (Or.inl ⟨by omega, by omega⟩))))))))))))
theorem VI_k340 {a b c d j : Int} (h0 : 0 ≤ j) (h1 : j < d) : VI a b c d (340 + j) := Or.inr (Or.inr (Or.inr (Or.inr (Or.inr (Or.inr (Or.inr (Or.inr (Or.inr (Or.inr (Or.inr (Or.inr (Or.inr (Or.inl ⟨by omega, by omega⟩)))))))))))))
theorem VI_k350 {a b c d j : Int} (h0 : 0 ≤ j) (h1 : j < d) : VI a b c d (350 + j) := Or.inr (Or.inr (Or.inr (Or.inr (Or.inr (Or.inr (Or.inr (Or.inr (Or.inr (Or.inr (Or.inr (Or.inr (Or.inr (Or.inr (Or.inl ⟨by omega, by omega⟩))))))))))))))
theorem VI_k360 {a b c d j : Int} (h0 : 0 ≤ j) (h1 : j < d) : VI a b c d (360 + j) := Or.inr (Or.inr (Or.inr (Or.inr (Or.inr (Or.inr (Or.inr (Or.inr (Or.inr (Or.inr (Or.inr (Or.inr (Or.inr (Or.inr (Or.inr (Or.inl ⟨by omega, by omega⟩)))))))))))))))
theorem VI_k370 {a b c d j : Int} (h0 : 0 ≤ j) (h1 : j < d) : VI a b c d (370 + j) := Or.inr (Or.inr (Or.inr (Or.inr (Or.inr (Or.inr (Or.inr (Or.inr (Or.inr (Or.inr (Or.inr (Or.inr (Or.inr (Or.inr (Or.inr (Or.inr (⟨by omega, by omega⟩))))))))))))))))
theorem kC_100 {m : Mem} {j : Int} (hj : 0 ≤ j ∧ j < 20) : kvC m (100 + j) = m 10 j := by
  unfold kvC
  (repeat rw [if_neg (by omega)])
  rw [if_pos (by omega)]
  congr 1; omega
theorem kC_120 {m : Mem} {j : Int} (hj : 0 ≤ j ∧ j < 20) : kvC m (120 + j) = m 11 j := by
  unfold kvC
  (repeat rw [if_neg (by omega)])
  rw [if_pos (by omega)]
  congr 1; omega
theorem kC_140 {m : Mem} {j : Int} (hj : 0 ≤ j ∧ j < 20) : kvC m (140 + j) = m 12 j := by
  unfold kvC
  (repeat rw [if_neg (by omega)])
  rw [if_pos (by omega)]
  congr 1; omega
theorem kC_160 {m : Mem} {j : Int} (hj : 0 ≤ j ∧ j < 14) : kvC m (160 + j) = iand (ishr (m 8 8) j) 1 := by
  unfold kvC
  (repeat rw [if_neg (by omega)])
  rw [if_pos (by omega)]
  rw [if_pos (by omega), show 160 + j - 160 = j by omega]
theorem kC_200 {m : Mem} {j : Int} (hj : 0 ≤ j ∧ j < 5) : kvC m (200 + j) = m 16 j := by
  unfold kvC
  (repeat rw [if_neg (by omega)])
  rw [if_pos (by omega)]
  congr 1; omega
theorem kC_210 {m : Mem} {j : Int} (hj : 0 ≤ j ∧ j < 5) : kvC m (210 + j) = m 17 j := by
  unfold kvC
  (repeat rw [if_neg (by omega)])
  rw [if_pos (by omega)]
  congr 1; omega
theorem kC_220 {m : Mem} {j : Int} (hj : 0 ≤ j ∧ j < 5) : kvC m (220 + j) = iand (ishr (m 15 3) j) 1 := by
  unfold kvC
  (repeat rw [if_neg (by omega)])
  rw [if_pos (by omega)]
  rw [if_pos (by omega), show 220 + j - 220 = j by omega]
theorem kC_230 {m : Mem} {j : Int} (hj : 0 ≤ j ∧ j < 5) : kvC m (230 + j) = m 13 j := by
  unfold kvC
  (repeat rw [if_neg (by omega)])
  rw [if_pos (by omega)]
  congr 1; omega
theorem kC_300 {m : Mem} {j : Int} (hj : 0 ≤ j ∧ j < 5) : kvC m (300 + j) = m 14 j := by
  unfold kvC
  (repeat rw [if_neg (by omega)])
  rw [if_pos (by omega)]
  congr 1; omega
theorem kC_310 {m : Mem} {j : Int} (hj : 0 ≤ j ∧ j < 5) : kvC m (310 + j) = m 19 j := by
  unfold kvC
  (repeat rw [if_neg (by omega)])
  rw [if_pos (by omega)]
  congr 1; omega
theorem kC_320 {m : Mem} {j : Int} (hj : 0 ≤ j ∧ j < 5) : kvC m (320 + j) = m 20 (2 * j) := by
  unfold kvC
  (repeat rw [if_neg (by omega)])
  rw [if_pos (by omega)]
  congr 1; omega
theorem kC_330 {m : Mem} {j : Int} (hj : 0 ≤ j ∧ j < 5) : kvC m (330 + j) = m 20 (2 * j + 1) := by
  unfold kvC
  (repeat rw [if_neg (by omega)])
  rw [if_pos (by omega)]
  congr 1; omega
theorem kC_340 {m : Mem} {j : Int} (hj : 0 ≤ j ∧ j < 5) : kvC m (340 + j) = m 21 j := by
  unfold kvC
  (repeat rw [if_neg (by omega)])
  rw [if_pos (by omega)]
  congr 1; omega
theorem kC_350 {m : Mem} {j : Int} (hj : 0 ≤ j ∧ j < 5) : kvC m (350 + j) = m 22 j := by
  unfold kvC
  (repeat rw [if_neg (by omega)])
  rw [if_pos (by omega)]
  congr 1; omega
theorem kC_360 {m : Mem} {j : Int} (hj : 0 ≤ j ∧ j < 5) : kvC m (360 + j) = m 23 j := by
  unfold kvC
  (repeat rw [if_neg (by omega)])
  rw [if_pos (by omega)]
  congr 1; omega
theorem kC_370 {m : Mem} {j : Int} (hj : 0 ≤ j ∧ j < 5) : kvC m (370 + j) = m 24 j := by
  unfold kvC
  (repeat rw [if_neg (by omega)])
  congr 1; omega
theorem kM_100 {m : Mem} {j : Int} (hj : 0 ≤ j ∧ j < 20) : kvM m (100 + j) = m 252 j := by
  unfold kvM
  (repeat rw [if_neg (by omega)])
  rw [if_pos (by omega)]
  congr 1; omega
theorem kM_120 {m : Mem} {j : Int} (hj : 0 ≤ j ∧ j < 20) : kvM m (120 + j) = m 253 j := by
  unfold kvM
  (repeat rw [if_neg (by omega)])
  rw [if_pos (by omega)]
  congr 1; omega
theorem kM_140 {m : Mem} {j : Int} (hj : 0 ≤ j ∧ j < 20) : kvM m (140 + j) = m 254 j := by
  unfold kvM
  (repeat rw [if_neg (by omega)])
  rw [if_pos (by omega)]
  congr 1; omega
theorem kM_160 {m : Mem} {j : Int} (hj : 0 ≤ j ∧ j < 20) : kvM m (160 + j) = m 255 j := by
  unfold kvM
  (repeat rw [if_neg (by omega)])
  rw [if_pos (by omega)]
  congr 1; omega
theorem kM_200 {m : Mem} {j : Int} (hj : 0 ≤ j ∧ j < 5) : kvM m (200 + j) = m 258 (3 * j) := by
  unfold kvM
  (repeat rw [if_neg (by omega)])
  rw [if_pos (by omega)]
  congr 1; omega
theorem kM_210 {m : Mem} {j : Int} (hj : 0 ≤ j ∧ j < 5) : kvM m (210 + j) = m 258 (3 * j + 1) := by
  unfold kvM
  (repeat rw [if_neg (by omega)])
  rw [if_pos (by omega)]
  congr 1; omega
theorem kM_220 {m : Mem} {j : Int} (hj : 0 ≤ j ∧ j < 5) : kvM m (220 + j) = m 258 (3 * j + 2) := by
  unfold kvM
  (repeat rw [if_neg (by omega)])
  rw [if_pos (by omega)]
  congr 1; omega
theorem kM_230 {m : Mem} {j : Int} (hj : 0 ≤ j ∧ j < 5) : kvM m (230 + j) = m 256 j := by
  unfold kvM
  (repeat rw [if_neg (by omega)])
  rw [if_pos (by omega)]
  congr 1; omega
theorem kM_300 {m : Mem} {j : Int} (hj : 0 ≤ j ∧ j < 5) : kvM m (300 + j) = m 257 j := by
  unfold kvM
  (repeat rw [if_neg (by omega)])
  rw [if_pos (by omega)]
  congr 1; omega
theorem kM_310 {m : Mem} {j : Int} (hj : 0 ≤ j ∧ j < 5) : kvM m (310 + j) = m 258 (15 + 7 * j) := by
  unfold kvM
  (repeat rw [if_neg (by omega)])
  rw [if_pos (by omega)]
  congr 1; omega
theorem kM_320 {m : Mem} {j : Int} (hj : 0 ≤ j ∧ j < 5) : kvM m (320 + j) = m 258 (16 + 7 * j) := by
  unfold kvM
  (repeat rw [if_neg (by omega)])
  rw [if_pos (by omega)]
  congr 1; omega
theorem kM_330 {m : Mem} {j : Int} (hj : 0 ≤ j ∧ j < 5) : kvM m (330 + j) = m 258 (17 + 7 * j) := by
  unfold kvM
  (repeat rw [if_neg (by omega)])
  rw [if_pos (by omega)]
  congr 1; omega
theorem kM_340 {m : Mem} {j : Int} (hj : 0 ≤ j ∧ j < 5) : kvM m (340 + j) = m 258 (18 + 7 * j) := by
  unfold kvM
  (repeat rw [if_neg (by omega)])
  rw [if_pos (by omega)]
  congr 1; omega
theorem kM_350 {m : Mem} {j : Int} (hj : 0 ≤ j ∧ j < 5) : kvM m (350 + j) = m 258 (19 + 7 * j) := by
  unfold kvM
  (repeat rw [if_neg (by omega)])
  rw [if_pos (by omega)]
  congr 1; omega
theorem kM_360 {m : Mem} {j : Int} (hj : 0 ≤ j ∧ j < 5) : kvM m (360 + j) = m 258 (20 + 7 * j) := by
  unfold kvM
  (repeat rw [if_neg (by omega)])
  rw [if_pos (by omega)]
  congr 1; omega
theorem kM_370 {m : Mem} {j : Int} (hj : 0 ≤ j ∧ j < 5) : kvM m (370 + j) = m 258 (21 + 7 * j) := by
  unfold kvM
  (repeat rw [if_neg (by omega)])
  congr 1; omega
theorem SE_C {m : Mem} {P H : Int} (hP : P ≤ 5) (hH : H ≤ 5) : SE P H (asC m 15) (asK (kvC m) (m 15 10) (m 15 11)) := by
  refine ⟨fun f j f0 f1 j0 j1 => ?_, fun f j f0 f1 j0 j1 => ?_, by rw [c_op, ak_o], by rw [c_no, ak_n]⟩
  · rcases f02 f0 f1 with rfl | rfl | rfl
    · rw [ak_0, kC_200 ⟨j0, by omega⟩, c_0 m ⟨j0, by omega⟩]
    · rw [ak_1, kC_210 ⟨j0, by omega⟩, c_1 m ⟨j0, by omega⟩]
    · rw [ak_2, kC_220 ⟨j0, by omega⟩, c_2 m ⟨j0, by omega⟩]
  · rcases f39 f0 f1 with rfl | rfl | rfl | rfl | rfl | rfl | rfl
    · rw [ak_3, kC_310 ⟨j0, by omega⟩, c_3 m ⟨j0, by omega⟩]
    · rw [ak_4, kC_320 ⟨j0, by omega⟩, c_4 m ⟨j0, by omega⟩]
    · rw [ak_5, kC_330 ⟨j0, by omega⟩, c_5 m ⟨j0, by omega⟩]
    · rw [ak_6, kC_340 ⟨j0, by omega⟩, c_6 m ⟨j0, by omega⟩]
    · rw [ak_7, kC_350 ⟨j0, by omega⟩, c_7 m ⟨j0, by omega⟩]
    · rw [ak_8, kC_360 ⟨j0, by omega⟩, c_8 m ⟨j0, by omega⟩]
    · rw [ak_9, kC_370 ⟨j0, by omega⟩, c_9 m ⟨j0, by omega⟩]
theorem SE_M {m : Mem} {P H : Int} (hP : P ≤ 5) (hH : H ≤ 5) : SE P H (asR m 258 0) (asK (kvM m) (m 258 50) (m 258 51)) := by
  refine ⟨fun f j f0 f1 j0 j1 => ?_, fun f j f0 f1 j0 j1 => ?_, by rw [r_op, ak_o], by rw [r_no, ak_n]⟩
  · rcases f02 f0 f1 with rfl | rfl | rfl
    · rw [ak_0, kM_200 ⟨j0, by omega⟩, r_0 m ⟨j0, by omega⟩]
    · rw [ak_1, kM_210 ⟨j0, by omega⟩, r_1 m ⟨j0, by omega⟩]
    · rw [ak_2, kM_220 ⟨j0, by omega⟩, r_2 m ⟨j0, by omega⟩]
  · rcases f39 f0 f1 with rfl | rfl | rfl | rfl | rfl | rfl | rfl
    · rw [ak_3, kM_310 ⟨j0, by omega⟩, r_3 m ⟨j0, by omega⟩]
    · rw [ak_4, kM_320 ⟨j0, by omega⟩, r_4 m ⟨j0, by omega⟩]
    · rw [ak_5, kM_330 ⟨j0, by omega⟩, r_5 m ⟨j0, by omega⟩]
    · rw [ak_6, kM_340 ⟨j0, by omega⟩, r_6 m ⟨j0, by omega⟩]
    · rw [ak_7, kM_350 ⟨j0, by omega⟩, r_7 m ⟨j0, by omega⟩]
    · rw [ak_8, kM_360 ⟨j0, by omega⟩, r_8 m ⟨j0, by omega⟩]
    · rw [ak_9, kM_370 ⟨j0, by omega⟩, r_9 m ⟨j0, by omega⟩]
/-- values alike: states alike -/
theorem SE_K {a b P H : Int} {f f' : Int → Int} {o nw : Int} (h : KVL a b P H f' f) : SE P H (asK f o nw) (asK f' o nw) := by
  refine ⟨fun g j f0 f1 j0 j1 => ?_, fun g j f0 f1 j0 j1 => ?_, by rw [ak_o, ak_o], by rw [ak_n, ak_n]⟩
  · rcases f02 f0 f1 with rfl | rfl | rfl
    · rw [ak_0, ak_0]; exact (h _ (VI_k200 j0 j1)).symm
    · rw [ak_1, ak_1]; exact (h _ (VI_k210 j0 j1)).symm
    · rw [ak_2, ak_2]; exact (h _ (VI_k220 j0 j1)).symm
  · rcases f39 f0 f1 with rfl | rfl | rfl | rfl | rfl | rfl | rfl
    · rw [ak_3, ak_3]; exact (h _ (VI_k310 j0 j1)).symm
    · rw [ak_4, ak_4]; exact (h _ (VI_k320 j0 j1)).symm
    · rw [ak_5, ak_5]; exact (h _ (VI_k330 j0 j1)).symm
    · rw [ak_6, ak_6]; exact (h _ (VI_k340 j0 j1)).symm
    · rw [ak_7, ak_7]; exact (h _ (VI_k350 j0 j1)).symm
    · rw [ak_8, ak_8]; exact (h _ (VI_k360 j0 j1)).symm
    · rw [ak_9, ak_9]; exact (h _ (VI_k370 j0 j1)).symm
theorem KE_sy {s s' : KS} (h : KE s s') : KE s' s := ⟨h.1.symm, h.2.1.symm, h.2.2.1.symm, h.2.2.2.1.symm, fun j hj => (h.2.2.2.2 j (by rw [← h.1, ← h.2.1, ← h.2.2.1, ← h.2.2.2.1]; exact hj)).symm⟩
theorem KIV_E {H0 : Int} {s s' : KS} {o nw : Int} (h : KIV H0 s o nw) (e : KE s s') : KIV H0 s' o nw := by
  obtain ⟨⟨b1, b2, b3, b4⟩, i, w, q, p, l, bn⟩ := h
  obtain ⟨e1, e2, e3, e4, e5⟩ := e
  unfold KIV
  rw [e1, e2, e3, e4]
  refine ⟨⟨b1, b2, b3, b4⟩, IV_SE i (SE_K e5), fun j j0 j1 => ?_, fun j j0 j1 => ?_, fun j j0 j1 => ?_, fun j jh j0 j1 => ?_, BN_SE bn (SE_K e5)⟩
  · rw [e5 _ (VI_k100 j0 j1), e5 _ (VI_k120 j0 j1)]; exact w j j0 j1
  · rw [e5 _ (VI_k230 j0 j1)]; exact q j j0 j1
  · rw [e5 _ (VI_k300 j0 j1)]; exact p j j0 j1
  · rw [e5 _ (VI_k360 j0 j1)]; exact l j jh j0 j1
/-- the values of both sides, before -/
theorem KE_GS {m : Mem} (hb : (0 ≤ m 8 0 ∧ m 8 0 ≤ 10) ∧ (0 ≤ m 8 1 ∧ m 8 1 ≤ 14) ∧ (0 ≤ m 8 2 ∧ m 8 2 ≤ 5) ∧ (0 ≤ m 8 3 ∧ m 8 3 ≤ 5)) (hK : RK m) (hV : KVs m) (hS : SE (m 8 2) (m 8 3) (asC m 15) (asR m 258 0)) : KE (sC m) (sK m) := by
  obtain ⟨k3, k4, k5, k6, k7⟩ := hK
  obtain ⟨v1, v2, v3⟩ := hV
  refine ⟨k3, k4, k5, k6, fun j hj => ?_⟩
  have hj : VI (m 8 0) (m 8 1) (m 8 2) (m 8 3) j := hj
  show kvR m j = kvC m j
  rw [kvR_M (by omega) (by rw [k3, k4, k5, k6]; exact hj)]
  unfold VI at hj
  rcases hj with h | h | h | h | h | h | h | h | h | h | h | h | h | h | h | h | h
  · unfold kvM kvC
    rw [if_pos (by omega), if_pos (by omega), Int.sub_zero]; exact k7 j h.1 h.2
  · obtain ⟨i, rfl⟩ : ∃ i, j = 100 + i := ⟨j - 100, by omega⟩
    rw [kM_100 ⟨by omega, by omega⟩, kC_100 ⟨by omega, by omega⟩]
    exact (v1 i (by omega) (by omega)).1
  · obtain ⟨i, rfl⟩ : ∃ i, j = 120 + i := ⟨j - 120, by omega⟩
    rw [kM_120 ⟨by omega, by omega⟩, kC_120 ⟨by omega, by omega⟩]
    exact (v1 i (by omega) (by omega)).2.1
  · obtain ⟨i, rfl⟩ : ∃ i, j = 140 + i := ⟨j - 140, by omega⟩
    rw [kM_140 ⟨by omega, by omega⟩, kC_140 ⟨by omega, by omega⟩]
    exact (v1 i (by omega) (by omega)).2.2.1
  · obtain ⟨i, rfl⟩ : ∃ i, j = 160 + i := ⟨j - 160, by omega⟩
    rw [kM_160 ⟨by omega, by omega⟩, kC_160 ⟨by omega, by omega⟩]
    exact (v1 i (by omega) (by omega)).2.2.2.1
  · obtain ⟨i, rfl⟩ : ∃ i, j = 200 + i := ⟨j - 200, by omega⟩
    rw [kM_200 ⟨by omega, by omega⟩, kC_200 ⟨by omega, by omega⟩]
    have z := hS.1 0 i (by decide) (by decide) (by omega) (by omega)
    rw [c_0 m ⟨by omega, by omega⟩, r_0 m ⟨by omega, by omega⟩] at z; exact z.symm
  · obtain ⟨i, rfl⟩ : ∃ i, j = 210 + i := ⟨j - 210, by omega⟩
    rw [kM_210 ⟨by omega, by omega⟩, kC_210 ⟨by omega, by omega⟩]
    have z := hS.1 1 i (by decide) (by decide) (by omega) (by omega)
    rw [c_1 m ⟨by omega, by omega⟩, r_1 m ⟨by omega, by omega⟩] at z; exact z.symm
  · obtain ⟨i, rfl⟩ : ∃ i, j = 220 + i := ⟨j - 220, by omega⟩
    rw [kM_220 ⟨by omega, by omega⟩, kC_220 ⟨by omega, by omega⟩]
    have z := hS.1 2 i (by decide) (by decide) (by omega) (by omega)
    rw [c_2 m ⟨by omega, by omega⟩, r_2 m ⟨by omega, by omega⟩] at z; exact z.symm
  · obtain ⟨i, rfl⟩ : ∃ i, j = 230 + i := ⟨j - 230, by omega⟩
    rw [kM_230 ⟨by omega, by omega⟩, kC_230 ⟨by omega, by omega⟩]
    exact (v2 i (by omega) (by omega)).1
  · obtain ⟨i, rfl⟩ : ∃ i, j = 300 + i := ⟨j - 300, by omega⟩
    rw [kM_300 ⟨by omega, by omega⟩, kC_300 ⟨by omega, by omega⟩]
    exact (v3 i (by omega) (by omega)).1
  · obtain ⟨i, rfl⟩ : ∃ i, j = 310 + i := ⟨j - 310, by omega⟩
    rw [kM_310 ⟨by omega, by omega⟩, kC_310 ⟨by omega, by omega⟩]
    have z := hS.2.1 3 i (by decide) (by decide) (by omega) (by omega)
    rw [c_3 m ⟨by omega, by omega⟩, r_3 m ⟨by omega, by omega⟩] at z; exact z.symm
  · obtain ⟨i, rfl⟩ : ∃ i, j = 320 + i := ⟨j - 320, by omega⟩
    rw [kM_320 ⟨by omega, by omega⟩, kC_320 ⟨by omega, by omega⟩]
    have z := hS.2.1 4 i (by decide) (by decide) (by omega) (by omega)
    rw [c_4 m ⟨by omega, by omega⟩, r_4 m ⟨by omega, by omega⟩] at z; exact z.symm
  · obtain ⟨i, rfl⟩ : ∃ i, j = 330 + i := ⟨j - 330, by omega⟩
    rw [kM_330 ⟨by omega, by omega⟩, kC_330 ⟨by omega, by omega⟩]
    have z := hS.2.1 5 i (by decide) (by decide) (by omega) (by omega)
    rw [c_5 m ⟨by omega, by omega⟩, r_5 m ⟨by omega, by omega⟩] at z; exact z.symm
  · obtain ⟨i, rfl⟩ : ∃ i, j = 340 + i := ⟨j - 340, by omega⟩
    rw [kM_340 ⟨by omega, by omega⟩, kC_340 ⟨by omega, by omega⟩]
    have z := hS.2.1 6 i (by decide) (by decide) (by omega) (by omega)
    rw [c_6 m ⟨by omega, by omega⟩, r_6 m ⟨by omega, by omega⟩] at z; exact z.symm
  · obtain ⟨i, rfl⟩ : ∃ i, j = 350 + i := ⟨j - 350, by omega⟩
    rw [kM_350 ⟨by omega, by omega⟩, kC_350 ⟨by omega, by omega⟩]
    have z := hS.2.1 7 i (by decide) (by decide) (by omega) (by omega)
    rw [c_7 m ⟨by omega, by omega⟩, r_7 m ⟨by omega, by omega⟩] at z; exact z.symm
  · obtain ⟨i, rfl⟩ : ∃ i, j = 360 + i := ⟨j - 360, by omega⟩
    rw [kM_360 ⟨by omega, by omega⟩, kC_360 ⟨by omega, by omega⟩]
    have z := hS.2.1 8 i (by decide) (by decide) (by omega) (by omega)
    rw [c_8 m ⟨by omega, by omega⟩, r_8 m ⟨by omega, by omega⟩] at z; exact z.symm
  · obtain ⟨i, rfl⟩ : ∃ i, j = 370 + i := ⟨j - 370, by omega⟩
    rw [kM_370 ⟨by omega, by omega⟩, kC_370 ⟨by omega, by omega⟩]
    have z := hS.2.1 9 i (by decide) (by decide) (by omega) (by omega)
    rw [c_9 m ⟨by omega, by omega⟩, r_9 m ⟨by omega, by omega⟩] at z; exact z.symm
theorem KIV_GS {m : Mem} (hb : (0 ≤ m 8 0 ∧ m 8 0 ≤ 10) ∧ (0 ≤ m 8 1 ∧ m 8 1 ≤ 14) ∧ (0 ≤ m 8 2 ∧ m 8 2 ≤ 5) ∧ (0 ≤ m 8 3 ∧ m 8 3 ≤ 5)) (hV : KVs m) (hI : IV (m 8 0) (m 8 2) (m 8 3) (asC m 15)) (hN : BN (m 8 2) (m 8 3) (asC m 15)) : KIV (m 8 3) (sC m) (m 15 10) (m 15 11) := by
  obtain ⟨v1, v2, v3⟩ := hV
  refine ⟨hb, IV_SE hI (SE_C hb.2.2.1.2 hb.2.2.2.2), fun w w0 w1 => ?_, fun q q0 q1 => ?_, fun p p0 p1 => ?_, fun p ph p0 p1 => ?_, BN_SE hN (SE_C hb.2.2.1.2 hb.2.2.2.2)⟩
  · have w1 : w < m 8 1 := w1
    obtain ⟨-, -, -, -, a, b, c⟩ := v1 w w0 w1
    show (0 ≤ kvC m (100 + w) ∧ kvC m (100 + w) < m 8 0) ∧ (0 ≤ kvC m (120 + w) ∧ kvC m (120 + w) < m 8 0) ∧ kvC m (100 + w) ≠ kvC m (120 + w)
    rw [kC_100 ⟨w0, by omega⟩, kC_120 ⟨w0, by omega⟩]
    exact ⟨a, b, c⟩
  · have q1 : q < m 8 2 := q1
    show 0 ≤ kvC m (230 + q) ∧ kvC m (230 + q) ≤ 9
    rw [kC_230 ⟨q0, by omega⟩]; exact (v2 q q0 q1).2
  · have p1 : p < m 8 3 := p1
    show 0 ≤ kvC m (300 + p) ∧ kvC m (300 + p) ≤ 99
    rw [kC_300 ⟨p0, by omega⟩]; exact (v3 p p0 p1).2
  · have p1 : p < m 8 3 := p1
    omega
/-- and behind it -/
theorem KVs_KE {H0 o nw : Int} {m : Mem} (hb : (0 ≤ m 8 0 ∧ m 8 0 ≤ 10) ∧ (0 ≤ m 8 1 ∧ m 8 1 ≤ 14) ∧ (0 ≤ m 8 2 ∧ m 8 2 ≤ 5) ∧ (0 ≤ m 8 3 ∧ m 8 3 ≤ 5)) (h : KE (sC m) (sK m)) (i : KIV H0 (sC m) o nw) : KVs m := by
  obtain ⟨k3, k4, k5, k6, k7⟩ := h
  obtain ⟨-, -, w, q, p, -, -⟩ := i
  have k3 : m 249 3 = m 8 0 := k3
  have k4 : m 249 4 = m 8 1 := k4
  have k5 : m 249 5 = m 8 2 := k5
  have k6 : m 249 6 = m 8 3 := k6
  have kk : ∀ j, VI (m 8 0) (m 8 1) (m 8 2) (m 8 3) j → kvM m j = kvC m j := fun j hj => by
    rw [← kvR_M (by omega) (by rw [k3, k4, k5, k6]; exact hj)]; exact k7 j hj
  refine ⟨fun w0 a b => ?_, fun q0 a b => ?_, fun p0 a b => ?_⟩
  · have e1 := kk (100 + w0) (VI_k100 a b)
    have e2 := kk (120 + w0) (VI_k120 a b)
    have e3 := kk (140 + w0) (VI_k140 a b)
    have e4 := kk (160 + w0) (VI_k160 a b)
    rw [kM_100 ⟨a, by omega⟩, kC_100 ⟨a, by omega⟩] at e1
    rw [kM_120 ⟨a, by omega⟩, kC_120 ⟨a, by omega⟩] at e2
    rw [kM_140 ⟨a, by omega⟩, kC_140 ⟨a, by omega⟩] at e3
    rw [kM_160 ⟨a, by omega⟩, kC_160 ⟨a, by omega⟩] at e4
    have z := w w0 a b
    have z : (0 ≤ kvC m (100 + w0) ∧ kvC m (100 + w0) < m 8 0) ∧ (0 ≤ kvC m (120 + w0) ∧ kvC m (120 + w0) < m 8 0) ∧ kvC m (100 + w0) ≠ kvC m (120 + w0) := z
    rw [kC_100 ⟨a, by omega⟩, kC_120 ⟨a, by omega⟩] at z
    exact ⟨e1, e2, e3, e4, z.1, z.2.1, z.2.2⟩
  · have e1 := kk (230 + q0) (VI_k230 a b)
    rw [kM_230 ⟨a, by omega⟩, kC_230 ⟨a, by omega⟩] at e1
    have z : 0 ≤ kvC m (230 + q0) ∧ kvC m (230 + q0) ≤ 9 := q q0 a b
    rw [kC_230 ⟨a, by omega⟩] at z
    exact ⟨e1, z⟩
  · have e1 := kk (300 + p0) (VI_k300 a b)
    rw [kM_300 ⟨a, by omega⟩, kC_300 ⟨a, by omega⟩] at e1
    have z : 0 ≤ kvC m (300 + p0) ∧ kvC m (300 + p0) ≤ 99 := p p0 a b
    rw [kC_300 ⟨a, by omega⟩] at z
    exact ⟨e1, z⟩
theorem SE_KE {m : Mem} (hb : (0 ≤ m 8 0 ∧ m 8 0 ≤ 10) ∧ (0 ≤ m 8 1 ∧ m 8 1 ≤ 14) ∧ (0 ≤ m 8 2 ∧ m 8 2 ≤ 5) ∧ (0 ≤ m 8 3 ∧ m 8 3 ≤ 5)) (h : KE (sC m) (sK m)) (ho : m 15 10 = m 258 50) (hn : m 15 11 = m 258 51) : SE (m 8 2) (m 8 3) (asC m 15) (asR m 258 0) := by
  obtain ⟨k3, k4, k5, k6, k7⟩ := h
  have k3 : m 249 3 = m 8 0 := k3
  have k4 : m 249 4 = m 8 1 := k4
  have k5 : m 249 5 = m 8 2 := k5
  have k6 : m 249 6 = m 8 3 := k6
  have kk : KVL (m 8 0) (m 8 1) (m 8 2) (m 8 3) (kvM m) (kvC m) := fun j hj => by
    rw [← kvR_M (by omega) (by rw [k3, k4, k5, k6]; exact hj)]; exact k7 j hj
  have e := SE_M (m := m) (P := m 8 2) (H := m 8 3) hb.2.2.1.2 hb.2.2.2.2
  rw [← ho, ← hn] at e
  exact SE_tr (SE_C hb.2.2.1.2 hb.2.2.2.2) (SE_tr (SE_K kk) (SE_sy e))
/-- who holds a pot, with new pots and people -/
theorem HD_kit {P P' H H' : Int} {x x' : AS} {h h' : Int → Int} (h0 : 0 ≤ H) (hd : HD P H x h) (hP : P ≤ P') (hH : H ≤ H') (hl : ∀ p, 0 ≤ p → p < H → x' 8 p = x 8 p ∧ x 8 p < P) (hn : ∀ p, H ≤ p → 0 ≤ p → p < H' → x' 8 p = -1) (hh : ∀ q, (q < P → h' q = h q) ∧ (P ≤ q → q < P' → h' q = -1)) : HD P' H' x' h' := fun q q0 q1 => by
  by_cases z : q < P
  · obtain ⟨a, b⟩ := hd q q0 z
    rw [(hh q).1 z]
    refine ⟨by omega, fun p p0 p1 => ?_⟩
    by_cases w : p < H
    · rw [(hl p p0 w).1]; exact b p p0 w
    · rw [hn p (by omega) p0 p1]; omega
  · rw [(hh q).2 (by omega) q1]
    refine ⟨by omega, fun p p0 p1 => ?_⟩
    by_cases w : p < H
    · obtain ⟨c, d⟩ := hl p p0 w
      rw [c]; omega
    · rw [hn p (by omega) p0 p1]; omega
theorem sC_lo {m1 m2 : Mem} (e : ∀ x j, x < 249 → m2 x j = m1 x j) : sC m2 = sC m1 := by
  have f : ∀ x, x < 249 → m2 x = m1 x := fun x hx => by funext j; exact e x j hx
  unfold sC
  rw [f 8 (by decide), kvC_e (m := m1) (m' := m2) (by rw [f 8 (by decide)]) (by rw [f 15 (by decide)]) (fun x q => f x (by omega))]
theorem sK_hi {m m1 : Mem} (e : ∀ x j, 249 ≤ x → m1 x j = m x j) : sK m1 = sK m := by
  have f : ∀ x, 249 ≤ x → m1 x = m x := fun x hx => by funext j; exact e x j hx
  unfold sK
  rw [f 249 (by decide), kvR_e (m := m) (m' := m1) (fun x q => f x (by omega)) (fun j _ _ => by rw [f 249 (by decide)])]
/-- what the kitchen's text leaves on both sides -/
theorem GS_kit {R : ENV → Int} {tc : Int} {m m1 m2 : Mem} (hb : (0 ≤ m 8 0 ∧ m 8 0 ≤ 10) ∧ (0 ≤ m 8 1 ∧ m 8 1 ≤ 14) ∧ (0 ≤ m 8 2 ∧ m 8 2 ≤ 5) ∧ (0 ≤ m 8 3 ∧ m 8 3 ≤ 5)) (hb2 : (0 ≤ m2 8 0 ∧ m2 8 0 ≤ 10) ∧ (0 ≤ m2 8 1 ∧ m2 8 1 ≤ 14) ∧ (0 ≤ m2 8 2 ∧ m2 8 2 ≤ 5) ∧ (0 ≤ m2 8 3 ∧ m2 8 3 ≤ 5)) (hT : ∀ j, 0 ≤ j → j < tc → m 260 j = m 3 j) (hX : RK m) (h : GS R m) (h1 : K16 tc m m1) (h2 : K170 tc m1 m2) (hlo : ∀ x j, x < 249 → m2 x j = m1 x j) (hhi : ∀ x j, 249 ≤ x → m1 x j = m x j) : (RK m2 ∧ GS R m2) ∧ ((0 < tc ∧ m2 1 12 = 0 ∧ m2 249 7 = w32 (m 249 7 + 1)) ∨ (m2 1 12 = m 1 12 ∧ m2 249 7 = m 249 7)) := by
  obtain ⟨hV, ⟨hI, hD, hS, hO, hN⟩, ⟨⟨u1, u2, u3, u4, u5⟩, u6⟩, hk, r1, r2⟩ := h
  have hKE := KE_GS hb hX hV hS
  have hKI := KIV_GS hb hV hI hN
  have hit := kit_e (T := m 3) (T' := m 260) (tc := tc) hT hKE
  obtain ⟨c1, cK, cF⟩ := h1
  obtain ⟨c2, c85, c86, cX⟩ := h2
  have e60 : m1 260 = m 260 := by funext j; exact hhi 260 j (by decide)
  rw [e60, sK_hi hhi] at c2
  have e7 : m1 249 7 = m 249 7 := hhi 249 7 (by decide)
  have e39 : m1 249 39 = m 249 39 := hhi 249 39 (by decide)
  rw [e7, e39] at c2
  have eS := sC_lo hlo
  have l8 : ∀ j, m2 8 j = m1 8 j := fun j => hlo 8 j (by decide)
  obtain ⟨⟨n1, n2, n3⟩, cV, cH, cO, cN⟩ := cK
  -- values alike behind it; what was undone and kept
  have key : KE (sC m2) (sK m2) ∧ KIV (m 8 3) (sC m2) (m 15 10) (m 15 11) ∧ m 8 0 ≤ m2 8 0 ∧ ((0 < tc ∧ m2 1 12 = 0 ∧ m2 249 7 = w32 (m 249 7 + 1) ∧ m2 26 9 = 0 ∧ m2 249 39 = 0) ∨ (m2 1 12 = m 1 12 ∧ m2 249 7 = m 249 7 ∧ m2 26 9 = m 26 9 ∧ m2 249 39 = m 249 39 ∧ m2 8 0 = m 8 0 ∧ m2 8 1 = m 8 1 ∧ m2 8 2 = m 8 2 ∧ m2 8 3 = m 8 3)) := by
    rw [eS]
    rcases c1 with ⟨t0, q1, q2, q3, q4⟩ | ⟨q1, ⟨q2, q3, q4, q5⟩, q6, q7⟩
    · rcases hit with ⟨z, -⟩ | ⟨r, r', z1, z2, z3⟩
      · rw [q1] at z; exact absurd z (by simp)
      · rw [q1] at z1
        have er := Option.some.inj z1
        subst er
        rcases c2 with ⟨-, ⟨s, s1, s2⟩, s3, s4⟩ | ⟨s1, -⟩
        · rw [z2] at s1
          have es := Option.some.inj s1
          subst es
          exact ⟨KE_tr z3 s2, kit_I hKI q1, by rw [l8]; exact q4, Or.inl ⟨t0, (hlo 1 12 (by decide)).trans q2, s3, (hlo 26 9 (by decide)).trans q3, s4⟩⟩
        · rcases s1 with s1 | s1
          · omega
          · rw [z2] at s1; exact absurd s1 (by simp)
    · have hE1 : KE (sC m) (sC m1) := ⟨q2, q3, q4, q5, cV⟩
      rcases c2 with ⟨t0, ⟨s, s1, s2⟩, -⟩ | ⟨-, s2, s3, s4⟩
      · rcases q1 with q1 | q1
        · omega
        · rcases hit with ⟨-, z⟩ | ⟨r, r', z1, z2, z3⟩
          · rw [s1] at z; exact absurd z (by simp)
          · rw [q1] at z1; exact absurd z1 (by simp)
      · exact ⟨KE_tr (KE_sy hE1) (KE_tr hKE s2), KIV_E hKI hE1, by rw [l8, q2]; exact Int.le_refl _, Or.inr ⟨(hlo 1 12 (by decide)).trans q6, s3, (hlo 26 9 (by decide)).trans q7, s4, by rw [l8]; exact q2, by rw [l8]; exact q3, by rw [l8]; exact q4, by rw [l8]; exact q5⟩⟩
  obtain ⟨kE, kI, kL, kU⟩ := key
  have m10 : m2 15 10 = m 15 10 := (hlo 15 10 (by decide)).trans cO
  have m11 : m2 15 11 = m 15 11 := (hlo 15 11 (by decide)).trans cN
  have hop : m 15 10 = m 258 50 := by have z := hS.2.2.1; rw [c_op, r_op] at z; exact z
  have hno : m 15 11 = m 258 51 := by have z := hS.2.2.2; rw [c_no, r_no] at z; exact z
  have x50 : m2 258 50 = m 258 50 := (cX 258 50 (by unfold KFx; omega) (by decide)).trans (hhi 258 50 (by decide))
  have x51 : m2 258 51 = m 258 51 := (cX 258 51 (by unfold KFx; omega) (by decide)).trans (hhi 258 51 (by decide))
  have hS2 := SE_KE hb2 kE (by rw [m10, x50]; exact hop) (by rw [m11, x51]; exact hno)
  have hI2 : IV (m2 8 0) (m2 8 2) (m2 8 3) (asC m2 15) := by
    have z := SE_C (m := m2) (P := m2 8 2) (H := m2 8 3) hb2.2.2.1.2 hb2.2.2.2.2
    rw [m10, m11] at z
    exact IV_SE kI.2.1 (SE_sy z)
  have hN2 : BN (m2 8 2) (m2 8 3) (asC m2 15) := by
    have z := SE_C (m := m2) (P := m2 8 2) (H := m2 8 3) hb2.2.2.1.2 hb2.2.2.2.2
    rw [m10, m11] at z
    exact BN_SE kI.2.2.2.2.2.2 (SE_sy z)
  have ld : ∀ p, 0 ≤ p → p < m 8 3 → asC m2 15 8 p = asC m 15 8 p := fun p p0 p1 => by
    have z := cV (360 + p) (VI_k360 p0 p1)
    rw [kC_360 ⟨p0, by omega⟩, kC_360 ⟨p0, by omega⟩] at z
    rw [c_8 m2 ⟨p0, by omega⟩, c_8 m ⟨p0, by omega⟩, hlo 23 p (by decide)]; exact z
  have hD2 : HD (m2 8 2) (m2 8 3) (asC m2 15) (m2 18) := HD_kit (by omega) hD (by rw [l8]; exact n2) (by rw [l8]; exact n3) (fun p p0 p1 => ⟨ld p p0 p1, (hI.1 p p0 p1).1.2⟩) (fun p ph p0 p1 => by
    have z := kI.2.2.2.2.2.1 p ph p0 p1
    have z : kvC m2 (360 + p) = -1 := z
    rw [kC_360 ⟨p0, by omega⟩] at z
    rw [c_8 m2 ⟨p0, by omega⟩]; exact z) (fun q => ⟨fun z => (hlo 18 q (by decide)).trans ((cH q).1 z), fun z w => (hlo 18 q (by decide)).trans ((cH q).2 z (by rw [← l8]; exact w))⟩)
  have hO2 : DB (m2 8 1) (m2 15 10) := fun w w0 w1 => by rw [m10]; exact hO w (by rw [l8] at w0; omega) w1
  have kR : RK m2 := ⟨kE.1, kE.2.1, kE.2.2.1, kE.2.2.2.1, fun j j0 j1 => by
    have z := kE.2.2.2.2 j (Or.inl ⟨j0, j1⟩)
    have z : kvR m2 j = kvC m2 j := z
    rw [kvR_M (by have a := kE.1; have b := kE.2.1; have c := kE.2.2.1; have d := kE.2.2.2.1; have a : m2 249 3 = m2 8 0 := a; have b : m2 249 4 = m2 8 1 := b; have c : m2 249 5 = m2 8 2 := c; have d : m2 249 6 = m2 8 3 := d; omega) (Or.inl ⟨j0, by have a : m2 249 3 = m2 8 0 := kE.1; omega⟩)] at z
    unfold kvM kvC at z
    rw [if_pos (by omega), if_pos (by omega), Int.sub_zero] at z
    exact z⟩
  have g65 : ∀ j, m2 265 j = m 265 j := fun j => (cX 265 j (by unfold KFx; omega) (by omega)).trans (hhi 265 j (by decide))
  have g32 : m2 249 32 = m 249 32 := (cX 249 32 (by unfold KFx; omega) (by omega)).trans (hhi 249 32 (by decide))
  have cl : ∀ x j, (x < 8 ∨ 24 < x) → x < 249 → x ≠ 2 → ¬ (x = 1 ∧ j = 12) → ¬ (x = 26 ∧ j = 9) → m2 x j = m x j := fun x j q q1 q2 q3 q4 => (hlo x j q1).trans (cF x q2 q j q3 q4)
  refine ⟨⟨kR, KVs_KE hb2 kE kI, ⟨hI2, hD2, hS2, hO2, hN2⟩, ⟨?_, fun i i0 i1 => ?_⟩, fun i i0 i1 z => ?_, RuC_fr r1 (cl 4 1 (by omega) (by decide) (by decide) (by decide) (by decide)) (fun j => cl 5 j (by omega) (by decide) (by decide) (by omega) (by omega)), RuR_fr r2 g32 g65⟩, ?_⟩
  · have z8 := cl 26 8 (by omega) (by decide) (by decide) (by decide) (by decide)
    rw [z8]
    rcases kU with ⟨-, -, -, a, b⟩ | ⟨-, -, a, b, -⟩
    · rw [a, b]; omega
    · rw [a, b]; omega
  · have z8 := cl 26 8 (by omega) (by decide) (by decide) (by decide) (by decide)
    rcases kU with ⟨-, -, -, a, b⟩ | ⟨-, -, a, b, d0, d1, d2, d3⟩
    · rw [a] at i1; omega
    · rw [a] at i1
      rw [d0, d1, d2, d3, z8]
      exact OKS_tr hb.2.2.1.2 hb.2.2.2.2 (u6 i i0 i1) (SE_st (fun x j x0 x1 => cl x j (by omega) (by omega) (by omega) (by omega) (by omega))) (fun j _ _ => cl _ j (by omega) (by omega) (by omega) (by omega) (by omega)) (SE_rw (fun y _ _ => (cX 269 _ (by unfold KFx; omega) (by omega)).trans (hhi 269 _ (by decide))))
  · rcases kU with ⟨-, a, -⟩ | ⟨a, -, -, -, d0, d1, d2, d3⟩
    · rw [a] at z; exact absurd ((kbit0 i).resolve_right (by omega)) z
    · rw [a] at z
      rw [d0, d1, d2, d3]
      exact OKS_tr hb.2.2.1.2 hb.2.2.2.2 (hk i i0 i1 z) (SE_st (fun x j x0 x1 => cl x j (by omega) (by omega) (by omega) (by omega) (by omega))) (fun j _ _ => cl _ j (by omega) (by omega) (by omega) (by omega) (by omega)) (SE_rw (fun y _ _ => (cX 287 _ (by unfold KFx; omega) (by omega)).trans (hhi 287 _ (by decide))))
  · rcases kU with ⟨t0, a, b, -⟩ | ⟨a, b, -⟩
    · exact Or.inl ⟨t0, a, b⟩
    · exact Or.inr ⟨a, b⟩
end
section
/-! kitchen on both sides -/
theorem two_16 {n : Nat} {m : Mem} (h : JJ (n + 1) m) : Cl 230 16 [1] (fun v u => ∃ m1, u = S9 0 m1 ∧ Cl 230 170 [249] (fun w u' => ∃ m2, u' = S9 0 m2 ∧ JJ n m2) (S9 0 m1)) (S9 0 m) := by
  obtain ⟨tc, pl, hC, hR, hX, hB, R, hG⟩ := h
  have hs := JC_s (BC_g 0 hC)
  have hr := JR_s (BR_g 0 hR)
  have hOB : OB m := fun w w0 w1 => hG.2.1.2.2.2.1 w w0 w1
  refine f_16 (d := 223) (g := gC 1 m) hX.1.2.1 hOB (BC_g 1 hC) (fun v m1 h1 k1 => ⟨m1, rfl, ?_⟩)
  have c1 : ∀ x j, frC 1 x j → m1 x j = m x j := fun x j q => h1.2.1 x j q
  have hhi : ∀ x j, 249 ≤ x → m1 x j = m x j := fun x j q => c1 x j (Or.inl q)
  have e260 : m1 260 = m 260 := by funext j; exact hhi 260 j (by decide)
  refine f_170 (d := 219) (g := gR 1 m1) (by rw [e260]; exact hX.1.2.2) (BR_g 1 (BR_tr hR (fun x j q _ => hhi x j q))) (fun w m2 pl2 h2 k2 => ⟨m2, rfl, ?_⟩)
  have r2 : ∀ x j, frR 1 x j → m2 x j = m1 x j := fun x j q => h2.1.2.2.1 x j q
  have hlo : ∀ x j, x < 249 → m2 x j = m1 x j := fun x j q => r2 x j (Or.inl q)
  have hC2 : BC 0 m2 := BC_tr (BC_of h1) hlo
  have hs2 := JC_s (BC_g 0 hC2)
  obtain ⟨⟨kR, kG⟩, kB⟩ := GS_kit (by omega) (by omega) hX.1.1 hX.2.1 hG k1 k2 hlo hhi
  refine ⟨0, pl2, hC2, BR_of h2, ⟨⟨fun j h0 h1 => absurd h0 (by omega), fun j => ?_, fun j => ?_⟩, kR, ?_⟩, ?_, R, kG⟩
  · rw [hlo 3 j (by decide), c1 3 j (by unfold frC; omega)]; exact hX.1.2.1 j
  · rw [r2 260 j (by unfold frR; omega), e260]; exact hX.1.2.2 j
  · show m2 249 62 = m2 211 4
    rw [r2 249 62 (by unfold frR; omega), hlo 211 4 (by decide), hhi 249 62 (by decide), c1 211 4 (by unfold frC; omega)]
    exact hX.2.2
  · have b85 : ∀ j, m2 285 j = m 285 j := fun j => by rw [k2.2.1]; exact hhi 285 j (by decide)
    have b86 : ∀ j, m2 286 j = m 286 j := fun j => by rw [k2.2.2.1]; exact hhi 286 j (by decide)
    rcases kB with ⟨-, a, b⟩ | ⟨a, b⟩
    · exact RB_kit a b b85 b86 hB
    · exact RB_fr (Nat.le_succ n) a b b85 b86 hB
end
