/-! both sides of each call, under a relation of the two memories -/
/-- the text; THE KITCHEN's counts and kinds; marks; what is kept -/
def RT (tc : Int) (m : Mem) : Prop := (∀ j, 0 ≤ j → j < tc → m 260 j = m 3 j) ∧ (∀ j, 0 ≤ m 3 j ∧ m 3 j < 256) ∧ ∀ j, 0 ≤ m 260 j ∧ m 260 j < 256
def RK (m : Mem) : Prop := m 249 3 = m 8 0 ∧ m 249 4 = m 8 1 ∧ m 249 5 = m 8 2 ∧ m 249 6 = m 8 3 ∧ ∀ j, 0 ≤ j → j < m 8 0 → m 251 j = m 9 j
def RM (m : Mem) : Prop := m 249 62 = m 211 4
def RX (tc : Int) (m : Mem) : Prop := RT tc m ∧ RK m ∧ RM m
def GSx (m : Mem) : Prop := ∃ R, GS R m
theorem GSx_fr {tc : Int} {m m2 : Mem} (hC : BC tc m) (e : ∀ x j, GCl x j → m2 x j = m x j) (h : GSx m) : GSx m2 := by
  have hs := JC_s (BC_g 0 hC)
  obtain ⟨R, h⟩ := h
  exact ⟨R, GS_fr (by omega) (by omega) e h⟩
theorem GCl_C {x j : Int} (h : GCl x j) : frC 4 x j := by unfold GCl at h; unfold frC; omega
theorem GCl_R {x j : Int} (h : GCl x j) : frR 4 x j := by unfold GCl at h; unfold frR; omega
theorem GCl_n {x j : Int} (h : GCl x j) : ¬ (x = 288 ∨ x = 2 ∨ x = 3 ∨ x = 260 ∨ (x = 249 ∧ j ≠ 32 ∧ j ≠ 39) ∨ x = 211 ∨ x = 212 ∨ x = 213 ∨ x = 281 ∨ x = 282) := by unfold GCl at h; omega
theorem GS_0 : GS rl0 zM := by
  refine ⟨⟨fun w w0 w1 => absurd w1 (by rw [zM_0]; omega), fun q q0 q1 => absurd q1 (by rw [zM_0]; omega), fun p p0 p1 => absurd p1 (by rw [zM_0]; omega)⟩, ⟨⟨fun p p0 p1 => absurd p1 (by rw [zM_0]; omega), fun p q p0 p1 => absurd p1 (by rw [zM_0]; omega), fun q q0 q1 => absurd q1 (by rw [zM_0]; omega), ?_⟩, fun q q0 q1 => absurd q1 (by rw [zM_0]; omega), ⟨fun f j _ _ j0 j1 => absurd j1 (by rw [zM_0]; omega), fun f j _ _ j0 j1 => absurd j1 (by rw [zM_0]; omega), ?_, ?_⟩, fun w w0 w1 => ?_, ⟨fun p p0 p1 => absurd p1 (by rw [zM_0]; omega), by simp only [zM_0]; rfl⟩⟩, ⟨?_, fun i i0 i1 => absurd i1 (by rw [zM_0]; omega)⟩, fun i i0 i1 z => ?_, Or.inl ⟨zM_0 4 1, rfl⟩, Or.inl ⟨zM_0 249 32, rfl⟩⟩
  · rw [c_no, zM_0]; exact inI_0
  · rw [c_op, r_op, zM_0, zM_0]
  · rw [c_no, r_no, zM_0, zM_0]
  · rw [zM_0]
    exact tb_ext (iand_in _ _) inI_0 (fun i hi => by simp [tb_and, tb_0])
  · simp only [zM_0]; decide
  · rw [zM_0] at z
    exact absurd ((kbit0 i).resolve_right (by omega)) z
theorem GSx_0 : GSx zM := ⟨_, GS_0⟩
def JJ (n : Nat) (m : Mem) : Prop := ∃ tc pl, BC tc m ∧ BR tc pl m ∧ RX tc m ∧ RB n m ∧ GSx m
theorem RX_fr {tc tc' : Int} (hle : tc' ≤ tc) {m m1 m2 : Mem} (e1 : ∀ x j, frC 2 x j → m1 x j = m x j) (e2 : ∀ x j, frR 2 x j → m2 x j = m1 x j) (h : RX tc m) : RX tc' m2 := by
  have c : ∀ x j, frC 2 x j → x < 249 → m2 x j = m x j := fun x j q hx => by rw [e2 x j (Or.inl hx), e1 x j q]
  have r : ∀ x j, frR 2 x j → 249 ≤ x → m2 x j = m x j := fun x j q hx => by rw [e2 x j q, e1 x j (Or.inl hx)]
  obtain ⟨⟨t1, t2, t3⟩, ⟨k1, k2, k3, k4, k5⟩, hm⟩ := h
  refine ⟨⟨fun j h0 h1 => ?_, fun j => ?_, fun j => ?_⟩, ⟨?_, ?_, ?_, ?_, fun j h0 h1 => ?_⟩, ?_⟩
  · rw [r 260 j (by unfold frR; omega) (by decide), c 3 j (by unfold frC; omega) (by decide)]; exact t1 j h0 (by omega)
  · rw [c 3 j (by unfold frC; omega) (by decide)]; exact t2 j
  · rw [r 260 j (by unfold frR; omega) (by decide)]; exact t3 j
  · rw [r 249 3 (by unfold frR; omega) (by decide), c 8 0 (by unfold frC; omega) (by decide)]; exact k1
  · rw [r 249 4 (by unfold frR; omega) (by decide), c 8 1 (by unfold frC; omega) (by decide)]; exact k2
  · rw [r 249 5 (by unfold frR; omega) (by decide), c 8 2 (by unfold frC; omega) (by decide)]; exact k3
  · rw [r 249 6 (by unfold frR; omega) (by decide), c 8 3 (by unfold frC; omega) (by decide)]; exact k4
  · rw [c 8 0 (by unfold frC; omega) (by decide)] at h1
    rw [r 251 j (by unfold frR; omega) (by decide), c 9 j (by unfold frC; omega) (by decide)]; exact k5 j h0 h1
  · show m2 249 62 = m2 211 4
    rw [r 249 62 (by unfold frR; omega) (by decide), c 211 4 (by unfold frC; omega) (by decide)]; exact hm
theorem JJ_C4 {n : Nat} {tc tc' pl : Int} {m m1 : Mem} (hC : JC 4 (gC 4 m) tc m1) (hR : BR tc' pl m) (hX : RX tc m) (hB : RB n m) (hC0 : BC tc m) (hG : GSx m) : tc = tc' → JJ n m1 := fun e => by
  subst e
  exact ⟨tc, pl, BC_of hC, BR_tr hR (fun x j q _ => FC_of hC x j (Or.inl q)), RX_fr (Int.le_refl _) (fun x j q => FC_of hC x j (frC_le (by decide) q)) (fun _ _ _ => rfl) hX, RB_fr (Nat.le_refl n) (FC_of hC 1 12 (by unfold frC; omega)) (FC_of hC 249 7 (Or.inl (by decide))) (fun j => FC_of hC 285 j (Or.inl (by decide))) (fun j => FC_of hC 286 j (Or.inl (by decide))) hB, GSx_fr hC0 (fun x j q => FC_of hC x j (GCl_C q)) hG⟩
theorem RX_288 {tc : Int} {m : Mem} {v : Int} (h : RX tc m) : RX tc (upm m 288 0 v) := by
  have e : ∀ x j, x ≠ 288 → upm m 288 0 v x j = m x j := fun x j hx => upm_a _ _ _ _ _ _ hx
  obtain ⟨⟨t1, t2, t3⟩, ⟨k1, k2, k3, k4, k5⟩, hm⟩ := h
  refine ⟨⟨fun j h0 h1 => ?_, fun j => ?_, fun j => ?_⟩, ⟨?_, ?_, ?_, ?_, fun j h0 h1 => ?_⟩, ?_⟩
  · rw [e _ _ (by decide), e _ _ (by decide)]; exact t1 j h0 h1
  · rw [e _ _ (by decide)]; exact t2 j
  · rw [e _ _ (by decide)]; exact t3 j
  · rw [e _ _ (by decide), e _ _ (by decide)]; exact k1
  · rw [e _ _ (by decide), e _ _ (by decide)]; exact k2
  · rw [e _ _ (by decide), e _ _ (by decide)]; exact k3
  · rw [e _ _ (by decide), e _ _ (by decide)]; exact k4
  · rw [e _ _ (by decide)] at h1; rw [e _ _ (by decide), e _ _ (by decide)]; exact k5 j h0 h1
  · show upm m 288 0 v 249 62 = upm m 288 0 v 211 4
    rw [e _ _ (by decide), e _ _ (by decide)]; exact hm
theorem JJ_288 {n : Nat} {m : Mem} {v : Int} (h : JJ n m) : JJ n (upm m 288 0 v) := by
  obtain ⟨tc, pl, hC, hR, hX, hB, hG⟩ := h
  exact ⟨tc, pl, BC_tr hC (fun x j hx => upm_a _ _ _ _ _ _ (by omega)), BR_tr hR (fun x j h0 h1 => upm_a _ _ _ _ _ _ (by omega)), RX_288 hX, RB_fr (Nat.le_refl n) (upm_a _ _ _ _ _ _ (by decide)) (upm_a _ _ _ _ _ _ (by decide)) (fun j => upm_a _ _ _ _ _ _ (by decide)) (fun j => upm_a _ _ _ _ _ _ (by decide)) hB, GSx_fr hC (fun x j q => upm_a _ _ _ _ _ _ (fun z => GCl_n q (Or.inl z))) hG⟩
theorem JJ_le {n : Nat} {m : Mem} (h : JJ (n + 1) m) : JJ n m := by
  obtain ⟨tc, pl, hC, hR, hX, hB, hG⟩ := h
  exact ⟨tc, pl, hC, hR, hX, RB_fr (Nat.le_succ n) rfl rfl (fun _ => rfl) (fun _ => rfl) hB, hG⟩
theorem RB_0 : RB 512 zM := by
  refine ⟨⟨by rw [zM_0]; decide, by rw [zM_0]; decide⟩, fun i i0 i1 => ?_⟩
  rw [zM_0, zM_0, zM_0, zM_0]
  exact ⟨by decide, fun z => absurd ((kbit0 i).resolve_right (by omega)) z, fun z => absurd rfl z.1⟩
theorem JJ_0 : JJ 512 zM := by
  refine ⟨0, 1, ⟨by decide, fun a j => ?_⟩, ⟨⟨by decide, by decide, fun a j => ?_⟩, Or.inr ⟨rfl, rfl⟩, fun w h0 h1 => absurd h1 (by show ¬ w < 0; omega), fun k hk => absurd hk (by show ¬ (k : Int) < 0; omega)⟩, ⟨⟨fun _ _ _ => rfl, fun _ => (by rw [zM_0]; decide), fun _ => (by rw [zM_0]; decide)⟩, ⟨rfl, rfl, rfl, rfl, fun _ _ _ => rfl⟩, rfl⟩, RB_0, GSx_0⟩
  · rw [zM_0]; simp [BdC]
  · rw [zM_0]; simp [BdR, RBd]
theorem cB_193 {n : Nat} {a b : Int} {m1 : Mem} (h : JJ (n + 1) m1) : Cl 230 193 [249, a, b] (fun w u' => ∃ m2, u' = S9 0 m2 ∧ JJ n m2) (S9 0 m1) := by
  obtain ⟨tc, pl, hC, hR, hX, hB, hG⟩ := h
  refine s_193 (d := 227) (g := gR 4 m1) (JW_mk (BR_g 4 hR)) (fun w m2 h2 => ⟨m2, rfl, tc, pl, ?_, ?_, ?_, ?_, ?_⟩)
  · exact BC_tr hC (fun x j q => FR_of (JW_1 h2) x j (Or.inl q))
  · exact BR_of (JW_1 h2)
  · exact RX_fr (Int.le_refl _) (fun _ _ _ => rfl) (fun x j q => FR_of (JW_1 h2) x j (frR_le (by decide) q)) hX
  · exact RB_fr (Nat.le_succ n) (FR_of (JW_1 h2) 1 12 (Or.inl (by decide))) (FR_of (JW_1 h2) 249 7 (by unfold frR; omega)) (fun j => FR_of (JW_1 h2) 285 j (by unfold frR; omega)) (fun j => FR_of (JW_1 h2) 286 j (by unfold frR; omega)) hB
  · exact GSx_fr hC (fun x j q => FR_of (JW_1 h2) x j (GCl_R q)) hG
theorem cB_196 {n : Nat} {a b : Int} {m1 : Mem} (h : JJ (n + 1) m1) : Cl 230 196 [249, a, b] (fun w u' => ∃ m2, u' = S9 0 m2 ∧ JJ n m2) (S9 0 m1) := by
  obtain ⟨tc, pl, hC, hR, hX, hB, hG⟩ := h
  refine s_196 (d := 227) (g := gR 4 m1) (JW_mk (BR_g 4 hR)) (fun w m2 h2 => ⟨m2, rfl, tc, pl, ?_, ?_, ?_, ?_, ?_⟩)
  · exact BC_tr hC (fun x j q => FR_of (JW_1 h2) x j (Or.inl q))
  · exact BR_of (JW_1 h2)
  · exact RX_fr (Int.le_refl _) (fun _ _ _ => rfl) (fun x j q => FR_of (JW_1 h2) x j (frR_le (by decide) q)) hX
  · exact RB_fr (Nat.le_succ n) (FR_of (JW_1 h2) 1 12 (Or.inl (by decide))) (FR_of (JW_1 h2) 249 7 (by unfold frR; omega)) (fun j => FR_of (JW_1 h2) 285 j (by unfold frR; omega)) (fun j => FR_of (JW_1 h2) 286 j (by unfold frR; omega)) hB
  · exact GSx_fr hC (fun x j q => FR_of (JW_1 h2) x j (GCl_R q)) hG
theorem cB_200 {n : Nat} {a b : Int} {m1 : Mem} (h : JJ (n + 1) m1) : Cl 230 200 [249, a, b] (fun w u' => ∃ m2, u' = S9 0 m2 ∧ JJ n m2) (S9 0 m1) := by
  obtain ⟨tc, pl, hC, hR, hX, hB, hG⟩ := h
  refine s_200 (d := 226) (g := gR 4 m1) (JW_mk (BR_g 4 hR)) (fun w m2 h2 => ⟨m2, rfl, tc, pl, ?_, ?_, ?_, ?_, ?_⟩)
  · exact BC_tr hC (fun x j q => FR_of (JW_1 h2) x j (Or.inl q))
  · exact BR_of (JW_1 h2)
  · exact RX_fr (Int.le_refl _) (fun _ _ _ => rfl) (fun x j q => FR_of (JW_1 h2) x j (frR_le (by decide) q)) hX
  · exact RB_fr (Nat.le_succ n) (FR_of (JW_1 h2) 1 12 (Or.inl (by decide))) (FR_of (JW_1 h2) 249 7 (by unfold frR; omega)) (fun j => FR_of (JW_1 h2) 285 j (by unfold frR; omega)) (fun j => FR_of (JW_1 h2) 286 j (by unfold frR; omega)) hB
  · exact GSx_fr hC (fun x j q => FR_of (JW_1 h2) x j (GCl_R q)) hG
theorem cB_204 {n : Nat} {a b : Int} {m1 : Mem} (h : JJ (n + 1) m1) : Cl 230 204 [249, a, b] (fun w u' => ∃ m2, u' = S9 0 m2 ∧ JJ n m2) (S9 0 m1) := by
  obtain ⟨tc, pl, hC, hR, hX, hB, hG⟩ := h
  refine s_204 (d := 224) (g := gR 4 m1) (JW_mk (BR_g 4 hR)) (fun w m2 h2 => ⟨m2, rfl, tc, pl, ?_, ?_, ?_, ?_, ?_⟩)
  · exact BC_tr hC (fun x j q => FR_of (JW_1 h2) x j (Or.inl q))
  · exact BR_of (JW_1 h2)
  · exact RX_fr (Int.le_refl _) (fun _ _ _ => rfl) (fun x j q => FR_of (JW_1 h2) x j (frR_le (by decide) q)) hX
  · exact RB_fr (Nat.le_succ n) (FR_of (JW_1 h2) 1 12 (Or.inl (by decide))) (FR_of (JW_1 h2) 249 7 (by unfold frR; omega)) (fun j => FR_of (JW_1 h2) 285 j (by unfold frR; omega)) (fun j => FR_of (JW_1 h2) 286 j (by unfold frR; omega)) hB
  · exact GSx_fr hC (fun x j q => FR_of (JW_1 h2) x j (GCl_R q)) hG
theorem two_103 {n : Nat} {a : Int} {m : Mem} (h : JJ (n + 1) m) : Cl 230 103 [1, a] (fun v u => ∃ m1, u = S9 0 m1 ∧ Cl 230 238 [249, a] (fun w u' => ∃ m2, u' = S9 0 m2 ∧ JJ n m2) (S9 0 m1)) (S9 0 m) := by
  obtain ⟨tc, pl, hC, hR, hX, hB, hG⟩ := h
  refine s_103 (d := 222) (g := gC 4 m) (BC_g 4 hC) (fun v m1 h1 => ⟨m1, rfl, ?_⟩)
  refine s_238 (d := 222) (g := gR 4 m1) (JW_mk (BR_g 4 (BR_tr hR (fun x j q _ => FC_of h1 x j (Or.inl q))))) (fun w m2 h2 => ⟨m2, rfl, tc, pl, ?_, ?_, ?_, ?_, ?_⟩)
  · exact BC_tr (BC_of h1) (fun x j q => FR_of (JW_1 h2) x j (Or.inl q))
  · exact BR_of (JW_1 h2)
  · exact RX_fr (Int.le_refl _) (fun x j q => FC_of h1 x j (frC_le (by decide) q)) (fun x j q => FR_of (JW_1 h2) x j (frR_le (by decide) q)) hX
  · exact RB_fr (Nat.le_succ n) ((FR_of (JW_1 h2) 1 12 (Or.inl (by decide))).trans (FC_of h1 1 12 (by unfold frC; omega))) ((FR_of (JW_1 h2) 249 7 (by unfold frR; omega)).trans (FC_of h1 249 7 (Or.inl (by decide)))) (fun j => (FR_of (JW_1 h2) 285 j (by unfold frR; omega)).trans (FC_of h1 285 j (Or.inl (by decide)))) (fun j => (FR_of (JW_1 h2) 286 j (by unfold frR; omega)).trans (FC_of h1 286 j (Or.inl (by decide)))) hB
  · exact GSx_fr hC (fun x j q => (FR_of (JW_1 h2) x j (GCl_R q)).trans (FC_of h1 x j (GCl_C q))) hG
theorem two_108 {n : Nat} {a b : Int} {m : Mem} (h : JJ (n + 1) m) : Cl 230 108 [1, a, b] (fun v u => ∃ m1, u = S9 0 m1 ∧ Cl 230 242 [249, a, b] (fun w u' => ∃ m2, u' = S9 0 m2 ∧ JJ n m2) (S9 0 m1)) (S9 0 m) := by
  obtain ⟨tc, pl, hC, hR, hX, hB, hG⟩ := h
  refine s_108 (d := 222) (g := gC 4 m) (BC_g 4 hC) (fun v m1 h1 => ⟨m1, rfl, ?_⟩)
  refine s_242 (d := 222) (g := gR 4 m1) (JW_mk (BR_g 4 (BR_tr hR (fun x j q _ => FC_of h1 x j (Or.inl q))))) (fun w m2 h2 => ⟨m2, rfl, tc, pl, ?_, ?_, ?_, ?_, ?_⟩)
  · exact BC_tr (BC_of h1) (fun x j q => FR_of (JW_1 h2) x j (Or.inl q))
  · exact BR_of (JW_1 h2)
  · exact RX_fr (Int.le_refl _) (fun x j q => FC_of h1 x j (frC_le (by decide) q)) (fun x j q => FR_of (JW_1 h2) x j (frR_le (by decide) q)) hX
  · exact RB_fr (Nat.le_succ n) ((FR_of (JW_1 h2) 1 12 (Or.inl (by decide))).trans (FC_of h1 1 12 (by unfold frC; omega))) ((FR_of (JW_1 h2) 249 7 (by unfold frR; omega)).trans (FC_of h1 249 7 (Or.inl (by decide)))) (fun j => (FR_of (JW_1 h2) 285 j (by unfold frR; omega)).trans (FC_of h1 285 j (Or.inl (by decide)))) (fun j => (FR_of (JW_1 h2) 286 j (by unfold frR; omega)).trans (FC_of h1 286 j (Or.inl (by decide)))) hB
  · exact GSx_fr hC (fun x j q => (FR_of (JW_1 h2) x j (GCl_R q)).trans (FC_of h1 x j (GCl_C q))) hG
theorem two_109 {n : Nat} {a : Int} {m : Mem} (h : JJ (n + 1) m) : Cl 230 109 [1, a] (fun v u => ∃ m1, u = S9 0 m1 ∧ Cl 230 243 [249, a] (fun w u' => ∃ m2, u' = S9 0 m2 ∧ JJ n m2) (S9 0 m1)) (S9 0 m) := by
  obtain ⟨tc, pl, hC, hR, hX, hB, hG⟩ := h
  refine s_109 (d := 222) (g := gC 4 m) (BC_g 4 hC) (fun v m1 h1 => ⟨m1, rfl, ?_⟩)
  refine s_243 (d := 222) (g := gR 4 m1) (JW_mk (BR_g 4 (BR_tr hR (fun x j q _ => FC_of h1 x j (Or.inl q))))) (fun w m2 h2 => ⟨m2, rfl, tc, pl, ?_, ?_, ?_, ?_, ?_⟩)
  · exact BC_tr (BC_of h1) (fun x j q => FR_of (JW_1 h2) x j (Or.inl q))
  · exact BR_of (JW_1 h2)
  · exact RX_fr (Int.le_refl _) (fun x j q => FC_of h1 x j (frC_le (by decide) q)) (fun x j q => FR_of (JW_1 h2) x j (frR_le (by decide) q)) hX
  · exact RB_fr (Nat.le_succ n) ((FR_of (JW_1 h2) 1 12 (Or.inl (by decide))).trans (FC_of h1 1 12 (by unfold frC; omega))) ((FR_of (JW_1 h2) 249 7 (by unfold frR; omega)).trans (FC_of h1 249 7 (Or.inl (by decide)))) (fun j => (FR_of (JW_1 h2) 285 j (by unfold frR; omega)).trans (FC_of h1 285 j (Or.inl (by decide)))) (fun j => (FR_of (JW_1 h2) 286 j (by unfold frR; omega)).trans (FC_of h1 286 j (Or.inl (by decide)))) hB
  · exact GSx_fr hC (fun x j q => (FR_of (JW_1 h2) x j (GCl_R q)).trans (FC_of h1 x j (GCl_C q))) hG
theorem two_110 {n : Nat} {a b c : Int} {m : Mem} (h : JJ (n + 1) m) : Cl 230 110 [1, a, b, c] (fun v u => ∃ m1, u = S9 0 m1 ∧ Cl 230 244 [249, a, b, c] (fun w u' => ∃ m2, u' = S9 0 m2 ∧ JJ n m2) (S9 0 m1)) (S9 0 m) := by
  obtain ⟨tc, pl, hC, hR, hX, hB, hG⟩ := h
  refine s_110 (d := 222) (g := gC 4 m) (BC_g 4 hC) (fun v m1 h1 => ⟨m1, rfl, ?_⟩)
  refine s_244 (d := 224) (g := gR 4 m1) (JW_mk (BR_g 4 (BR_tr hR (fun x j q _ => FC_of h1 x j (Or.inl q))))) (fun w m2 h2 => ⟨m2, rfl, tc, pl, ?_, ?_, ?_, ?_, ?_⟩)
  · exact BC_tr (BC_of h1) (fun x j q => FR_of (JW_1 h2) x j (Or.inl q))
  · exact BR_of (JW_1 h2)
  · exact RX_fr (Int.le_refl _) (fun x j q => FC_of h1 x j (frC_le (by decide) q)) (fun x j q => FR_of (JW_1 h2) x j (frR_le (by decide) q)) hX
  · exact RB_fr (Nat.le_succ n) ((FR_of (JW_1 h2) 1 12 (Or.inl (by decide))).trans (FC_of h1 1 12 (by unfold frC; omega))) ((FR_of (JW_1 h2) 249 7 (by unfold frR; omega)).trans (FC_of h1 249 7 (Or.inl (by decide)))) (fun j => (FR_of (JW_1 h2) 285 j (by unfold frR; omega)).trans (FC_of h1 285 j (Or.inl (by decide)))) (fun j => (FR_of (JW_1 h2) 286 j (by unfold frR; omega)).trans (FC_of h1 286 j (Or.inl (by decide)))) hB
  · exact GSx_fr hC (fun x j q => (FR_of (JW_1 h2) x j (GCl_R q)).trans (FC_of h1 x j (GCl_C q))) hG
theorem two_113 {n : Nat} {a b c : Int} {m : Mem} (h : JJ (n + 1) m) : Cl 230 113 [1, a, b, c] (fun v u => ∃ m1, u = S9 0 m1 ∧ Cl 230 248 [249, a, b, c] (fun w u' => ∃ m2, u' = S9 0 m2 ∧ JJ n m2) (S9 0 m1)) (S9 0 m) := by
  obtain ⟨tc, pl, hC, hR, hX, hB, hG⟩ := h
  refine s_113 (d := 222) (g := gC 4 m) (BC_g 4 hC) (fun v m1 h1 => ⟨m1, rfl, ?_⟩)
  refine s_248 (d := 224) (g := gR 4 m1) (JW_mk (BR_g 4 (BR_tr hR (fun x j q _ => FC_of h1 x j (Or.inl q))))) (fun w m2 h2 => ⟨m2, rfl, tc, pl, ?_, ?_, ?_, ?_, ?_⟩)
  · exact BC_tr (BC_of h1) (fun x j q => FR_of (JW_1 h2) x j (Or.inl q))
  · exact BR_of (JW_1 h2)
  · exact RX_fr (Int.le_refl _) (fun x j q => FC_of h1 x j (frC_le (by decide) q)) (fun x j q => FR_of (JW_1 h2) x j (frR_le (by decide) q)) hX
  · exact RB_fr (Nat.le_succ n) ((FR_of (JW_1 h2) 1 12 (Or.inl (by decide))).trans (FC_of h1 1 12 (by unfold frC; omega))) ((FR_of (JW_1 h2) 249 7 (by unfold frR; omega)).trans (FC_of h1 249 7 (Or.inl (by decide)))) (fun j => (FR_of (JW_1 h2) 285 j (by unfold frR; omega)).trans (FC_of h1 285 j (Or.inl (by decide)))) (fun j => (FR_of (JW_1 h2) 286 j (by unfold frR; omega)).trans (FC_of h1 286 j (Or.inl (by decide)))) hB
  · exact GSx_fr hC (fun x j q => (FR_of (JW_1 h2) x j (GCl_R q)).trans (FC_of h1 x j (GCl_C q))) hG
theorem two_114 {n : Nat} {a b : Int} {m : Mem} (h : JJ (n + 1) m) : Cl 230 114 [1, a, b] (fun v u => ∃ m1, u = S9 0 m1 ∧ Cl 230 249 [249, a, b] (fun w u' => ∃ m2, u' = S9 0 m2 ∧ JJ n m2) (S9 0 m1)) (S9 0 m) := by
  obtain ⟨tc, pl, hC, hR, hX, hB, hG⟩ := h
  refine s_114 (d := 224) (g := gC 4 m) (BC_g 4 hC) (fun v m1 h1 => ⟨m1, rfl, ?_⟩)
  refine s_249 (d := 225) (g := gR 4 m1) (BR_g 4 (BR_tr hR (fun x j q _ => FC_of h1 x j (Or.inl q)))) (fun w m2 h2 => ⟨m2, rfl, tc, pl, ?_, ?_, ?_, ?_, ?_⟩)
  · exact BC_tr (BC_of h1) (fun x j q => FR_of h2 x j (Or.inl q))
  · exact BR_of h2
  · exact RX_fr (Int.le_refl _) (fun x j q => FC_of h1 x j (frC_le (by decide) q)) (fun x j q => FR_of h2 x j (frR_le (by decide) q)) hX
  · exact RB_fr (Nat.le_succ n) ((FR_of h2 1 12 (Or.inl (by decide))).trans (FC_of h1 1 12 (by unfold frC; omega))) ((FR_of h2 249 7 (by unfold frR; omega)).trans (FC_of h1 249 7 (Or.inl (by decide)))) (fun j => (FR_of h2 285 j (by unfold frR; omega)).trans (FC_of h1 285 j (Or.inl (by decide)))) (fun j => (FR_of h2 286 j (by unfold frR; omega)).trans (FC_of h1 286 j (Or.inl (by decide)))) hB
  · exact GSx_fr hC (fun x j q => (FR_of h2 x j (GCl_R q)).trans (FC_of h1 x j (GCl_C q))) hG
theorem two_120 {n : Nat} {a b : Int} {m : Mem} (h : JJ (n + 1) m) : Cl 230 120 [1, a, b] (fun v u => ∃ m1, u = S9 0 m1 ∧ Cl 230 253 [249, a, b] (fun w u' => ∃ m2, u' = S9 0 m2 ∧ JJ n m2) (S9 0 m1)) (S9 0 m) := by
  obtain ⟨tc, pl, hC, hR, hX, hB, hG⟩ := h
  refine s_120 (d := 224) (g := gC 4 m) (BC_g 4 hC) (fun v m1 h1 => ⟨m1, rfl, ?_⟩)
  refine s_253 (d := 225) (g := gR 4 m1) (BR_g 4 (BR_tr hR (fun x j q _ => FC_of h1 x j (Or.inl q)))) (fun w m2 h2 => ⟨m2, rfl, tc, pl, ?_, ?_, ?_, ?_, ?_⟩)
  · exact BC_tr (BC_of h1) (fun x j q => FR_of h2 x j (Or.inl q))
  · exact BR_of h2
  · exact RX_fr (Int.le_refl _) (fun x j q => FC_of h1 x j (frC_le (by decide) q)) (fun x j q => FR_of h2 x j (frR_le (by decide) q)) hX
  · exact RB_fr (Nat.le_succ n) ((FR_of h2 1 12 (Or.inl (by decide))).trans (FC_of h1 1 12 (by unfold frC; omega))) ((FR_of h2 249 7 (by unfold frR; omega)).trans (FC_of h1 249 7 (Or.inl (by decide)))) (fun j => (FR_of h2 285 j (by unfold frR; omega)).trans (FC_of h1 285 j (Or.inl (by decide)))) (fun j => (FR_of h2 286 j (by unfold frR; omega)).trans (FC_of h1 286 j (Or.inl (by decide)))) hB
  · exact GSx_fr hC (fun x j q => (FR_of h2 x j (GCl_R q)).trans (FC_of h1 x j (GCl_C q))) hG
theorem two_122 {n : Nat} {a b : Int} {m : Mem} (h : JJ (n + 1) m) : Cl 230 122 [1, a, b] (fun v u => ∃ m1, u = S9 0 m1 ∧ Cl 230 254 [249, a, b] (fun w u' => ∃ m2, u' = S9 0 m2 ∧ JJ n m2) (S9 0 m1)) (S9 0 m) := by
  obtain ⟨tc, pl, hC, hR, hX, hB, hG⟩ := h
  refine s_122 (d := 222) (g := gC 4 m) (BC_g 4 hC) (fun v m1 h1 => ⟨m1, rfl, ?_⟩)
  refine s_254 (d := 223) (g := gR 4 m1) (BR_g 4 (BR_tr hR (fun x j q _ => FC_of h1 x j (Or.inl q)))) (fun w m2 h2 => ⟨m2, rfl, tc, pl, ?_, ?_, ?_, ?_, ?_⟩)
  · exact BC_tr (BC_of h1) (fun x j q => FR_of h2 x j (Or.inl q))
  · exact BR_of h2
  · exact RX_fr (Int.le_refl _) (fun x j q => FC_of h1 x j (frC_le (by decide) q)) (fun x j q => FR_of h2 x j (frR_le (by decide) q)) hX
  · exact RB_fr (Nat.le_succ n) ((FR_of h2 1 12 (Or.inl (by decide))).trans (FC_of h1 1 12 (by unfold frC; omega))) ((FR_of h2 249 7 (by unfold frR; omega)).trans (FC_of h1 249 7 (Or.inl (by decide)))) (fun j => (FR_of h2 285 j (by unfold frR; omega)).trans (FC_of h1 285 j (Or.inl (by decide)))) (fun j => (FR_of h2 286 j (by unfold frR; omega)).trans (FC_of h1 286 j (Or.inl (by decide)))) hB
  · exact GSx_fr hC (fun x j q => (FR_of h2 x j (GCl_R q)).trans (FC_of h1 x j (GCl_C q))) hG
theorem two_123 {n : Nat} {a b c : Int} {m : Mem} (h : JJ (n + 1) m) : Cl 230 123 [1, a, b, c] (fun v u => ∃ m1, u = S9 0 m1 ∧ Cl 230 256 [249, a, b, c] (fun w u' => ∃ m2, u' = S9 0 m2 ∧ JJ n m2) (S9 0 m1)) (S9 0 m) := by
  obtain ⟨tc, pl, hC, hR, hX, hB, hG⟩ := h
  refine s_123 (d := 198) (g := gC 4 m) (BC_g 4 hC) (fun v m1 h1 => ⟨m1, rfl, ?_⟩)
  refine s_256 (d := 221) (g := gR 4 m1) (BR_g 4 (BR_tr hR (fun x j q _ => FC_of h1 x j (Or.inl q)))) (fun w m2 h2 => ⟨m2, rfl, tc, pl, ?_, ?_, ?_, ?_, ?_⟩)
  · exact BC_tr (BC_of h1) (fun x j q => FR_of h2 x j (Or.inl q))
  · exact BR_of h2
  · exact RX_fr (Int.le_refl _) (fun x j q => FC_of h1 x j (frC_le (by decide) q)) (fun x j q => FR_of h2 x j (frR_le (by decide) q)) hX
  · exact RB_fr (Nat.le_succ n) ((FR_of h2 1 12 (Or.inl (by decide))).trans (FC_of h1 1 12 (by unfold frC; omega))) ((FR_of h2 249 7 (by unfold frR; omega)).trans (FC_of h1 249 7 (Or.inl (by decide)))) (fun j => (FR_of h2 285 j (by unfold frR; omega)).trans (FC_of h1 285 j (Or.inl (by decide)))) (fun j => (FR_of h2 286 j (by unfold frR; omega)).trans (FC_of h1 286 j (Or.inl (by decide)))) hB
  · exact GSx_fr hC (fun x j q => (FR_of h2 x j (GCl_R q)).trans (FC_of h1 x j (GCl_C q))) hG
theorem two_130 {n : Nat} {a b : Int} {m : Mem} (h : JJ (n + 1) m) : Cl 230 130 [1, a, b] (fun v u => ∃ m1, u = S9 0 m1 ∧ Cl 230 263 [249, a, b] (fun w u' => ∃ m2, u' = S9 0 m2 ∧ JJ n m2) (S9 0 m1)) (S9 0 m) := by
  obtain ⟨tc, pl, hC, hR, hX, hB, hG⟩ := h
  refine s_130 (d := 198) (g := gC 4 m) (BC_g 4 hC) (fun v m1 h1 => ⟨m1, rfl, ?_⟩)
  refine s_263 (d := 221) (g := gR 4 m1) (BR_g 4 (BR_tr hR (fun x j q _ => FC_of h1 x j (Or.inl q)))) (fun w m2 h2 => ⟨m2, rfl, tc, pl, ?_, ?_, ?_, ?_, ?_⟩)
  · exact BC_tr (BC_of h1) (fun x j q => FR_of h2 x j (Or.inl q))
  · exact BR_of h2
  · exact RX_fr (Int.le_refl _) (fun x j q => FC_of h1 x j (frC_le (by decide) q)) (fun x j q => FR_of h2 x j (frR_le (by decide) q)) hX
  · exact RB_fr (Nat.le_succ n) ((FR_of h2 1 12 (Or.inl (by decide))).trans (FC_of h1 1 12 (by unfold frC; omega))) ((FR_of h2 249 7 (by unfold frR; omega)).trans (FC_of h1 249 7 (Or.inl (by decide)))) (fun j => (FR_of h2 285 j (by unfold frR; omega)).trans (FC_of h1 285 j (Or.inl (by decide)))) (fun j => (FR_of h2 286 j (by unfold frR; omega)).trans (FC_of h1 286 j (Or.inl (by decide)))) hB
  · exact GSx_fr hC (fun x j q => (FR_of h2 x j (GCl_R q)).trans (FC_of h1 x j (GCl_C q))) hG
theorem two_131 {n : Nat} {a b c : Int} {m : Mem} (h : JJ (n + 1) m) : Cl 230 131 [1, a, b, c] (fun v u => ∃ m1, u = S9 0 m1 ∧ Cl 230 264 [249, a, b, c] (fun w u' => ∃ m2, u' = S9 0 m2 ∧ JJ n m2) (S9 0 m1)) (S9 0 m) := by
  obtain ⟨tc, pl, hC, hR, hX, hB, hG⟩ := h
  refine s_131 (d := 217) (g := gC 4 m) (BC_g 4 hC) (fun v m1 h1 => ⟨m1, rfl, ?_⟩)
  refine s_264 (d := 213) (g := gR 4 m1) (BR_g 4 (BR_tr hR (fun x j q _ => FC_of h1 x j (Or.inl q)))) (fun w m2 h2 => ⟨m2, rfl, tc, pl, ?_, ?_, ?_, ?_, ?_⟩)
  · exact BC_tr (BC_of h1) (fun x j q => FR_of h2 x j (Or.inl q))
  · exact BR_of h2
  · exact RX_fr (Int.le_refl _) (fun x j q => FC_of h1 x j (frC_le (by decide) q)) (fun x j q => FR_of h2 x j (frR_le (by decide) q)) hX
  · exact RB_fr (Nat.le_succ n) ((FR_of h2 1 12 (Or.inl (by decide))).trans (FC_of h1 1 12 (by unfold frC; omega))) ((FR_of h2 249 7 (by unfold frR; omega)).trans (FC_of h1 249 7 (Or.inl (by decide)))) (fun j => (FR_of h2 285 j (by unfold frR; omega)).trans (FC_of h1 285 j (Or.inl (by decide)))) (fun j => (FR_of h2 286 j (by unfold frR; omega)).trans (FC_of h1 286 j (Or.inl (by decide)))) hB
  · exact GSx_fr hC (fun x j q => (FR_of h2 x j (GCl_R q)).trans (FC_of h1 x j (GCl_C q))) hG
theorem two_136 {n : Nat} {a b c f : Int} {m : Mem} (hi : inI b) (h : JJ (n + 1) m) : Cl 230 136 [1, a, b, c, f] (fun v u => ∃ m1, u = S9 0 m1 ∧ Cl 230 266 [249, a, b, c, f] (fun w u' => ∃ m2, u' = S9 0 m2 ∧ JJ n m2) (S9 0 m1)) (S9 0 m) := by
  obtain ⟨tc, pl, hC, hR, hX, hB, hG⟩ := h
  refine s_136 (d := 215) (g := gC 4 m) hi (BC_g 4 hC) (fun v m1 h1 => ⟨m1, rfl, ?_⟩)
  refine s_266 (d := 216) (g := gR 4 m1) (BR_g 4 (BR_tr hR (fun x j q _ => FC_of h1 x j (Or.inl q)))) (fun w m2 h2 => ⟨m2, rfl, tc, pl, ?_, ?_, ?_, ?_, ?_⟩)
  · exact BC_tr (BC_of h1) (fun x j q => FR_of h2 x j (Or.inl q))
  · exact BR_of h2
  · exact RX_fr (Int.le_refl _) (fun x j q => FC_of h1 x j (frC_le (by decide) q)) (fun x j q => FR_of h2 x j (frR_le (by decide) q)) hX
  · exact RB_fr (Nat.le_succ n) ((FR_of h2 1 12 (Or.inl (by decide))).trans (FC_of h1 1 12 (by unfold frC; omega))) ((FR_of h2 249 7 (by unfold frR; omega)).trans (FC_of h1 249 7 (Or.inl (by decide)))) (fun j => (FR_of h2 285 j (by unfold frR; omega)).trans (FC_of h1 285 j (Or.inl (by decide)))) (fun j => (FR_of h2 286 j (by unfold frR; omega)).trans (FC_of h1 286 j (Or.inl (by decide)))) hB
  · exact GSx_fr hC (fun x j q => (FR_of h2 x j (GCl_R q)).trans (FC_of h1 x j (GCl_C q))) hG
theorem two_146 {n : Nat} {a b : Int} {m : Mem} (h : JJ (n + 1) m) : Cl 230 146 [1, a, b] (fun v u => ∃ m1, u = S9 0 m1 ∧ Cl 230 271 [249, a, b] (fun w u' => ∃ m2, u' = S9 0 m2 ∧ JJ n m2) (S9 0 m1)) (S9 0 m) := by
  obtain ⟨tc, pl, hC, hR, hX, hB, hG⟩ := h
  refine s_146 (d := 204) (g := gC 4 m) (BC_g 4 hC) (fun v m1 h1 => ⟨m1, rfl, ?_⟩)
  refine s_271 (d := 215) (g := gR 4 m1) (BR_g 4 (BR_tr hR (fun x j q _ => FC_of h1 x j (Or.inl q)))) (fun w m2 h2 => ⟨m2, rfl, tc, pl, ?_, ?_, ?_, ?_, ?_⟩)
  · exact BC_tr (BC_of h1) (fun x j q => FR_of h2 x j (Or.inl q))
  · exact BR_of h2
  · exact RX_fr (Int.le_refl _) (fun x j q => FC_of h1 x j (frC_le (by decide) q)) (fun x j q => FR_of h2 x j (frR_le (by decide) q)) hX
  · exact RB_fr (Nat.le_succ n) ((FR_of h2 1 12 (Or.inl (by decide))).trans (FC_of h1 1 12 (by unfold frC; omega))) ((FR_of h2 249 7 (by unfold frR; omega)).trans (FC_of h1 249 7 (Or.inl (by decide)))) (fun j => (FR_of h2 285 j (by unfold frR; omega)).trans (FC_of h1 285 j (Or.inl (by decide)))) (fun j => (FR_of h2 286 j (by unfold frR; omega)).trans (FC_of h1 286 j (Or.inl (by decide)))) hB
  · exact GSx_fr hC (fun x j q => (FR_of h2 x j (GCl_R q)).trans (FC_of h1 x j (GCl_C q))) hG
theorem two_154 {n : Nat} {a : Int} {m : Mem} (h : JJ (n + 1) m) : Cl 230 154 [1, a] (fun v u => ∃ m1, u = S9 0 m1 ∧ Cl 230 278 [249, a] (fun w u' => ∃ m2, u' = S9 0 m2 ∧ JJ n m2) (S9 0 m1)) (S9 0 m) := by
  obtain ⟨tc, pl, hC, hR, hX, hB, hG⟩ := h
  refine s_154 (d := 227) (g := gC 4 m) (BC_g 4 hC) (fun v m1 h1 => ⟨m1, rfl, ?_⟩)
  refine s_278 (d := 227) (g := gR 4 m1) (JW_mk (BR_g 4 (BR_tr hR (fun x j q _ => FC_of h1 x j (Or.inl q))))) (fun w m2 h2 => ⟨m2, rfl, tc, pl, ?_, ?_, ?_, ?_, ?_⟩)
  · exact BC_tr (BC_of h1) (fun x j q => FR_of (JW_1 h2) x j (Or.inl q))
  · exact BR_of (JW_1 h2)
  · exact RX_fr (Int.le_refl _) (fun x j q => FC_of h1 x j (frC_le (by decide) q)) (fun x j q => FR_of (JW_1 h2) x j (frR_le (by decide) q)) hX
  · exact RB_fr (Nat.le_succ n) ((FR_of (JW_1 h2) 1 12 (Or.inl (by decide))).trans (FC_of h1 1 12 (by unfold frC; omega))) ((FR_of (JW_1 h2) 249 7 (by unfold frR; omega)).trans (FC_of h1 249 7 (Or.inl (by decide)))) (fun j => (FR_of (JW_1 h2) 285 j (by unfold frR; omega)).trans (FC_of h1 285 j (Or.inl (by decide)))) (fun j => (FR_of (JW_1 h2) 286 j (by unfold frR; omega)).trans (FC_of h1 286 j (Or.inl (by decide)))) hB
  · exact GSx_fr hC (fun x j q => (FR_of (JW_1 h2) x j (GCl_R q)).trans (FC_of h1 x j (GCl_C q))) hG
theorem cB_281 {n : Nat} {a : Int} {m1 : Mem} (h : JJ (n + 1) m1) : Cl 230 281 [249, a] (fun w u' => ∃ m2, u' = S9 0 m2 ∧ JJ n m2) (S9 0 m1) := by
  obtain ⟨tc, pl, hC, hR, hX, hB, hG⟩ := h
  refine s_281 (d := 228) (g := gR 4 m1) (JW_mk (BR_g 4 hR)) (fun w m2 h2 => ⟨m2, rfl, tc, pl, ?_, ?_, ?_, ?_, ?_⟩)
  · exact BC_tr hC (fun x j q => FR_of (JW_1 h2) x j (Or.inl q))
  · exact BR_of (JW_1 h2)
  · exact RX_fr (Int.le_refl _) (fun _ _ _ => rfl) (fun x j q => FR_of (JW_1 h2) x j (frR_le (by decide) q)) hX
  · exact RB_fr (Nat.le_succ n) (FR_of (JW_1 h2) 1 12 (Or.inl (by decide))) (FR_of (JW_1 h2) 249 7 (by unfold frR; omega)) (fun j => FR_of (JW_1 h2) 285 j (by unfold frR; omega)) (fun j => FR_of (JW_1 h2) 286 j (by unfold frR; omega)) hB
  · exact GSx_fr hC (fun x j q => FR_of (JW_1 h2) x j (GCl_R q)) hG
