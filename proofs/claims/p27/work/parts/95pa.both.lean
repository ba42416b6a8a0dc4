/-! both sides reckon paths alike (pure) -/
theorem kb01p (x : Int) {i : Int} (h : 0 ≤ i ∧ i < 32) : iand (ishr x i) 1 = 0 ∨ iand (ishr x i) 1 = 1 := by
  obtain ⟨n, rfl⟩ : ∃ n : Nat, i = n := ⟨i.toNat, by omega⟩
  rw [bit_ask (by omega)]
  split
  · exact Or.inr rfl
  · exact Or.inl rfl
theorem WYC_of {tc pl : Int} {m : Mem} (hC : JC 0 (gC 0 m) tc m) (hR : JR 0 (gR 0 m) tc pl m) (h4 : m 249 4 = m 8 1) (hK : KVs m) : WYC m := fun w w0 w1 => by
  obtain ⟨a, b, c, d, e, f, g⟩ := hK.1 w w0 w1
  have s := JW_st (JW_mk hR) w w0 (by omega)
  exact ⟨e, f, g, by omega, (JC_12 hC w).2⟩
theorem st_e {m m1 : Mem} (ch : ∀ x j, 249 ≤ x → m1 x j = m x j) (k4 : m 249 4 = m 8 1) (hop : m 258 50 = m 15 10) (hs : 0 ≤ m 8 1 ∧ m 8 1 ≤ 14) (hK : KVs m) : pstR m1 (m1 258 50) = pstC m := by
  unfold pstR pstC
  rw [ch 249 4 (by decide), k4]
  refine wS_e _ (fun w q => ?_)
  obtain ⟨a, b, c, d, -⟩ := hK.1 (w : Int) (by omega) (by omega)
  refine ⟨?_, (ch 252 _ (by decide)).trans a, (ch 253 _ (by decide)).trans b⟩
  unfold prR prC
  rw [ch 255 _ (by decide), ch 254 _ (by decide), ch 258 50 (by decide), c, d, hop]
  have hw14 := hs.2
  have z := kb01p (m 15 10) (i := (w : Int)) ⟨by omega, by omega⟩
  by_cases y : iand (ishr (m 8 8) (w : Int)) 1 = 0
  · rw [if_pos (Or.inl y), if_pos (Or.inl y)]
  · by_cases v : iand (ishr (m 15 10) (w : Int)) 1 = 1
    · rw [if_pos (Or.inr v), if_pos (Or.inr (by omega))]
    · rw [if_neg (fun q => q.elim y v), if_neg (fun q => q.elim y (fun u => by omega))]
theorem ap_e {m m1 : Mem} (ch : ∀ x j, 249 ≤ x → m1 x j = m x j) (k3 : m 249 3 = m 8 0) (k4 : m 249 4 = m 8 1) (hop : m 258 50 = m 15 10) (hs : 0 ≤ m 8 1 ∧ m 8 1 ≤ 14) (hK : KVs m) (b y : Int) : apR m1 (m1 258 50) b y = apC m b y := by
  unfold apR apC
  rw [st_e ch k4 hop hs hK, ch 249 3 (by decide), k3]
/-! path on both sides, with its answer -/
theorem two_114 {n : Nat} {a b : Int} {m : Mem} (h : JJ (n + 1) m) : Cl 230 114 [1, a, b] (fun v u => ∃ m1, u = S9 0 m1 ∧ Cl 230 249 [249, a, b] (fun w u' => ∃ m2, u' = S9 0 m2 ∧ JJ n m2 ∧ w = v) (S9 0 m1)) (S9 0 m) := by
  obtain ⟨tc, pl, hC, hR, hX, hB, hG⟩ := h
  have hG0 := hG
  obtain ⟨R, hK, ⟨hI, hD, hS, hO, hN⟩, -⟩ := hG0
  obtain ⟨k3, k4, k5, k6, k7⟩ := hX.2.1
  have hs := JC_s (BC_g 0 hC)
  have hop : m 258 50 = m 15 10 := by have z := hS.2.2.1; rw [c_op, r_op] at z; exact z.symm
  refine f_114 (d := 224) (g := gC 3 m) (BC_g 3 hC) (WYC_of (BC_g 0 hC) (BR_g 0 hR) k4 hK) (fun v m1 h1 fC hv => ⟨m1, rfl, ?_⟩)
  have ch : ∀ x j, 249 ≤ x → m1 x j = m x j := fun x j q => FC_of h1 x j (Or.inl q)
  refine f_249 (d := 225) (g := gR 3 m1) (BR_g 3 (BR_tr hR (fun x j q _ => ch x j q))) (fun w m2 h2 fR hw => ⟨m2, rfl, ⟨tc, pl, ?_, ?_, ?_, ?_, ?_⟩, ?_⟩)
  · exact BC_tr (BC_of h1) (fun x j q => FR_of h2 x j (Or.inl q))
  · exact BR_of h2
  · exact RX_fr (Int.le_refl _) (fun x j q => FC_of h1 x j (frC_le (by decide) q)) (fun x j q => FR_of h2 x j (frR_le (by decide) q)) hX
  · exact RB_fr (Nat.le_succ n) ((FR_of h2 1 12 (Or.inl (by decide))).trans (FC_of h1 1 12 (by unfold frC; omega))) ((FR_of h2 249 7 (by unfold frR; omega)).trans (FC_of h1 249 7 (Or.inl (by decide)))) (fun j => (FR_of h2 285 j (by unfold frR; omega)).trans (FC_of h1 285 j (Or.inl (by decide)))) (fun j => (FR_of h2 286 j (by unfold frR; omega)).trans (FC_of h1 286 j (Or.inl (by decide)))) hB
  · exact GSx_fr hC (fun x j q => by have z := q; unfold GCl at z; exact (fR x j (by omega) (by omega) (by omega) (by omega) (by omega)).trans (fC x j (by omega) (by omega) (by omega))) hG
  · rw [hv, hw, ch 249 3 (by decide), k3, ap_e ch k3 k4 hop (by omega) hK]
