/-! both sides reckon paths alike (pure) -/
theorem kb01p (x : Int) {i : Int} (h : 0 ≤ i ∧ i < 32) : iand (ishr x i) 1 = 0 ∨ iand (ishr x i) 1 = 1 := by
  obtain ⟨n, rfl⟩ : ∃ n : Nat, i = n := ⟨i.toNat, by omega⟩
  rw [bit_ask (by omega)]
  split
  · exact Or.inr rfl
  · exact Or.inl rfl
theorem WYC_of {tc pl : Int} {m : Mem} (hC : JC 0 (gC 0 m) tc m) (hR : JR 0 (gR 0 m) tc pl m) (h4 : m 249 4 = m 8 1) (hK : KVs m) : WYC m := fun w w0 w1 => by
  obtain ⟨a, b, c, d, e, f, g⟩ := hK.1 w w0 w1
  have s := JW_st (JW_mk hR) w w0 (by omega)
  exact ⟨e, f, g, by omega, (JC_12 hC w).2⟩
theorem st_e {m m1 : Mem} (ch : ∀ x j, 249 ≤ x → m1 x j = m x j) (k4 : m 249 4 = m 8 1) (hop : m 258 50 = m 15 10) (hs : 0 ≤ m 8 1 ∧ m 8 1 ≤ 14) (hK : KVs m) : pstR m1 (m1 258 50) = pstC m := by
  unfold pstR pstC
  rw [ch 249 4 (by decide), k4]
  refine wS_e _ (fun w q => ?_)
  obtain ⟨a, b, c, d, -⟩ := hK.1 (w : Int) (by omega) (by omega)
  refine ⟨?_, (ch 252 _ (by decide)).trans a, (ch 253 _ (by decide)).trans b⟩
  unfold prR prC
  rw [ch 255 _ (by decide), ch 254 _ (by decide), ch 258 50 (by decide), c, d, hop]
  have hw14 := hs.2
  have z := kb01p (m 15 10) (i := (w : Int)) ⟨by omega, by omega⟩
  by_cases y : iand (ishr (m 8 8) (w : Int)) 1 = 0
  · rw [if_pos (Or.inl y), if_pos (Or.inl y)]
  · by_cases v : iand (ishr (m 15 10) (w : Int)) 1 = 1
    · rw [if_pos (Or.inr v), if_pos (Or.inr (by omega))]
    · rw [if_neg (fun q => q.elim y v), if_neg (fun q => q.elim y (fun u => by omega))]
theorem ap_e {m m1 : Mem} (ch : ∀ x j, 249 ≤ x → m1 x j = m x j) (k3 : m 249 3 = m 8 0) (k4 : m 249 4 = m 8 1) (hop : m 258 50 = m 15 10) (hs : 0 ≤ m 8 1 ∧ m 8 1 ≤ 14) (hK : KVs m) (b y : Int) : apR m1 (m1 258 50) b y = apC m b y := by
  unfold apR apC
  rw [st_e ch k4 hop hs hK, ch 249 3 (by decide), k3]
/-! path on both sides, with its answer -/