/-! THE KITCHEN's call of the reference -/
theorem BdR_mono {tc pl pl' a j v : Int} (h : BdR tc pl a j v) (hp : pl ≤ pl') : BdR tc pl' a j v := by
  have hR : ∀ {x y : Int}, RBd pl x y → RBd pl' x y := by
    intro x y q
    refine ⟨fun a1 a2 => ?_, fun a1 a2 a3 => ?_, q.2.2.1, q.2.2.2⟩
    · have := q.1 a1 a2; omega
    · have := q.2.1 a1 a2 a3; omega
  unfold BdR at h ⊢
  by_cases q : a = 249
  · rw [if_pos q] at h ⊢
    exact ⟨h.1, h.2.1, fun e => by have := h.2.2.1 e; omega, h.2.2.2⟩
  rw [if_neg q] at h ⊢
  by_cases q : a = 252
  · rw [if_pos q] at h ⊢; omega
  rw [if_neg q] at h ⊢
  by_cases q : a = 253
  · rw [if_pos q] at h ⊢; omega
  rw [if_neg q] at h ⊢
  by_cases q : a = 254
  · rw [if_pos q] at h ⊢; exact h
  rw [if_neg q] at h ⊢
  by_cases q : a = 258
  · rw [if_pos q] at h ⊢; exact hR h
  rw [if_neg q] at h ⊢
  by_cases q : a = 259
  · rw [if_pos q] at h ⊢; exact hR h
  rw [if_neg q] at h ⊢
  by_cases q : a = 269
  · rw [if_pos q] at h ⊢; exact hR h
  rw [if_neg q] at h ⊢
  by_cases q : a = 287
  · rw [if_pos q] at h ⊢; exact hR h
  rw [if_neg q] at h ⊢
  exact h
theorem JB_mono {l : Nat} {g : Fg} {tc pl pl' : Int} {m : Mem} (h : JB l g tc pl m) (hp : pl ≤ pl') (hp2 : pl' ≤ 10) : JB l g tc pl' m := ⟨h.1, ⟨by have := h.2.1; omega, hp2⟩, h.2.2.1, fun a j => BdR_mono (h.2.2.2 a j) hp⟩
def KC (g : Fg) (pl a b c f P : Int) (m : Mem) : Prop := JB 1 g 0 pl m ∧ (∀ w, 0 ≤ w → w < m 249 4 → 1 ≤ m 254 w) ∧ COK (m 265) (m 249 32) ∧ (m 249 26 = a ∧ m 249 27 = b ∧ m 249 28 = c ∧ m 249 29 = f) ∧ KRf P b c f m
abbrev nKC (a j : Int) : Prop := a ≠ 254 ∧ a ≠ 262 ∧ a ≠ 263 ∧ a ≠ 264 ∧ a ≠ 265 ∧ (a = 249 → j ≠ 4 ∧ j ≠ 26 ∧ j ≠ 27 ∧ j ≠ 28 ∧ j ≠ 29 ∧ j ≠ 32)
theorem KC_up {g : Fg} {pl x y z t P : Int} {m : Mem} {a j v : Int} (h : KC g pl x y z t P m) (ha : ¬ frR 1 a j) (hn : nKC a j) (hv : BdR 0 pl a j v) : KC g pl x y z t P (upm m a j v) := by
  obtain ⟨hB, hw, hC, hc, hf⟩ := h
  obtain ⟨n1, n2, n3, n4, n5, n6⟩ := hn
  have e4 : upm m a j v 249 4 = m 249 4 := upn (fun q => by have := n6 q.symm; omega)
  have e26 : upm m a j v 249 26 = m 249 26 := upn (fun q => by have := n6 q.symm; omega)
  have e27 : upm m a j v 249 27 = m 249 27 := upn (fun q => by have := n6 q.symm; omega)
  have e28 : upm m a j v 249 28 = m 249 28 := upn (fun q => by have := n6 q.symm; omega)
  have e29 : upm m a j v 249 29 = m 249 29 := upn (fun q => by have := n6 q.symm; omega)
  have e32 : upm m a j v 249 32 = m 249 32 := upn (fun q => by have := n6 q.symm; omega)
  have e54 : upm m a j v 254 = m 254 := by funext y; exact upm_a _ _ _ _ _ _ (fun q => n1 q.symm)
  have e65 : upm m a j v 265 = m 265 := by funext y; exact upm_a _ _ _ _ _ _ (fun q => n5 q.symm)
  unfold KC
  rw [e4, e26, e27, e28, e29, e32, e54, e65]
  exact ⟨JB_up hB ha hv, hw, hC, hc, KRf_up hf (fun q => absurd q n2) (fun q => absurd q n3) (fun q => absurd q n4)⟩
theorem KC_254 {g : Fg} {pl x y z t P : Int} {m : Mem} {j v : Int} (h : KC g pl x y z t P m) (hj : m 249 4 ≤ j) (hv : 0 ≤ v ∧ v ≤ 9) : KC g pl x y z t P (upm m 254 j v) := by
  obtain ⟨hB, hw, hC, hc, hf⟩ := h
  have e9 : ∀ y, upm m 254 j v 249 y = m 249 y := fun y => upm_a _ _ _ _ _ _ (by decide)
  have e65 : upm m 254 j v 265 = m 265 := by funext y; exact upm_a _ _ _ _ _ _ (by decide)
  refine ⟨JB_up hB (by unfold frR; omega) (by simp [BdR]; exact hv), ?_, ?_, ?_, KRf_up hf (fun q => absurd q (by decide)) (fun q => absurd q (by decide)) (fun q => absurd q (by decide))⟩
  · intro w q0 q1
    rw [e9] at q1
    rw [upm_k (by omega)]
    exact hw w q0 q1
  · rw [e9, e65]; exact hC
  · rw [e9, e9, e9, e9]; exact hc
theorem KC_4 {g : Fg} {pl x y z t P : Int} {m : Mem} {v : Int} (h : KC g pl x y z t P m) (hv : v = m 249 4 + 1) (hl : 0 ≤ v ∧ v ≤ 14) (h1 : 1 ≤ m 254 (m 249 4)) : KC g pl x y z t P (upm m 249 4 v) := by
  obtain ⟨hB, hw, hC, hc, hf⟩ := h
  have e9 : ∀ y, y ≠ 4 → upm m 249 4 v 249 y = m 249 y := fun y hy => upm_k hy
  have e65 : upm m 249 4 v 265 = m 265 := by funext y; exact upm_a _ _ _ _ _ _ (by decide)
  have e54 : upm m 249 4 v 254 = m 254 := by funext y; exact upm_a _ _ _ _ _ _ (by decide)
  refine ⟨JB_up hB (by unfold frR; omega) (by simp [BdR]; exact hl), ?_, ?_, ?_, KRf_up hf (fun q => absurd q (by decide)) (fun q => absurd q (by decide)) (fun q => absurd q (by decide))⟩
  · intro w q0 q1
    rw [upm_v] at q1
    rw [e54]
    by_cases e : w = m 249 4
    · rw [e]; exact h1
    · exact hw w q0 (by omega)
  · rw [e9 32 (by decide), e65]; exact hC
  · rw [e9 26 (by decide), e9 27 (by decide), e9 28 (by decide), e9 29 (by decide)]; exact hc
theorem rb_one {pl p i v : Int} (hp : 0 ≤ p ∧ p ≤ 4) (hi : 0 ≤ i ∧ i ≤ 6) (h0 : i = 0 → 0 ≤ v ∧ v ≤ pl - 1) (h3 : i = 3 → 0 ≤ v ∧ v ≤ 1) (h5 : i = 5 → -1 ≤ v ∧ v ≤ 4) : RBd pl (15 + 7 * p + i) v := by
  rw [rb_i (by omega) (by omega)]
  refine ⟨fun q => absurd q (by omega), fun q0 q1 q2 => h0 (by omega), fun q0 q1 q2 => h3 (by omega), fun q0 q1 q2 => h5 (by omega)⟩
theorem KC_s {g : Fg} {pl x y z t P : Int} {m : Mem} (h : KC g pl x y z t P m) : 1 ≤ pl ∧ pl ≤ 10 ∧ m 249 26 = x ∧ m 249 27 = y ∧ m 249 28 = z ∧ m 249 29 = t := ⟨h.1.2.1.1, h.1.2.1.2, h.2.2.2.1⟩
theorem w1p {q : Int} (h0 : 0 ≤ q ∧ q ≤ 300) : w32 (q + 1) = q + 1 := by unfold w32; omega
theorem KR_00 {m : Mem} (h : m 249 20 ≤ 76 ∧ m 249 26 = 0 ∧ m 249 27 = 0 ∧ m 249 28 = 0 ∧ m 249 29 = 0 ∧ m 249 3 ≤ 10 ∧ m 249 4 ≤ 14 ∧ m 249 5 ≤ 5 ∧ m 249 6 ≤ 5) : KR m := by
  refine ⟨by unfold KRc; omega, fun k h0 h1 => absurd h1 (by omega), fun k h0 h1 => absurd h1 (by omega), fun k h0 h1 => absurd h1 (by omega)⟩
theorem KC_end {g : Fg} {pl A B C F P : Int} {m : Mem} (h : KC g pl A B C F P m) (h3 : m 249 3 = pl ∨ m 249 3 = 0 ∧ pl = 1) : JR 1 g 0 pl m := ⟨h.1, h3, h.2.1, h.2.2.1⟩
theorem KC_beg {g : Fg} {pl W : Int} {N : Int → Int} {m : Mem} (h : JW 1 g 0 pl N W m) (hK : KR m) : ∃ pl', (m 249 3 + m 249 26 = pl' ∨ m 249 3 + m 249 26 = 0 ∧ pl' = 1) ∧ m 249 3 + m 249 26 ≤ pl' ∧ KC g pl' (m 249 26) (m 249 27) (m 249 28) (m 249 29) (m 249 3 + m 249 26) m := by
  have hs := JW_s h
  have h3 := (JW_1 h).2.1
  have hc := hK.1
  unfold KRc at hc
  by_cases e : m 249 3 + m 249 26 = 0
  · exact ⟨1, Or.inr ⟨e, rfl⟩, by omega, JB_mono (JW_1 h).1 (by omega) (by omega), (JW_1 h).2.2.1, (JW_1 h).2.2.2, ⟨rfl, rfl, rfl, rfl⟩, hK.2⟩
  · exact ⟨m 249 3 + m 249 26, Or.inl rfl, Int.le_refl _, JB_mono (JW_1 h).1 (by omega) (by omega), (JW_1 h).2.2.1, (JW_1 h).2.2.2, ⟨rfl, rfl, rfl, rfl⟩, hK.2⟩