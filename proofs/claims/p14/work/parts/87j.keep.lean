/-! keep and again, to the letter -/
theorem JC_re {l l' : Nat} {g : Fg} {tc tc' : Int} {m m' : Mem} (hl : l ≤ l') (h : JC l g tc m) (h' : JC l' (gC l' m) tc' m') : JC l g tc' m' :=
  ⟨⟨h'.1.1, h.1.2⟩, fun x j q => (h'.2.1 x j (frC_le hl (h.1.2 x j q))).trans (h.2.1 x j q), h'.2.2⟩
theorem kbit {x a i : Int} (ha : 0 ≤ a ∧ a < 3) (hi : 0 ≤ i ∧ i < 3) : iand (ishr (ior x (ishl 1 a)) i) 1 ≠ 0 ↔ (i = a ∨ iand (ishr x i) 1 ≠ 0) := by
  obtain ⟨a, rfl⟩ := Int.eq_ofNat_of_zero_le ha.1
  obtain ⟨i, rfl⟩ := Int.eq_ofNat_of_zero_le hi.1
  rw [bit_ask (by omega), bit_ask (by omega), tb_or, tb_bit (by omega) (by omega)]
  by_cases h : i = a
  · subst h; simp
  · have h2 : ¬ (i : Int) = a := by omega
    simp [h, h2]
theorem kbit0 (i : Int) : iand (ishr 0 i) 1 = 0 ∨ i < 0 ∨ 3 ≤ i := by
  by_cases h : i < 0 ∨ 3 ≤ i
  · exact Or.inr h
  · left
    have : i = 0 ∨ i = 1 ∨ i = 2 := by omega
    rcases this with rfl | rfl | rfl <;> decide
/-- which rows are kept, and how often THE KITCHEN has changed (n calls are still to come) -/
def RB (n : Nat) (m : Mem) : Prop := (0 ≤ m 249 7 ∧ m 249 7 + n ≤ 512) ∧ ∀ i, 0 ≤ i → i < 3 → m 286 i ≤ m 249 7 ∧ (iand (ishr (m 1 12) i) 1 ≠ 0 ↔ m 285 i ≠ 0 ∧ m 286 i = m 249 7)
theorem RB_fr {n k : Nat} {m m' : Mem} (hk : k ≤ n) (e1 : m' 1 12 = m 1 12) (e7 : m' 249 7 = m 249 7) (e85 : ∀ j, m' 285 j = m 285 j) (e86 : ∀ j, m' 286 j = m 286 j) (h : RB n m) : RB k m' := by
  obtain ⟨⟨h0, h1⟩, h2⟩ := h
  refine ⟨⟨by omega, by omega⟩, fun i i0 i1 => ?_⟩
  rw [e1, e7, e85, e86]
  exact h2 i i0 i1
theorem RB_keep {n : Nat} {m m' : Mem} {a : Int} (ha : 0 ≤ a ∧ a < 3) (e1 : m' 1 12 = ior (m 1 12) (ishl 1 a)) (e7 : m' 249 7 = m 249 7) (e85 : ∀ j, m' 285 j = if j = a then 1 else m 285 j) (e86 : ∀ j, m' 286 j = if j = a then m 249 7 else m 286 j) (h : RB (n + 1) m) : RB n m' := by
  obtain ⟨⟨h0, h1⟩, h2⟩ := h
  refine ⟨⟨by omega, by omega⟩, fun i i0 i1 => ?_⟩
  obtain ⟨h3, h4⟩ := h2 i i0 i1
  rw [e1, e7, e85, e86, kbit ha ⟨i0, i1⟩]
  by_cases q : i = a
  · rw [if_pos q, if_pos q]; exact ⟨Int.le_refl _, fun _ => ⟨by decide, rfl⟩, fun _ => Or.inl q⟩
  · rw [if_neg q, if_neg q]; exact ⟨h3, fun z => h4.1 (z.resolve_left q), fun z => Or.inr (h4.2 z)⟩
theorem RB_kit {n : Nat} {m m' : Mem} (e1 : m' 1 12 = 0) (e7 : m' 249 7 = w32 (m 249 7 + 1)) (e85 : ∀ j, m' 285 j = m 285 j) (e86 : ∀ j, m' 286 j = m 286 j) (h : RB (n + 1) m) : RB n m' := by
  obtain ⟨⟨h0, h1⟩, h2⟩ := h
  have e : w32 (m 249 7 + 1) = m 249 7 + 1 := by unfold w32; omega
  rw [e] at e7
  refine ⟨⟨by omega, by omega⟩, fun i i0 i1 => ?_⟩
  obtain ⟨h3, -⟩ := h2 i i0 i1
  rw [e1, e7, e85, e86]
  refine ⟨by omega, fun z => absurd ((kbit0 i).resolve_right (by omega)) z, fun z => absurd z.2 (by omega)⟩
