/-! the component's bounds -/
abbrev hnd (a : Int) : Prop := a = 21 ∨ (31 ≤ a ∧ a < 192 ∧ a % 10 = 7) ∨ (219 ≤ a ∧ a < 249 ∧ a % 10 = 5)
def BdC (tc a j v : Int) : Prop :=
  if a = 2 then (j = 1 → v = tc) else
  if a = 4 then ((j = 1 → 0 ≤ v ∧ v ≤ 40) ∧ (j = 3 → 0 ≤ v ∧ v ≤ 40)) else
  if a = 8 then ((j = 0 → 0 ≤ v ∧ v ≤ 10) ∧ (j = 1 → 0 ≤ v ∧ v ≤ 14) ∧ (j = 2 → 0 ≤ v ∧ v ≤ 5) ∧ (j = 3 → 0 ≤ v ∧ v ≤ 5)) else
  if a = 10 then 0 ≤ v ∧ v ≤ 9 else
  if a = 11 then 0 ≤ v ∧ v ≤ 9 else
  if a = 12 then 0 ≤ v ∧ v ≤ 9 else
  if a = 191 then ((j = 6 → 0 ≤ v ∧ v ≤ 10) ∧ (j = 7 → v ≤ 2147483647)) else
  if a = 194 then 0 ≤ v ∧ v ≤ 9 else
  if a = 211 then ((j = 4 → 0 ≤ v ∧ v ≤ 8) ∧ (j = 8 → 0 ≤ v ∧ v ≤ 10)) else
  if a = 212 then 0 ≤ v ∧ v ≤ 9 else
  if a = 25 then (j = 7 → 0 ≤ v ∧ v ≤ 1) else
  if a = 1 then (j = 14 → 0 ≤ v ∧ v ≤ 16) else
  if hnd a then 0 ≤ v ∧ v ≤ 1 else
  if a = 193 then v ≤ 2147483647 else
  if a = 195 then v ≤ 2147483647 else
  if a = 206 then v ≤ 2147483647 else
  if a = 207 then v ≤ 2147483647 else
  if a = 196 then ((j = 8 → v ≤ 10) ∧ (j = 10 → v ≤ 2147483647)) else
  if a = 205 then (j = 9 → v ≤ 5) else True
/-- what is told of a call: cells that stay as they are told -/
abbrev Fg : Type := (Int → Int → Prop) × Mem
/-- the cells that no call of that level writes -/
abbrev frC (l : Nat) (a j : Int) : Prop := 249 ≤ a ∨ (1 ≤ l ∧ (a = 3 ∨ (a = 211 ∧ j = 4) ∨ a = 212 ∨ a = 213)) ∨ (2 ≤ l ∧ (8 ≤ a ∧ a ≤ 14)) ∨ (3 ≤ l ∧ a = 1 ∧ j = 12) ∨ (4 ≤ l ∧ (a = 5 ∨ (a = 4 ∧ j = 1) ∨ (15 ≤ a ∧ a ≤ 24) ∨ (a = 26 ∧ 8 ≤ j) ∨ (31 ≤ a ∧ a ≤ 190) ∨ (217 ≤ a ∧ a ≤ 248 ∧ a ≠ 218)))
def LVC (l : Nat) (g : Fg) : Prop := ∀ x j, g.1 x j → frC l x j
theorem frC_le {l l' : Nat} (h : l ≤ l') {x j : Int} (q : frC l x j) : frC l' x j := by
  unfold frC at q ⊢
  rcases q with q | ⟨q, r⟩ | ⟨q, r⟩ | ⟨q, r⟩ | ⟨q, r⟩
  · exact Or.inl q
  · exact Or.inr (Or.inl ⟨by omega, r⟩)
  · exact Or.inr (Or.inr (Or.inl ⟨by omega, r⟩))
  · exact Or.inr (Or.inr (Or.inr (Or.inl ⟨by omega, r⟩)))
  · exact Or.inr (Or.inr (Or.inr (Or.inr ⟨by omega, r⟩)))
def JC (l : Nat) (g : Fg) (tc : Int) (m : Mem) : Prop := ((0 ≤ tc ∧ tc ≤ 80) ∧ LVC l g) ∧ (∀ x j, g.1 x j → m x j = g.2 x j) ∧ ∀ a j, BdC tc a j (m a j)
theorem JC_up {l : Nat} {g : Fg} {tc : Int} {m : Mem} {a j v : Int} (h : JC l g tc m) (ha : ¬ frC l a j) (hv : BdC tc a j v) : JC l g tc (upm m a j v) := by
  refine ⟨h.1, fun x y hx => ?_, fun x y => ?_⟩
  · unfold upm; rw [if_neg (by rintro ⟨rfl, rfl⟩; exact ha (h.1.2 _ _ hx))]; exact h.2.1 x y hx
  · unfold upm
    split
    · rename_i q; rw [q.1, q.2]; exact hv
    · exact h.2.2 x y
theorem JC_l {l : Nat} {g : Fg} {tc : Int} {m : Mem} (h : JC l g tc m) : LVC l g := h.1.2
theorem JC_of {l l' : Nat} {g : Fg} {tc : Int} {m : Mem} (_ : LVC l g) (h : JC l g tc m) (hl : l ≤ l') : JC l' g tc m := ⟨⟨h.1.1, fun x j q => frC_le hl (h.1.2 x j q)⟩, h.2⟩
theorem JC_dn {l l' : Nat} {g : Fg} {tc : Int} {m : Mem} (hL : LVC l g) (h : JC l' g tc m) : JC l g tc m := ⟨⟨h.1.1, hL⟩, h.2⟩
theorem JC_len {l : Nat} {g : Fg} {tc : Int} {m : Mem} {v : Int} (h : JC l g tc m) (h0 : 0 ≤ v) (h1 : v ≤ 80) : JC l g v (upm m 2 1 v) := by
  refine ⟨⟨⟨h0, h1⟩, h.1.2⟩, fun x y hx => ?_, fun x y => ?_⟩
  · unfold upm; rw [if_neg (by rintro ⟨rfl, rfl⟩; have := h.1.2 _ _ hx; unfold frC at this; omega)]; exact h.2.1 x y hx
  · by_cases hx : x = 2
    · subst hx
      unfold upm BdC
      simp
      intro hy; simp [hy]
    · rw [upm_a _ _ _ _ _ _ hx]
      have := h.2.2 x y
      unfold BdC at this ⊢
      rw [if_neg hx] at this ⊢
      exact this
theorem JC_s {l : Nat} {g : Fg} {tc : Int} {m : Mem} (h : JC l g tc m) : m 2 1 = tc ∧ 0 ≤ tc ∧ tc ≤ 80 ∧ 0 ≤ m 4 1 ∧ m 4 1 ≤ 40 ∧ 0 ≤ m 4 3 ∧ m 4 3 ≤ 40 ∧ 0 ≤ m 8 0 ∧ m 8 0 ≤ 10 ∧ 0 ≤ m 8 1 ∧ m 8 1 ≤ 14 ∧ 0 ≤ m 8 2 ∧ m 8 2 ≤ 5 ∧ 0 ≤ m 8 3 ∧ m 8 3 ≤ 5 ∧ 0 ≤ m 191 6 ∧ m 191 6 ≤ 10 ∧ 0 ≤ m 211 4 ∧ m 211 4 ≤ 8 ∧ 0 ≤ m 211 8 ∧ m 211 8 ≤ 10 ∧ 0 ≤ m 1 14 ∧ m 1 14 ≤ 16 ∧ 0 ≤ m 25 7 ∧ m 25 7 ≤ 1 ∧ m 191 7 ≤ 2147483647 ∧ m 196 8 ≤ 10 ∧ m 205 9 ≤ 5 ∧ m 196 10 ≤ 2147483647 := by
  have a1 := h.2.2 2 1
  have a2 := h.2.2 4 1
  have a3 := h.2.2 4 3
  have a4 := h.2.2 8 0
  have a5 := h.2.2 8 1
  have a6 := h.2.2 8 2
  have a7 := h.2.2 8 3
  have a8 := h.2.2 191 6
  have a9 := h.2.2 211 4
  have b1 := h.2.2 211 8
  have b2 := h.2.2 1 14
  have b3 := h.2.2 25 7
  have b4 := h.2.2 191 7
  have b5 := h.2.2 196 8
  have b6 := h.2.2 205 9
  have b7 := h.2.2 196 10
  have h1 := h.1
  simp [BdC, hnd] at a1 a2 a3 a4 a5 a6 a7 a8 a9 b1 b2 b3 b4 b5 b6 b7
  omega
theorem JC_10 {l : Nat} {g : Fg} {tc : Int} {m : Mem} (h : JC l g tc m) (j : Int) : 0 ≤ m 10 j ∧ m 10 j ≤ 9 := by have := h.2.2 10 j; simpa [BdC] using this
theorem JC_11 {l : Nat} {g : Fg} {tc : Int} {m : Mem} (h : JC l g tc m) (j : Int) : 0 ≤ m 11 j ∧ m 11 j ≤ 9 := by have := h.2.2 11 j; simpa [BdC] using this
theorem JC_12 {l : Nat} {g : Fg} {tc : Int} {m : Mem} (h : JC l g tc m) (j : Int) : 0 ≤ m 12 j ∧ m 12 j ≤ 9 := by have := h.2.2 12 j; simpa [BdC] using this
theorem JC_194 {l : Nat} {g : Fg} {tc : Int} {m : Mem} (h : JC l g tc m) (j : Int) : 0 ≤ m 194 j ∧ m 194 j ≤ 9 := by have := h.2.2 194 j; simpa [BdC] using this
theorem JC_212 {l : Nat} {g : Fg} {tc : Int} {m : Mem} (h : JC l g tc m) (j : Int) : 0 ≤ m 212 j ∧ m 212 j ≤ 9 := by have := h.2.2 212 j; simpa [BdC] using this
theorem JC_h {l : Nat} {g : Fg} {tc : Int} {m : Mem} (h : JC l g tc m) (j : Int) : 0 ≤ m 21 j ∧ m 21 j ≤ 1 := by have := h.2.2 21 j; simpa [BdC, hnd] using this
theorem JC_193 {l : Nat} {g : Fg} {tc : Int} {m : Mem} (h : JC l g tc m) (j : Int) : m 193 j ≤ 2147483647 := by have := h.2.2 193 j; simpa [BdC, hnd] using this
theorem JC_195 {l : Nat} {g : Fg} {tc : Int} {m : Mem} (h : JC l g tc m) (j : Int) : m 195 j ≤ 2147483647 := by have := h.2.2 195 j; simpa [BdC, hnd] using this
theorem JC_206 {l : Nat} {g : Fg} {tc : Int} {m : Mem} (h : JC l g tc m) (j : Int) : m 206 j ≤ 2147483647 := by have := h.2.2 206 j; simpa [BdC, hnd] using this
theorem JC_207 {l : Nat} {g : Fg} {tc : Int} {m : Mem} (h : JC l g tc m) (j : Int) : m 207 j ≤ 2147483647 := by have := h.2.2 207 j; simpa [BdC, hnd] using this
theorem wrn3 (e : Int) (m : Mem) (a j v : Int) : wr (S9 e m) 3 a j v = S9 e (upm m a j v) := rfl
theorem wrn1 (e : Int) (m : Mem) (a j v : Int) : wr (S9 e m) 1 a j v = S9 e (upm m a j v) := rfl
/-! THE TEXT's readers -/
theorem BdC_s {tc a j v : Int} (h : a ≠ 1 ∧ a ≠ 2 ∧ a ≠ 4 ∧ a ≠ 8 ∧ a ≠ 10 ∧ a ≠ 11 ∧ a ≠ 12 ∧ a ≠ 25 ∧ a ≠ 191 ∧ a ≠ 194 ∧ a ≠ 211 ∧ a ≠ 212 ∧ a ≠ 193 ∧ a ≠ 195 ∧ a ≠ 206 ∧ a ≠ 207 ∧ a ≠ 196 ∧ a ≠ 205 ∧ ¬ hnd a) : BdC tc a j v := by
  unfold BdC
  obtain ⟨h1, h2, h3, h4, h5, h6, h12, h7, h8, h9, h10, h11, k1, k2, k3, k4, k5, k6, h13⟩ := h
  rw [if_neg h2, if_neg h3, if_neg h4, if_neg h5, if_neg h6, if_neg h12, if_neg h8, if_neg h9, if_neg h10, if_neg h11, if_neg h7, if_neg h1, if_neg h13, if_neg k1, if_neg k2, if_neg k3, if_neg k4, if_neg k5, if_neg k6]
  trivial
def cpf (m : Mem) (a i b j n : Int) : Mem := fun x y => if x = b ∧ j ≤ y ∧ y < j + n then m a (y - j + i) else m x y
theorem cpmS (e : Int) (m : Mem) (a i b j n : Int) : cpm (S9 e m) a i b j n = S9 e (cpf m a i b j n) := rfl
theorem cpok9 (e : Int) (m : Mem) (a i b j n : Int) : cpok (S9 e m) a i b j n = ((0 < a ∧ a < 289 ∧ kcls a = 14) ∧ (0 < b ∧ b < 289 ∧ kcls b = 14) ∧ 0 ≤ i ∧ 0 ≤ j ∧ 0 ≤ n ∧ i + n ≤ klen a ∧ j + n ≤ klen b) := rfl
theorem JC_cp {l : Nat} {g : Fg} {tc : Int} {m : Mem} {a i b j n : Int} (h : JC l g tc m) (ha : ∀ j, ¬ frC l b j) (hv : ∀ y v, BdC tc b y v) : JC l g tc (cpf m a i b j n) := by
  refine ⟨h.1, fun x y hx => ?_, fun x y => ?_⟩
  · unfold cpf; rw [if_neg (by rintro ⟨rfl, -⟩; exact ha y (h.1.2 _ _ hx))]; exact h.2.1 x y hx
  · unfold cpf
    split
    · rename_i q; rw [q.1]; exact hv y _
    · exact h.2.2 x y
theorem hnd_ne {a : Int} (h : hnd a) : a ≠ 2 ∧ a ≠ 4 ∧ a ≠ 8 ∧ a ≠ 10 ∧ a ≠ 11 ∧ a ≠ 12 ∧ a ≠ 191 ∧ a ≠ 194 ∧ a ≠ 211 ∧ a ≠ 212 ∧ a ≠ 25 ∧ a ≠ 1 := by unfold hnd at h; omega
theorem BdC_h {tc a j v : Int} (h : hnd a) : BdC tc a j v ↔ 0 ≤ v ∧ v ≤ 1 := by
  obtain ⟨h1, h2, h3, h4, h5, h6, h7, h8, h9, h10, h11, h12⟩ := hnd_ne h
  unfold BdC
  rw [if_neg h1, if_neg h2, if_neg h3, if_neg h4, if_neg h5, if_neg h6, if_neg h7, if_neg h8, if_neg h9, if_neg h10, if_neg h11, if_neg h12, if_pos h]
theorem JC_cph {l : Nat} {g : Fg} {tc : Int} {m : Mem} {a i b j n : Int} (h : JC l g tc m) (hb : ∀ j, ¬ frC l b j) (ha : hnd a) (hh : hnd b) : JC l g tc (cpf m a i b j n) := by
  refine ⟨h.1, fun x y hx => ?_, fun x y => ?_⟩
  · unfold cpf; rw [if_neg (by rintro ⟨rfl, -⟩; exact hb y (h.1.2 _ _ hx))]; exact h.2.1 x y hx
  · unfold cpf
    split
    · rename_i q; rw [q.1]; exact (BdC_h hh).2 ((BdC_h ha).1 (h.2.2 a _))
    · exact h.2.2 x y
theorem rlp2 {a0 a1 : Int} : rl [a0, a1] = rl [a0, a1, 0] := by funext j; unfold rl; rcases j with _ | j <;> (try rfl) <;> (repeat (rcases j with _ | j <;> (try rfl)))
theorem rlp3 {a0 a1 a2 : Int} : rl [a0, a1, a2] = rl [a0, a1, a2, 0] := by funext j; unfold rl; rcases j with _ | j <;> (try rfl) <;> (repeat (rcases j with _ | j <;> (try rfl)))
theorem rlp3_2 {a0 a1 a2 : Int} : rl [a0, a1, a2] = rl [a0, a1, a2, 0, 0] := by funext j; unfold rl; rcases j with _ | j <;> (try rfl) <;> (repeat (rcases j with _ | j <;> (try rfl)))
theorem rlp3_3 {a0 a1 a2 : Int} : rl [a0, a1, a2] = rl [a0, a1, a2, 0, 0, 0] := by funext j; unfold rl; rcases j with _ | j <;> (try rfl) <;> (repeat (rcases j with _ | j <;> (try rfl)))
theorem rlp4 {a0 a1 a2 a3 : Int} : rl [a0, a1, a2, a3] = rl [a0, a1, a2, a3, 0] := by funext j; unfold rl; rcases j with _ | j <;> (try rfl) <;> (repeat (rcases j with _ | j <;> (try rfl)))
theorem rlp4_2 {a0 a1 a2 a3 : Int} : rl [a0, a1, a2, a3] = rl [a0, a1, a2, a3, 0, 0] := by funext j; unfold rl; rcases j with _ | j <;> (try rfl) <;> (repeat (rcases j with _ | j <;> (try rfl)))
theorem rlp5 {a0 a1 a2 a3 a4 : Int} : rl [a0, a1, a2, a3, a4] = rl [a0, a1, a2, a3, a4, 0] := by funext j; unfold rl; rcases j with _ | j <;> (try rfl) <;> (repeat (rcases j with _ | j <;> (try rfl)))
theorem rlp5_2 {a0 a1 a2 a3 a4 : Int} : rl [a0, a1, a2, a3, a4] = rl [a0, a1, a2, a3, a4, 0, 0] := by funext j; unfold rl; rcases j with _ | j <;> (try rfl) <;> (repeat (rcases j with _ | j <;> (try rfl)))
theorem rlp6 {a0 a1 a2 a3 a4 a5 : Int} : rl [a0, a1, a2, a3, a4, a5] = rl [a0, a1, a2, a3, a4, a5, 0] := by funext j; unfold rl; rcases j with _ | j <;> (try rfl) <;> (repeat (rcases j with _ | j <;> (try rfl)))
theorem rlp6_2 {a0 a1 a2 a3 a4 a5 : Int} : rl [a0, a1, a2, a3, a4, a5] = rl [a0, a1, a2, a3, a4, a5, 0, 0] := by funext j; unfold rl; rcases j with _ | j <;> (try rfl) <;> (repeat (rcases j with _ | j <;> (try rfl)))
theorem rlp7_2 {a0 a1 a2 a3 a4 a5 a6 : Int} : rl [a0, a1, a2, a3, a4, a5, a6] = rl [a0, a1, a2, a3, a4, a5, a6, 0, 0] := by funext j; unfold rl; rcases j with _ | j <;> (try rfl) <;> (repeat (rcases j with _ | j <;> (try rfl)))
theorem rlp8 {a0 a1 a2 a3 a4 a5 a6 a7 : Int} : rl [a0, a1, a2, a3, a4, a5, a6, a7] = rl [a0, a1, a2, a3, a4, a5, a6, a7, 0] := by funext j; unfold rl; rcases j with _ | j <;> (try rfl) <;> (repeat (rcases j with _ | j <;> (try rfl)))
theorem rlp9 {a0 a1 a2 a3 a4 a5 a6 a7 a8 : Int} : rl [a0, a1, a2, a3, a4, a5, a6, a7, a8] = rl [a0, a1, a2, a3, a4, a5, a6, a7, a8, 0] := by funext j; unfold rl; rcases j with _ | j <;> (try rfl) <;> (repeat (rcases j with _ | j <;> (try rfl)))
theorem rlp9_2 {a0 a1 a2 a3 a4 a5 a6 a7 a8 : Int} : rl [a0, a1, a2, a3, a4, a5, a6, a7, a8] = rl [a0, a1, a2, a3, a4, a5, a6, a7, a8, 0, 0] := by funext j; unfold rl; rcases j with _ | j <;> (try rfl) <;> (repeat (rcases j with _ | j <;> (try rfl)))
theorem rlp10 {a0 a1 a2 a3 a4 a5 a6 a7 a8 a9 : Int} : rl [a0, a1, a2, a3, a4, a5, a6, a7, a8, a9] = rl [a0, a1, a2, a3, a4, a5, a6, a7, a8, a9, 0] := by funext j; unfold rl; rcases j with _ | j <;> (try rfl) <;> (repeat (rcases j with _ | j <;> (try rfl)))
theorem rlp11_2 {a0 a1 a2 a3 a4 a5 a6 a7 a8 a9 a10 : Int} : rl [a0, a1, a2, a3, a4, a5, a6, a7, a8, a9, a10] = rl [a0, a1, a2, a3, a4, a5, a6, a7, a8, a9, a10, 0, 0] := by funext j; unfold rl; rcases j with _ | j <;> (try rfl) <;> (repeat (rcases j with _ | j <;> (try rfl)))
theorem JC_sz {l : Nat} {g : Fg} {tc : Int} {m : Mem} (h : JC l g tc m) : w32 (m 191 6 - 1) = m 191 6 - 1 ∧ m 191 6 - 1 ≤ 9 := by
  have := JC_s h
  unfold w32
  omega