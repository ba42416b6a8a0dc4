/-! the reference's bounds -/
def RBd (pl j v : Int) : Prop :=
  (j % 52 < 15 → j % 52 % 3 = 1 → -1 ≤ v ∧ v ≤ pl - 1) ∧
  (15 ≤ j % 52 → j % 52 < 50 → (j % 52 - 15) % 7 = 0 → 0 ≤ v ∧ v ≤ pl - 1) ∧
  (15 ≤ j % 52 → j % 52 < 50 → (j % 52 - 15) % 7 = 3 → 0 ≤ v ∧ v ≤ 1) ∧
  (15 ≤ j % 52 → j % 52 < 50 → (j % 52 - 15) % 7 = 5 → -1 ≤ v ∧ v ≤ 4)
def BdR (tc pl a j v : Int) : Prop :=
  if a = 249 then ((j = 18 → v = tc) ∧ (j = 1 → 0 ≤ v ∧ v ≤ 24) ∧ (j = 3 → 0 ≤ v ∧ v ≤ pl) ∧ (j = 4 → 0 ≤ v ∧ v ≤ 14) ∧ (j = 5 → 0 ≤ v ∧ v ≤ 5) ∧ (j = 6 → 0 ≤ v ∧ v ≤ 5) ∧ (j = 32 → 0 ≤ v ∧ v ≤ 80) ∧ (j = 39 → 0 ≤ v ∧ v ≤ 15) ∧ (j = 53 → 0 ≤ v ∧ v ≤ 10) ∧ (j = 62 → 0 ≤ v ∧ v ≤ 8) ∧ (j = 66 → 0 ≤ v ∧ v ≤ 10) ∧ (j = 44 → 0 ≤ v ∧ v ≤ 60)) else
  if a = 252 then 0 ≤ v ∧ v ≤ pl - 1 else
  if a = 253 then 0 ≤ v ∧ v ≤ pl - 1 else
  if a = 254 then 0 ≤ v ∧ v ≤ 9 else
  if a = 258 then RBd pl j v else
  if a = 259 then RBd pl j v else
  if a = 269 then RBd pl j v else
  if a = 287 then RBd pl j v else
  if a = 273 then 0 ≤ v ∧ v ≤ 1000000 else
  if a = 274 then 0 ≤ v ∧ v ≤ 1000000 else
  if a = 275 then 0 ≤ v ∧ v ≤ 9 else
  if a = 278 then 0 ≤ v ∧ v ≤ 4 else True
/-- the height of the stack ahead of each code -/
def hgt (c : Int → Int) : Nat → Int
  | 0 => 0
  | k + 1 => hgt c k + (if c k = 3000 then 0 else if 2000 ≤ c k then -1 else 1)
def okc (h v : Int) : Prop := (v = 3000 → 1 ≤ h) ∧ (v ≠ 3000 → 2000 ≤ v → 2 ≤ h) ∧ (v < 2000 → v ≤ 1007)
def COK (c : Int → Int) (n : Int) : Prop := ∀ k : Nat, (k : Int) < n → okc (hgt c k) (c k)
/-- the cells that no call of that level writes -/
abbrev frR (l : Nat) (a j : Int) : Prop := a < 249 ∨ 288 ≤ a ∨ (1 ≤ l ∧ (a = 260 ∨ a = 281 ∨ a = 282 ∨ (a = 249 ∧ j = 62))) ∨ (2 ≤ l ∧ ((251 ≤ a ∧ a ≤ 257) ∨ (a = 249 ∧ 3 ≤ j ∧ j ≤ 6))) ∨ (3 ≤ l ∧ (a = 285 ∨ a = 286 ∨ (a = 249 ∧ j = 7))) ∨ (4 ≤ l ∧ (a = 265 ∨ a = 258 ∨ a = 269 ∨ a = 287 ∨ (a = 249 ∧ (j = 32 ∨ j = 39))))
def LVR (l : Nat) (g : Fg) : Prop := ∀ x j, g.1 x j → frR l x j
theorem frR_le {l l' : Nat} (h : l ≤ l') {x j : Int} (q : frR l x j) : frR l' x j := by
  unfold frR at q ⊢
  rcases q with q | q | ⟨q, r⟩ | ⟨q, r⟩ | ⟨q, r⟩ | ⟨q, r⟩
  · exact Or.inl q
  · exact Or.inr (Or.inl q)
  · exact Or.inr (Or.inr (Or.inl ⟨by omega, r⟩))
  · exact Or.inr (Or.inr (Or.inr (Or.inl ⟨by omega, r⟩)))
  · exact Or.inr (Or.inr (Or.inr (Or.inr (Or.inl ⟨by omega, r⟩))))
  · exact Or.inr (Or.inr (Or.inr (Or.inr (Or.inr ⟨by omega, r⟩))))
def JB (l : Nat) (g : Fg) (tc pl : Int) (m : Mem) : Prop := ((0 ≤ tc ∧ tc ≤ 80) ∧ LVR l g) ∧ (1 ≤ pl ∧ pl ≤ 10) ∧ (∀ x j, g.1 x j → m x j = g.2 x j) ∧ ∀ a j, BdR tc pl a j (m a j)
def JS (pl : Int) (m : Mem) : Prop := (m 249 3 = pl ∨ m 249 3 = 0 ∧ pl = 1) ∧ (∀ w, 0 ≤ w → w < m 249 4 → 1 ≤ m 254 w) ∧ COK (m 265) (m 249 32)
def JR (l : Nat) (g : Fg) (tc pl : Int) (m : Mem) : Prop := JB l g tc pl m ∧ JS pl m
theorem JB_up {l : Nat} {g : Fg} {tc pl : Int} {m : Mem} {a j v : Int} (h : JB l g tc pl m) (ha : ¬ frR l a j) (hv : BdR tc pl a j v) : JB l g tc pl (upm m a j v) := by
  refine ⟨h.1, h.2.1, fun x y hx => ?_, fun x y => ?_⟩
  · unfold upm; rw [if_neg (by rintro ⟨rfl, rfl⟩; exact ha (h.1.2 _ _ hx))]; exact h.2.2.1 x y hx
  · unfold upm
    split
    · rename_i q; rw [q.1, q.2]; exact hv
    · exact h.2.2.2 x y
abbrev frc (a j : Int) : Prop := a ≠ 254 ∧ a ≠ 265 ∧ (a = 249 → j ≠ 3 ∧ j ≠ 4 ∧ j ≠ 32)
theorem JS_up {pl : Int} {m : Mem} {a j v : Int} (h : JS pl m) (hf : frc a j) : JS pl (upm m a j v) := by
  have e3 : upm m a j v 249 3 = m 249 3 := by unfold upm; rw [if_neg]; rintro ⟨h1, h2⟩; exact (hf.2.2 h1.symm).1 h2.symm
  have e4 : upm m a j v 249 4 = m 249 4 := by unfold upm; rw [if_neg]; rintro ⟨h1, h2⟩; exact (hf.2.2 h1.symm).2.1 h2.symm
  have e32 : upm m a j v 249 32 = m 249 32 := by unfold upm; rw [if_neg]; rintro ⟨h1, h2⟩; exact (hf.2.2 h1.symm).2.2 h2.symm
  have e5 : upm m a j v 254 = m 254 := by funext y; unfold upm; rw [if_neg]; rintro ⟨h1, h2⟩; exact hf.1 h1.symm
  have e6 : upm m a j v 265 = m 265 := by funext y; unfold upm; rw [if_neg]; rintro ⟨h1, h2⟩; exact hf.2.1 h1.symm
  unfold JS
  rw [e3, e4, e5, e6, e32]
  exact h
theorem JR_up {l : Nat} {g : Fg} {tc pl : Int} {m : Mem} {a j v : Int} (h : JR l g tc pl m) (ha : ¬ frR l a j) (hf : frc a j) (hv : BdR tc pl a j v) : JR l g tc pl (upm m a j v) := ⟨JB_up h.1 ha hv, JS_up h.2 hf⟩
theorem JR_l {l : Nat} {g : Fg} {tc pl : Int} {m : Mem} (h : JR l g tc pl m) : LVR l g := h.1.1.2
theorem JR_of {l l' : Nat} {g : Fg} {tc pl : Int} {m : Mem} (_ : LVR l g) (h : JR l g tc pl m) (hl : l ≤ l') : JR l' g tc pl m := ⟨⟨⟨h.1.1.1, fun x j q => frR_le hl (h.1.1.2 x j q)⟩, h.1.2⟩, h.2⟩
theorem JR_dn {l l' : Nat} {g : Fg} {tc pl : Int} {m : Mem} (hL : LVR l g) (h : JR l' g tc pl m) : JR l g tc pl m := ⟨⟨⟨h.1.1.1, hL⟩, h.1.2⟩, h.2⟩
theorem JB_len {l : Nat} {g : Fg} {tc pl : Int} {m : Mem} {v : Int} (h : JB l g tc pl m) (h0 : 0 ≤ v) (h1 : v ≤ 80) : JB l g v pl (upm m 249 18 v) := by
  refine ⟨⟨⟨h0, h1⟩, h.1.2⟩, h.2.1, fun x y hx => ?_, fun x y => ?_⟩
  · unfold upm; rw [if_neg (by rintro ⟨rfl, rfl⟩; have := h.1.2 _ _ hx; unfold frR at this; omega)]; exact h.2.2.1 x y hx
  · have h9 := h.2.2.2 x y
    by_cases hx : x = 249
    · subst hx
      unfold upm BdR at *
      rw [if_pos rfl] at *
      by_cases hy : y = 18
      · subst hy; simp
      · rw [if_neg (fun q => hy q.2)]
        exact ⟨fun q => absurd q hy, h9.2⟩
    · rw [upm_a _ _ _ _ _ _ hx]
      unfold BdR at h9 ⊢
      rw [if_neg hx] at h9 ⊢
      exact h9
theorem JR_len {l : Nat} {g : Fg} {tc pl : Int} {m : Mem} {v : Int} (h : JR l g tc pl m) (h0 : 0 ≤ v) (h1 : v ≤ 80) : JR l g v pl (upm m 249 18 v) := ⟨JB_len h.1 h0 h1, JS_up h.2 ⟨by decide, by decide, fun _ => ⟨by decide, by decide, by decide⟩⟩⟩
theorem JB_s {l : Nat} {g : Fg} {tc pl : Int} {m : Mem} (h : JB l g tc pl m) : m 249 18 = tc ∧ 0 ≤ tc ∧ tc ≤ 80 ∧ 1 ≤ pl ∧ pl ≤ 10 ∧ 0 ≤ m 249 1 ∧ m 249 1 ≤ 24 ∧ 0 ≤ m 249 3 ∧ m 249 3 ≤ pl ∧ 0 ≤ m 249 4 ∧ m 249 4 ≤ 14 ∧ 0 ≤ m 249 5 ∧ m 249 5 ≤ 5 ∧ 0 ≤ m 249 6 ∧ m 249 6 ≤ 5 ∧ 0 ≤ m 249 32 ∧ m 249 32 ≤ 80 ∧ 0 ≤ m 249 39 ∧ m 249 39 ≤ 15 ∧ 0 ≤ m 249 53 ∧ m 249 53 ≤ 10 ∧ 0 ≤ m 249 62 ∧ m 249 62 ≤ 8 ∧ 0 ≤ m 249 66 ∧ m 249 66 ≤ 10 ∧ 0 ≤ m 249 44 ∧ m 249 44 ≤ 60 := by
  have a1 := h.2.2.2 249 18
  have a2 := h.2.2.2 249 1
  have a3 := h.2.2.2 249 3
  have a4 := h.2.2.2 249 4
  have a5 := h.2.2.2 249 5
  have a6 := h.2.2.2 249 6
  have a7 := h.2.2.2 249 32
  have a8 := h.2.2.2 249 39
  have a9 := h.2.2.2 249 53
  have b1 := h.2.2.2 249 62
  have b2 := h.2.2.2 249 66
  have b3 := h.2.2.2 249 44
  have h1 := h.1
  have h2 := h.2.1
  simp [BdR] at a1 a2 a3 a4 a5 a6 a7 a8 a9 b1 b2 b3
  omega
theorem JR_s {l : Nat} {g : Fg} {tc pl : Int} {m : Mem} (h : JR l g tc pl m) : m 249 18 = tc ∧ 0 ≤ tc ∧ tc ≤ 80 ∧ 1 ≤ pl ∧ pl ≤ 10 ∧ 0 ≤ m 249 1 ∧ m 249 1 ≤ 24 ∧ 0 ≤ m 249 3 ∧ m 249 3 ≤ pl ∧ 0 ≤ m 249 4 ∧ m 249 4 ≤ 14 ∧ 0 ≤ m 249 5 ∧ m 249 5 ≤ 5 ∧ 0 ≤ m 249 6 ∧ m 249 6 ≤ 5 ∧ 0 ≤ m 249 32 ∧ m 249 32 ≤ 80 ∧ 0 ≤ m 249 39 ∧ m 249 39 ≤ 15 ∧ 0 ≤ m 249 53 ∧ m 249 53 ≤ 10 ∧ 0 ≤ m 249 62 ∧ m 249 62 ≤ 8 ∧ 0 ≤ m 249 66 ∧ m 249 66 ≤ 10 ∧ 0 ≤ m 249 44 ∧ m 249 44 ≤ 60 ∧ (m 249 3 = pl ∨ m 249 3 = 0 ∧ pl = 1) := by
  have h1 := JB_s h.1
  have h2 := h.2.1
  omega
theorem JB_252 {l : Nat} {g : Fg} {tc pl : Int} {m : Mem} (h : JB l g tc pl m) (j : Int) : 0 ≤ m 252 j ∧ m 252 j ≤ pl - 1 := by have := h.2.2.2 252 j; simpa [BdR] using this
theorem JB_253 {l : Nat} {g : Fg} {tc pl : Int} {m : Mem} (h : JB l g tc pl m) (j : Int) : 0 ≤ m 253 j ∧ m 253 j ≤ pl - 1 := by have := h.2.2.2 253 j; simpa [BdR] using this
theorem JB_254 {l : Nat} {g : Fg} {tc pl : Int} {m : Mem} (h : JB l g tc pl m) (j : Int) : 0 ≤ m 254 j ∧ m 254 j ≤ 9 := by have := h.2.2.2 254 j; simpa [BdR] using this
theorem JB_273 {l : Nat} {g : Fg} {tc pl : Int} {m : Mem} (h : JB l g tc pl m) (j : Int) : 0 ≤ m 273 j ∧ m 273 j ≤ 1000000 := by have := h.2.2.2 273 j; simpa [BdR] using this
theorem JB_274 {l : Nat} {g : Fg} {tc pl : Int} {m : Mem} (h : JB l g tc pl m) (j : Int) : 0 ≤ m 274 j ∧ m 274 j ≤ 1000000 := by have := h.2.2.2 274 j; simpa [BdR] using this
theorem JB_275 {l : Nat} {g : Fg} {tc pl : Int} {m : Mem} (h : JB l g tc pl m) (j : Int) : 0 ≤ m 275 j ∧ m 275 j ≤ 9 := by have := h.2.2.2 275 j; simpa [BdR] using this
theorem JB_278 {l : Nat} {g : Fg} {tc pl : Int} {m : Mem} (h : JB l g tc pl m) (j : Int) : 0 ≤ m 278 j ∧ m 278 j ≤ 4 := by have := h.2.2.2 278 j; simpa [BdR] using this
theorem JB_n {l : Nat} {g : Fg} {tc pl : Int} {m : Mem} (h : JB l g tc pl m) (b j : Int) (hb : b = 258 ∨ b = 259 ∨ b = 269 ∨ b = 287) : RBd pl j (m b j) := by
  have := h.2.2.2 b j
  rcases hb with rfl | rfl | rfl | rfl <;> simpa [BdR] using this
theorem BdR_n {tc pl b j v : Int} (hb : b = 258 ∨ b = 259 ∨ b = 269 ∨ b = 287) (h : RBd pl j v) : BdR tc pl b j v := by
  rcases hb with rfl | rfl | rfl | rfl <;> simpa [BdR] using h
theorem rb_i {pl j v : Int} (h0 : 0 ≤ j) (h1 : j < 52) : RBd pl j v ↔ ((j < 15 → j % 3 = 1 → -1 ≤ v ∧ v ≤ pl - 1) ∧ (15 ≤ j → j < 50 → (j - 15) % 7 = 0 → 0 ≤ v ∧ v ≤ pl - 1) ∧ (15 ≤ j → j < 50 → (j - 15) % 7 = 3 → 0 ≤ v ∧ v ≤ 1) ∧ (15 ≤ j → j < 50 → (j - 15) % 7 = 5 → -1 ≤ v ∧ v ≤ 4)) := by
  unfold RBd
  rw [Int.emod_eq_of_lt h0 h1]
theorem w15_0 {p : Int} (h0 : 0 ≤ p) (h1 : p ≤ 4) : w32 (15 + 7 * p + 0) = 15 + 7 * p := by unfold w32; omega
theorem w15_1 {p : Int} (h0 : 0 ≤ p) (h1 : p ≤ 4) : w32 (15 + 7 * p + 1) = 16 + 7 * p := by unfold w32; omega
theorem w15_3 {p : Int} (h0 : 0 ≤ p) (h1 : p ≤ 4) : w32 (15 + 7 * p + 3) = 18 + 7 * p := by unfold w32; omega
theorem w15_4 {p : Int} (h0 : 0 ≤ p) (h1 : p ≤ 4) : w32 (15 + 7 * p + 4) = 19 + 7 * p := by unfold w32; omega
theorem w15_5 {p : Int} (h0 : 0 ≤ p) (h1 : p ≤ 4) : w32 (15 + 7 * p + 5) = 20 + 7 * p := by unfold w32; omega
theorem w15_6 {p : Int} (h0 : 0 ≤ p) (h1 : p ≤ 4) : w32 (15 + 7 * p + 6) = 21 + 7 * p := by unfold w32; omega
theorem w3_0 {q : Int} (h0 : 0 ≤ q) (h1 : q ≤ 4) : w32 (w32 (3 * q) + 0) = 3 * q := by unfold w32; omega
theorem w3_1 {q : Int} (h0 : 0 ≤ q) (h1 : q ≤ 4) : w32 (w32 (3 * q) + 1) = 3 * q + 1 := by unfold w32; omega
theorem w3_2 {q : Int} (h0 : 0 ≤ q) (h1 : q ≤ 4) : w32 (w32 (3 * q) + 2) = 3 * q + 2 := by unfold w32; omega
theorem JB_p {l : Nat} {g : Fg} {tc pl : Int} {m : Mem} (h : JB l g tc pl m) (p : Int) (b : Int) (hb : b = 258 ∨ b = 259 ∨ b = 269 ∨ b = 287) : 0 ≤ p → p ≤ 4 → 0 ≤ m b (15 + 7 * p) ∧ m b (15 + 7 * p) ≤ pl - 1 ∧ 0 ≤ m b (18 + 7 * p) ∧ m b (18 + 7 * p) ≤ 1 ∧ -1 ≤ m b (20 + 7 * p) ∧ m b (20 + 7 * p) ≤ 4 := by
  intro h0 h1
  have a1 := JB_n h b (15 + 7 * p) hb
  have a2 := JB_n h b (18 + 7 * p) hb
  have a3 := JB_n h b (20 + 7 * p) hb
  rw [rb_i (by omega) (by omega)] at a1 a2 a3
  obtain ⟨-, c1, -, -⟩ := a1
  obtain ⟨-, -, c2, -⟩ := a2
  obtain ⟨-, -, -, c3⟩ := a3
  have d1 := c1 (by omega) (by omega) (by omega)
  have d2 := c2 (by omega) (by omega) (by omega)
  have d3 := c3 (by omega) (by omega) (by omega)
  exact ⟨d1.1, d1.2, d2.1, d2.2, d3.1, d3.2⟩
theorem JB_q {l : Nat} {g : Fg} {tc pl : Int} {m : Mem} (h : JB l g tc pl m) (q : Int) (b : Int) (hb : b = 258 ∨ b = 259 ∨ b = 269 ∨ b = 287) : 0 ≤ q → q ≤ 4 → -1 ≤ m b (3 * q + 1) ∧ m b (3 * q + 1) ≤ pl - 1 := by
  intro h0 h1
  have a1 := JB_n h b (3 * q + 1) hb
  rw [rb_i (by omega) (by omega)] at a1
  exact a1.1 (by omega) (by omega)
abbrev JR_p {l : Nat} {g : Fg} {tc pl : Int} {m : Mem} (h : JR l g tc pl m) (p : Int) := JB_p h.1 p 258 (.inl rfl)
abbrev JR_t {l : Nat} {g : Fg} {tc pl : Int} {m : Mem} (h : JR l g tc pl m) (p : Int) := JB_p h.1 p 259 (.inr (.inl rfl))
abbrev JR_q {l : Nat} {g : Fg} {tc pl : Int} {m : Mem} (h : JR l g tc pl m) (q : Int) := JB_q h.1 q 258 (.inl rfl)
abbrev JR_252 {l : Nat} {g : Fg} {tc pl : Int} {m : Mem} (h : JR l g tc pl m) (j : Int) := JB_252 h.1 j
abbrev JR_253 {l : Nat} {g : Fg} {tc pl : Int} {m : Mem} (h : JR l g tc pl m) (j : Int) := JB_253 h.1 j
abbrev JR_254 {l : Nat} {g : Fg} {tc pl : Int} {m : Mem} (h : JR l g tc pl m) (j : Int) := JB_254 h.1 j
abbrev JR_273 {l : Nat} {g : Fg} {tc pl : Int} {m : Mem} (h : JR l g tc pl m) (j : Int) := JB_273 h.1 j
abbrev JR_274 {l : Nat} {g : Fg} {tc pl : Int} {m : Mem} (h : JR l g tc pl m) (j : Int) := JB_274 h.1 j
abbrev JR_275 {l : Nat} {g : Fg} {tc pl : Int} {m : Mem} (h : JR l g tc pl m) (j : Int) := JB_275 h.1 j
abbrev JR_278 {l : Nat} {g : Fg} {tc pl : Int} {m : Mem} (h : JR l g tc pl m) (j : Int) := JB_278 h.1 j
theorem rb_at {pl p v : Int} (h : 0 ≤ p ∧ p ≤ 4) (hv : 0 ≤ v ∧ v ≤ pl - 1) : RBd pl (15 + 7 * p) v := by
  rw [rb_i (by omega) (by omega)]; omega
theorem rb_us {pl p v : Int} (h : 0 ≤ p ∧ p ≤ 4) (hv : 0 ≤ v ∧ v ≤ 1) : RBd pl (18 + 7 * p) v := by
  rw [rb_i (by omega) (by omega)]; omega
theorem rb_ho {pl p v : Int} (h : 0 ≤ p ∧ p ≤ 4) (hv : -1 ≤ v ∧ v ≤ 4) : RBd pl (20 + 7 * p) v := by
  rw [rb_i (by omega) (by omega)]; omega
theorem rb_on {pl q v : Int} (h : 0 ≤ q ∧ q ≤ 4) (hv : -1 ≤ v ∧ v ≤ pl - 1) : RBd pl (3 * q + 1) v := by
  rw [rb_i (by omega) (by omega)]; omega
theorem JR_1 {l : Nat} {g : Fg} {tc pl : Int} {m : Mem} (h : JR l g tc pl m) : JB l g tc pl m := h.1
theorem rb_free {pl j v : Int} (h : 0 ≤ j ∧ j < 52) (h1 : j < 15 → j % 3 ≠ 1) (h2 : 15 ≤ j → j < 50 → (j - 15) % 7 ≠ 0 ∧ (j - 15) % 7 ≠ 3 ∧ (j - 15) % 7 ≠ 5) : RBd pl j v := by
  rw [rb_i h.1 h.2]; omega
theorem upm_self (m : Mem) (a j : Int) : upm m a j (m a j) = m := by
  funext x y; unfold upm; split
  · rename_i h; rw [h.1, h.2]
  · rfl
theorem upm_same (m : Mem) (a j v w : Int) : upm (upm m a j v) a j w = upm m a j w := by
  funext x y; unfold upm; split <;> simp_all
/-- what queries keep: what is now, and the way's length -/
def JW (l : Nat) (g : Fg) (tc pl : Int) (N : Int → Int) (W : Int) (m : Mem) : Prop := JR l g tc pl m ∧ m 258 = N ∧ m 249 53 = W
abbrev frw (a j : Int) : Prop := a ≠ 258 ∧ (a = 249 → j ≠ 53)
theorem JW_up {l : Nat} {g : Fg} {tc pl W : Int} {N : Int → Int} {m : Mem} {a j v : Int} (h : JW l g tc pl N W m) (ha : ¬ frR l a j) (hf : frc a j) (hw : frw a j) (hv : BdR tc pl a j v) : JW l g tc pl N W (upm m a j v) := by
  refine ⟨JR_up h.1 ha hf hv, ?_, ?_⟩
  · have e5 : upm m a j v 258 = m 258 := by funext y; unfold upm; rw [if_neg]; rintro ⟨h1, h2⟩; exact hw.1 h1.symm
    rw [e5]; exact h.2.1
  · have e3 : upm m a j v 249 53 = m 249 53 := by unfold upm; rw [if_neg]; rintro ⟨h1, h2⟩; exact hw.2 h1.symm h2.symm
    rw [e3]; exact h.2.2
theorem JW_l {l : Nat} {g : Fg} {tc pl W : Int} {N : Int → Int} {m : Mem} (h : JW l g tc pl N W m) : LVR l g := JR_l h.1
theorem JW_of {l l' : Nat} {g : Fg} {tc pl W : Int} {N : Int → Int} {m : Mem} (hL : LVR l g) (h : JW l g tc pl N W m) (hl : l ≤ l') : JW l' g tc pl N W m := ⟨JR_of hL h.1 hl, h.2⟩
theorem JW_dn {l l' : Nat} {g : Fg} {tc pl W : Int} {N : Int → Int} {m : Mem} (hL : LVR l g) (h : JW l' g tc pl N W m) : JW l g tc pl N W m := ⟨JR_dn hL h.1, h.2⟩
theorem JW_s {l : Nat} {g : Fg} {tc pl W : Int} {N : Int → Int} {m : Mem} (h : JW l g tc pl N W m) : m 249 18 = tc ∧ 0 ≤ tc ∧ tc ≤ 80 ∧ 1 ≤ pl ∧ pl ≤ 10 ∧ 0 ≤ m 249 1 ∧ m 249 1 ≤ 24 ∧ 0 ≤ m 249 3 ∧ m 249 3 ≤ pl ∧ 0 ≤ m 249 4 ∧ m 249 4 ≤ 14 ∧ 0 ≤ m 249 5 ∧ m 249 5 ≤ 5 ∧ 0 ≤ m 249 6 ∧ m 249 6 ≤ 5 ∧ 0 ≤ m 249 32 ∧ m 249 32 ≤ 80 ∧ 0 ≤ m 249 39 ∧ m 249 39 ≤ 15 ∧ 0 ≤ W ∧ W ≤ 10 ∧ 0 ≤ m 249 62 ∧ m 249 62 ≤ 8 ∧ 0 ≤ m 249 66 ∧ m 249 66 ≤ 10 ∧ 0 ≤ m 249 44 ∧ m 249 44 ≤ 60 ∧ (m 249 3 = pl ∨ m 249 3 = 0 ∧ pl = 1) ∧ m 249 53 = W := by
  have h1 := JR_s h.1
  have h2 := h.2.2
  omega
theorem JW_p {l : Nat} {g : Fg} {tc pl W : Int} {N : Int → Int} {m : Mem} (h : JW l g tc pl N W m) (p : Int) : 0 ≤ p → p ≤ 4 → 0 ≤ N (15 + 7 * p) ∧ N (15 + 7 * p) ≤ pl - 1 ∧ 0 ≤ N (18 + 7 * p) ∧ N (18 + 7 * p) ≤ 1 ∧ -1 ≤ N (20 + 7 * p) ∧ N (20 + 7 * p) ≤ 4 := by
  have := JR_p h.1 p
  rw [h.2.1] at this
  exact this
theorem JW_q {l : Nat} {g : Fg} {tc pl W : Int} {N : Int → Int} {m : Mem} (h : JW l g tc pl N W m) (q : Int) : 0 ≤ q → q ≤ 4 → -1 ≤ N (3 * q + 1) ∧ N (3 * q + 1) ≤ pl - 1 := by
  have := JR_q h.1 q
  rw [h.2.1] at this
  exact this
theorem JW_mk {l : Nat} {g : Fg} {tc pl : Int} {m : Mem} (h : JR l g tc pl m) : JW l g tc pl (m 258) (m 249 53) m := ⟨h, rfl, rfl⟩
theorem JW_1 {l : Nat} {g : Fg} {tc pl W : Int} {N : Int → Int} {m : Mem} (h : JW l g tc pl N W m) : JR l g tc pl m := h.1
theorem JW_2 {l : Nat} {g : Fg} {tc pl W : Int} {N : Int → Int} {m : Mem} (h : JW l g tc pl N W m) : m 258 = N := h.2.1
theorem upm_58 {m : Mem} {a j v : Int} (h : 258 ≠ a) : upm m a j v 258 = m 258 := by
  funext y; unfold upm; rw [if_neg]; rintro ⟨h1, h2⟩; exact h h1
theorem upm_app (f : Mem) (a j v x y : Int) : upm f a j v x y = if x = a ∧ y = j then v else f x y := rfl
theorem upm_comm {m : Mem} {a j v b i w : Int} (h : ¬ (a = b ∧ j = i)) : upm (upm m a j v) b i w = upm (upm m b i w) a j v := by
  funext x y
  simp only [upm_app]
  split <;> split <;> first | rfl | (exfalso; omega)
theorem rb_eq {pl i j v : Int} (h : RBd pl i v) (e : j % 52 = i % 52) : RBd pl j v := by
  unfold RBd at *
  rw [e]; exact h
theorem JW_n {l : Nat} {g : Fg} {tc pl W : Int} {N : Int → Int} {m : Mem} (h : JW l g tc pl N W m) (j : Int) : RBd pl j (N j) := by
  have := JB_n h.1.1 258 j (.inl rfl)
  rw [h.2.1] at this
  exact this

theorem p_169 {d : Nat} {e : Int} {m : Mem} {Q : Int → Sto → Prop} {a b c : Int} (hq : ∀ v, (v = 1 ∧ b ≤ a ∧ a ≤ c ∨ v = 0 ∧ (a < b ∨ c < a)) → Q v (S9 e m)) : Cl (d + 1) 169 [a, b, c] Q (S9 e m) := by
  simp only [cl_169, runB, B169, ma_169, rho_111, w_cst, w_ldi, w_ldj, w_lda, w_ljk, w_ldk, w_ldw, w_ldk2, w_ldt, w_ldtw, w_neg, w_cvb, w_cvs, w_cvc, w_cvj, w_add, w_sub, w_mul, w_ban, w_bor, w_bxo, w_shl, w_shr, w_ush, w_dvi, w_rmi, w_aldi, w_aldj, w_aldz, w_aldc, w_alda, w_ite, w_cmp, w_cmj, w_cz, w_cnot, w_cand, w_cor, w_nil, w_cons, w_cvi, w_csta, w_cvt, w_cvv, w_csv, w_cpy, w_seq, w_sbr, w_sbn, w_brk, w_ifs, w_ifx, w_ife, w_wk, w_rets, w_rtv, w_thr, w_asi, w_asj, w_asa, w_inc, w_exs, w_asti, w_astj, w_astz, w_astc, w_aopadd, w_aopsub, w_sw, if_true, if_false, ↓reduceIte, hdl_c, S9_1, S9_m, bud9, live9, inb9, wrn, wr9_14, wr9_15, wr9_16, wr9_17, tq9_14, tq9_15, tq9_16, tq9_17, tq_0, tq_1, tq_3, upr_rl, rl_0, rl_1, rl_2, rl_3, rl_4, rl_5, rl_6, rl_7, rl_8, rl_9, rl_10, rl_11, rl_12, rl_13, sp_0, sp_1, sp_2, sp_3, sp_4, sp_5, sp_6, sp_7, sp_8, sp_9, sp_10, sp_11, sp_12, sp_13, se_0, se_1, se_2, se_3, se_4, se_5, se_6, se_7, se_8, se_9, se_10, se_11, se_12, se_13, sem_0, sem_1, sem_2, sem_3, sem_4, sem_5, sr_249_16, sr_249_50, sr_249_43, sr_249_64, sr_249_9, sr_249_54, sr_249_40, sr_249_14, sr_249_68, sr_249_17, sr_249_57, sr_249_10, sr_249_23, sr_249_13, sr_249_63, sr_249_31, sr_249_51, sr_249_24, sr_249_69, sr_249_8, sr_249_30, sr_249_2, sr_249_71, sr_249_22, kl9_249, sr_249_67, sr_249_55, sr_249_41, sr_249_35, sr_249_11, sr_249_12, sr_249_52, sr_249_42, kc_249, sr_249_34, sr_249_70, sr_249_61, sr_249_58, sr_249_15, sr_249_25, List.getD_cons_zero, List.getD_cons_succ, Bool.false_eq_true, wrn3, wrn1, cpmS, cpok9]
  repeat' (first
    | (with_reducible exact True.intro)
    | (with_reducible rfl)
    | (with_reducible refine And.intro ?_ ?_)
    | intro _
    | (with_reducible refine hq _ ?_)
    | omega
    | (with_reducible contradiction)
    | (unfold w32; omega)
    | (simp (disch := omega) only [w32_eq]; omega)
    | (with_reducible show (_ : Int) ≤ _; simp [upm] <;> (first | omega | (unfold w32; omega)))
    | (with_reducible show (_ : Int) < _; simp [upm] <;> (first | omega | (unfold w32; omega))))

theorem p_178 {d : Nat} {e : Int} {m : Mem} {Q : Int → Sto → Prop} {a : Int} (hq : ∀ v, (v = 0 ∧ a = 0 ∨ v = 1 ∧ a ≠ 0) → Q v (S9 e m)) : Cl (d + 1) 178 [a] Q (S9 e m) := by
  simp only [cl_178, runB, B178, ma_178, rho_0, w_cst, w_ldi, w_ldj, w_lda, w_ljk, w_ldk, w_ldw, w_ldk2, w_ldt, w_ldtw, w_neg, w_cvb, w_cvs, w_cvc, w_cvj, w_add, w_sub, w_mul, w_ban, w_bor, w_bxo, w_shl, w_shr, w_ush, w_dvi, w_rmi, w_aldi, w_aldj, w_aldz, w_aldc, w_alda, w_ite, w_cmp, w_cmj, w_cz, w_cnot, w_cand, w_cor, w_nil, w_cons, w_cvi, w_csta, w_cvt, w_cvv, w_csv, w_cpy, w_seq, w_sbr, w_sbn, w_brk, w_ifs, w_ifx, w_ife, w_wk, w_rets, w_rtv, w_thr, w_asi, w_asj, w_asa, w_inc, w_exs, w_asti, w_astj, w_astz, w_astc, w_aopadd, w_aopsub, w_sw, if_true, if_false, ↓reduceIte, hdl_c, S9_1, S9_m, bud9, live9, inb9, wrn, wr9_14, wr9_15, wr9_16, wr9_17, tq9_14, tq9_15, tq9_16, tq9_17, tq_0, tq_1, tq_3, upr_rl, rl_0, rl_1, rl_2, rl_3, rl_4, rl_5, rl_6, rl_7, rl_8, rl_9, rl_10, rl_11, rl_12, rl_13, sp_0, sp_1, sp_2, sp_3, sp_4, sp_5, sp_6, sp_7, sp_8, sp_9, sp_10, sp_11, sp_12, sp_13, se_0, se_1, se_2, se_3, se_4, se_5, se_6, se_7, se_8, se_9, se_10, se_11, se_12, se_13, sem_0, sem_1, sem_2, sem_3, sem_4, sem_5, sr_249_16, sr_249_50, sr_249_43, sr_249_64, sr_249_9, sr_249_54, sr_249_40, sr_249_14, sr_249_68, sr_249_17, sr_249_57, sr_249_10, sr_249_23, sr_249_13, sr_249_63, sr_249_31, sr_249_51, sr_249_24, sr_249_69, sr_249_8, sr_249_30, sr_249_2, sr_249_71, sr_249_22, kl9_249, sr_249_67, sr_249_55, sr_249_41, sr_249_35, sr_249_11, sr_249_12, sr_249_52, sr_249_42, kc_249, sr_249_34, sr_249_70, sr_249_61, sr_249_58, sr_249_15, sr_249_25, List.getD_cons_zero, List.getD_cons_succ, Bool.false_eq_true, wrn3, wrn1, cpmS, cpok9]
  repeat' (first
    | (with_reducible exact True.intro)
    | (with_reducible rfl)
    | (with_reducible refine And.intro ?_ ?_)
    | intro _
    | (with_reducible refine hq _ ?_)
    | omega
    | (with_reducible contradiction)
    | (unfold w32; omega)
    | (simp (disch := omega) only [w32_eq]; omega)
    | (with_reducible show (_ : Int) ≤ _; simp [upm] <;> (first | omega | (unfold w32; omega)))
    | (with_reducible show (_ : Int) < _; simp [upm] <;> (first | omega | (unfold w32; omega))))

theorem p_188 {d : Nat} {e : Int} {m : Mem} {Q : Int → Sto → Prop} {a : Int} (ha : 0 ≤ a ∧ a ≤ 4) (hq : Q (15 + 7 * a) (S9 e m)) : Cl (d + 1) 188 [a] Q (S9 e m) := by
  have e1 : w32 (15 + w32 (7 * a)) = 15 + 7 * a := by unfold w32; omega
  simp only [cl_188, runB, B188, ma_188, rho_0, w_cst, w_ldi, w_ldj, w_lda, w_ljk, w_ldk, w_ldw, w_ldk2, w_ldt, w_ldtw, w_neg, w_cvb, w_cvs, w_cvc, w_cvj, w_add, w_sub, w_mul, w_ban, w_bor, w_bxo, w_shl, w_shr, w_ush, w_dvi, w_rmi, w_aldi, w_aldj, w_aldz, w_aldc, w_alda, w_ite, w_cmp, w_cmj, w_cz, w_cnot, w_cand, w_cor, w_nil, w_cons, w_cvi, w_csta, w_cvt, w_cvv, w_csv, w_cpy, w_seq, w_sbr, w_sbn, w_brk, w_ifs, w_ifx, w_ife, w_wk, w_rets, w_rtv, w_thr, w_asi, w_asj, w_asa, w_inc, w_exs, w_asti, w_astj, w_astz, w_astc, w_aopadd, w_aopsub, w_sw, if_true, if_false, ↓reduceIte, hdl_c, S9_1, S9_m, bud9, live9, inb9, wrn, wr9_14, wr9_15, wr9_16, wr9_17, tq9_14, tq9_15, tq9_16, tq9_17, tq_0, tq_1, tq_3, upr_rl, rl_0, rl_1, rl_2, rl_3, rl_4, rl_5, rl_6, rl_7, rl_8, rl_9, rl_10, rl_11, rl_12, rl_13, sp_0, sp_1, sp_2, sp_3, sp_4, sp_5, sp_6, sp_7, sp_8, sp_9, sp_10, sp_11, sp_12, sp_13, se_0, se_1, se_2, se_3, se_4, se_5, se_6, se_7, se_8, se_9, se_10, se_11, se_12, se_13, sem_0, sem_1, sem_2, sem_3, sem_4, sem_5, sr_249_16, sr_249_50, sr_249_43, sr_249_64, sr_249_9, sr_249_54, sr_249_40, sr_249_14, sr_249_68, sr_249_17, sr_249_57, sr_249_10, sr_249_23, sr_249_13, sr_249_63, sr_249_31, sr_249_51, sr_249_24, sr_249_69, sr_249_8, sr_249_30, sr_249_2, sr_249_71, sr_249_22, kl9_249, sr_249_67, sr_249_55, sr_249_41, sr_249_35, sr_249_11, sr_249_12, sr_249_52, sr_249_42, kc_249, sr_249_34, sr_249_70, sr_249_61, sr_249_58, sr_249_15, sr_249_25, List.getD_cons_zero, List.getD_cons_succ, Bool.false_eq_true, wrn3, wrn1, cpmS, cpok9, e1]
  repeat' (first
    | (with_reducible exact True.intro)
    | (with_reducible rfl)
    | (with_reducible refine And.intro ?_ ?_)
    | intro _
    | exact hq
    | omega
    | (with_reducible contradiction)
    | (unfold w32; omega)
    | (simp (disch := omega) only [w32_eq]; omega)
    | (with_reducible show (_ : Int) ≤ _; simp [upm] <;> (first | omega | (unfold w32; omega)))
    | (with_reducible show (_ : Int) < _; simp [upm] <;> (first | omega | (unfold w32; omega))))

theorem p_199 {d : Nat} {e : Int} {m : Mem} {Q : Int → Sto → Prop} {a b : Int} (hq : ∀ v, (v = 1 ∧ iand (ishr a b) 1 = 1 ∨ v = 0 ∧ iand (ishr a b) 1 ≠ 1) → Q v (S9 e m)) : Cl (d + 1) 199 [a, b] Q (S9 e m) := by
  simp only [cl_199, runB, B199, ma_199, rho_00, w_cst, w_ldi, w_ldj, w_lda, w_ljk, w_ldk, w_ldw, w_ldk2, w_ldt, w_ldtw, w_neg, w_cvb, w_cvs, w_cvc, w_cvj, w_add, w_sub, w_mul, w_ban, w_bor, w_bxo, w_shl, w_shr, w_ush, w_dvi, w_rmi, w_aldi, w_aldj, w_aldz, w_aldc, w_alda, w_ite, w_cmp, w_cmj, w_cz, w_cnot, w_cand, w_cor, w_nil, w_cons, w_cvi, w_csta, w_cvt, w_cvv, w_csv, w_cpy, w_seq, w_sbr, w_sbn, w_brk, w_ifs, w_ifx, w_ife, w_wk, w_rets, w_rtv, w_thr, w_asi, w_asj, w_asa, w_inc, w_exs, w_asti, w_astj, w_astz, w_astc, w_aopadd, w_aopsub, w_sw, if_true, if_false, ↓reduceIte, hdl_c, S9_1, S9_m, bud9, live9, inb9, wrn, wr9_14, wr9_15, wr9_16, wr9_17, tq9_14, tq9_15, tq9_16, tq9_17, tq_0, tq_1, tq_3, upr_rl, rl_0, rl_1, rl_2, rl_3, rl_4, rl_5, rl_6, rl_7, rl_8, rl_9, rl_10, rl_11, rl_12, rl_13, sp_0, sp_1, sp_2, sp_3, sp_4, sp_5, sp_6, sp_7, sp_8, sp_9, sp_10, sp_11, sp_12, sp_13, se_0, se_1, se_2, se_3, se_4, se_5, se_6, se_7, se_8, se_9, se_10, se_11, se_12, se_13, sem_0, sem_1, sem_2, sem_3, sem_4, sem_5, sr_249_16, sr_249_50, sr_249_43, sr_249_64, sr_249_9, sr_249_54, sr_249_40, sr_249_14, sr_249_68, sr_249_17, sr_249_57, sr_249_10, sr_249_23, sr_249_13, sr_249_63, sr_249_31, sr_249_51, sr_249_24, sr_249_69, sr_249_8, sr_249_30, sr_249_2, sr_249_71, sr_249_22, kl9_249, sr_249_67, sr_249_55, sr_249_41, sr_249_35, sr_249_11, sr_249_12, sr_249_52, sr_249_42, kc_249, sr_249_34, sr_249_70, sr_249_61, sr_249_58, sr_249_15, sr_249_25, List.getD_cons_zero, List.getD_cons_succ, Bool.false_eq_true, wrn3, wrn1, cpmS, cpok9]
  repeat' (first
    | (with_reducible exact True.intro)
    | (with_reducible rfl)
    | (with_reducible refine And.intro ?_ ?_)
    | intro _
    | (with_reducible refine hq _ ?_)
    | omega
    | (with_reducible contradiction)
    | (unfold w32; omega)
    | (simp (disch := omega) only [w32_eq]; omega)
    | (with_reducible show (_ : Int) ≤ _; simp [upm] <;> (first | omega | (unfold w32; omega)))
    | (with_reducible show (_ : Int) < _; simp [upm] <;> (first | omega | (unfold w32; omega))))

theorem p_209 {d : Nat} {e : Int} {m : Mem} {Q : Int → Sto → Prop} {a b c : Int} (hq : ∀ v, True → Q v (S9 e m)) : Cl (d + 2) 209 [a, b, c] Q (S9 e m) := by
  simp only [cl_209, runB, B209, ma_209, rho_000, wc_178, w_cst, w_ldi, w_ldj, w_lda, w_ljk, w_ldk, w_ldw, w_ldk2, w_ldt, w_ldtw, w_neg, w_cvb, w_cvs, w_cvc, w_cvj, w_add, w_sub, w_mul, w_ban, w_bor, w_bxo, w_shl, w_shr, w_ush, w_dvi, w_rmi, w_aldi, w_aldj, w_aldz, w_aldc, w_alda, w_ite, w_cmp, w_cmj, w_cz, w_cnot, w_cand, w_cor, w_nil, w_cons, w_cvi, w_csta, w_cvt, w_cvv, w_csv, w_cpy, w_seq, w_sbr, w_sbn, w_brk, w_ifs, w_ifx, w_ife, w_wk, w_rets, w_rtv, w_thr, w_asi, w_asj, w_asa, w_inc, w_exs, w_asti, w_astj, w_astz, w_astc, w_aopadd, w_aopsub, w_sw, if_true, if_false, ↓reduceIte, hdl_c, S9_1, S9_m, bud9, live9, inb9, wrn, wr9_14, wr9_15, wr9_16, wr9_17, tq9_14, tq9_15, tq9_16, tq9_17, tq_0, tq_1, tq_3, upr_rl, rl_0, rl_1, rl_2, rl_3, rl_4, rl_5, rl_6, rl_7, rl_8, rl_9, rl_10, rl_11, rl_12, rl_13, sp_0, sp_1, sp_2, sp_3, sp_4, sp_5, sp_6, sp_7, sp_8, sp_9, sp_10, sp_11, sp_12, sp_13, se_0, se_1, se_2, se_3, se_4, se_5, se_6, se_7, se_8, se_9, se_10, se_11, se_12, se_13, sem_0, sem_1, sem_2, sem_3, sem_4, sem_5, sr_249_16, sr_249_50, sr_249_43, sr_249_64, sr_249_9, sr_249_54, sr_249_40, sr_249_14, sr_249_68, sr_249_17, sr_249_57, sr_249_10, sr_249_23, sr_249_13, sr_249_63, sr_249_31, sr_249_51, sr_249_24, sr_249_69, sr_249_8, sr_249_30, sr_249_2, sr_249_71, sr_249_22, kl9_249, sr_249_67, sr_249_55, sr_249_41, sr_249_35, sr_249_11, sr_249_12, sr_249_52, sr_249_42, kc_249, sr_249_34, sr_249_70, sr_249_61, sr_249_58, sr_249_15, sr_249_25, List.getD_cons_zero, List.getD_cons_succ, Bool.false_eq_true, wrn3, wrn1, cpmS, cpok9, swW_c, swW_n, List.mem_singleton, List.mem_cons, List.mem_nil_iff]
  repeat' (first
    | (with_reducible exact True.intro)
    | (with_reducible rfl)
    | (with_reducible refine And.intro ?_ ?_)
    | intro _
    | (with_reducible refine p_178 (fun v9 h9 => ?_); simp only [hdl_c, S9_1, S9_m, bud9, live9, inb9, wrn, wr9_14, wr9_15, wr9_16, wr9_17, tq9_14, tq9_15, tq9_16, tq9_17, tq_0, tq_1, tq_3, upr_rl, rl_0, rl_1, rl_2, rl_3, rl_4, rl_5, rl_6, rl_7, rl_8, rl_9, rl_10, rl_11, rl_12, rl_13, sp_0, sp_1, sp_2, sp_3, sp_4, sp_5, sp_6, sp_7, sp_8, sp_9, sp_10, sp_11, sp_12, sp_13, se_0, se_1, se_2, se_3, se_4, se_5, se_6, se_7, se_8, se_9, se_10, se_11, se_12, se_13, sem_0, sem_1, sem_2, sem_3, sem_4, sem_5, List.getD_cons_zero, List.getD_cons_succ, Bool.false_eq_true, wrn3, wrn1, cpmS, cpok9, if_true, if_false, ↓reduceIte, wc_178, sr_249_16, sr_249_50, sr_249_43, sr_249_64, sr_249_9, sr_249_54, sr_249_40, sr_249_14, sr_249_68, sr_249_17, sr_249_57, sr_249_10, sr_249_23, sr_249_13, sr_249_63, sr_249_31, sr_249_51, sr_249_24, sr_249_69, sr_249_8, sr_249_30, sr_249_2, sr_249_71, sr_249_22, kl9_249, sr_249_67, sr_249_55, sr_249_41, sr_249_35, sr_249_11, sr_249_12, sr_249_52, sr_249_42, kc_249, sr_249_34, sr_249_70, sr_249_61, sr_249_58, sr_249_15, sr_249_25, swW_c, swW_n, List.mem_singleton, List.mem_cons, List.mem_nil_iff])
    | (with_reducible refine hq _ ?_)
    | omega
    | (with_reducible contradiction)
    | (unfold w32; omega)
    | (simp (disch := omega) only [w32_eq]; omega)
    | (with_reducible show (_ : Int) ≤ _; simp [upm] <;> (first | omega | (unfold w32; omega)))
    | (with_reducible show (_ : Int) < _; simp [upm] <;> (first | omega | (unfold w32; omega))))

theorem p_194 {d : Nat} {e : Int} {m : Mem} {Q : Int → Sto → Prop} {a : Int} (h0 : 0 ≤ m 249 3 ∧ m 249 3 ≤ 10) (hq : ∀ v, (v = 1 ∧ 0 ≤ a ∧ a < m 249 3 ∨ v = 0 ∧ (a < 0 ∨ m 249 3 ≤ a)) → Q v (S9 e m)) : Cl (d + 2) 194 [249, a] Q (S9 e m) := by
  have e1 : w32 (m 249 3 - 1) = m 249 3 - 1 := by unfold w32; omega
  simp only [cl_194, runB, B194, ma_194, rho_20, wf_13_133, wc_169, w_cst, w_ldi, w_ldj, w_lda, w_ljk, w_ldk, w_ldw, w_ldk2, w_ldt, w_ldtw, w_neg, w_cvb, w_cvs, w_cvc, w_cvj, w_add, w_sub, w_mul, w_ban, w_bor, w_bxo, w_shl, w_shr, w_ush, w_dvi, w_rmi, w_aldi, w_aldj, w_aldz, w_aldc, w_alda, w_ite, w_cmp, w_cmj, w_cz, w_cnot, w_cand, w_cor, w_nil, w_cons, w_cvi, w_csta, w_cvt, w_cvv, w_csv, w_cpy, w_seq, w_sbr, w_sbn, w_brk, w_ifs, w_ifx, w_ife, w_wk, w_rets, w_rtv, w_thr, w_asi, w_asj, w_asa, w_inc, w_exs, w_asti, w_astj, w_astz, w_astc, w_aopadd, w_aopsub, w_sw, if_true, if_false, ↓reduceIte, hdl_c, S9_1, S9_m, bud9, live9, inb9, wrn, wr9_14, wr9_15, wr9_16, wr9_17, tq9_14, tq9_15, tq9_16, tq9_17, tq_0, tq_1, tq_3, upr_rl, rl_0, rl_1, rl_2, rl_3, rl_4, rl_5, rl_6, rl_7, rl_8, rl_9, rl_10, rl_11, rl_12, rl_13, sp_0, sp_1, sp_2, sp_3, sp_4, sp_5, sp_6, sp_7, sp_8, sp_9, sp_10, sp_11, sp_12, sp_13, se_0, se_1, se_2, se_3, se_4, se_5, se_6, se_7, se_8, se_9, se_10, se_11, se_12, se_13, sem_0, sem_1, sem_2, sem_3, sem_4, sem_5, sr_249_16, sr_249_50, sr_249_43, sr_249_64, sr_249_9, sr_249_54, sr_249_40, sr_249_14, sr_249_68, sr_249_17, sr_249_57, sr_249_10, sr_249_23, sr_249_13, sr_249_63, sr_249_31, sr_249_51, sr_249_24, sr_249_69, sr_249_8, sr_249_30, sr_249_2, sr_249_71, sr_249_22, kl9_249, sr_249_67, sr_249_55, sr_249_41, sr_249_35, sr_249_11, sr_249_12, sr_249_52, sr_249_42, kc_249, sr_249_34, sr_249_70, sr_249_61, sr_249_58, sr_249_15, sr_249_25, List.getD_cons_zero, List.getD_cons_succ, Bool.false_eq_true, wrn3, wrn1, cpmS, cpok9, e1]
  repeat' (first
    | (with_reducible exact True.intro)
    | (with_reducible rfl)
    | (with_reducible refine And.intro ?_ ?_)
    | intro _
    | (with_reducible refine p_169 (fun v9 h9 => ?_); simp only [hdl_c, S9_1, S9_m, bud9, live9, inb9, wrn, wr9_14, wr9_15, wr9_16, wr9_17, tq9_14, tq9_15, tq9_16, tq9_17, tq_0, tq_1, tq_3, upr_rl, rl_0, rl_1, rl_2, rl_3, rl_4, rl_5, rl_6, rl_7, rl_8, rl_9, rl_10, rl_11, rl_12, rl_13, sp_0, sp_1, sp_2, sp_3, sp_4, sp_5, sp_6, sp_7, sp_8, sp_9, sp_10, sp_11, sp_12, sp_13, se_0, se_1, se_2, se_3, se_4, se_5, se_6, se_7, se_8, se_9, se_10, se_11, se_12, se_13, sem_0, sem_1, sem_2, sem_3, sem_4, sem_5, List.getD_cons_zero, List.getD_cons_succ, Bool.false_eq_true, wrn3, wrn1, cpmS, cpok9, if_true, if_false, ↓reduceIte, wc_169, sr_249_16, sr_249_50, sr_249_43, sr_249_64, sr_249_9, sr_249_54, sr_249_40, sr_249_14, sr_249_68, sr_249_17, sr_249_57, sr_249_10, sr_249_23, sr_249_13, sr_249_63, sr_249_31, sr_249_51, sr_249_24, sr_249_69, sr_249_8, sr_249_30, sr_249_2, sr_249_71, sr_249_22, kl9_249, sr_249_67, sr_249_55, sr_249_41, sr_249_35, sr_249_11, sr_249_12, sr_249_52, sr_249_42, kc_249, sr_249_34, sr_249_70, sr_249_61, sr_249_58, sr_249_15, sr_249_25, e1])
    | (with_reducible refine hq _ ?_)
    | omega
    | (with_reducible contradiction)
    | (unfold w32; omega)
    | (simp (disch := omega) only [w32_eq]; omega)
    | (with_reducible show (_ : Int) ≤ _; simp [upm] <;> (first | omega | (unfold w32; omega)))
    | (with_reducible show (_ : Int) < _; simp [upm] <;> (first | omega | (unfold w32; omega))))

theorem p_201 {d : Nat} {e : Int} {m : Mem} {Q : Int → Sto → Prop} {a : Int} (h0 : 0 ≤ m 249 5 ∧ m 249 5 ≤ 5) (hq : ∀ v, (v = 1 ∧ 0 ≤ a ∧ a < m 249 5 ∨ v = 0 ∧ (a < 0 ∨ m 249 5 ≤ a)) → Q v (S9 e m)) : Cl (d + 2) 201 [249, a] Q (S9 e m) := by
  have e1 : w32 (m 249 5 - 1) = m 249 5 - 1 := by unfold w32; omega
  simp only [cl_201, runB, B201, ma_201, rho_20, wf_13_140, wc_169, w_cst, w_ldi, w_ldj, w_lda, w_ljk, w_ldk, w_ldw, w_ldk2, w_ldt, w_ldtw, w_neg, w_cvb, w_cvs, w_cvc, w_cvj, w_add, w_sub, w_mul, w_ban, w_bor, w_bxo, w_shl, w_shr, w_ush, w_dvi, w_rmi, w_aldi, w_aldj, w_aldz, w_aldc, w_alda, w_ite, w_cmp, w_cmj, w_cz, w_cnot, w_cand, w_cor, w_nil, w_cons, w_cvi, w_csta, w_cvt, w_cvv, w_csv, w_cpy, w_seq, w_sbr, w_sbn, w_brk, w_ifs, w_ifx, w_ife, w_wk, w_rets, w_rtv, w_thr, w_asi, w_asj, w_asa, w_inc, w_exs, w_asti, w_astj, w_astz, w_astc, w_aopadd, w_aopsub, w_sw, if_true, if_false, ↓reduceIte, hdl_c, S9_1, S9_m, bud9, live9, inb9, wrn, wr9_14, wr9_15, wr9_16, wr9_17, tq9_14, tq9_15, tq9_16, tq9_17, tq_0, tq_1, tq_3, upr_rl, rl_0, rl_1, rl_2, rl_3, rl_4, rl_5, rl_6, rl_7, rl_8, rl_9, rl_10, rl_11, rl_12, rl_13, sp_0, sp_1, sp_2, sp_3, sp_4, sp_5, sp_6, sp_7, sp_8, sp_9, sp_10, sp_11, sp_12, sp_13, se_0, se_1, se_2, se_3, se_4, se_5, se_6, se_7, se_8, se_9, se_10, se_11, se_12, se_13, sem_0, sem_1, sem_2, sem_3, sem_4, sem_5, sr_249_16, sr_249_50, sr_249_43, sr_249_64, sr_249_9, sr_249_54, sr_249_40, sr_249_14, sr_249_68, sr_249_17, sr_249_57, sr_249_10, sr_249_23, sr_249_13, sr_249_63, sr_249_31, sr_249_51, sr_249_24, sr_249_69, sr_249_8, sr_249_30, sr_249_2, sr_249_71, sr_249_22, kl9_249, sr_249_67, sr_249_55, sr_249_41, sr_249_35, sr_249_11, sr_249_12, sr_249_52, sr_249_42, kc_249, sr_249_34, sr_249_70, sr_249_61, sr_249_58, sr_249_15, sr_249_25, List.getD_cons_zero, List.getD_cons_succ, Bool.false_eq_true, wrn3, wrn1, cpmS, cpok9, e1]
  repeat' (first
    | (with_reducible exact True.intro)
    | (with_reducible rfl)
    | (with_reducible refine And.intro ?_ ?_)
    | intro _
    | (with_reducible refine p_169 (fun v9 h9 => ?_); simp only [hdl_c, S9_1, S9_m, bud9, live9, inb9, wrn, wr9_14, wr9_15, wr9_16, wr9_17, tq9_14, tq9_15, tq9_16, tq9_17, tq_0, tq_1, tq_3, upr_rl, rl_0, rl_1, rl_2, rl_3, rl_4, rl_5, rl_6, rl_7, rl_8, rl_9, rl_10, rl_11, rl_12, rl_13, sp_0, sp_1, sp_2, sp_3, sp_4, sp_5, sp_6, sp_7, sp_8, sp_9, sp_10, sp_11, sp_12, sp_13, se_0, se_1, se_2, se_3, se_4, se_5, se_6, se_7, se_8, se_9, se_10, se_11, se_12, se_13, sem_0, sem_1, sem_2, sem_3, sem_4, sem_5, List.getD_cons_zero, List.getD_cons_succ, Bool.false_eq_true, wrn3, wrn1, cpmS, cpok9, if_true, if_false, ↓reduceIte, wc_169, sr_249_16, sr_249_50, sr_249_43, sr_249_64, sr_249_9, sr_249_54, sr_249_40, sr_249_14, sr_249_68, sr_249_17, sr_249_57, sr_249_10, sr_249_23, sr_249_13, sr_249_63, sr_249_31, sr_249_51, sr_249_24, sr_249_69, sr_249_8, sr_249_30, sr_249_2, sr_249_71, sr_249_22, kl9_249, sr_249_67, sr_249_55, sr_249_41, sr_249_35, sr_249_11, sr_249_12, sr_249_52, sr_249_42, kc_249, sr_249_34, sr_249_70, sr_249_61, sr_249_58, sr_249_15, sr_249_25, e1])
    | (with_reducible refine hq _ ?_)
    | omega
    | (with_reducible contradiction)
    | (unfold w32; omega)
    | (simp (disch := omega) only [w32_eq]; omega)
    | (with_reducible show (_ : Int) ≤ _; simp [upm] <;> (first | omega | (unfold w32; omega)))
    | (with_reducible show (_ : Int) < _; simp [upm] <;> (first | omega | (unfold w32; omega))))

theorem p_205 {d : Nat} {e : Int} {m : Mem} {Q : Int → Sto → Prop} {a : Int} (h0 : 0 ≤ m 249 6 ∧ m 249 6 ≤ 5) (hq : ∀ v, (v = 1 ∧ 0 ≤ a ∧ a < m 249 6 ∨ v = 0 ∧ (a < 0 ∨ m 249 6 ≤ a)) → Q v (S9 e m)) : Cl (d + 2) 205 [249, a] Q (S9 e m) := by
  have e1 : w32 (m 249 6 - 1) = m 249 6 - 1 := by unfold w32; omega
  simp only [cl_205, runB, B205, ma_205, rho_20, wf_13_143, wc_169, w_cst, w_ldi, w_ldj, w_lda, w_ljk, w_ldk, w_ldw, w_ldk2, w_ldt, w_ldtw, w_neg, w_cvb, w_cvs, w_cvc, w_cvj, w_add, w_sub, w_mul, w_ban, w_bor, w_bxo, w_shl, w_shr, w_ush, w_dvi, w_rmi, w_aldi, w_aldj, w_aldz, w_aldc, w_alda, w_ite, w_cmp, w_cmj, w_cz, w_cnot, w_cand, w_cor, w_nil, w_cons, w_cvi, w_csta, w_cvt, w_cvv, w_csv, w_cpy, w_seq, w_sbr, w_sbn, w_brk, w_ifs, w_ifx, w_ife, w_wk, w_rets, w_rtv, w_thr, w_asi, w_asj, w_asa, w_inc, w_exs, w_asti, w_astj, w_astz, w_astc, w_aopadd, w_aopsub, w_sw, if_true, if_false, ↓reduceIte, hdl_c, S9_1, S9_m, bud9, live9, inb9, wrn, wr9_14, wr9_15, wr9_16, wr9_17, tq9_14, tq9_15, tq9_16, tq9_17, tq_0, tq_1, tq_3, upr_rl, rl_0, rl_1, rl_2, rl_3, rl_4, rl_5, rl_6, rl_7, rl_8, rl_9, rl_10, rl_11, rl_12, rl_13, sp_0, sp_1, sp_2, sp_3, sp_4, sp_5, sp_6, sp_7, sp_8, sp_9, sp_10, sp_11, sp_12, sp_13, se_0, se_1, se_2, se_3, se_4, se_5, se_6, se_7, se_8, se_9, se_10, se_11, se_12, se_13, sem_0, sem_1, sem_2, sem_3, sem_4, sem_5, sr_249_16, sr_249_50, sr_249_43, sr_249_64, sr_249_9, sr_249_54, sr_249_40, sr_249_14, sr_249_68, sr_249_17, sr_249_57, sr_249_10, sr_249_23, sr_249_13, sr_249_63, sr_249_31, sr_249_51, sr_249_24, sr_249_69, sr_249_8, sr_249_30, sr_249_2, sr_249_71, sr_249_22, kl9_249, sr_249_67, sr_249_55, sr_249_41, sr_249_35, sr_249_11, sr_249_12, sr_249_52, sr_249_42, kc_249, sr_249_34, sr_249_70, sr_249_61, sr_249_58, sr_249_15, sr_249_25, List.getD_cons_zero, List.getD_cons_succ, Bool.false_eq_true, wrn3, wrn1, cpmS, cpok9, e1]
  repeat' (first
    | (with_reducible exact True.intro)
    | (with_reducible rfl)
    | (with_reducible refine And.intro ?_ ?_)
    | intro _
    | (with_reducible refine p_169 (fun v9 h9 => ?_); simp only [hdl_c, S9_1, S9_m, bud9, live9, inb9, wrn, wr9_14, wr9_15, wr9_16, wr9_17, tq9_14, tq9_15, tq9_16, tq9_17, tq_0, tq_1, tq_3, upr_rl, rl_0, rl_1, rl_2, rl_3, rl_4, rl_5, rl_6, rl_7, rl_8, rl_9, rl_10, rl_11, rl_12, rl_13, sp_0, sp_1, sp_2, sp_3, sp_4, sp_5, sp_6, sp_7, sp_8, sp_9, sp_10, sp_11, sp_12, sp_13, se_0, se_1, se_2, se_3, se_4, se_5, se_6, se_7, se_8, se_9, se_10, se_11, se_12, se_13, sem_0, sem_1, sem_2, sem_3, sem_4, sem_5, List.getD_cons_zero, List.getD_cons_succ, Bool.false_eq_true, wrn3, wrn1, cpmS, cpok9, if_true, if_false, ↓reduceIte, wc_169, sr_249_16, sr_249_50, sr_249_43, sr_249_64, sr_249_9, sr_249_54, sr_249_40, sr_249_14, sr_249_68, sr_249_17, sr_249_57, sr_249_10, sr_249_23, sr_249_13, sr_249_63, sr_249_31, sr_249_51, sr_249_24, sr_249_69, sr_249_8, sr_249_30, sr_249_2, sr_249_71, sr_249_22, kl9_249, sr_249_67, sr_249_55, sr_249_41, sr_249_35, sr_249_11, sr_249_12, sr_249_52, sr_249_42, kc_249, sr_249_34, sr_249_70, sr_249_61, sr_249_58, sr_249_15, sr_249_25, e1])
    | (with_reducible refine hq _ ?_)
    | omega
    | (with_reducible contradiction)
    | (unfold w32; omega)
    | (simp (disch := omega) only [w32_eq]; omega)
    | (with_reducible show (_ : Int) ≤ _; simp [upm] <;> (first | omega | (unfold w32; omega)))
    | (with_reducible show (_ : Int) < _; simp [upm] <;> (first | omega | (unfold w32; omega))))

theorem p_197 {d : Nat} {e : Int} {m : Mem} {Q : Int → Sto → Prop} {a : Int} (h0 : 0 ≤ m 249 4 ∧ m 249 4 ≤ 14) (hq : ∀ v, (v = 1 ∧ 0 ≤ a ∧ a < m 249 4 ∨ v = 0 ∧ (a < 0 ∨ m 249 4 ≤ a)) → Q v (S9 e m)) : Cl (d + 2) 197 [249, a] Q (S9 e m) := by
  have e1 : w32 (m 249 4 - 1) = m 249 4 - 1 := by unfold w32; omega
  simp only [cl_197, runB, B197, ma_197, rho_20, wf_13_146, wc_169, w_cst, w_ldi, w_ldj, w_lda, w_ljk, w_ldk, w_ldw, w_ldk2, w_ldt, w_ldtw, w_neg, w_cvb, w_cvs, w_cvc, w_cvj, w_add, w_sub, w_mul, w_ban, w_bor, w_bxo, w_shl, w_shr, w_ush, w_dvi, w_rmi, w_aldi, w_aldj, w_aldz, w_aldc, w_alda, w_ite, w_cmp, w_cmj, w_cz, w_cnot, w_cand, w_cor, w_nil, w_cons, w_cvi, w_csta, w_cvt, w_cvv, w_csv, w_cpy, w_seq, w_sbr, w_sbn, w_brk, w_ifs, w_ifx, w_ife, w_wk, w_rets, w_rtv, w_thr, w_asi, w_asj, w_asa, w_inc, w_exs, w_asti, w_astj, w_astz, w_astc, w_aopadd, w_aopsub, w_sw, if_true, if_false, ↓reduceIte, hdl_c, S9_1, S9_m, bud9, live9, inb9, wrn, wr9_14, wr9_15, wr9_16, wr9_17, tq9_14, tq9_15, tq9_16, tq9_17, tq_0, tq_1, tq_3, upr_rl, rl_0, rl_1, rl_2, rl_3, rl_4, rl_5, rl_6, rl_7, rl_8, rl_9, rl_10, rl_11, rl_12, rl_13, sp_0, sp_1, sp_2, sp_3, sp_4, sp_5, sp_6, sp_7, sp_8, sp_9, sp_10, sp_11, sp_12, sp_13, se_0, se_1, se_2, se_3, se_4, se_5, se_6, se_7, se_8, se_9, se_10, se_11, se_12, se_13, sem_0, sem_1, sem_2, sem_3, sem_4, sem_5, sr_249_16, sr_249_50, sr_249_43, sr_249_64, sr_249_9, sr_249_54, sr_249_40, sr_249_14, sr_249_68, sr_249_17, sr_249_57, sr_249_10, sr_249_23, sr_249_13, sr_249_63, sr_249_31, sr_249_51, sr_249_24, sr_249_69, sr_249_8, sr_249_30, sr_249_2, sr_249_71, sr_249_22, kl9_249, sr_249_67, sr_249_55, sr_249_41, sr_249_35, sr_249_11, sr_249_12, sr_249_52, sr_249_42, kc_249, sr_249_34, sr_249_70, sr_249_61, sr_249_58, sr_249_15, sr_249_25, List.getD_cons_zero, List.getD_cons_succ, Bool.false_eq_true, wrn3, wrn1, cpmS, cpok9, e1]
  repeat' (first
    | (with_reducible exact True.intro)
    | (with_reducible rfl)
    | (with_reducible refine And.intro ?_ ?_)
    | intro _
    | (with_reducible refine p_169 (fun v9 h9 => ?_); simp only [hdl_c, S9_1, S9_m, bud9, live9, inb9, wrn, wr9_14, wr9_15, wr9_16, wr9_17, tq9_14, tq9_15, tq9_16, tq9_17, tq_0, tq_1, tq_3, upr_rl, rl_0, rl_1, rl_2, rl_3, rl_4, rl_5, rl_6, rl_7, rl_8, rl_9, rl_10, rl_11, rl_12, rl_13, sp_0, sp_1, sp_2, sp_3, sp_4, sp_5, sp_6, sp_7, sp_8, sp_9, sp_10, sp_11, sp_12, sp_13, se_0, se_1, se_2, se_3, se_4, se_5, se_6, se_7, se_8, se_9, se_10, se_11, se_12, se_13, sem_0, sem_1, sem_2, sem_3, sem_4, sem_5, List.getD_cons_zero, List.getD_cons_succ, Bool.false_eq_true, wrn3, wrn1, cpmS, cpok9, if_true, if_false, ↓reduceIte, wc_169, sr_249_16, sr_249_50, sr_249_43, sr_249_64, sr_249_9, sr_249_54, sr_249_40, sr_249_14, sr_249_68, sr_249_17, sr_249_57, sr_249_10, sr_249_23, sr_249_13, sr_249_63, sr_249_31, sr_249_51, sr_249_24, sr_249_69, sr_249_8, sr_249_30, sr_249_2, sr_249_71, sr_249_22, kl9_249, sr_249_67, sr_249_55, sr_249_41, sr_249_35, sr_249_11, sr_249_12, sr_249_52, sr_249_42, kc_249, sr_249_34, sr_249_70, sr_249_61, sr_249_58, sr_249_15, sr_249_25, e1])
    | (with_reducible refine hq _ ?_)
    | omega
    | (with_reducible contradiction)
    | (unfold w32; omega)
    | (simp (disch := omega) only [w32_eq]; omega)
    | (with_reducible show (_ : Int) ≤ _; simp [upm] <;> (first | omega | (unfold w32; omega)))
    | (with_reducible show (_ : Int) < _; simp [upm] <;> (first | omega | (unfold w32; omega))))

theorem p_198 {d : Nat} {e : Int} {m : Mem} {Q : Int → Sto → Prop} {a : Int} (ha : 0 ≤ a ∧ a < 14) (hq : ∀ v, (v = 0 ∨ v = 1) → Q v (S9 e m)) : Cl (d + 2) 198 [249, a] Q (S9 e m) := by
  simp only [cl_198, runB, B198, ma_198, rho_20, wf_13_26, wf_13_36, wc_199, w_cst, w_ldi, w_ldj, w_lda, w_ljk, w_ldk, w_ldw, w_ldk2, w_ldt, w_ldtw, w_neg, w_cvb, w_cvs, w_cvc, w_cvj, w_add, w_sub, w_mul, w_ban, w_bor, w_bxo, w_shl, w_shr, w_ush, w_dvi, w_rmi, w_aldi, w_aldj, w_aldz, w_aldc, w_alda, w_ite, w_cmp, w_cmj, w_cz, w_cnot, w_cand, w_cor, w_nil, w_cons, w_cvi, w_csta, w_cvt, w_cvv, w_csv, w_cpy, w_seq, w_sbr, w_sbn, w_brk, w_ifs, w_ifx, w_ife, w_wk, w_rets, w_rtv, w_thr, w_asi, w_asj, w_asa, w_inc, w_exs, w_asti, w_astj, w_astz, w_astc, w_aopadd, w_aopsub, w_sw, if_true, if_false, ↓reduceIte, hdl_c, S9_1, S9_m, bud9, live9, inb9, wrn, wr9_14, wr9_15, wr9_16, wr9_17, tq9_14, tq9_15, tq9_16, tq9_17, tq_0, tq_1, tq_3, upr_rl, rl_0, rl_1, rl_2, rl_3, rl_4, rl_5, rl_6, rl_7, rl_8, rl_9, rl_10, rl_11, rl_12, rl_13, sp_0, sp_1, sp_2, sp_3, sp_4, sp_5, sp_6, sp_7, sp_8, sp_9, sp_10, sp_11, sp_12, sp_13, se_0, se_1, se_2, se_3, se_4, se_5, se_6, se_7, se_8, se_9, se_10, se_11, se_12, se_13, sem_0, sem_1, sem_2, sem_3, sem_4, sem_5, sr_249_16, sr_249_50, sr_249_43, sr_249_64, sr_249_9, sr_249_54, sr_249_40, sr_249_14, sr_249_68, sr_249_17, sr_249_57, sr_249_10, sr_249_23, sr_249_13, sr_249_63, sr_249_31, sr_249_51, sr_249_24, sr_249_69, sr_249_8, sr_249_30, sr_249_2, sr_249_71, sr_249_22, kl9_249, sr_249_67, sr_249_55, sr_249_41, sr_249_35, sr_249_11, sr_249_12, sr_249_52, sr_249_42, kc_249, sr_249_34, sr_249_70, sr_249_61, sr_249_58, sr_249_15, sr_249_25, kl9_255, kc_255, kl9_258, kc_258, List.getD_cons_zero, List.getD_cons_succ, Bool.false_eq_true, wrn3, wrn1, cpmS, cpok9]
  repeat' (first
    | (with_reducible exact True.intro)
    | (with_reducible rfl)
    | (with_reducible refine And.intro ?_ ?_)
    | intro _
    | (with_reducible refine p_199 (fun v9 h9 => ?_); simp only [hdl_c, S9_1, S9_m, bud9, live9, inb9, wrn, wr9_14, wr9_15, wr9_16, wr9_17, tq9_14, tq9_15, tq9_16, tq9_17, tq_0, tq_1, tq_3, upr_rl, rl_0, rl_1, rl_2, rl_3, rl_4, rl_5, rl_6, rl_7, rl_8, rl_9, rl_10, rl_11, rl_12, rl_13, sp_0, sp_1, sp_2, sp_3, sp_4, sp_5, sp_6, sp_7, sp_8, sp_9, sp_10, sp_11, sp_12, sp_13, se_0, se_1, se_2, se_3, se_4, se_5, se_6, se_7, se_8, se_9, se_10, se_11, se_12, se_13, sem_0, sem_1, sem_2, sem_3, sem_4, sem_5, List.getD_cons_zero, List.getD_cons_succ, Bool.false_eq_true, wrn3, wrn1, cpmS, cpok9, if_true, if_false, ↓reduceIte, wc_199, sr_249_16, sr_249_50, sr_249_43, sr_249_64, sr_249_9, sr_249_54, sr_249_40, sr_249_14, sr_249_68, sr_249_17, sr_249_57, sr_249_10, sr_249_23, sr_249_13, sr_249_63, sr_249_31, sr_249_51, sr_249_24, sr_249_69, sr_249_8, sr_249_30, sr_249_2, sr_249_71, sr_249_22, kl9_249, sr_249_67, sr_249_55, sr_249_41, sr_249_35, sr_249_11, sr_249_12, sr_249_52, sr_249_42, kc_249, sr_249_34, sr_249_70, sr_249_61, sr_249_58, sr_249_15, sr_249_25, kl9_255, kc_255, kl9_258, kc_258])
    | (with_reducible refine hq _ ?_)
    | omega
    | (with_reducible contradiction)
    | (unfold w32; omega)
    | (simp (disch := omega) only [w32_eq]; omega)
    | (with_reducible show (_ : Int) ≤ _; simp [upm] <;> (first | omega | (unfold w32; omega)))
    | (with_reducible show (_ : Int) < _; simp [upm] <;> (first | omega | (unfold w32; omega))))

theorem p_203 {d : Nat} {e : Int} {m : Mem} {Q : Int → Sto → Prop} {a : Int} (ha : 0 ≤ a ∧ a ≤ 4) (hq : Q (m 258 (20 + 7 * a)) (S9 e m)) : Cl (d + 2) 203 [249, a] Q (S9 e m) := by
  simp only [cl_203, runB, B203, ma_203, rho_20, wf_13_36, wc_188, w_cst, w_ldi, w_ldj, w_lda, w_ljk, w_ldk, w_ldw, w_ldk2, w_ldt, w_ldtw, w_neg, w_cvb, w_cvs, w_cvc, w_cvj, w_add, w_sub, w_mul, w_ban, w_bor, w_bxo, w_shl, w_shr, w_ush, w_dvi, w_rmi, w_aldi, w_aldj, w_aldz, w_aldc, w_alda, w_ite, w_cmp, w_cmj, w_cz, w_cnot, w_cand, w_cor, w_nil, w_cons, w_cvi, w_csta, w_cvt, w_cvv, w_csv, w_cpy, w_seq, w_sbr, w_sbn, w_brk, w_ifs, w_ifx, w_ife, w_wk, w_rets, w_rtv, w_thr, w_asi, w_asj, w_asa, w_inc, w_exs, w_asti, w_astj, w_astz, w_astc, w_aopadd, w_aopsub, w_sw, if_true, if_false, ↓reduceIte, hdl_c, S9_1, S9_m, bud9, live9, inb9, wrn, wr9_14, wr9_15, wr9_16, wr9_17, tq9_14, tq9_15, tq9_16, tq9_17, tq_0, tq_1, tq_3, upr_rl, rl_0, rl_1, rl_2, rl_3, rl_4, rl_5, rl_6, rl_7, rl_8, rl_9, rl_10, rl_11, rl_12, rl_13, sp_0, sp_1, sp_2, sp_3, sp_4, sp_5, sp_6, sp_7, sp_8, sp_9, sp_10, sp_11, sp_12, sp_13, se_0, se_1, se_2, se_3, se_4, se_5, se_6, se_7, se_8, se_9, se_10, se_11, se_12, se_13, sem_0, sem_1, sem_2, sem_3, sem_4, sem_5, sr_249_16, sr_249_50, sr_249_43, sr_249_64, sr_249_9, sr_249_54, sr_249_40, sr_249_14, sr_249_68, sr_249_17, sr_249_57, sr_249_10, sr_249_23, sr_249_13, sr_249_63, sr_249_31, sr_249_51, sr_249_24, sr_249_69, sr_249_8, sr_249_30, sr_249_2, sr_249_71, sr_249_22, kl9_249, sr_249_67, sr_249_55, sr_249_41, sr_249_35, sr_249_11, sr_249_12, sr_249_52, sr_249_42, kc_249, sr_249_34, sr_249_70, sr_249_61, sr_249_58, sr_249_15, sr_249_25, kl9_258, kc_258, List.getD_cons_zero, List.getD_cons_succ, Bool.false_eq_true, wrn3, wrn1, cpmS, cpok9]
  repeat' (first
    | (with_reducible exact True.intro)
    | (with_reducible rfl)
    | (with_reducible refine And.intro ?_ ?_)
    | intro _
    | (with_reducible refine p_188 ?_ ?_; (next => first | omega | (with_reducible rfl) | decide | (unfold w32; omega) | (simp (disch := omega) only [w32_eq]; omega) | (simp [upm] <;> (first | omega | (unfold w32; omega)))); simp only [hdl_c, S9_1, S9_m, bud9, live9, inb9, wrn, wr9_14, wr9_15, wr9_16, wr9_17, tq9_14, tq9_15, tq9_16, tq9_17, tq_0, tq_1, tq_3, upr_rl, rl_0, rl_1, rl_2, rl_3, rl_4, rl_5, rl_6, rl_7, rl_8, rl_9, rl_10, rl_11, rl_12, rl_13, sp_0, sp_1, sp_2, sp_3, sp_4, sp_5, sp_6, sp_7, sp_8, sp_9, sp_10, sp_11, sp_12, sp_13, se_0, se_1, se_2, se_3, se_4, se_5, se_6, se_7, se_8, se_9, se_10, se_11, se_12, se_13, sem_0, sem_1, sem_2, sem_3, sem_4, sem_5, List.getD_cons_zero, List.getD_cons_succ, Bool.false_eq_true, wrn3, wrn1, cpmS, cpok9, if_true, if_false, ↓reduceIte, wc_188, sr_249_16, sr_249_50, sr_249_43, sr_249_64, sr_249_9, sr_249_54, sr_249_40, sr_249_14, sr_249_68, sr_249_17, sr_249_57, sr_249_10, sr_249_23, sr_249_13, sr_249_63, sr_249_31, sr_249_51, sr_249_24, sr_249_69, sr_249_8, sr_249_30, sr_249_2, sr_249_71, sr_249_22, kl9_249, sr_249_67, sr_249_55, sr_249_41, sr_249_35, sr_249_11, sr_249_12, sr_249_52, sr_249_42, kc_249, sr_249_34, sr_249_70, sr_249_61, sr_249_58, sr_249_15, sr_249_25, kl9_258, kc_258]; (try simp (disch := omega) only [w15_0, w15_1, w15_3, w15_4, w15_5, w15_6, w3_0, w3_1, w3_2]))
    | exact hq
    | omega
    | (with_reducible contradiction)
    | (unfold w32; omega)
    | (simp (disch := omega) only [w32_eq]; omega)
    | (with_reducible show (_ : Int) ≤ _; simp [upm] <;> (first | omega | (unfold w32; omega)))
    | (with_reducible show (_ : Int) < _; simp [upm] <;> (first | omega | (unfold w32; omega))))

theorem p_211 {d : Nat} {e : Int} {m : Mem} {Q : Int → Sto → Prop} {a : Int} (h0 : 0 ≤ m 249 5 ∧ m 249 5 ≤ 5) (hq : ∀ v, (v = 1 ∧ 0 ≤ a ∧ a < m 249 5 ∨ v = 0) → Q v (S9 e m)) : Cl (d + 3) 211 [249, a] Q (S9 e m) := by
  simp only [cl_211, runB, B211, ma_211, rho_20, wf_13_36, wc_201, w_cst, w_ldi, w_ldj, w_lda, w_ljk, w_ldk, w_ldw, w_ldk2, w_ldt, w_ldtw, w_neg, w_cvb, w_cvs, w_cvc, w_cvj, w_add, w_sub, w_mul, w_ban, w_bor, w_bxo, w_shl, w_shr, w_ush, w_dvi, w_rmi, w_aldi, w_aldj, w_aldz, w_aldc, w_alda, w_ite, w_cmp, w_cmj, w_cz, w_cnot, w_cand, w_cor, w_nil, w_cons, w_cvi, w_csta, w_cvt, w_cvv, w_csv, w_cpy, w_seq, w_sbr, w_sbn, w_brk, w_ifs, w_ifx, w_ife, w_wk, w_rets, w_rtv, w_thr, w_asi, w_asj, w_asa, w_inc, w_exs, w_asti, w_astj, w_astz, w_astc, w_aopadd, w_aopsub, w_sw, if_true, if_false, ↓reduceIte, hdl_c, S9_1, S9_m, bud9, live9, inb9, wrn, wr9_14, wr9_15, wr9_16, wr9_17, tq9_14, tq9_15, tq9_16, tq9_17, tq_0, tq_1, tq_3, upr_rl, rl_0, rl_1, rl_2, rl_3, rl_4, rl_5, rl_6, rl_7, rl_8, rl_9, rl_10, rl_11, rl_12, rl_13, sp_0, sp_1, sp_2, sp_3, sp_4, sp_5, sp_6, sp_7, sp_8, sp_9, sp_10, sp_11, sp_12, sp_13, se_0, se_1, se_2, se_3, se_4, se_5, se_6, se_7, se_8, se_9, se_10, se_11, se_12, se_13, sem_0, sem_1, sem_2, sem_3, sem_4, sem_5, sr_249_16, sr_249_50, sr_249_43, sr_249_64, sr_249_9, sr_249_54, sr_249_40, sr_249_14, sr_249_68, sr_249_17, sr_249_57, sr_249_10, sr_249_23, sr_249_13, sr_249_63, sr_249_31, sr_249_51, sr_249_24, sr_249_69, sr_249_8, sr_249_30, sr_249_2, sr_249_71, sr_249_22, kl9_249, sr_249_67, sr_249_55, sr_249_41, sr_249_35, sr_249_11, sr_249_12, sr_249_52, sr_249_42, kc_249, sr_249_34, sr_249_70, sr_249_61, sr_249_58, sr_249_15, sr_249_25, kl9_258, kc_258, List.getD_cons_zero, List.getD_cons_succ, Bool.false_eq_true, wrn3, wrn1, cpmS, cpok9]
  repeat' (first
    | (with_reducible exact True.intro)
    | (with_reducible rfl)
    | (with_reducible refine And.intro ?_ ?_)
    | intro _
    | (with_reducible refine p_201 ?_ (fun v9 h9 => ?_); (next => first | omega | (with_reducible rfl) | decide | (unfold w32; omega) | (simp (disch := omega) only [w32_eq]; omega) | (simp [upm] <;> (first | omega | (unfold w32; omega)))); simp only [hdl_c, S9_1, S9_m, bud9, live9, inb9, wrn, wr9_14, wr9_15, wr9_16, wr9_17, tq9_14, tq9_15, tq9_16, tq9_17, tq_0, tq_1, tq_3, upr_rl, rl_0, rl_1, rl_2, rl_3, rl_4, rl_5, rl_6, rl_7, rl_8, rl_9, rl_10, rl_11, rl_12, rl_13, sp_0, sp_1, sp_2, sp_3, sp_4, sp_5, sp_6, sp_7, sp_8, sp_9, sp_10, sp_11, sp_12, sp_13, se_0, se_1, se_2, se_3, se_4, se_5, se_6, se_7, se_8, se_9, se_10, se_11, se_12, se_13, sem_0, sem_1, sem_2, sem_3, sem_4, sem_5, List.getD_cons_zero, List.getD_cons_succ, Bool.false_eq_true, wrn3, wrn1, cpmS, cpok9, if_true, if_false, ↓reduceIte, wc_201, sr_249_16, sr_249_50, sr_249_43, sr_249_64, sr_249_9, sr_249_54, sr_249_40, sr_249_14, sr_249_68, sr_249_17, sr_249_57, sr_249_10, sr_249_23, sr_249_13, sr_249_63, sr_249_31, sr_249_51, sr_249_24, sr_249_69, sr_249_8, sr_249_30, sr_249_2, sr_249_71, sr_249_22, kl9_249, sr_249_67, sr_249_55, sr_249_41, sr_249_35, sr_249_11, sr_249_12, sr_249_52, sr_249_42, kc_249, sr_249_34, sr_249_70, sr_249_61, sr_249_58, sr_249_15, sr_249_25, kl9_258, kc_258])
    | (with_reducible refine hq _ ?_)
    | omega
    | (with_reducible contradiction)
    | (unfold w32; omega)
    | (simp (disch := omega) only [w32_eq]; omega)
    | (with_reducible show (_ : Int) ≤ _; simp [upm] <;> (first | omega | (unfold w32; omega)))
    | (with_reducible show (_ : Int) < _; simp [upm] <;> (first | omega | (unfold w32; omega))))

theorem p_239 {d : Nat} {e : Int} {m : Mem} {Q : Int → Sto → Prop} {a : Int} (h0 : 0 ≤ m 249 6 ∧ m 249 6 ≤ 5) (hq : ∀ v, (v = 1 ∧ 0 ≤ a ∧ a < m 249 6 ∧ 0 ≤ m 258 (20 + 7 * a) ∨ v = 0) → Q v (S9 e m)) : Cl (d + 3) 239 [249, a] Q (S9 e m) := by
  simp only [cl_239, runB, B239, ma_239, rho_20, wc_203, wc_205, w_cst, w_ldi, w_ldj, w_lda, w_ljk, w_ldk, w_ldw, w_ldk2, w_ldt, w_ldtw, w_neg, w_cvb, w_cvs, w_cvc, w_cvj, w_add, w_sub, w_mul, w_ban, w_bor, w_bxo, w_shl, w_shr, w_ush, w_dvi, w_rmi, w_aldi, w_aldj, w_aldz, w_aldc, w_alda, w_ite, w_cmp, w_cmj, w_cz, w_cnot, w_cand, w_cor, w_nil, w_cons, w_cvi, w_csta, w_cvt, w_cvv, w_csv, w_cpy, w_seq, w_sbr, w_sbn, w_brk, w_ifs, w_ifx, w_ife, w_wk, w_rets, w_rtv, w_thr, w_asi, w_asj, w_asa, w_inc, w_exs, w_asti, w_astj, w_astz, w_astc, w_aopadd, w_aopsub, w_sw, if_true, if_false, ↓reduceIte, hdl_c, S9_1, S9_m, bud9, live9, inb9, wrn, wr9_14, wr9_15, wr9_16, wr9_17, tq9_14, tq9_15, tq9_16, tq9_17, tq_0, tq_1, tq_3, upr_rl, rl_0, rl_1, rl_2, rl_3, rl_4, rl_5, rl_6, rl_7, rl_8, rl_9, rl_10, rl_11, rl_12, rl_13, sp_0, sp_1, sp_2, sp_3, sp_4, sp_5, sp_6, sp_7, sp_8, sp_9, sp_10, sp_11, sp_12, sp_13, se_0, se_1, se_2, se_3, se_4, se_5, se_6, se_7, se_8, se_9, se_10, se_11, se_12, se_13, sem_0, sem_1, sem_2, sem_3, sem_4, sem_5, sr_249_16, sr_249_50, sr_249_43, sr_249_64, sr_249_9, sr_249_54, sr_249_40, sr_249_14, sr_249_68, sr_249_17, sr_249_57, sr_249_10, sr_249_23, sr_249_13, sr_249_63, sr_249_31, sr_249_51, sr_249_24, sr_249_69, sr_249_8, sr_249_30, sr_249_2, sr_249_71, sr_249_22, kl9_249, sr_249_67, sr_249_55, sr_249_41, sr_249_35, sr_249_11, sr_249_12, sr_249_52, sr_249_42, kc_249, sr_249_34, sr_249_70, sr_249_61, sr_249_58, sr_249_15, sr_249_25, kl9_258, kc_258, List.getD_cons_zero, List.getD_cons_succ, Bool.false_eq_true, wrn3, wrn1, cpmS, cpok9]
  repeat' (first
    | (with_reducible exact True.intro)
    | (with_reducible rfl)
    | (with_reducible refine And.intro ?_ ?_)
    | intro _
    | (with_reducible refine p_203 ?_ ?_; (next => first | omega | (with_reducible rfl) | decide | (unfold w32; omega) | (simp (disch := omega) only [w32_eq]; omega) | (simp [upm] <;> (first | omega | (unfold w32; omega)))); simp only [hdl_c, S9_1, S9_m, bud9, live9, inb9, wrn, wr9_14, wr9_15, wr9_16, wr9_17, tq9_14, tq9_15, tq9_16, tq9_17, tq_0, tq_1, tq_3, upr_rl, rl_0, rl_1, rl_2, rl_3, rl_4, rl_5, rl_6, rl_7, rl_8, rl_9, rl_10, rl_11, rl_12, rl_13, sp_0, sp_1, sp_2, sp_3, sp_4, sp_5, sp_6, sp_7, sp_8, sp_9, sp_10, sp_11, sp_12, sp_13, se_0, se_1, se_2, se_3, se_4, se_5, se_6, se_7, se_8, se_9, se_10, se_11, se_12, se_13, sem_0, sem_1, sem_2, sem_3, sem_4, sem_5, List.getD_cons_zero, List.getD_cons_succ, Bool.false_eq_true, wrn3, wrn1, cpmS, cpok9, if_true, if_false, ↓reduceIte, wc_203, wc_205, sr_249_16, sr_249_50, sr_249_43, sr_249_64, sr_249_9, sr_249_54, sr_249_40, sr_249_14, sr_249_68, sr_249_17, sr_249_57, sr_249_10, sr_249_23, sr_249_13, sr_249_63, sr_249_31, sr_249_51, sr_249_24, sr_249_69, sr_249_8, sr_249_30, sr_249_2, sr_249_71, sr_249_22, kl9_249, sr_249_67, sr_249_55, sr_249_41, sr_249_35, sr_249_11, sr_249_12, sr_249_52, sr_249_42, kc_249, sr_249_34, sr_249_70, sr_249_61, sr_249_58, sr_249_15, sr_249_25, kl9_258, kc_258]; (try simp (disch := omega) only [w15_0, w15_1, w15_3, w15_4, w15_5, w15_6, w3_0, w3_1, w3_2]))
    | (with_reducible refine p_205 ?_ (fun v9 h9 => ?_); (next => first | omega | (with_reducible rfl) | decide | (unfold w32; omega) | (simp (disch := omega) only [w32_eq]; omega) | (simp [upm] <;> (first | omega | (unfold w32; omega)))); simp only [hdl_c, S9_1, S9_m, bud9, live9, inb9, wrn, wr9_14, wr9_15, wr9_16, wr9_17, tq9_14, tq9_15, tq9_16, tq9_17, tq_0, tq_1, tq_3, upr_rl, rl_0, rl_1, rl_2, rl_3, rl_4, rl_5, rl_6, rl_7, rl_8, rl_9, rl_10, rl_11, rl_12, rl_13, sp_0, sp_1, sp_2, sp_3, sp_4, sp_5, sp_6, sp_7, sp_8, sp_9, sp_10, sp_11, sp_12, sp_13, se_0, se_1, se_2, se_3, se_4, se_5, se_6, se_7, se_8, se_9, se_10, se_11, se_12, se_13, sem_0, sem_1, sem_2, sem_3, sem_4, sem_5, List.getD_cons_zero, List.getD_cons_succ, Bool.false_eq_true, wrn3, wrn1, cpmS, cpok9, if_true, if_false, ↓reduceIte, wc_203, wc_205, sr_249_16, sr_249_50, sr_249_43, sr_249_64, sr_249_9, sr_249_54, sr_249_40, sr_249_14, sr_249_68, sr_249_17, sr_249_57, sr_249_10, sr_249_23, sr_249_13, sr_249_63, sr_249_31, sr_249_51, sr_249_24, sr_249_69, sr_249_8, sr_249_30, sr_249_2, sr_249_71, sr_249_22, kl9_249, sr_249_67, sr_249_55, sr_249_41, sr_249_35, sr_249_11, sr_249_12, sr_249_52, sr_249_42, kc_249, sr_249_34, sr_249_70, sr_249_61, sr_249_58, sr_249_15, sr_249_25, kl9_258, kc_258])
    | (with_reducible refine hq _ ?_)
    | omega
    | (with_reducible contradiction)
    | (unfold w32; omega)
    | (simp (disch := omega) only [w32_eq]; omega)
    | (with_reducible show (_ : Int) ≤ _; simp [upm] <;> (first | omega | (unfold w32; omega)))
    | (with_reducible show (_ : Int) < _; simp [upm] <;> (first | omega | (unfold w32; omega))))

theorem p_245 {d : Nat} {e : Int} {m : Mem} {Q : Int → Sto → Prop} {a b c : Int} (h0 : 0 ≤ m 249 6 ∧ m 249 6 ≤ 5) (h1 : 0 ≤ m 249 5 ∧ m 249 5 ≤ 5) (hq : ∀ v, (v = 1 ∧ 0 ≤ a ∧ a < m 249 6 ∧ 0 ≤ b ∧ b < m 249 5 ∧ 1 ≤ c ∧ c ≤ 99 ∨ v = 0) → Q v (S9 e m)) : Cl (d + 4) 245 [249, a, b, c] Q (S9 e m) := by
  simp only [cl_245, runB, B245, ma_245, rho_2000, wc_169, wc_205, wc_211, w_cst, w_ldi, w_ldj, w_lda, w_ljk, w_ldk, w_ldw, w_ldk2, w_ldt, w_ldtw, w_neg, w_cvb, w_cvs, w_cvc, w_cvj, w_add, w_sub, w_mul, w_ban, w_bor, w_bxo, w_shl, w_shr, w_ush, w_dvi, w_rmi, w_aldi, w_aldj, w_aldz, w_aldc, w_alda, w_ite, w_cmp, w_cmj, w_cz, w_cnot, w_cand, w_cor, w_nil, w_cons, w_cvi, w_csta, w_cvt, w_cvv, w_csv, w_cpy, w_seq, w_sbr, w_sbn, w_brk, w_ifs, w_ifx, w_ife, w_wk, w_rets, w_rtv, w_thr, w_asi, w_asj, w_asa, w_inc, w_exs, w_asti, w_astj, w_astz, w_astc, w_aopadd, w_aopsub, w_sw, if_true, if_false, ↓reduceIte, hdl_c, S9_1, S9_m, bud9, live9, inb9, wrn, wr9_14, wr9_15, wr9_16, wr9_17, tq9_14, tq9_15, tq9_16, tq9_17, tq_0, tq_1, tq_3, upr_rl, rl_0, rl_1, rl_2, rl_3, rl_4, rl_5, rl_6, rl_7, rl_8, rl_9, rl_10, rl_11, rl_12, rl_13, sp_0, sp_1, sp_2, sp_3, sp_4, sp_5, sp_6, sp_7, sp_8, sp_9, sp_10, sp_11, sp_12, sp_13, se_0, se_1, se_2, se_3, se_4, se_5, se_6, se_7, se_8, se_9, se_10, se_11, se_12, se_13, sem_0, sem_1, sem_2, sem_3, sem_4, sem_5, sr_249_16, sr_249_50, sr_249_43, sr_249_64, sr_249_9, sr_249_54, sr_249_40, sr_249_14, sr_249_68, sr_249_17, sr_249_57, sr_249_10, sr_249_23, sr_249_13, sr_249_63, sr_249_31, sr_249_51, sr_249_24, sr_249_69, sr_249_8, sr_249_30, sr_249_2, sr_249_71, sr_249_22, kl9_249, sr_249_67, sr_249_55, sr_249_41, sr_249_35, sr_249_11, sr_249_12, sr_249_52, sr_249_42, kc_249, sr_249_34, sr_249_70, sr_249_61, sr_249_58, sr_249_15, sr_249_25, kl9_258, kc_258, List.getD_cons_zero, List.getD_cons_succ, Bool.false_eq_true, wrn3, wrn1, cpmS, cpok9]
  repeat' (first
    | (with_reducible exact True.intro)
    | (with_reducible rfl)
    | (with_reducible refine And.intro ?_ ?_)
    | intro _
    | (with_reducible refine p_169 (fun v9 h9 => ?_); simp only [hdl_c, S9_1, S9_m, bud9, live9, inb9, wrn, wr9_14, wr9_15, wr9_16, wr9_17, tq9_14, tq9_15, tq9_16, tq9_17, tq_0, tq_1, tq_3, upr_rl, rl_0, rl_1, rl_2, rl_3, rl_4, rl_5, rl_6, rl_7, rl_8, rl_9, rl_10, rl_11, rl_12, rl_13, sp_0, sp_1, sp_2, sp_3, sp_4, sp_5, sp_6, sp_7, sp_8, sp_9, sp_10, sp_11, sp_12, sp_13, se_0, se_1, se_2, se_3, se_4, se_5, se_6, se_7, se_8, se_9, se_10, se_11, se_12, se_13, sem_0, sem_1, sem_2, sem_3, sem_4, sem_5, List.getD_cons_zero, List.getD_cons_succ, Bool.false_eq_true, wrn3, wrn1, cpmS, cpok9, if_true, if_false, ↓reduceIte, wc_169, wc_205, wc_211, sr_249_16, sr_249_50, sr_249_43, sr_249_64, sr_249_9, sr_249_54, sr_249_40, sr_249_14, sr_249_68, sr_249_17, sr_249_57, sr_249_10, sr_249_23, sr_249_13, sr_249_63, sr_249_31, sr_249_51, sr_249_24, sr_249_69, sr_249_8, sr_249_30, sr_249_2, sr_249_71, sr_249_22, kl9_249, sr_249_67, sr_249_55, sr_249_41, sr_249_35, sr_249_11, sr_249_12, sr_249_52, sr_249_42, kc_249, sr_249_34, sr_249_70, sr_249_61, sr_249_58, sr_249_15, sr_249_25, kl9_258, kc_258])
    | (with_reducible refine p_205 ?_ (fun v9 h9 => ?_); (next => first | omega | (with_reducible rfl) | decide | (unfold w32; omega) | (simp (disch := omega) only [w32_eq]; omega) | (simp [upm] <;> (first | omega | (unfold w32; omega)))); simp only [hdl_c, S9_1, S9_m, bud9, live9, inb9, wrn, wr9_14, wr9_15, wr9_16, wr9_17, tq9_14, tq9_15, tq9_16, tq9_17, tq_0, tq_1, tq_3, upr_rl, rl_0, rl_1, rl_2, rl_3, rl_4, rl_5, rl_6, rl_7, rl_8, rl_9, rl_10, rl_11, rl_12, rl_13, sp_0, sp_1, sp_2, sp_3, sp_4, sp_5, sp_6, sp_7, sp_8, sp_9, sp_10, sp_11, sp_12, sp_13, se_0, se_1, se_2, se_3, se_4, se_5, se_6, se_7, se_8, se_9, se_10, se_11, se_12, se_13, sem_0, sem_1, sem_2, sem_3, sem_4, sem_5, List.getD_cons_zero, List.getD_cons_succ, Bool.false_eq_true, wrn3, wrn1, cpmS, cpok9, if_true, if_false, ↓reduceIte, wc_169, wc_205, wc_211, sr_249_16, sr_249_50, sr_249_43, sr_249_64, sr_249_9, sr_249_54, sr_249_40, sr_249_14, sr_249_68, sr_249_17, sr_249_57, sr_249_10, sr_249_23, sr_249_13, sr_249_63, sr_249_31, sr_249_51, sr_249_24, sr_249_69, sr_249_8, sr_249_30, sr_249_2, sr_249_71, sr_249_22, kl9_249, sr_249_67, sr_249_55, sr_249_41, sr_249_35, sr_249_11, sr_249_12, sr_249_52, sr_249_42, kc_249, sr_249_34, sr_249_70, sr_249_61, sr_249_58, sr_249_15, sr_249_25, kl9_258, kc_258])
    | (with_reducible refine p_211 ?_ (fun v9 h9 => ?_); (next => first | omega | (with_reducible rfl) | decide | (unfold w32; omega) | (simp (disch := omega) only [w32_eq]; omega) | (simp [upm] <;> (first | omega | (unfold w32; omega)))); simp only [hdl_c, S9_1, S9_m, bud9, live9, inb9, wrn, wr9_14, wr9_15, wr9_16, wr9_17, tq9_14, tq9_15, tq9_16, tq9_17, tq_0, tq_1, tq_3, upr_rl, rl_0, rl_1, rl_2, rl_3, rl_4, rl_5, rl_6, rl_7, rl_8, rl_9, rl_10, rl_11, rl_12, rl_13, sp_0, sp_1, sp_2, sp_3, sp_4, sp_5, sp_6, sp_7, sp_8, sp_9, sp_10, sp_11, sp_12, sp_13, se_0, se_1, se_2, se_3, se_4, se_5, se_6, se_7, se_8, se_9, se_10, se_11, se_12, se_13, sem_0, sem_1, sem_2, sem_3, sem_4, sem_5, List.getD_cons_zero, List.getD_cons_succ, Bool.false_eq_true, wrn3, wrn1, cpmS, cpok9, if_true, if_false, ↓reduceIte, wc_169, wc_205, wc_211, sr_249_16, sr_249_50, sr_249_43, sr_249_64, sr_249_9, sr_249_54, sr_249_40, sr_249_14, sr_249_68, sr_249_17, sr_249_57, sr_249_10, sr_249_23, sr_249_13, sr_249_63, sr_249_31, sr_249_51, sr_249_24, sr_249_69, sr_249_8, sr_249_30, sr_249_2, sr_249_71, sr_249_22, kl9_249, sr_249_67, sr_249_55, sr_249_41, sr_249_35, sr_249_11, sr_249_12, sr_249_52, sr_249_42, kc_249, sr_249_34, sr_249_70, sr_249_61, sr_249_58, sr_249_15, sr_249_25, kl9_258, kc_258])
    | (with_reducible refine hq _ ?_)
    | omega
    | (with_reducible contradiction)
    | (unfold w32; omega)
    | (simp (disch := omega) only [w32_eq]; omega)
    | (with_reducible show (_ : Int) ≤ _; simp [upm] <;> (first | omega | (unfold w32; omega)))
    | (with_reducible show (_ : Int) < _; simp [upm] <;> (first | omega | (unfold w32; omega))))

theorem sLen_le : ∀ n : Nat, n < 8 → sLen.getD n 0 ≤ 1000 := by decide +kernel