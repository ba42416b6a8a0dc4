/-! THE KITCHEN is read by the reference -/
abbrev WY (P a b c : Int) : Prop := 0 ≤ a ∧ a < P ∧ 0 ≤ b ∧ b < P ∧ 1 ≤ c ∧ c ≤ 9
abbrev PY (P a : Int) : Prop := 0 ≤ a ∧ a < P
def KRc (m : Mem) : Prop := m 249 20 ≤ 76 ∧ 0 ≤ m 249 26 ∧ m 249 3 + m 249 26 ≤ 10 ∧ 0 ≤ m 249 27 ∧ m 249 4 + m 249 27 ≤ 14 ∧ 0 ≤ m 249 28 ∧ m 249 5 + m 249 28 ≤ 5 ∧ 0 ≤ m 249 29 ∧ m 249 6 + m 249 29 ≤ 5
def KRf (P a b c : Int) (m : Mem) : Prop := (∀ k, 0 ≤ k → k < a → WY P (m 262 (4 * k)) (m 262 (4 * k + 1)) (m 262 (4 * k + 2))) ∧
  (∀ k, 0 ≤ k → k < b → PY P (m 263 (3 * k + 2))) ∧ (∀ k, 0 ≤ k → k < c → PY P (m 264 (2 * k + 1)))
def KR (m : Mem) : Prop := KRc m ∧ KRf (m 249 3 + m 249 26) (m 249 27) (m 249 28) (m 249 29) m
abbrev nKR (m : Mem) (a j : Int) : Prop := (a = 249 → j ≠ 3 ∧ j ≠ 4 ∧ j ≠ 5 ∧ j ≠ 6 ∧ j ≠ 20 ∧ j ≠ 26 ∧ j ≠ 27 ∧ j ≠ 28 ∧ j ≠ 29) ∧ (a = 262 → 4 * m 249 27 ≤ j) ∧ (a = 263 → 3 * m 249 28 ≤ j) ∧ (a = 264 → 2 * m 249 29 ≤ j)
theorem upn {m : Mem} {a j v b y : Int} (h : b = a → y ≠ j) : upm m a j v b y = m b y := by
  unfold upm; rw [if_neg]; rintro ⟨h1, h2⟩; exact h h1 h2
theorem KRf_up {P x y z : Int} {m : Mem} {a j v : Int} (h : KRf P x y z m) (h2 : a = 262 → 4 * x ≤ j) (h3 : a = 263 → 3 * y ≤ j) (h4 : a = 264 → 2 * z ≤ j) : KRf P x y z (upm m a j v) := by
  refine ⟨fun k q0 q1 => ?_, fun k q0 q1 => ?_, fun k q0 q1 => ?_⟩
  · have := h.1 k q0 q1
    rw [upn (fun e => by have := h2 e.symm; omega), upn (fun e => by have := h2 e.symm; omega), upn (fun e => by have := h2 e.symm; omega)]
    exact this
  · have := h.2.1 k q0 q1
    rw [upn (fun e => by have := h3 e.symm; omega)]
    exact this
  · have := h.2.2 k q0 q1
    rw [upn (fun e => by have := h4 e.symm; omega)]
    exact this
theorem KR_up {m : Mem} {a j v : Int} (h : KR m) (hn : nKR m a j) : KR (upm m a j v) := by
  obtain ⟨n1, n2, n3, n4⟩ := hn
  have e3 : upm m a j v 249 3 = m 249 3 := upn (fun q => by have := n1 q.symm; omega)
  have e4 : upm m a j v 249 4 = m 249 4 := upn (fun q => by have := n1 q.symm; omega)
  have e5 : upm m a j v 249 5 = m 249 5 := upn (fun q => by have := n1 q.symm; omega)
  have e6 : upm m a j v 249 6 = m 249 6 := upn (fun q => by have := n1 q.symm; omega)
  have e20 : upm m a j v 249 20 = m 249 20 := upn (fun q => by have := n1 q.symm; omega)
  have e26 : upm m a j v 249 26 = m 249 26 := upn (fun q => by have := n1 q.symm; omega)
  have e27 : upm m a j v 249 27 = m 249 27 := upn (fun q => by have := n1 q.symm; omega)
  have e28 : upm m a j v 249 28 = m 249 28 := upn (fun q => by have := n1 q.symm; omega)
  have e29 : upm m a j v 249 29 = m 249 29 := upn (fun q => by have := n1 q.symm; omega)
  unfold KR KRc
  rw [e3, e4, e5, e6, e20, e26, e27, e28, e29]
  exact ⟨h.1, KRf_up h.2 n2 n3 n4⟩
theorem KR_26 {m : Mem} {n : Int} (h : KR m) (e : n = m 249 26 + 1) (hl : m 249 3 + m 249 26 < 10) : KR (upm m 249 26 n) := by
  subst e
  obtain ⟨⟨c1, c2, c3, c4, c5, c6, c7, c8, c9⟩, f1, f2, f3⟩ := h
  unfold KR KRc KRf
  simp only [upm_app, Int.reduceEq, and_self, and_true, true_and, and_false, false_and, if_true, if_false, ↓reduceIte]
  refine ⟨⟨c1, by omega, by omega, c4, c5, c6, c7, c8, c9⟩, fun k q0 q1 => ?_, fun k q0 q1 => ?_, fun k q0 q1 => ?_⟩
  · have := f1 k q0 q1; omega
  · have := f2 k q0 q1; omega
  · have := f3 k q0 q1; omega
theorem KR_27 {m : Mem} {n : Int} (h : KR m) (e : n = m 249 27 + 1) (hl : m 249 4 + m 249 27 < 14) (hw : WY (m 249 3 + m 249 26) (m 262 (4 * m 249 27)) (m 262 (4 * m 249 27 + 1)) (m 262 (4 * m 249 27 + 2))) : KR (upm m 249 27 n) := by
  subst e
  obtain ⟨⟨c1, c2, c3, c4, c5, c6, c7, c8, c9⟩, f1, f2, f3⟩ := h
  unfold KR KRc KRf
  simp only [upm_app, Int.reduceEq, and_self, and_true, true_and, and_false, false_and, if_true, if_false, ↓reduceIte]
  refine ⟨⟨c1, c2, c3, by omega, by omega, c6, c7, c8, c9⟩, fun k q0 q1 => ?_, f2, f3⟩
  by_cases hk : k = m 249 27
  · rw [hk]; exact hw
  · exact f1 k q0 (by omega)
theorem KR_28 {m : Mem} {n : Int} (h : KR m) (e : n = m 249 28 + 1) (hl : m 249 5 + m 249 28 < 5) (hw : PY (m 249 3 + m 249 26) (m 263 (3 * m 249 28 + 2))) : KR (upm m 249 28 n) := by
  subst e
  obtain ⟨⟨c1, c2, c3, c4, c5, c6, c7, c8, c9⟩, f1, f2, f3⟩ := h
  unfold KR KRc KRf
  simp only [upm_app, Int.reduceEq, and_self, and_true, true_and, and_false, false_and, if_true, if_false, ↓reduceIte]
  refine ⟨⟨c1, c2, c3, c4, c5, by omega, by omega, c8, c9⟩, f1, fun k q0 q1 => ?_, f3⟩
  by_cases hk : k = m 249 28
  · rw [hk]; exact hw
  · exact f2 k q0 (by omega)
theorem KR_29 {m : Mem} {n : Int} (h : KR m) (e : n = m 249 29 + 1) (hl : m 249 6 + m 249 29 < 5) (hw : PY (m 249 3 + m 249 26) (m 264 (2 * m 249 29 + 1))) : KR (upm m 249 29 n) := by
  subst e
  obtain ⟨⟨c1, c2, c3, c4, c5, c6, c7, c8, c9⟩, f1, f2, f3⟩ := h
  unfold KR KRc KRf
  simp only [upm_app, Int.reduceEq, and_self, and_true, true_and, and_false, false_and, if_true, if_false, ↓reduceIte]
  refine ⟨⟨c1, c2, c3, c4, c5, c6, c7, by omega, by omega⟩, f1, f2, fun k q0 q1 => ?_⟩
  by_cases hk : k = m 249 29
  · rw [hk]; exact hw
  · exact f3 k q0 (by omega)
abbrev RP (m m' : Mem) (v : Int) : Prop := (0 ≤ m' 249 19 ∧ m' 249 19 ≤ 80 ∧ m' 249 20 = m 249 20) ∧ (v = 0 ∨ v = 1 ∧ KR m' ∧ m 249 19 ≤ m' 249 19 ∧ m' 249 19 ≤ m' 249 20)
theorem l_fbt : ((sLen.getD (-1 - (-1 - ((1 : Nat) : Int)) : Int).toNat 0 : Nat) : Int) = 3 := by decide
theorem l_dig : ((sLen.getD (-1 - (-1 - ((2 : Nat) : Int)) : Int).toNat 0 : Nat) : Int) = 9 := by decide
theorem l_all : ((sLen.getD (-1 - (-1 - ((0 : Nat) : Int)) : Int).toNat 0 : Nat) : Int) = 6 := by decide