/-! the rule's call of the reference -/
def JV (pl : Int) (m : Mem) : Prop := (m 249 3 = pl ∨ m 249 3 = 0 ∧ pl = 1) ∧ (∀ w, 0 ≤ w → w < m 249 4 → 1 ≤ m 254 w)
theorem COK_eq {c c' : Int → Int} {n : Int} (h : COK c n) (e : ∀ j, 0 ≤ j → j < n → c' j = c j) : COK c' n := by
  intro k hk
  rw [hgt_eq (c := c') (c' := c) k (fun q hq => e q (by omega) (by omega)), e k (by omega) hk]
  exact h k hk
theorem RC_0 {m : Mem} : RC (upm m 249 33 0) 0 := by
  refine ⟨by rw [upm_v]; decide, ?_, ?_⟩
  · rw [upm_v]; intro k hk; omega
  · rw [upm_v]; rfl
theorem JV_up {pl : Int} {m : Mem} {a j v : Int} (h : JV pl m) (h1 : a = 249 → j ≠ 3 ∧ j ≠ 4) (h2 : 254 ≠ a) : JV pl (upm m a j v) := by
  have e3 : upm m a j v 249 3 = m 249 3 := upn (fun q => by have := h1 q.symm; omega)
  have e4 : upm m a j v 249 4 = m 249 4 := upn (fun q => by have := h1 q.symm; omega)
  have e5 : upm m a j v 254 = m 254 := by funext y; exact upm_a _ _ _ _ _ _ h2
  unfold JV; rw [e3, e4, e5]; exact h