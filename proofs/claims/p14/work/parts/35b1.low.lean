/-! two small facts -/
theorem nv_e {T T' : Int → Int} {L : Int} (hT : ∀ j, 0 ≤ j → j < L → T' j = T j) : ∀ (n : Nat) (v p : Int), 0 ≤ p → nv T' L n v p = nv T L n v p
  | 0, _, _, _ => rfl
  | n + 1, v, p, h => by
    by_cases q : p < L
    · have e := hT p h q
      by_cases z : dgt T L p
      · rw [nv_y n z, nv_y (T := T') n (by unfold dgt at z ⊢; rw [e]; exact z), e]
        exact nv_e hT n _ _ (by omega)
      · rw [nv_n (T := T) _ z, nv_n (T := T') _ (by unfold dgt at z ⊢; rw [e]; exact z)]
    · rw [nv_n (T := T') _ (fun z => q z.1), nv_n (T := T) _ (fun z => q z.1)]
theorem upm_f (m : Mem) (a j v b : Int) (h : b ≠ a) : upm m a j v b = m b := by funext y; exact upm_a _ _ _ _ _ _ h
