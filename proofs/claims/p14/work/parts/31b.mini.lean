/-! small rows that many parts need -/
theorem JW_len {l : Nat} {g : Fg} {tc pl W : Int} {N : Int → Int} {m : Mem} {v : Int} (h : JW l g tc pl N W m) (h0 : 0 ≤ v) (h1 : v ≤ 80) : JW l g v pl N W (upm m 249 18 v) := by
  refine ⟨JR_len h.1 h0 h1, ?_, ?_⟩
  · rw [upm_58 (by decide)]; exact h.2.1
  · have e3 : upm m 249 18 v 249 53 = m 249 53 := by simp [upm_app]
    rw [e3]; exact h.2.2
theorem JW_len0 {l : Nat} {g : Fg} {tc pl W : Int} {N : Int → Int} {m : Mem} (h : JW l g tc pl N W m) : JW l g 0 pl N W (upm m 249 18 0) := JW_len h (by decide) (by decide)
theorem upm_v (m : Mem) (a j v : Int) : upm m a j v a j = v := by simp [upm_app]
theorem upm_k {m : Mem} {a j v y : Int} (h : y ≠ j) : upm m a j v a y = m a y := by rw [upm_app, if_neg (fun q => h q.2)]
theorem stx_c {v : Int} (h : -8 ≤ v ∧ v ≤ -1) : stx v := h
