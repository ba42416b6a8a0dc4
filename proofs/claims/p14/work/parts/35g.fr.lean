/-! frames of one memory -/
def gC (l : Nat) (m : Mem) : Fg := (fun x j => frC l x j, m)
def gR (l : Nat) (m : Mem) : Fg := (fun x j => frR l x j, m)
def BC (tc : Int) (m : Mem) : Prop := (0 ≤ tc ∧ tc ≤ 80) ∧ ∀ a j, BdC tc a j (m a j)
def BR (tc pl : Int) (m : Mem) : Prop := ((0 ≤ tc ∧ tc ≤ 80) ∧ (1 ≤ pl ∧ pl ≤ 10) ∧ ∀ a j, BdR tc pl a j (m a j)) ∧ JS pl m
theorem BC_g {tc : Int} {m : Mem} (l : Nat) (h : BC tc m) : JC l (gC l m) tc m := ⟨⟨h.1, fun _ _ q => q⟩, fun _ _ _ => rfl, h.2⟩
theorem BR_g {tc pl : Int} {m : Mem} (l : Nat) (h : BR tc pl m) : JR l (gR l m) tc pl m := ⟨⟨⟨h.1.1, fun _ _ q => q⟩, h.1.2.1, fun _ _ _ => rfl, h.1.2.2⟩, h.2⟩
theorem BC_of {l : Nat} {g : Fg} {tc : Int} {m : Mem} (h : JC l g tc m) : BC tc m := ⟨h.1.1, h.2.2⟩
theorem BR_of {l : Nat} {g : Fg} {tc pl : Int} {m : Mem} (h : JR l g tc pl m) : BR tc pl m := ⟨⟨h.1.1.1, h.1.2.1, h.1.2.2.2⟩, h.2⟩
theorem FC_of {l : Nat} {tc : Int} {m m' : Mem} (h : JC l (gC l m) tc m') (x j : Int) (q : frC l x j) : m' x j = m x j := h.2.1 x j q
theorem FR_of {l : Nat} {tc pl : Int} {m m' : Mem} (h : JR l (gR l m) tc pl m') (x j : Int) (q : frR l x j) : m' x j = m x j := h.1.2.2.1 x j q
theorem BdC_out {tc a j v : Int} (h : 249 ≤ a) : BdC tc a j v := by
  unfold BdC
  repeat' (first | (rw [if_neg (by omega)]) | trivial)
theorem BdR_out {tc pl a j v : Int} (h : a < 249 ∨ 288 ≤ a) : BdR tc pl a j v := by
  unfold BdR
  repeat' (first | (rw [if_neg (by omega)]) | trivial)
theorem BC_tr {tc : Int} {m m' : Mem} (h : BC tc m) (e : ∀ x j, x < 249 → m' x j = m x j) : BC tc m' := by
  refine ⟨h.1, fun a j => ?_⟩
  by_cases ha : a < 249
  · rw [e a j ha]; exact h.2 a j
  · exact BdC_out (by omega)
theorem BR_tr {tc pl : Int} {m m' : Mem} (h : BR tc pl m) (e : ∀ x j, 249 ≤ x → x < 288 → m' x j = m x j) : BR tc pl m' := by
  have e5 : m' 265 = m 265 := by funext y; exact e 265 y (by decide) (by decide)
  refine ⟨⟨h.1.1, h.1.2.1, fun a j => ?_⟩, ?_, fun w h0 h1 => ?_, ?_⟩
  · by_cases ha : 249 ≤ a ∧ a < 288
    · rw [e a j ha.1 ha.2]; exact h.1.2.2 a j
    · exact BdR_out (by omega)
  · rw [e 249 3 (by decide) (by decide)]; exact h.2.1
  · rw [e 254 w (by decide) (by decide)]
    rw [e 249 4 (by decide) (by decide)] at h1
    exact h.2.2.1 w h0 h1
  · rw [e5, e 249 32 (by decide) (by decide)]; exact h.2.2.2
theorem JW_re {l l' : Nat} {g : Fg} {tc tc' pl W : Int} {N : Int → Int} {m m' : Mem} (hl : l ≤ l') (h : JR l g tc pl m) (h' : JW l' (gR l' m) tc' pl N W m') : JW l g tc' pl N W m' := by
  refine ⟨⟨⟨⟨h'.1.1.1.1, h.1.1.2⟩, h'.1.1.2.1, fun x j q => ?_, h'.1.1.2.2.2⟩, h'.1.2⟩, h'.2⟩
  rw [h'.1.1.2.2.1 x j (frR_le hl (h.1.1.2 x j q))]
  exact h.1.2.2.1 x j q

