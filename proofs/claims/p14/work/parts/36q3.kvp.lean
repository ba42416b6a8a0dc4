/-- the text's place alone is new -/
def TB (m b : Mem) : Prop := (∀ x, x ≠ 2 → b x = m x) ∧ b 2 2 = m 2 2 ∧ b 2 3 = m 2 3 ∧ (0 ≤ b 2 4 ∧ b 2 4 ≤ 80)
theorem TB_kv {m b : Mem} (h : TB m b) : kvC b = kvC m := kvC_e (by rw [h.1 8 (by decide)]) (by rw [h.1 15 (by decide)]) (fun x q => h.1 x (by omega))
theorem CK_b {m b m' : Mem} (h : CK b m') (hB : TB m b) : CK m m' := by
  unfold CK at h ⊢
  rw [TB_kv hB, hB.1 8 (by decide), hB.1 18 (by decide), hB.1 15 (by decide)] at h
  exact h
theorem CP_no {m b : Mem} {o : Option (KS × Int)} (hB : TB m b) (hf : b 2 5 ≠ 0) (ho : o = none) : CP o m b := by
  have e := CK_b (CK_rf b) hB
  exact ⟨Or.inr ⟨hf, ho⟩, hB.2.2.2, hB.1 3 (by decide), hB.2.1, hB.2.2.1, by rw [hB.1 8 (by decide)]; exact Int.le_refl _, e, fun x q _ => hB.1 x q⟩
theorem CP_tr {o o' : Option (KS × Int)} {m b m' : Mem} (h : CP o b m') (hB : TB m b) (eo : o' = o) : CP o' m m' := by
  subst eo
  obtain ⟨h1, h2, h3, h4, h5, h6, h7, h8⟩ := h
  rw [hB.2.1] at h1 h4
  rw [hB.1 3 (by decide)] at h3
  rw [hB.2.2.1] at h5
  rw [hB.1 8 (by decide)] at h6
  exact ⟨h1, h2, h3, h4, h5, h6, CK_b h7 hB, fun x q r => (h8 x q r).trans (hB.1 x q)⟩
theorem TB_rf {m : Mem} (h : 0 ≤ m 2 4 ∧ m 2 4 ≤ 80) : TB m m := ⟨fun _ _ => rfl, rfl, rfl, h⟩
theorem TB_4 {m b : Mem} {v : Int} (h : TB m b) (h0 : 0 ≤ v ∧ v ≤ 80) : TB m (upm b 2 4 v) := ⟨fun x q => by rw [upm_f _ _ _ _ _ q]; exact h.1 x q, by rw [upm_k (by decide)]; exact h.2.1, by rw [upm_k (by decide)]; exact h.2.2.1, by rw [upm_v]; exact h0⟩
theorem TB_5 {m b : Mem} {j v : Int} (h : TB m b) (hj : j ≠ 2 ∧ j ≠ 3 ∧ j ≠ 4) : TB m (upm b 2 j v) := ⟨fun x q => by rw [upm_f _ _ _ _ _ q]; exact h.1 x q, by rw [upm_k hj.1.symm]; exact h.2.1, by rw [upm_k hj.2.1.symm]; exact h.2.2.1, by rw [upm_k hj.2.2.symm]; exact h.2.2.2⟩
section
theorem CP_P {m b : Mem} {o : Option (KS × Int)} (hB : TB m b) (hf : b 2 5 = 0) (h4 : b 2 4 ≤ m 2 2) {v x : Int} (hp : 0 ≤ m 8 0 ∧ m 8 0 < 10) (hx : x = m 8 0 + 1) (hlk : o = some ((m 8 0 + 1, m 8 1, m 8 2, m 8 3, kup (kvC m) (m 8 0) v), b 2 4)) : CP o m (upm (upm b 9 (m 8 0) v) 8 0 x) := by
  have e8 := hB.1 8 (by decide)
  have k := CK_P (m := b) (v := v) (x := x) (by rw [e8]; exact hp)
  have kv := kvC_P b (v := v) (x := x) (i := m 8 0) hp
  rw [e8] at k
  rw [TB_kv hB] at kv
  refine ⟨Or.inl ⟨?_, ?_, ?_⟩, ?_, ?_, ?_, ?_, ?_, CK_b k hB, ?_⟩
  · simp only [upm_app, Int.reduceEq, and_true, true_and, and_false, false_and, if_true, if_false, and_self]; exact hf
  · rw [hlk]; unfold sC; rw [kv]; simp only [upm_app, Int.reduceEq, and_true, true_and, and_false, false_and, if_true, if_false, and_self, e8, hx]
  · simp only [upm_app, Int.reduceEq, and_true, true_and, and_false, false_and, if_true, if_false, and_self]; exact h4
  · simp only [upm_app, Int.reduceEq, and_true, true_and, and_false, false_and, if_true, if_false, and_self]; exact hB.2.2.2
  · rw [upm_f _ _ _ _ _ (by decide), upm_f _ _ _ _ _ (by decide)]; exact hB.1 3 (by decide)
  · simp only [upm_app, Int.reduceEq, and_true, true_and, and_false, false_and, if_true, if_false, and_self]; exact hB.2.1
  · simp only [upm_app, Int.reduceEq, and_true, true_and, and_false, false_and, if_true, if_false, and_self]; exact hB.2.2.1
  · simp only [upm_app, Int.reduceEq, and_true, true_and, and_false, false_and, if_true, if_false, and_self]; omega
  · intro x9 q r
    repeat rw [upm_f _ _ _ _ _ (by omega)]
    exact hB.1 x9 q
theorem CP_W {m b : Mem} {o : Option (KS × Int)} (hB : TB m b) (hf : b 2 5 = 0) (h4 : b 2 4 ≤ m 2 2) {a c l y u dd oo x : Int} (hs : m 8 0 ≤ 10 ∧ m 8 2 ≤ 5 ∧ m 8 3 ≤ 5) (hw : 0 ≤ m 8 1 ∧ m 8 1 < 14) (hd : dd = ior (iand (m 8 8) (ixor (ishl 1 (m 8 1)) (-1))) y) (hy : y = ishl 1 (m 8 1) ∧ u = 1 ∨ y = 0 ∧ u = 0) (ho : oo = m 15 10) (hx : x = m 8 1 + 1) (hlk : o = some ((m 8 0, m 8 1 + 1, m 8 2, m 8 3, vW (kvC m) (m 8 1) a c l u), b 2 4)) : CP o m (upm (upm (upm (upm (upm (upm b 10 (m 8 1) a) 11 (m 8 1) c) 12 (m 8 1) l) 8 8 dd) 15 10 oo) 8 1 x) := by
  have e8 := hB.1 8 (by decide)
  have e15 := hB.1 15 (by decide)
  have k := CK_W (m := b) (a := a) (b := c) (l := l) (dd := dd) (oo := oo) (x := x) (u := u) (y := y) (by rw [e8]; exact hs) (by rw [e8]; exact hw) (by rw [e8]; exact hd) (by rw [e8]; exact hy) (by rw [e15]; exact ho) (by rw [e8]; exact hx)
  have kv := kvC_W b (w := m 8 1) (a := a) (b := c) (l := l) (dd := dd) (oo := oo) (x := x) (u := u) (y := y) hw (by rw [e8]; exact hd) hy
  rw [e8] at k
  rw [TB_kv hB] at kv
  refine ⟨Or.inl ⟨?_, ?_, ?_⟩, ?_, ?_, ?_, ?_, ?_, CK_b k hB, ?_⟩
  · simp only [upm_app, Int.reduceEq, and_true, true_and, and_false, false_and, if_true, if_false, and_self]; exact hf
  · rw [hlk]; unfold sC; rw [kv]; simp only [upm_app, Int.reduceEq, and_true, true_and, and_false, false_and, if_true, if_false, and_self, e8, hx]
  · simp only [upm_app, Int.reduceEq, and_true, true_and, and_false, false_and, if_true, if_false, and_self]; exact h4
  · simp only [upm_app, Int.reduceEq, and_true, true_and, and_false, false_and, if_true, if_false, and_self]; exact hB.2.2.2
  · simp only [upm_f, Int.reduceNe, ne_eq, not_false_eq_true, Int.reduceEq]; exact hB.1 3 (by decide)
  · simp only [upm_app, Int.reduceEq, and_true, true_and, and_false, false_and, if_true, if_false, and_self]; exact hB.2.1
  · simp only [upm_app, Int.reduceEq, and_true, true_and, and_false, false_and, if_true, if_false, and_self]; exact hB.2.2.1
  · simp only [upm_app, Int.reduceEq, and_true, true_and, and_false, false_and, if_true, if_false, and_self, e8]; exact Int.le_refl _
  · intro x9 q r
    repeat rw [upm_f _ _ _ _ _ (by omega)]
    exact hB.1 x9 q
theorem CP_O {m b : Mem} {o : Option (KS × Int)} (hB : TB m b) (hf : b 2 5 = 0) (h4 : b 2 4 ≤ m 2 2) {h l c dd x : Int} (hs : m 8 0 ≤ 10 ∧ m 8 1 ≤ 14 ∧ m 8 3 ≤ 5) (hq : 0 ≤ m 8 2 ∧ m 8 2 < 5) (hd : dd = iand (m 15 3) (ixor (ishl 1 (m 8 2)) (-1))) (hx : x = m 8 2 + 1) (hlk : o = some ((m 8 0, m 8 1, m 8 2 + 1, m 8 3, vO (kvC m) (m 8 2) h l c), b 2 4)) : CP o m (upm (upm (upm (upm (upm (upm b 13 (m 8 2) c) 16 (m 8 2) h) 17 (m 8 2) l) 18 (m 8 2) (-1)) 15 3 dd) 8 2 x) := by
  have e8 := hB.1 8 (by decide)
  have e15 := hB.1 15 (by decide)
  have k := CK_O (m := b) (h := h) (l := l) (c := c) (dd := dd) (x := x) (by rw [e8]; exact hs) (by rw [e8]; exact hq) (by rw [e8, e15]; exact hd) (by rw [e8]; exact hx)
  have kv := kvC_O b (q := m 8 2) (h := h) (l := l) (c := c) (dd := dd) (x := x) hq (by rw [e15]; exact hd)
  rw [e8] at k
  rw [TB_kv hB] at kv
  refine ⟨Or.inl ⟨?_, ?_, ?_⟩, ?_, ?_, ?_, ?_, ?_, CK_b k hB, ?_⟩
  · simp only [upm_app, Int.reduceEq, and_true, true_and, and_false, false_and, if_true, if_false, and_self]; exact hf
  · rw [hlk]; unfold sC; rw [kv]; simp only [upm_app, Int.reduceEq, and_true, true_and, and_false, false_and, if_true, if_false, and_self, e8, hx]
  · simp only [upm_app, Int.reduceEq, and_true, true_and, and_false, false_and, if_true, if_false, and_self]; exact h4
  · simp only [upm_app, Int.reduceEq, and_true, true_and, and_false, false_and, if_true, if_false, and_self]; exact hB.2.2.2
  · simp only [upm_f, Int.reduceNe, ne_eq, not_false_eq_true, Int.reduceEq]; exact hB.1 3 (by decide)
  · simp only [upm_app, Int.reduceEq, and_true, true_and, and_false, false_and, if_true, if_false, and_self]; exact hB.2.1
  · simp only [upm_app, Int.reduceEq, and_true, true_and, and_false, false_and, if_true, if_false, and_self]; exact hB.2.2.1
  · simp only [upm_app, Int.reduceEq, and_true, true_and, and_false, false_and, if_true, if_false, and_self, e8]; exact Int.le_refl _
  · intro x9 q r
    repeat rw [upm_f _ _ _ _ _ (by omega)]
    exact hB.1 x9 q
theorem CP_H {m b : Mem} {o : Option (KS × Int)} (hB : TB m b) (hf : b 2 5 = 0) (h4 : b 2 4 ≤ m 2 2) {be l w0 w1 x : Int} (hs : m 8 0 ≤ 10 ∧ m 8 1 ≤ 14 ∧ m 8 2 ≤ 5) (hp : 0 ≤ m 8 3 ∧ m 8 3 < 5) (h0 : w0 = 2 * m 8 3) (h1 : w1 = 2 * m 8 3 + 1) (hx : x = m 8 3 + 1) (hlk : o = some ((m 8 0, m 8 1, m 8 2, m 8 3 + 1, vH (kvC m) (m 8 3) be l), b 2 4)) : CP o m (upm (upm (upm (upm (upm (upm (upm (upm (upm b 14 (m 8 3) be) 19 (m 8 3) l) 20 w0 0) 20 w1 0) 21 (m 8 3) 0) 22 (m 8 3) 0) 23 (m 8 3) (-1)) 24 (m 8 3) 0) 8 3 x) := by
  have e8 := hB.1 8 (by decide)
  have k := CK_H (m := b) (b := be) (l := l) (w0 := w0) (w1 := w1) (x := x) (by rw [e8]; exact hs) (by rw [e8]; exact hp) (by rw [e8]; exact h0) (by rw [e8]; exact h1) (by rw [e8]; exact hx)
  have kv := kvC_H b (p := m 8 3) (b := be) (l := l) (w0 := w0) (w1 := w1) (x := x) hp h0 h1
  rw [e8] at k
  rw [TB_kv hB] at kv
  refine ⟨Or.inl ⟨?_, ?_, ?_⟩, ?_, ?_, ?_, ?_, ?_, CK_b k hB, ?_⟩
  · simp only [upm_app, Int.reduceEq, and_true, true_and, and_false, false_and, if_true, if_false, and_self]; exact hf
  · rw [hlk]; unfold sC; rw [kv]; simp only [upm_app, Int.reduceEq, and_true, true_and, and_false, false_and, if_true, if_false, and_self, e8, hx]
  · simp only [upm_app, Int.reduceEq, and_true, true_and, and_false, false_and, if_true, if_false, and_self]; exact h4
  · simp only [upm_app, Int.reduceEq, and_true, true_and, and_false, false_and, if_true, if_false, and_self]; exact hB.2.2.2
  · simp only [upm_f, Int.reduceNe, ne_eq, not_false_eq_true, Int.reduceEq]; exact hB.1 3 (by decide)
  · simp only [upm_app, Int.reduceEq, and_true, true_and, and_false, false_and, if_true, if_false, and_self]; exact hB.2.1
  · simp only [upm_app, Int.reduceEq, and_true, true_and, and_false, false_and, if_true, if_false, and_self]; exact hB.2.2.1
  · simp only [upm_app, Int.reduceEq, and_true, true_and, and_false, false_and, if_true, if_false, and_self, e8]; exact Int.le_refl _
  · intro x9 q r
    repeat rw [upm_f _ _ _ _ _ (by omega)]
    exact hB.1 x9 q
end
