/-! lasts, swaps, often, layers, hottest, the component's -/
/-- how one of the people carries a pot, as it is now -/
abbrev c0C (m : Mem) (a b : Int) : CR := (m 20 (2 * a + m 21 a), m 20 (2 * a + 1 - m 21 a), m 16 b, m 15 11, m 21 a)
theorem CI_0 {L a b : Int} {m : Mem} (hb8 : m 8 2 ≤ 5 ∧ m 8 3 ≤ 5) (hI : IV L (m 8 2) (m 8 3) (asC m 15)) (hK : KB m) (ha : 0 ≤ a ∧ a < m 8 3) (hb : 0 ≤ b ∧ b < m 8 2) : CI a b (m 14 a) (m 22 a) (m 13 b) (c0C m a b) := by
  obtain ⟨i1, i2, i3, i4, i5, i6, i7⟩ := hI.1 a ha.1 ha.2
  have a5 : 0 ≤ a ∧ a < 5 := by omega
  have b5 : 0 ≤ b ∧ b < 5 := by omega
  have x6 := c_6 m a5
  have x7 := c_7 m a5
  have x4 := c_4 m a5
  have x5 := c_5 m a5
  rw [x6] at i3
  rw [x7] at i7
  rw [x4] at i5
  rw [x5] at i6
  have h0 := (hI.2.2.1 b hb.1 hb.2).1
  rw [c_0 m b5] at h0
  have hn := hI.2.2.2
  rw [c_no] at hn
  have : m 21 a = 0 ∨ m 21 a = 1 := by omega
  refine ⟨⟨a5, b5, hK.1 a ha.1 ha.2, i7, hK.2 b hb.1 hb.2⟩, ?_, ?_, h0, hn, i3⟩
  · show inI (m 20 (2 * a + m 21 a))
    rcases this with z | z
    · rw [z, Int.add_zero]; exact i5
    · rw [z]; exact i6
  · show inI (m 20 (2 * a + 1 - m 21 a))
    rcases this with z | z
    · rw [z, Int.sub_zero]; exact i6
    · rw [z, show 2 * a + 1 - 1 = 2 * a by omega]; exact i5